/-! THE LAW with an index (printed by wip/whole/genlawn.py out of 42, 44, 46) -/
def ln_AgI (Inv Inv' : AmH → AmH → Prop) (mx mm : AmM) (as : List Value) : Prop := ∀ hx hm, Inv hx hm → ∃ (z : Int32) (hx' hm' : AmH) (kx jx km jm : Nat), Rn 100 mx 0 (am_ent (.ref 0 :: as) mx.2.2.2.1) [] hx (some (.int z), hx', kx, jx) ∧ Rn 100 mm 0 (am_ent (.ref 0 :: as) mm.2.2.2.1) [] hm (some (.int z), hm', km, jm) ∧ kx + km ≤ 8 ∧ jx + jm ≤ 2000 ∧ Inv' hx' hm'
def ln_AgL (Inv Inv' : AmH → AmH → Prop) (mx mm : AmM) (as : List Value) : Prop := ∀ hx hm, Inv hx hm → ∃ (z : Int64) (hx' hm' : AmH) (kx jx km jm : Nat), Rn 100 mx 0 (am_ent (.ref 0 :: as) mx.2.2.2.1) [] hx (some (.long z), hx', kx, jx) ∧ Rn 100 mm 0 (am_ent (.ref 0 :: as) mm.2.2.2.1) [] hm (some (.long z), hm', km, jm) ∧ kx + km ≤ 8 ∧ jx + jm ≤ 2000 ∧ Inv' hx' hm'
set_option maxRecDepth 100000 in
set_option maxHeartbeats 4000000 in
theorem ln_c0 {p : Program} {l : Launch} {e : Env} {s : State} {m : MethodId} {below : List Frame} {meth : Method} {c : Code} {H : Heap} {locs : List Loc} {cells slots : Nat} {Q : State → Prop} {b Ln : Nat} {xs : Nat → Int32} {sa av : Nat → Nat} {D : va_G} {hx hm : AmH} {qx qm qo : Nat} {ls : Array Slot} {i : Nat} {u w : Option Value} {Inv Inv' : AmH → AmH → Prop} (hSh : lw_Sh Inv) (C : LwC p s m c b Ln xs sa av) (S : LwS D sa s H locs hx hm qx qm qo) (hI : Inv hx hm) (hag : ln_AgI Inv Inv' m_X11_feed m_X12_feed [.int (xs (i + 1)), .int (xs (i + 2)), .int (xs (i + 3)), .int (xs (i + 4)), .int (xs (i + 5))]) (hi : i + 6 ≤ Ln) (hcc : cells ≤ 10000) (hss : slots ≤ 1000000) (hl : am_lr (fun _ => 0) (lw_sa b qx qm qo) ls 7 (lw_L i u w)) (K : LwK Inv' p l e s m below meth c D sa b qx qm qo i cells slots Q) : W p l e room_1 s m #[Value.ref b] below meth c H locs cells slots Q (F0 m 212 ls []) := by
  obtain ⟨⟨fx, ex⟩, ⟨fm, em⟩⟩ := hSh hx hm hI
  obtain ⟨z, hx', hm', kx, jx, km, jm, r1, r2, b1, b2, hI'⟩ := hag hx hm hI
  refine lw_W C.1 C.2.1 C.2.2.2.1 (lw_Ks C.2.2.2.2.1 _) (ad := fun _ => 0) (sa := lw_sa b qx qm qo) 1 (pc := 212) (pc' := 213) (L := lw_L i u w) (L' := lw_L i u w) (st := []) (st' := [.retAddr 10]) rfl hl (fun ls hl => ?_)
  refine lw_ld C S (pc := 213) (k := 1) (kc := 1) (st := [.retAddr 10]) (nI_add i 1) (by omega) rfl dL_law_218 hl (fun ls hl => ?_)
  refine lw_ld C S (pc := 219) (k := 2) (kc := 2) (st := [.int (xs (i + 1)), .retAddr 10]) (nI_add i 2) (by omega) rfl dL_law_224 hl (fun ls hl => ?_)
  refine lw_ld C S (pc := 225) (k := 3) (kc := 3) (st := [.int (xs (i + 2)), .int (xs (i + 1)), .retAddr 10]) (nI_add i 3) (by omega) rfl dL_law_230 hl (fun ls hl => ?_)
  refine lw_ld C S (pc := 231) (k := 4) (kc := 4) (st := [.int (xs (i + 3)), .int (xs (i + 2)), .int (xs (i + 1)), .retAddr 10]) (nI_add i 4) (by omega) rfl dL_law_236 hl (fun ls hl => ?_)
  refine lw_ld C S (pc := 237) (k := 5) (kc := 5) (st := [.int (xs (i + 4)), .int (xs (i + 3)), .int (xs (i + 2)), .int (xs (i + 1)), .retAddr 10]) (nI_add i 5) (by omega) rfl dL_law_242 hl (fun ls hl => ?_)
  refine lw_callX (pc := 243) (as := [.int (xs (i + 1)), .int (xs (i + 2)), .int (xs (i + 3)), .int (xs (i + 4)), .int (xs (i + 5))]) (rest := []) C hl.1.1 dL_law_243 rfl rfl (List.forall_mem_cons.mpr ⟨Or.inl ⟨_, rfl⟩, List.forall_mem_cons.mpr ⟨Or.inl ⟨_, rfl⟩, List.forall_mem_cons.mpr ⟨Or.inl ⟨_, rfl⟩, List.forall_mem_cons.mpr ⟨Or.inl ⟨_, rfl⟩, List.forall_mem_cons.mpr ⟨Or.inl ⟨_, rfl⟩, fun v hv => nomatch hv⟩⟩⟩⟩⟩) (Nat.le_of_ble_eq_true rfl) ex r1 (Or.inl ⟨_, rfl⟩) (Nat.le_of_ble_eq_true rfl) (by omega) (by omega) S (fun H1 locs1 S => ?_)
  refine lw_W C.1 C.2.1 C.2.2.2.1 (lw_Ks C.2.2.2.2.1 _) (ad := fun _ => 0) (sa := lw_sa b qx qm qo) 1 (pc := 246) (pc' := 247) (L := lw_L i u w) (L' := lw_L i u w) (st := [.int z]) (st' := [.retAddr 11, .int z]) rfl hl (fun ls hl => ?_)
  refine lw_ld C S (pc := 247) (k := 1) (kc := 1) (st := [.retAddr 11, .int z]) (nI_add i 1) (by omega) rfl dL_law_252 hl (fun ls hl => ?_)
  refine lw_ld C S (pc := 253) (k := 2) (kc := 2) (st := [.int (xs (i + 1)), .retAddr 11, .int z]) (nI_add i 2) (by omega) rfl dL_law_258 hl (fun ls hl => ?_)
  refine lw_ld C S (pc := 259) (k := 3) (kc := 3) (st := [.int (xs (i + 2)), .int (xs (i + 1)), .retAddr 11, .int z]) (nI_add i 3) (by omega) rfl dL_law_264 hl (fun ls hl => ?_)
  refine lw_ld C S (pc := 265) (k := 4) (kc := 4) (st := [.int (xs (i + 3)), .int (xs (i + 2)), .int (xs (i + 1)), .retAddr 11, .int z]) (nI_add i 4) (by omega) rfl dL_law_270 hl (fun ls hl => ?_)
  refine lw_ld C S (pc := 271) (k := 5) (kc := 5) (st := [.int (xs (i + 4)), .int (xs (i + 3)), .int (xs (i + 2)), .int (xs (i + 1)), .retAddr 11, .int z]) (nI_add i 5) (by omega) rfl dL_law_276 hl (fun ls hl => ?_)
  refine lw_callM (pc := 277) (as := [.int (xs (i + 1)), .int (xs (i + 2)), .int (xs (i + 3)), .int (xs (i + 4)), .int (xs (i + 5))]) (rest := [.int z]) C hl.1.1 dL_law_277 rfl rfl (List.forall_mem_cons.mpr ⟨Or.inl ⟨_, rfl⟩, List.forall_mem_cons.mpr ⟨Or.inl ⟨_, rfl⟩, List.forall_mem_cons.mpr ⟨Or.inl ⟨_, rfl⟩, List.forall_mem_cons.mpr ⟨Or.inl ⟨_, rfl⟩, List.forall_mem_cons.mpr ⟨Or.inl ⟨_, rfl⟩, fun v hv => nomatch hv⟩⟩⟩⟩⟩) (Nat.le_of_ble_eq_true rfl) em r2 (Or.inl ⟨_, rfl⟩) (Nat.le_of_ble_eq_true rfl) (by omega) (by omega) S (fun H1 locs1 S => ?_)
  refine lw_W C.1 C.2.1 C.2.2.2.1 (lw_Ks C.2.2.2.2.1 _) (ad := fun _ => 0) (sa := lw_sa b qx qm qo) 1 (pc := 280) (pc' := 1514) (L := lw_L i u w) (L' := lw_L i u w) (st := [.int z, .int z]) (st' := []) (lw_br rfl) hl (fun ls hl => ?_)
  exact K hx' hm' _ _ ls _ _ _ _ hI' S hl (by omega) (by omega)
set_option maxRecDepth 100000 in
set_option maxHeartbeats 4000000 in
theorem ln_c1 {p : Program} {l : Launch} {e : Env} {s : State} {m : MethodId} {below : List Frame} {meth : Method} {c : Code} {H : Heap} {locs : List Loc} {cells slots : Nat} {Q : State → Prop} {b Ln : Nat} {xs : Nat → Int32} {sa av : Nat → Nat} {D : va_G} {hx hm : AmH} {qx qm qo : Nat} {ls : Array Slot} {i : Nat} {u w : Option Value} {Inv Inv' : AmH → AmH → Prop} (hSh : lw_Sh Inv) (C : LwC p s m c b Ln xs sa av) (S : LwS D sa s H locs hx hm qx qm qo) (hI : Inv hx hm) (hag : ln_AgI Inv Inv' m_X11_end m_X12_end [.int (xs (i + 1))]) (hi : i + 6 ≤ Ln) (hcc : cells ≤ 10000) (hss : slots ≤ 1000000) (hl : am_lr (fun _ => 0) (lw_sa b qx qm qo) ls 7 (lw_L i u w)) (K : LwK Inv' p l e s m below meth c D sa b qx qm qo i cells slots Q) : W p l e room_1 s m #[Value.ref b] below meth c H locs cells slots Q (F0 m 285 ls []) := by
  obtain ⟨⟨fx, ex⟩, ⟨fm, em⟩⟩ := hSh hx hm hI
  obtain ⟨z, hx', hm', kx, jx, km, jm, r1, r2, b1, b2, hI'⟩ := hag hx hm hI
  refine lw_W C.1 C.2.1 C.2.2.2.1 (lw_Ks C.2.2.2.2.1 _) (ad := fun _ => 0) (sa := lw_sa b qx qm qo) 1 (pc := 285) (pc' := 286) (L := lw_L i u w) (L' := lw_L i u w) (st := []) (st' := [.retAddr 10]) rfl hl (fun ls hl => ?_)
  refine lw_ld C S (pc := 286) (k := 1) (kc := 1) (st := [.retAddr 10]) (nI_add i 1) (by omega) rfl dL_law_291 hl (fun ls hl => ?_)
  refine lw_callX (pc := 292) (as := [.int (xs (i + 1))]) (rest := []) C hl.1.1 dL_law_292 rfl rfl (List.forall_mem_cons.mpr ⟨Or.inl ⟨_, rfl⟩, fun v hv => nomatch hv⟩) (Nat.le_of_ble_eq_true rfl) ex r1 (Or.inl ⟨_, rfl⟩) (Nat.le_of_ble_eq_true rfl) (by omega) (by omega) S (fun H1 locs1 S => ?_)
  refine lw_W C.1 C.2.1 C.2.2.2.1 (lw_Ks C.2.2.2.2.1 _) (ad := fun _ => 0) (sa := lw_sa b qx qm qo) 1 (pc := 295) (pc' := 296) (L := lw_L i u w) (L' := lw_L i u w) (st := [.int z]) (st' := [.retAddr 11, .int z]) rfl hl (fun ls hl => ?_)
  refine lw_ld C S (pc := 296) (k := 1) (kc := 1) (st := [.retAddr 11, .int z]) (nI_add i 1) (by omega) rfl dL_law_301 hl (fun ls hl => ?_)
  refine lw_callM (pc := 302) (as := [.int (xs (i + 1))]) (rest := [.int z]) C hl.1.1 dL_law_302 rfl rfl (List.forall_mem_cons.mpr ⟨Or.inl ⟨_, rfl⟩, fun v hv => nomatch hv⟩) (Nat.le_of_ble_eq_true rfl) em r2 (Or.inl ⟨_, rfl⟩) (Nat.le_of_ble_eq_true rfl) (by omega) (by omega) S (fun H1 locs1 S => ?_)
  refine lw_W C.1 C.2.1 C.2.2.2.1 (lw_Ks C.2.2.2.2.1 _) (ad := fun _ => 0) (sa := lw_sa b qx qm qo) 1 (pc := 305) (pc' := 1514) (L := lw_L i u w) (L' := lw_L i u w) (st := [.int z, .int z]) (st' := []) (lw_br rfl) hl (fun ls hl => ?_)
  exact K hx' hm' _ _ ls _ _ _ _ hI' S hl (by omega) (by omega)
set_option maxRecDepth 100000 in
set_option maxHeartbeats 4000000 in
theorem ln_c2 {p : Program} {l : Launch} {e : Env} {s : State} {m : MethodId} {below : List Frame} {meth : Method} {c : Code} {H : Heap} {locs : List Loc} {cells slots : Nat} {Q : State → Prop} {b Ln : Nat} {xs : Nat → Int32} {sa av : Nat → Nat} {D : va_G} {hx hm : AmH} {qx qm qo : Nat} {ls : Array Slot} {i : Nat} {u w : Option Value} {Inv Inv' : AmH → AmH → Prop} (hSh : lw_Sh Inv) (C : LwC p s m c b Ln xs sa av) (S : LwS D sa s H locs hx hm qx qm qo) (hI : Inv hx hm) (hag : ln_AgI Inv Inv' m_X11_fault m_X12_fault [.int (xs (i + 1))]) (hi : i + 6 ≤ Ln) (hcc : cells ≤ 10000) (hss : slots ≤ 1000000) (hl : am_lr (fun _ => 0) (lw_sa b qx qm qo) ls 7 (lw_L i u w)) (K : LwK Inv' p l e s m below meth c D sa b qx qm qo i cells slots Q) : W p l e room_1 s m #[Value.ref b] below meth c H locs cells slots Q (F0 m 310 ls []) := by
  obtain ⟨⟨fx, ex⟩, ⟨fm, em⟩⟩ := hSh hx hm hI
  obtain ⟨z, hx', hm', kx, jx, km, jm, r1, r2, b1, b2, hI'⟩ := hag hx hm hI
  refine lw_W C.1 C.2.1 C.2.2.2.1 (lw_Ks C.2.2.2.2.1 _) (ad := fun _ => 0) (sa := lw_sa b qx qm qo) 1 (pc := 310) (pc' := 311) (L := lw_L i u w) (L' := lw_L i u w) (st := []) (st' := [.retAddr 10]) rfl hl (fun ls hl => ?_)
  refine lw_ld C S (pc := 311) (k := 1) (kc := 1) (st := [.retAddr 10]) (nI_add i 1) (by omega) rfl dL_law_316 hl (fun ls hl => ?_)
  refine lw_callX (pc := 317) (as := [.int (xs (i + 1))]) (rest := []) C hl.1.1 dL_law_317 rfl rfl (List.forall_mem_cons.mpr ⟨Or.inl ⟨_, rfl⟩, fun v hv => nomatch hv⟩) (Nat.le_of_ble_eq_true rfl) ex r1 (Or.inl ⟨_, rfl⟩) (Nat.le_of_ble_eq_true rfl) (by omega) (by omega) S (fun H1 locs1 S => ?_)
  refine lw_W C.1 C.2.1 C.2.2.2.1 (lw_Ks C.2.2.2.2.1 _) (ad := fun _ => 0) (sa := lw_sa b qx qm qo) 1 (pc := 320) (pc' := 321) (L := lw_L i u w) (L' := lw_L i u w) (st := [.int z]) (st' := [.retAddr 11, .int z]) rfl hl (fun ls hl => ?_)
  refine lw_ld C S (pc := 321) (k := 1) (kc := 1) (st := [.retAddr 11, .int z]) (nI_add i 1) (by omega) rfl dL_law_326 hl (fun ls hl => ?_)
  refine lw_callM (pc := 327) (as := [.int (xs (i + 1))]) (rest := [.int z]) C hl.1.1 dL_law_327 rfl rfl (List.forall_mem_cons.mpr ⟨Or.inl ⟨_, rfl⟩, fun v hv => nomatch hv⟩) (Nat.le_of_ble_eq_true rfl) em r2 (Or.inl ⟨_, rfl⟩) (Nat.le_of_ble_eq_true rfl) (by omega) (by omega) S (fun H1 locs1 S => ?_)
  refine lw_W C.1 C.2.1 C.2.2.2.1 (lw_Ks C.2.2.2.2.1 _) (ad := fun _ => 0) (sa := lw_sa b qx qm qo) 1 (pc := 330) (pc' := 1514) (L := lw_L i u w) (L' := lw_L i u w) (st := [.int z, .int z]) (st' := []) (lw_br rfl) hl (fun ls hl => ?_)
  exact K hx' hm' _ _ ls _ _ _ _ hI' S hl (by omega) (by omega)
set_option maxRecDepth 100000 in
set_option maxHeartbeats 4000000 in
theorem ln_c3 {p : Program} {l : Launch} {e : Env} {s : State} {m : MethodId} {below : List Frame} {meth : Method} {c : Code} {H : Heap} {locs : List Loc} {cells slots : Nat} {Q : State → Prop} {b Ln : Nat} {xs : Nat → Int32} {sa av : Nat → Nat} {D : va_G} {hx hm : AmH} {qx qm qo : Nat} {ls : Array Slot} {i : Nat} {u w : Option Value} {Inv Inv' : AmH → AmH → Prop} (hSh : lw_Sh Inv) (C : LwC p s m c b Ln xs sa av) (S : LwS D sa s H locs hx hm qx qm qo) (hI : Inv hx hm) (hag : ln_AgI Inv Inv' m_X11_text m_X12_text [.int (xs (i + 1))]) (hi : i + 6 ≤ Ln) (hcc : cells ≤ 10000) (hss : slots ≤ 1000000) (hl : am_lr (fun _ => 0) (lw_sa b qx qm qo) ls 7 (lw_L i u w)) (K : LwK Inv' p l e s m below meth c D sa b qx qm qo i cells slots Q) : W p l e room_1 s m #[Value.ref b] below meth c H locs cells slots Q (F0 m 335 ls []) := by
  obtain ⟨⟨fx, ex⟩, ⟨fm, em⟩⟩ := hSh hx hm hI
  obtain ⟨z, hx', hm', kx, jx, km, jm, r1, r2, b1, b2, hI'⟩ := hag hx hm hI
  refine lw_W C.1 C.2.1 C.2.2.2.1 (lw_Ks C.2.2.2.2.1 _) (ad := fun _ => 0) (sa := lw_sa b qx qm qo) 1 (pc := 335) (pc' := 336) (L := lw_L i u w) (L' := lw_L i u w) (st := []) (st' := [.retAddr 10]) rfl hl (fun ls hl => ?_)
  refine lw_ld C S (pc := 336) (k := 1) (kc := 1) (st := [.retAddr 10]) (nI_add i 1) (by omega) rfl dL_law_341 hl (fun ls hl => ?_)
  refine lw_callX (pc := 342) (as := [.int (xs (i + 1))]) (rest := []) C hl.1.1 dL_law_342 rfl rfl (List.forall_mem_cons.mpr ⟨Or.inl ⟨_, rfl⟩, fun v hv => nomatch hv⟩) (Nat.le_of_ble_eq_true rfl) ex r1 (Or.inl ⟨_, rfl⟩) (Nat.le_of_ble_eq_true rfl) (by omega) (by omega) S (fun H1 locs1 S => ?_)
  refine lw_W C.1 C.2.1 C.2.2.2.1 (lw_Ks C.2.2.2.2.1 _) (ad := fun _ => 0) (sa := lw_sa b qx qm qo) 1 (pc := 345) (pc' := 346) (L := lw_L i u w) (L' := lw_L i u w) (st := [.int z]) (st' := [.retAddr 11, .int z]) rfl hl (fun ls hl => ?_)
  refine lw_ld C S (pc := 346) (k := 1) (kc := 1) (st := [.retAddr 11, .int z]) (nI_add i 1) (by omega) rfl dL_law_351 hl (fun ls hl => ?_)
  refine lw_callM (pc := 352) (as := [.int (xs (i + 1))]) (rest := [.int z]) C hl.1.1 dL_law_352 rfl rfl (List.forall_mem_cons.mpr ⟨Or.inl ⟨_, rfl⟩, fun v hv => nomatch hv⟩) (Nat.le_of_ble_eq_true rfl) em r2 (Or.inl ⟨_, rfl⟩) (Nat.le_of_ble_eq_true rfl) (by omega) (by omega) S (fun H1 locs1 S => ?_)
  refine lw_W C.1 C.2.1 C.2.2.2.1 (lw_Ks C.2.2.2.2.1 _) (ad := fun _ => 0) (sa := lw_sa b qx qm qo) 1 (pc := 355) (pc' := 1514) (L := lw_L i u w) (L' := lw_L i u w) (st := [.int z, .int z]) (st' := []) (lw_br rfl) hl (fun ls hl => ?_)
  exact K hx' hm' _ _ ls _ _ _ _ hI' S hl (by omega) (by omega)
set_option maxRecDepth 100000 in
set_option maxHeartbeats 4000000 in
theorem ln_c5 {p : Program} {l : Launch} {e : Env} {s : State} {m : MethodId} {below : List Frame} {meth : Method} {c : Code} {H : Heap} {locs : List Loc} {cells slots : Nat} {Q : State → Prop} {b Ln : Nat} {xs : Nat → Int32} {sa av : Nat → Nat} {D : va_G} {hx hm : AmH} {qx qm qo : Nat} {ls : Array Slot} {i : Nat} {u w : Option Value} {Inv Inv' : AmH → AmH → Prop} (hSh : lw_Sh Inv) (C : LwC p s m c b Ln xs sa av) (S : LwS D sa s H locs hx hm qx qm qo) (hI : Inv hx hm) (hag : ln_AgI Inv Inv' m_X11_customer m_X12_customer [.int (xs (i + 1)), .int (xs (i + 2))]) (hi : i + 6 ≤ Ln) (hcc : cells ≤ 10000) (hss : slots ≤ 1000000) (hl : am_lr (fun _ => 0) (lw_sa b qx qm qo) ls 7 (lw_L i u w)) (K : LwK Inv' p l e s m below meth c D sa b qx qm qo i cells slots Q) : W p l e room_1 s m #[Value.ref b] below meth c H locs cells slots Q (F0 m 416 ls []) := by
  obtain ⟨⟨fx, ex⟩, ⟨fm, em⟩⟩ := hSh hx hm hI
  obtain ⟨z, hx', hm', kx, jx, km, jm, r1, r2, b1, b2, hI'⟩ := hag hx hm hI
  refine lw_W C.1 C.2.1 C.2.2.2.1 (lw_Ks C.2.2.2.2.1 _) (ad := fun _ => 0) (sa := lw_sa b qx qm qo) 1 (pc := 416) (pc' := 417) (L := lw_L i u w) (L' := lw_L i u w) (st := []) (st' := [.retAddr 10]) rfl hl (fun ls hl => ?_)
  refine lw_ld C S (pc := 417) (k := 1) (kc := 1) (st := [.retAddr 10]) (nI_add i 1) (by omega) rfl dL_law_422 hl (fun ls hl => ?_)
  refine lw_ld C S (pc := 423) (k := 2) (kc := 2) (st := [.int (xs (i + 1)), .retAddr 10]) (nI_add i 2) (by omega) rfl dL_law_428 hl (fun ls hl => ?_)
  refine lw_callX (pc := 429) (as := [.int (xs (i + 1)), .int (xs (i + 2))]) (rest := []) C hl.1.1 dL_law_429 rfl rfl (List.forall_mem_cons.mpr ⟨Or.inl ⟨_, rfl⟩, List.forall_mem_cons.mpr ⟨Or.inl ⟨_, rfl⟩, fun v hv => nomatch hv⟩⟩) (Nat.le_of_ble_eq_true rfl) ex r1 (Or.inl ⟨_, rfl⟩) (Nat.le_of_ble_eq_true rfl) (by omega) (by omega) S (fun H1 locs1 S => ?_)
  refine lw_W C.1 C.2.1 C.2.2.2.1 (lw_Ks C.2.2.2.2.1 _) (ad := fun _ => 0) (sa := lw_sa b qx qm qo) 1 (pc := 432) (pc' := 433) (L := lw_L i u w) (L' := lw_L i u w) (st := [.int z]) (st' := [.retAddr 11, .int z]) rfl hl (fun ls hl => ?_)
  refine lw_ld C S (pc := 433) (k := 1) (kc := 1) (st := [.retAddr 11, .int z]) (nI_add i 1) (by omega) rfl dL_law_438 hl (fun ls hl => ?_)
  refine lw_ld C S (pc := 439) (k := 2) (kc := 2) (st := [.int (xs (i + 1)), .retAddr 11, .int z]) (nI_add i 2) (by omega) rfl dL_law_444 hl (fun ls hl => ?_)
  refine lw_callM (pc := 445) (as := [.int (xs (i + 1)), .int (xs (i + 2))]) (rest := [.int z]) C hl.1.1 dL_law_445 rfl rfl (List.forall_mem_cons.mpr ⟨Or.inl ⟨_, rfl⟩, List.forall_mem_cons.mpr ⟨Or.inl ⟨_, rfl⟩, fun v hv => nomatch hv⟩⟩) (Nat.le_of_ble_eq_true rfl) em r2 (Or.inl ⟨_, rfl⟩) (Nat.le_of_ble_eq_true rfl) (by omega) (by omega) S (fun H1 locs1 S => ?_)
  refine lw_W C.1 C.2.1 C.2.2.2.1 (lw_Ks C.2.2.2.2.1 _) (ad := fun _ => 0) (sa := lw_sa b qx qm qo) 1 (pc := 448) (pc' := 1514) (L := lw_L i u w) (L' := lw_L i u w) (st := [.int z, .int z]) (st' := []) (lw_br rfl) hl (fun ls hl => ?_)
  exact K hx' hm' _ _ ls _ _ _ _ hI' S hl (by omega) (by omega)
set_option maxRecDepth 100000 in
set_option maxHeartbeats 4000000 in
theorem ln_c6 {p : Program} {l : Launch} {e : Env} {s : State} {m : MethodId} {below : List Frame} {meth : Method} {c : Code} {H : Heap} {locs : List Loc} {cells slots : Nat} {Q : State → Prop} {b Ln : Nat} {xs : Nat → Int32} {sa av : Nat → Nat} {D : va_G} {hx hm : AmH} {qx qm qo : Nat} {ls : Array Slot} {i : Nat} {u w : Option Value} {Inv Inv' : AmH → AmH → Prop} (hSh : lw_Sh Inv) (C : LwC p s m c b Ln xs sa av) (S : LwS D sa s H locs hx hm qx qm qo) (hI : Inv hx hm) (hag : ln_AgI Inv Inv' m_X11_lay m_X12_lay [.int (xs (i + 1)), .int (xs (i + 2))]) (hi : i + 6 ≤ Ln) (hcc : cells ≤ 10000) (hss : slots ≤ 1000000) (hl : am_lr (fun _ => 0) (lw_sa b qx qm qo) ls 7 (lw_L i u w)) (K : LwK Inv' p l e s m below meth c D sa b qx qm qo i cells slots Q) : W p l e room_1 s m #[Value.ref b] below meth c H locs cells slots Q (F0 m 453 ls []) := by
  obtain ⟨⟨fx, ex⟩, ⟨fm, em⟩⟩ := hSh hx hm hI
  obtain ⟨z, hx', hm', kx, jx, km, jm, r1, r2, b1, b2, hI'⟩ := hag hx hm hI
  refine lw_W C.1 C.2.1 C.2.2.2.1 (lw_Ks C.2.2.2.2.1 _) (ad := fun _ => 0) (sa := lw_sa b qx qm qo) 1 (pc := 453) (pc' := 454) (L := lw_L i u w) (L' := lw_L i u w) (st := []) (st' := [.retAddr 10]) rfl hl (fun ls hl => ?_)
  refine lw_ld C S (pc := 454) (k := 1) (kc := 1) (st := [.retAddr 10]) (nI_add i 1) (by omega) rfl dL_law_459 hl (fun ls hl => ?_)
  refine lw_ld C S (pc := 460) (k := 2) (kc := 2) (st := [.int (xs (i + 1)), .retAddr 10]) (nI_add i 2) (by omega) rfl dL_law_465 hl (fun ls hl => ?_)
  refine lw_callX (pc := 466) (as := [.int (xs (i + 1)), .int (xs (i + 2))]) (rest := []) C hl.1.1 dL_law_466 rfl rfl (List.forall_mem_cons.mpr ⟨Or.inl ⟨_, rfl⟩, List.forall_mem_cons.mpr ⟨Or.inl ⟨_, rfl⟩, fun v hv => nomatch hv⟩⟩) (Nat.le_of_ble_eq_true rfl) ex r1 (Or.inl ⟨_, rfl⟩) (Nat.le_of_ble_eq_true rfl) (by omega) (by omega) S (fun H1 locs1 S => ?_)
  refine lw_W C.1 C.2.1 C.2.2.2.1 (lw_Ks C.2.2.2.2.1 _) (ad := fun _ => 0) (sa := lw_sa b qx qm qo) 1 (pc := 469) (pc' := 470) (L := lw_L i u w) (L' := lw_L i u w) (st := [.int z]) (st' := [.retAddr 11, .int z]) rfl hl (fun ls hl => ?_)
  refine lw_ld C S (pc := 470) (k := 1) (kc := 1) (st := [.retAddr 11, .int z]) (nI_add i 1) (by omega) rfl dL_law_475 hl (fun ls hl => ?_)
  refine lw_ld C S (pc := 476) (k := 2) (kc := 2) (st := [.int (xs (i + 1)), .retAddr 11, .int z]) (nI_add i 2) (by omega) rfl dL_law_481 hl (fun ls hl => ?_)
  refine lw_callM (pc := 482) (as := [.int (xs (i + 1)), .int (xs (i + 2))]) (rest := [.int z]) C hl.1.1 dL_law_482 rfl rfl (List.forall_mem_cons.mpr ⟨Or.inl ⟨_, rfl⟩, List.forall_mem_cons.mpr ⟨Or.inl ⟨_, rfl⟩, fun v hv => nomatch hv⟩⟩) (Nat.le_of_ble_eq_true rfl) em r2 (Or.inl ⟨_, rfl⟩) (Nat.le_of_ble_eq_true rfl) (by omega) (by omega) S (fun H1 locs1 S => ?_)
  refine lw_W C.1 C.2.1 C.2.2.2.1 (lw_Ks C.2.2.2.2.1 _) (ad := fun _ => 0) (sa := lw_sa b qx qm qo) 1 (pc := 485) (pc' := 1514) (L := lw_L i u w) (L' := lw_L i u w) (st := [.int z, .int z]) (st' := []) (lw_br rfl) hl (fun ls hl => ?_)
  exact K hx' hm' _ _ ls _ _ _ _ hI' S hl (by omega) (by omega)
set_option maxRecDepth 100000 in
set_option maxHeartbeats 4000000 in
theorem ln_c7 {p : Program} {l : Launch} {e : Env} {s : State} {m : MethodId} {below : List Frame} {meth : Method} {c : Code} {H : Heap} {locs : List Loc} {cells slots : Nat} {Q : State → Prop} {b Ln : Nat} {xs : Nat → Int32} {sa av : Nat → Nat} {D : va_G} {hx hm : AmH} {qx qm qo : Nat} {ls : Array Slot} {i : Nat} {u w : Option Value} {Inv Inv' : AmH → AmH → Prop} (hSh : lw_Sh Inv) (C : LwC p s m c b Ln xs sa av) (S : LwS D sa s H locs hx hm qx qm qo) (hI : Inv hx hm) (hag : ln_AgI Inv Inv' m_X11_lift m_X12_lift [.int (xs (i + 1))]) (hi : i + 6 ≤ Ln) (hcc : cells ≤ 10000) (hss : slots ≤ 1000000) (hl : am_lr (fun _ => 0) (lw_sa b qx qm qo) ls 7 (lw_L i u w)) (K : LwK Inv' p l e s m below meth c D sa b qx qm qo i cells slots Q) : W p l e room_1 s m #[Value.ref b] below meth c H locs cells slots Q (F0 m 490 ls []) := by
  obtain ⟨⟨fx, ex⟩, ⟨fm, em⟩⟩ := hSh hx hm hI
  obtain ⟨z, hx', hm', kx, jx, km, jm, r1, r2, b1, b2, hI'⟩ := hag hx hm hI
  refine lw_W C.1 C.2.1 C.2.2.2.1 (lw_Ks C.2.2.2.2.1 _) (ad := fun _ => 0) (sa := lw_sa b qx qm qo) 1 (pc := 490) (pc' := 491) (L := lw_L i u w) (L' := lw_L i u w) (st := []) (st' := [.retAddr 10]) rfl hl (fun ls hl => ?_)
  refine lw_ld C S (pc := 491) (k := 1) (kc := 1) (st := [.retAddr 10]) (nI_add i 1) (by omega) rfl dL_law_496 hl (fun ls hl => ?_)
  refine lw_callX (pc := 497) (as := [.int (xs (i + 1))]) (rest := []) C hl.1.1 dL_law_497 rfl rfl (List.forall_mem_cons.mpr ⟨Or.inl ⟨_, rfl⟩, fun v hv => nomatch hv⟩) (Nat.le_of_ble_eq_true rfl) ex r1 (Or.inl ⟨_, rfl⟩) (Nat.le_of_ble_eq_true rfl) (by omega) (by omega) S (fun H1 locs1 S => ?_)
  refine lw_W C.1 C.2.1 C.2.2.2.1 (lw_Ks C.2.2.2.2.1 _) (ad := fun _ => 0) (sa := lw_sa b qx qm qo) 1 (pc := 500) (pc' := 501) (L := lw_L i u w) (L' := lw_L i u w) (st := [.int z]) (st' := [.retAddr 11, .int z]) rfl hl (fun ls hl => ?_)
  refine lw_ld C S (pc := 501) (k := 1) (kc := 1) (st := [.retAddr 11, .int z]) (nI_add i 1) (by omega) rfl dL_law_506 hl (fun ls hl => ?_)
  refine lw_callM (pc := 507) (as := [.int (xs (i + 1))]) (rest := [.int z]) C hl.1.1 dL_law_507 rfl rfl (List.forall_mem_cons.mpr ⟨Or.inl ⟨_, rfl⟩, fun v hv => nomatch hv⟩) (Nat.le_of_ble_eq_true rfl) em r2 (Or.inl ⟨_, rfl⟩) (Nat.le_of_ble_eq_true rfl) (by omega) (by omega) S (fun H1 locs1 S => ?_)
  refine lw_W C.1 C.2.1 C.2.2.2.1 (lw_Ks C.2.2.2.2.1 _) (ad := fun _ => 0) (sa := lw_sa b qx qm qo) 1 (pc := 510) (pc' := 1514) (L := lw_L i u w) (L' := lw_L i u w) (st := [.int z, .int z]) (st' := []) (lw_br rfl) hl (fun ls hl => ?_)
  exact K hx' hm' _ _ ls _ _ _ _ hI' S hl (by omega) (by omega)
set_option maxRecDepth 100000 in
set_option maxHeartbeats 4000000 in
theorem ln_c8 {p : Program} {l : Launch} {e : Env} {s : State} {m : MethodId} {below : List Frame} {meth : Method} {c : Code} {H : Heap} {locs : List Loc} {cells slots : Nat} {Q : State → Prop} {b Ln : Nat} {xs : Nat → Int32} {sa av : Nat → Nat} {D : va_G} {hx hm : AmH} {qx qm qo : Nat} {ls : Array Slot} {i : Nat} {u w : Option Value} {Inv Inv' : AmH → AmH → Prop} (hSh : lw_Sh Inv) (C : LwC p s m c b Ln xs sa av) (S : LwS D sa s H locs hx hm qx qm qo) (hI : Inv hx hm) (hag : ln_AgI Inv Inv' m_X11_coin m_X12_coin [.int (xs (i + 1)), .int (xs (i + 2))]) (hi : i + 6 ≤ Ln) (hcc : cells ≤ 10000) (hss : slots ≤ 1000000) (hl : am_lr (fun _ => 0) (lw_sa b qx qm qo) ls 7 (lw_L i u w)) (K : LwK Inv' p l e s m below meth c D sa b qx qm qo i cells slots Q) : W p l e room_1 s m #[Value.ref b] below meth c H locs cells slots Q (F0 m 515 ls []) := by
  obtain ⟨⟨fx, ex⟩, ⟨fm, em⟩⟩ := hSh hx hm hI
  obtain ⟨z, hx', hm', kx, jx, km, jm, r1, r2, b1, b2, hI'⟩ := hag hx hm hI
  refine lw_W C.1 C.2.1 C.2.2.2.1 (lw_Ks C.2.2.2.2.1 _) (ad := fun _ => 0) (sa := lw_sa b qx qm qo) 1 (pc := 515) (pc' := 516) (L := lw_L i u w) (L' := lw_L i u w) (st := []) (st' := [.retAddr 10]) rfl hl (fun ls hl => ?_)
  refine lw_ld C S (pc := 516) (k := 1) (kc := 1) (st := [.retAddr 10]) (nI_add i 1) (by omega) rfl dL_law_521 hl (fun ls hl => ?_)
  refine lw_ld C S (pc := 522) (k := 2) (kc := 2) (st := [.int (xs (i + 1)), .retAddr 10]) (nI_add i 2) (by omega) rfl dL_law_527 hl (fun ls hl => ?_)
  refine lw_callX (pc := 528) (as := [.int (xs (i + 1)), .int (xs (i + 2))]) (rest := []) C hl.1.1 dL_law_528 rfl rfl (List.forall_mem_cons.mpr ⟨Or.inl ⟨_, rfl⟩, List.forall_mem_cons.mpr ⟨Or.inl ⟨_, rfl⟩, fun v hv => nomatch hv⟩⟩) (Nat.le_of_ble_eq_true rfl) ex r1 (Or.inl ⟨_, rfl⟩) (Nat.le_of_ble_eq_true rfl) (by omega) (by omega) S (fun H1 locs1 S => ?_)
  refine lw_W C.1 C.2.1 C.2.2.2.1 (lw_Ks C.2.2.2.2.1 _) (ad := fun _ => 0) (sa := lw_sa b qx qm qo) 1 (pc := 531) (pc' := 532) (L := lw_L i u w) (L' := lw_L i u w) (st := [.int z]) (st' := [.retAddr 11, .int z]) rfl hl (fun ls hl => ?_)
  refine lw_ld C S (pc := 532) (k := 1) (kc := 1) (st := [.retAddr 11, .int z]) (nI_add i 1) (by omega) rfl dL_law_537 hl (fun ls hl => ?_)
  refine lw_ld C S (pc := 538) (k := 2) (kc := 2) (st := [.int (xs (i + 1)), .retAddr 11, .int z]) (nI_add i 2) (by omega) rfl dL_law_543 hl (fun ls hl => ?_)
  refine lw_callM (pc := 544) (as := [.int (xs (i + 1)), .int (xs (i + 2))]) (rest := [.int z]) C hl.1.1 dL_law_544 rfl rfl (List.forall_mem_cons.mpr ⟨Or.inl ⟨_, rfl⟩, List.forall_mem_cons.mpr ⟨Or.inl ⟨_, rfl⟩, fun v hv => nomatch hv⟩⟩) (Nat.le_of_ble_eq_true rfl) em r2 (Or.inl ⟨_, rfl⟩) (Nat.le_of_ble_eq_true rfl) (by omega) (by omega) S (fun H1 locs1 S => ?_)
  refine lw_W C.1 C.2.1 C.2.2.2.1 (lw_Ks C.2.2.2.2.1 _) (ad := fun _ => 0) (sa := lw_sa b qx qm qo) 1 (pc := 547) (pc' := 1514) (L := lw_L i u w) (L' := lw_L i u w) (st := [.int z, .int z]) (st' := []) (lw_br rfl) hl (fun ls hl => ?_)
  exact K hx' hm' _ _ ls _ _ _ _ hI' S hl (by omega) (by omega)
set_option maxRecDepth 100000 in
set_option maxHeartbeats 4000000 in
theorem ln_c9 {p : Program} {l : Launch} {e : Env} {s : State} {m : MethodId} {below : List Frame} {meth : Method} {c : Code} {H : Heap} {locs : List Loc} {cells slots : Nat} {Q : State → Prop} {b Ln : Nat} {xs : Nat → Int32} {sa av : Nat → Nat} {D : va_G} {hx hm : AmH} {qx qm qo : Nat} {ls : Array Slot} {i : Nat} {u w : Option Value} {Inv Inv' : AmH → AmH → Prop} (hSh : lw_Sh Inv) (C : LwC p s m c b Ln xs sa av) (S : LwS D sa s H locs hx hm qx qm qo) (hI : Inv hx hm) (hag : ln_AgI Inv Inv' m_X11_tray m_X12_tray [.int (xs (i + 1))]) (hi : i + 6 ≤ Ln) (hcc : cells ≤ 10000) (hss : slots ≤ 1000000) (hl : am_lr (fun _ => 0) (lw_sa b qx qm qo) ls 7 (lw_L i u w)) (K : LwK Inv' p l e s m below meth c D sa b qx qm qo i cells slots Q) : W p l e room_1 s m #[Value.ref b] below meth c H locs cells slots Q (F0 m 552 ls []) := by
  obtain ⟨⟨fx, ex⟩, ⟨fm, em⟩⟩ := hSh hx hm hI
  obtain ⟨z, hx', hm', kx, jx, km, jm, r1, r2, b1, b2, hI'⟩ := hag hx hm hI
  refine lw_W C.1 C.2.1 C.2.2.2.1 (lw_Ks C.2.2.2.2.1 _) (ad := fun _ => 0) (sa := lw_sa b qx qm qo) 1 (pc := 552) (pc' := 553) (L := lw_L i u w) (L' := lw_L i u w) (st := []) (st' := [.retAddr 10]) rfl hl (fun ls hl => ?_)
  refine lw_ld C S (pc := 553) (k := 1) (kc := 1) (st := [.retAddr 10]) (nI_add i 1) (by omega) rfl dL_law_558 hl (fun ls hl => ?_)
  refine lw_callX (pc := 559) (as := [.int (xs (i + 1))]) (rest := []) C hl.1.1 dL_law_559 rfl rfl (List.forall_mem_cons.mpr ⟨Or.inl ⟨_, rfl⟩, fun v hv => nomatch hv⟩) (Nat.le_of_ble_eq_true rfl) ex r1 (Or.inl ⟨_, rfl⟩) (Nat.le_of_ble_eq_true rfl) (by omega) (by omega) S (fun H1 locs1 S => ?_)
  refine lw_W C.1 C.2.1 C.2.2.2.1 (lw_Ks C.2.2.2.2.1 _) (ad := fun _ => 0) (sa := lw_sa b qx qm qo) 1 (pc := 562) (pc' := 563) (L := lw_L i u w) (L' := lw_L i u w) (st := [.int z]) (st' := [.retAddr 11, .int z]) rfl hl (fun ls hl => ?_)
  refine lw_ld C S (pc := 563) (k := 1) (kc := 1) (st := [.retAddr 11, .int z]) (nI_add i 1) (by omega) rfl dL_law_568 hl (fun ls hl => ?_)
  refine lw_callM (pc := 569) (as := [.int (xs (i + 1))]) (rest := [.int z]) C hl.1.1 dL_law_569 rfl rfl (List.forall_mem_cons.mpr ⟨Or.inl ⟨_, rfl⟩, fun v hv => nomatch hv⟩) (Nat.le_of_ble_eq_true rfl) em r2 (Or.inl ⟨_, rfl⟩) (Nat.le_of_ble_eq_true rfl) (by omega) (by omega) S (fun H1 locs1 S => ?_)
  refine lw_W C.1 C.2.1 C.2.2.2.1 (lw_Ks C.2.2.2.2.1 _) (ad := fun _ => 0) (sa := lw_sa b qx qm qo) 1 (pc := 572) (pc' := 1514) (L := lw_L i u w) (L' := lw_L i u w) (st := [.int z, .int z]) (st' := []) (lw_br rfl) hl (fun ls hl => ?_)
  exact K hx' hm' _ _ ls _ _ _ _ hI' S hl (by omega) (by omega)
set_option maxRecDepth 100000 in
set_option maxHeartbeats 4000000 in
theorem ln_c10 {p : Program} {l : Launch} {e : Env} {s : State} {m : MethodId} {below : List Frame} {meth : Method} {c : Code} {H : Heap} {locs : List Loc} {cells slots : Nat} {Q : State → Prop} {b Ln : Nat} {xs : Nat → Int32} {sa av : Nat → Nat} {D : va_G} {hx hm : AmH} {qx qm qo : Nat} {ls : Array Slot} {i : Nat} {u w : Option Value} {Inv Inv' : AmH → AmH → Prop} (hSh : lw_Sh Inv) (C : LwC p s m c b Ln xs sa av) (S : LwS D sa s H locs hx hm qx qm qo) (hI : Inv hx hm) (hag : ln_AgL Inv Inv' m_X11_till m_X12_till []) (hi : i + 6 ≤ Ln) (hcc : cells ≤ 10000) (hss : slots ≤ 1000000) (hl : am_lr (fun _ => 0) (lw_sa b qx qm qo) ls 7 (lw_L i u w)) (K : LwK Inv' p l e s m below meth c D sa b qx qm qo i cells slots Q) : W p l e room_1 s m #[Value.ref b] below meth c H locs cells slots Q (F0 m 577 ls []) := by
  obtain ⟨⟨fx, ex⟩, ⟨fm, em⟩⟩ := hSh hx hm hI
  obtain ⟨z, hx', hm', kx, jx, km, jm, r1, r2, b1, b2, hI'⟩ := hag hx hm hI
  refine lw_W C.1 C.2.1 C.2.2.2.1 (lw_Ks C.2.2.2.2.1 _) (ad := fun _ => 0) (sa := lw_sa b qx qm qo) 1 (pc := 577) (pc' := 578) (L := lw_L i u w) (L' := lw_L i u w) (st := []) (st' := [.retAddr 10]) rfl hl (fun ls hl => ?_)
  refine lw_callX (pc := 578) (as := []) (rest := []) C hl.1.1 dL_law_578 rfl rfl (fun v hv => nomatch hv) (Nat.le_of_ble_eq_true rfl) ex r1 (Or.inr ⟨_, rfl⟩) (Nat.le_of_ble_eq_true rfl) (by omega) (by omega) S (fun H1 locs1 S => ?_)
  refine lw_W C.1 C.2.1 C.2.2.2.1 (lw_Ks C.2.2.2.2.1 _) (ad := fun _ => 0) (sa := lw_sa b qx qm qo) 1 (pc := 581) (pc' := 582) (L := lw_L i u w) (L' := lw_L i u w) (st := [.long z]) (st' := [.retAddr 11, .long z]) rfl hl (fun ls hl => ?_)
  refine lw_callM (pc := 582) (as := []) (rest := [.long z]) C hl.1.1 dL_law_582 rfl rfl (fun v hv => nomatch hv) (Nat.le_of_ble_eq_true rfl) em r2 (Or.inr ⟨_, rfl⟩) (Nat.le_of_ble_eq_true rfl) (by omega) (by omega) S (fun H1 locs1 S => ?_)
  refine lw_W C.1 C.2.1 C.2.2.2.1 (lw_Ks C.2.2.2.2.1 _) (ad := fun _ => 0) (sa := lw_sa b qx qm qo) 1 (pc := 585) (pc' := 586) (L := lw_L i u w) (L' := lw_L i u w) (st := [.long z, .long z]) (st' := [.int (lg_cmp z z)]) rfl hl (fun ls hl => ?_)
  rw [show lg_cmp z z = 0 from lg_cmp_self z]
  refine lw_W C.1 C.2.1 C.2.2.2.1 (lw_Ks C.2.2.2.2.1 _) (ad := fun _ => 0) (sa := lw_sa b qx qm qo) 1 (pc := 586) (pc' := 1514) (L := lw_L i u w) (L' := lw_L i u w) (st := [.int 0]) (st' := []) rfl hl (fun ls hl => ?_)
  exact K hx' hm' _ _ ls _ _ _ _ hI' S hl (by omega) (by omega)
set_option maxRecDepth 100000 in
set_option maxHeartbeats 4000000 in
theorem ln_c11 {p : Program} {l : Launch} {e : Env} {s : State} {m : MethodId} {below : List Frame} {meth : Method} {c : Code} {H : Heap} {locs : List Loc} {cells slots : Nat} {Q : State → Prop} {b Ln : Nat} {xs : Nat → Int32} {sa av : Nat → Nat} {D : va_G} {hx hm : AmH} {qx qm qo : Nat} {ls : Array Slot} {i : Nat} {u w : Option Value} {Inv Inv' : AmH → AmH → Prop} (hSh : lw_Sh Inv) (C : LwC p s m c b Ln xs sa av) (S : LwS D sa s H locs hx hm qx qm qo) (hI : Inv hx hm) (hag : ln_AgL Inv Inv' m_X11_result m_X12_result [.int (xs (i + 1)), .int (xs (i + 2))]) (hi : i + 6 ≤ Ln) (hcc : cells ≤ 10000) (hss : slots ≤ 1000000) (hl : am_lr (fun _ => 0) (lw_sa b qx qm qo) ls 7 (lw_L i u w)) (K : LwK Inv' p l e s m below meth c D sa b qx qm qo i cells slots Q) : W p l e room_1 s m #[Value.ref b] below meth c H locs cells slots Q (F0 m 591 ls []) := by
  obtain ⟨⟨fx, ex⟩, ⟨fm, em⟩⟩ := hSh hx hm hI
  obtain ⟨z, hx', hm', kx, jx, km, jm, r1, r2, b1, b2, hI'⟩ := hag hx hm hI
  refine lw_W C.1 C.2.1 C.2.2.2.1 (lw_Ks C.2.2.2.2.1 _) (ad := fun _ => 0) (sa := lw_sa b qx qm qo) 1 (pc := 591) (pc' := 592) (L := lw_L i u w) (L' := lw_L i u w) (st := []) (st' := [.retAddr 10]) rfl hl (fun ls hl => ?_)
  refine lw_ld C S (pc := 592) (k := 1) (kc := 1) (st := [.retAddr 10]) (nI_add i 1) (by omega) rfl dL_law_597 hl (fun ls hl => ?_)
  refine lw_ld C S (pc := 598) (k := 2) (kc := 2) (st := [.int (xs (i + 1)), .retAddr 10]) (nI_add i 2) (by omega) rfl dL_law_603 hl (fun ls hl => ?_)
  refine lw_callX (pc := 604) (as := [.int (xs (i + 1)), .int (xs (i + 2))]) (rest := []) C hl.1.1 dL_law_604 rfl rfl (List.forall_mem_cons.mpr ⟨Or.inl ⟨_, rfl⟩, List.forall_mem_cons.mpr ⟨Or.inl ⟨_, rfl⟩, fun v hv => nomatch hv⟩⟩) (Nat.le_of_ble_eq_true rfl) ex r1 (Or.inr ⟨_, rfl⟩) (Nat.le_of_ble_eq_true rfl) (by omega) (by omega) S (fun H1 locs1 S => ?_)
  refine lw_W C.1 C.2.1 C.2.2.2.1 (lw_Ks C.2.2.2.2.1 _) (ad := fun _ => 0) (sa := lw_sa b qx qm qo) 1 (pc := 607) (pc' := 608) (L := lw_L i u w) (L' := lw_L i u w) (st := [.long z]) (st' := [.retAddr 11, .long z]) rfl hl (fun ls hl => ?_)
  refine lw_ld C S (pc := 608) (k := 1) (kc := 1) (st := [.retAddr 11, .long z]) (nI_add i 1) (by omega) rfl dL_law_613 hl (fun ls hl => ?_)
  refine lw_ld C S (pc := 614) (k := 2) (kc := 2) (st := [.int (xs (i + 1)), .retAddr 11, .long z]) (nI_add i 2) (by omega) rfl dL_law_619 hl (fun ls hl => ?_)
  refine lw_callM (pc := 620) (as := [.int (xs (i + 1)), .int (xs (i + 2))]) (rest := [.long z]) C hl.1.1 dL_law_620 rfl rfl (List.forall_mem_cons.mpr ⟨Or.inl ⟨_, rfl⟩, List.forall_mem_cons.mpr ⟨Or.inl ⟨_, rfl⟩, fun v hv => nomatch hv⟩⟩) (Nat.le_of_ble_eq_true rfl) em r2 (Or.inr ⟨_, rfl⟩) (Nat.le_of_ble_eq_true rfl) (by omega) (by omega) S (fun H1 locs1 S => ?_)
  refine lw_W C.1 C.2.1 C.2.2.2.1 (lw_Ks C.2.2.2.2.1 _) (ad := fun _ => 0) (sa := lw_sa b qx qm qo) 1 (pc := 623) (pc' := 624) (L := lw_L i u w) (L' := lw_L i u w) (st := [.long z, .long z]) (st' := [.int (lg_cmp z z)]) rfl hl (fun ls hl => ?_)
  rw [show lg_cmp z z = 0 from lg_cmp_self z]
  refine lw_W C.1 C.2.1 C.2.2.2.1 (lw_Ks C.2.2.2.2.1 _) (ad := fun _ => 0) (sa := lw_sa b qx qm qo) 1 (pc := 624) (pc' := 1514) (L := lw_L i u w) (L' := lw_L i u w) (st := [.int 0]) (st' := []) rfl hl (fun ls hl => ?_)
  exact K hx' hm' _ _ ls _ _ _ _ hI' S hl (by omega) (by omega)
set_option maxRecDepth 100000 in
set_option maxHeartbeats 4000000 in
theorem ln_c12 {p : Program} {l : Launch} {e : Env} {s : State} {m : MethodId} {below : List Frame} {meth : Method} {c : Code} {H : Heap} {locs : List Loc} {cells slots : Nat} {Q : State → Prop} {b Ln : Nat} {xs : Nat → Int32} {sa av : Nat → Nat} {D : va_G} {hx hm : AmH} {qx qm qo : Nat} {ls : Array Slot} {i : Nat} {u w : Option Value} {Inv Inv' : AmH → AmH → Prop} (hSh : lw_Sh Inv) (C : LwC p s m c b Ln xs sa av) (S : LwS D sa s H locs hx hm qx qm qo) (hI : Inv hx hm) (hag : ln_AgI Inv Inv' m_X11_serve m_X12_serve [.int (xs (i + 1)), .int (xs (i + 2))]) (hi : i + 6 ≤ Ln) (hcc : cells ≤ 10000) (hss : slots ≤ 1000000) (hl : am_lr (fun _ => 0) (lw_sa b qx qm qo) ls 7 (lw_L i u w)) (K : LwK Inv' p l e s m below meth c D sa b qx qm qo i cells slots Q) : W p l e room_1 s m #[Value.ref b] below meth c H locs cells slots Q (F0 m 629 ls []) := by
  obtain ⟨⟨fx, ex⟩, ⟨fm, em⟩⟩ := hSh hx hm hI
  obtain ⟨z, hx', hm', kx, jx, km, jm, r1, r2, b1, b2, hI'⟩ := hag hx hm hI
  refine lw_W C.1 C.2.1 C.2.2.2.1 (lw_Ks C.2.2.2.2.1 _) (ad := fun _ => 0) (sa := lw_sa b qx qm qo) 1 (pc := 629) (pc' := 630) (L := lw_L i u w) (L' := lw_L i u w) (st := []) (st' := [.retAddr 10]) rfl hl (fun ls hl => ?_)
  refine lw_ld C S (pc := 630) (k := 1) (kc := 1) (st := [.retAddr 10]) (nI_add i 1) (by omega) rfl dL_law_635 hl (fun ls hl => ?_)
  refine lw_ld C S (pc := 636) (k := 2) (kc := 2) (st := [.int (xs (i + 1)), .retAddr 10]) (nI_add i 2) (by omega) rfl dL_law_641 hl (fun ls hl => ?_)
  refine lw_callX (pc := 642) (as := [.int (xs (i + 1)), .int (xs (i + 2))]) (rest := []) C hl.1.1 dL_law_642 rfl rfl (List.forall_mem_cons.mpr ⟨Or.inl ⟨_, rfl⟩, List.forall_mem_cons.mpr ⟨Or.inl ⟨_, rfl⟩, fun v hv => nomatch hv⟩⟩) (Nat.le_of_ble_eq_true rfl) ex r1 (Or.inl ⟨_, rfl⟩) (Nat.le_of_ble_eq_true rfl) (by omega) (by omega) S (fun H1 locs1 S => ?_)
  refine lw_W C.1 C.2.1 C.2.2.2.1 (lw_Ks C.2.2.2.2.1 _) (ad := fun _ => 0) (sa := lw_sa b qx qm qo) 1 (pc := 645) (pc' := 646) (L := lw_L i u w) (L' := lw_L i u w) (st := [.int z]) (st' := [.retAddr 11, .int z]) rfl hl (fun ls hl => ?_)
  refine lw_ld C S (pc := 646) (k := 1) (kc := 1) (st := [.retAddr 11, .int z]) (nI_add i 1) (by omega) rfl dL_law_651 hl (fun ls hl => ?_)
  refine lw_ld C S (pc := 652) (k := 2) (kc := 2) (st := [.int (xs (i + 1)), .retAddr 11, .int z]) (nI_add i 2) (by omega) rfl dL_law_657 hl (fun ls hl => ?_)
  refine lw_callM (pc := 658) (as := [.int (xs (i + 1)), .int (xs (i + 2))]) (rest := [.int z]) C hl.1.1 dL_law_658 rfl rfl (List.forall_mem_cons.mpr ⟨Or.inl ⟨_, rfl⟩, List.forall_mem_cons.mpr ⟨Or.inl ⟨_, rfl⟩, fun v hv => nomatch hv⟩⟩) (Nat.le_of_ble_eq_true rfl) em r2 (Or.inl ⟨_, rfl⟩) (Nat.le_of_ble_eq_true rfl) (by omega) (by omega) S (fun H1 locs1 S => ?_)
  refine lw_W C.1 C.2.1 C.2.2.2.1 (lw_Ks C.2.2.2.2.1 _) (ad := fun _ => 0) (sa := lw_sa b qx qm qo) 1 (pc := 661) (pc' := 1514) (L := lw_L i u w) (L' := lw_L i u w) (st := [.int z, .int z]) (st' := []) (lw_br rfl) hl (fun ls hl => ?_)
  exact K hx' hm' _ _ ls _ _ _ _ hI' S hl (by omega) (by omega)
set_option maxRecDepth 100000 in
set_option maxHeartbeats 4000000 in
theorem ln_c13 {p : Program} {l : Launch} {e : Env} {s : State} {m : MethodId} {below : List Frame} {meth : Method} {c : Code} {H : Heap} {locs : List Loc} {cells slots : Nat} {Q : State → Prop} {b Ln : Nat} {xs : Nat → Int32} {sa av : Nat → Nat} {D : va_G} {hx hm : AmH} {qx qm qo : Nat} {ls : Array Slot} {i : Nat} {u w : Option Value} {Inv Inv' : AmH → AmH → Prop} (hSh : lw_Sh Inv) (C : LwC p s m c b Ln xs sa av) (S : LwS D sa s H locs hx hm qx qm qo) (hI : Inv hx hm) (hag : ln_AgI Inv Inv' m_X11_row m_X12_row [.int (xs (i + 1))]) (hi : i + 6 ≤ Ln) (hcc : cells ≤ 10000) (hss : slots ≤ 1000000) (hl : am_lr (fun _ => 0) (lw_sa b qx qm qo) ls 7 (lw_L i u w)) (K : LwK Inv' p l e s m below meth c D sa b qx qm qo i cells slots Q) : W p l e room_1 s m #[Value.ref b] below meth c H locs cells slots Q (F0 m 666 ls []) := by
  obtain ⟨⟨fx, ex⟩, ⟨fm, em⟩⟩ := hSh hx hm hI
  obtain ⟨z, hx', hm', kx, jx, km, jm, r1, r2, b1, b2, hI'⟩ := hag hx hm hI
  refine lw_W C.1 C.2.1 C.2.2.2.1 (lw_Ks C.2.2.2.2.1 _) (ad := fun _ => 0) (sa := lw_sa b qx qm qo) 1 (pc := 666) (pc' := 667) (L := lw_L i u w) (L' := lw_L i u w) (st := []) (st' := [.retAddr 10]) rfl hl (fun ls hl => ?_)
  refine lw_ld C S (pc := 667) (k := 1) (kc := 1) (st := [.retAddr 10]) (nI_add i 1) (by omega) rfl dL_law_672 hl (fun ls hl => ?_)
  refine lw_callX (pc := 673) (as := [.int (xs (i + 1))]) (rest := []) C hl.1.1 dL_law_673 rfl rfl (List.forall_mem_cons.mpr ⟨Or.inl ⟨_, rfl⟩, fun v hv => nomatch hv⟩) (Nat.le_of_ble_eq_true rfl) ex r1 (Or.inl ⟨_, rfl⟩) (Nat.le_of_ble_eq_true rfl) (by omega) (by omega) S (fun H1 locs1 S => ?_)
  refine lw_W C.1 C.2.1 C.2.2.2.1 (lw_Ks C.2.2.2.2.1 _) (ad := fun _ => 0) (sa := lw_sa b qx qm qo) 1 (pc := 676) (pc' := 677) (L := lw_L i u w) (L' := lw_L i u w) (st := [.int z]) (st' := [.retAddr 11, .int z]) rfl hl (fun ls hl => ?_)
  refine lw_ld C S (pc := 677) (k := 1) (kc := 1) (st := [.retAddr 11, .int z]) (nI_add i 1) (by omega) rfl dL_law_682 hl (fun ls hl => ?_)
  refine lw_callM (pc := 683) (as := [.int (xs (i + 1))]) (rest := [.int z]) C hl.1.1 dL_law_683 rfl rfl (List.forall_mem_cons.mpr ⟨Or.inl ⟨_, rfl⟩, fun v hv => nomatch hv⟩) (Nat.le_of_ble_eq_true rfl) em r2 (Or.inl ⟨_, rfl⟩) (Nat.le_of_ble_eq_true rfl) (by omega) (by omega) S (fun H1 locs1 S => ?_)
  refine lw_W C.1 C.2.1 C.2.2.2.1 (lw_Ks C.2.2.2.2.1 _) (ad := fun _ => 0) (sa := lw_sa b qx qm qo) 1 (pc := 686) (pc' := 1514) (L := lw_L i u w) (L' := lw_L i u w) (st := [.int z, .int z]) (st' := []) (lw_br rfl) hl (fun ls hl => ?_)
  exact K hx' hm' _ _ ls _ _ _ _ hI' S hl (by omega) (by omega)
set_option maxRecDepth 100000 in
set_option maxHeartbeats 4000000 in
theorem ln_c14 {p : Program} {l : Launch} {e : Env} {s : State} {m : MethodId} {below : List Frame} {meth : Method} {c : Code} {H : Heap} {locs : List Loc} {cells slots : Nat} {Q : State → Prop} {b Ln : Nat} {xs : Nat → Int32} {sa av : Nat → Nat} {D : va_G} {hx hm : AmH} {qx qm qo : Nat} {ls : Array Slot} {i : Nat} {u w : Option Value} {Inv Inv' : AmH → AmH → Prop} (hSh : lw_Sh Inv) (C : LwC p s m c b Ln xs sa av) (S : LwS D sa s H locs hx hm qx qm qo) (hI : Inv hx hm) (hag : ln_AgL Inv Inv' m_X11_left m_X12_left [.int (xs (i + 1)), .int (xs (i + 2))]) (hi : i + 6 ≤ Ln) (hcc : cells ≤ 10000) (hss : slots ≤ 1000000) (hl : am_lr (fun _ => 0) (lw_sa b qx qm qo) ls 7 (lw_L i u w)) (K : LwK Inv' p l e s m below meth c D sa b qx qm qo i cells slots Q) : W p l e room_1 s m #[Value.ref b] below meth c H locs cells slots Q (F0 m 691 ls []) := by
  obtain ⟨⟨fx, ex⟩, ⟨fm, em⟩⟩ := hSh hx hm hI
  obtain ⟨z, hx', hm', kx, jx, km, jm, r1, r2, b1, b2, hI'⟩ := hag hx hm hI
  refine lw_W C.1 C.2.1 C.2.2.2.1 (lw_Ks C.2.2.2.2.1 _) (ad := fun _ => 0) (sa := lw_sa b qx qm qo) 1 (pc := 691) (pc' := 692) (L := lw_L i u w) (L' := lw_L i u w) (st := []) (st' := [.retAddr 10]) rfl hl (fun ls hl => ?_)
  refine lw_ld C S (pc := 692) (k := 1) (kc := 1) (st := [.retAddr 10]) (nI_add i 1) (by omega) rfl dL_law_697 hl (fun ls hl => ?_)
  refine lw_ld C S (pc := 698) (k := 2) (kc := 2) (st := [.int (xs (i + 1)), .retAddr 10]) (nI_add i 2) (by omega) rfl dL_law_703 hl (fun ls hl => ?_)
  refine lw_callX (pc := 704) (as := [.int (xs (i + 1)), .int (xs (i + 2))]) (rest := []) C hl.1.1 dL_law_704 rfl rfl (List.forall_mem_cons.mpr ⟨Or.inl ⟨_, rfl⟩, List.forall_mem_cons.mpr ⟨Or.inl ⟨_, rfl⟩, fun v hv => nomatch hv⟩⟩) (Nat.le_of_ble_eq_true rfl) ex r1 (Or.inr ⟨_, rfl⟩) (Nat.le_of_ble_eq_true rfl) (by omega) (by omega) S (fun H1 locs1 S => ?_)
  refine lw_W C.1 C.2.1 C.2.2.2.1 (lw_Ks C.2.2.2.2.1 _) (ad := fun _ => 0) (sa := lw_sa b qx qm qo) 1 (pc := 707) (pc' := 708) (L := lw_L i u w) (L' := lw_L i u w) (st := [.long z]) (st' := [.retAddr 11, .long z]) rfl hl (fun ls hl => ?_)
  refine lw_ld C S (pc := 708) (k := 1) (kc := 1) (st := [.retAddr 11, .long z]) (nI_add i 1) (by omega) rfl dL_law_713 hl (fun ls hl => ?_)
  refine lw_ld C S (pc := 714) (k := 2) (kc := 2) (st := [.int (xs (i + 1)), .retAddr 11, .long z]) (nI_add i 2) (by omega) rfl dL_law_719 hl (fun ls hl => ?_)
  refine lw_callM (pc := 720) (as := [.int (xs (i + 1)), .int (xs (i + 2))]) (rest := [.long z]) C hl.1.1 dL_law_720 rfl rfl (List.forall_mem_cons.mpr ⟨Or.inl ⟨_, rfl⟩, List.forall_mem_cons.mpr ⟨Or.inl ⟨_, rfl⟩, fun v hv => nomatch hv⟩⟩) (Nat.le_of_ble_eq_true rfl) em r2 (Or.inr ⟨_, rfl⟩) (Nat.le_of_ble_eq_true rfl) (by omega) (by omega) S (fun H1 locs1 S => ?_)
  refine lw_W C.1 C.2.1 C.2.2.2.1 (lw_Ks C.2.2.2.2.1 _) (ad := fun _ => 0) (sa := lw_sa b qx qm qo) 1 (pc := 723) (pc' := 724) (L := lw_L i u w) (L' := lw_L i u w) (st := [.long z, .long z]) (st' := [.int (lg_cmp z z)]) rfl hl (fun ls hl => ?_)
  rw [show lg_cmp z z = 0 from lg_cmp_self z]
  refine lw_W C.1 C.2.1 C.2.2.2.1 (lw_Ks C.2.2.2.2.1 _) (ad := fun _ => 0) (sa := lw_sa b qx qm qo) 1 (pc := 724) (pc' := 1514) (L := lw_L i u w) (L' := lw_L i u w) (st := [.int 0]) (st' := []) rfl hl (fun ls hl => ?_)
  exact K hx' hm' _ _ ls _ _ _ _ hI' S hl (by omega) (by omega)
set_option maxRecDepth 100000 in
set_option maxHeartbeats 4000000 in
theorem ln_c15 {p : Program} {l : Launch} {e : Env} {s : State} {m : MethodId} {below : List Frame} {meth : Method} {c : Code} {H : Heap} {locs : List Loc} {cells slots : Nat} {Q : State → Prop} {b Ln : Nat} {xs : Nat → Int32} {sa av : Nat → Nat} {D : va_G} {hx hm : AmH} {qx qm qo : Nat} {ls : Array Slot} {i : Nat} {u w : Option Value} {Inv Inv' : AmH → AmH → Prop} (hSh : lw_Sh Inv) (C : LwC p s m c b Ln xs sa av) (S : LwS D sa s H locs hx hm qx qm qo) (hI : Inv hx hm) (hag : ln_AgI Inv Inv' m_X11_aside m_X12_aside [.int (xs (i + 1))]) (hi : i + 6 ≤ Ln) (hcc : cells ≤ 10000) (hss : slots ≤ 1000000) (hl : am_lr (fun _ => 0) (lw_sa b qx qm qo) ls 7 (lw_L i u w)) (K : LwK Inv' p l e s m below meth c D sa b qx qm qo i cells slots Q) : W p l e room_1 s m #[Value.ref b] below meth c H locs cells slots Q (F0 m 729 ls []) := by
  obtain ⟨⟨fx, ex⟩, ⟨fm, em⟩⟩ := hSh hx hm hI
  obtain ⟨z, hx', hm', kx, jx, km, jm, r1, r2, b1, b2, hI'⟩ := hag hx hm hI
  refine lw_W C.1 C.2.1 C.2.2.2.1 (lw_Ks C.2.2.2.2.1 _) (ad := fun _ => 0) (sa := lw_sa b qx qm qo) 1 (pc := 729) (pc' := 730) (L := lw_L i u w) (L' := lw_L i u w) (st := []) (st' := [.retAddr 10]) rfl hl (fun ls hl => ?_)
  refine lw_ld C S (pc := 730) (k := 1) (kc := 1) (st := [.retAddr 10]) (nI_add i 1) (by omega) rfl dL_law_735 hl (fun ls hl => ?_)
  refine lw_callX (pc := 736) (as := [.int (xs (i + 1))]) (rest := []) C hl.1.1 dL_law_736 rfl rfl (List.forall_mem_cons.mpr ⟨Or.inl ⟨_, rfl⟩, fun v hv => nomatch hv⟩) (Nat.le_of_ble_eq_true rfl) ex r1 (Or.inl ⟨_, rfl⟩) (Nat.le_of_ble_eq_true rfl) (by omega) (by omega) S (fun H1 locs1 S => ?_)
  refine lw_W C.1 C.2.1 C.2.2.2.1 (lw_Ks C.2.2.2.2.1 _) (ad := fun _ => 0) (sa := lw_sa b qx qm qo) 1 (pc := 739) (pc' := 740) (L := lw_L i u w) (L' := lw_L i u w) (st := [.int z]) (st' := [.retAddr 11, .int z]) rfl hl (fun ls hl => ?_)
  refine lw_ld C S (pc := 740) (k := 1) (kc := 1) (st := [.retAddr 11, .int z]) (nI_add i 1) (by omega) rfl dL_law_745 hl (fun ls hl => ?_)
  refine lw_callM (pc := 746) (as := [.int (xs (i + 1))]) (rest := [.int z]) C hl.1.1 dL_law_746 rfl rfl (List.forall_mem_cons.mpr ⟨Or.inl ⟨_, rfl⟩, fun v hv => nomatch hv⟩) (Nat.le_of_ble_eq_true rfl) em r2 (Or.inl ⟨_, rfl⟩) (Nat.le_of_ble_eq_true rfl) (by omega) (by omega) S (fun H1 locs1 S => ?_)
  refine lw_W C.1 C.2.1 C.2.2.2.1 (lw_Ks C.2.2.2.2.1 _) (ad := fun _ => 0) (sa := lw_sa b qx qm qo) 1 (pc := 749) (pc' := 1514) (L := lw_L i u w) (L' := lw_L i u w) (st := [.int z, .int z]) (st' := []) (lw_br rfl) hl (fun ls hl => ?_)
  exact K hx' hm' _ _ ls _ _ _ _ hI' S hl (by omega) (by omega)
set_option maxRecDepth 100000 in
set_option maxHeartbeats 4000000 in
theorem ln_c16 {p : Program} {l : Launch} {e : Env} {s : State} {m : MethodId} {below : List Frame} {meth : Method} {c : Code} {H : Heap} {locs : List Loc} {cells slots : Nat} {Q : State → Prop} {b Ln : Nat} {xs : Nat → Int32} {sa av : Nat → Nat} {D : va_G} {hx hm : AmH} {qx qm qo : Nat} {ls : Array Slot} {i : Nat} {u w : Option Value} {Inv Inv' : AmH → AmH → Prop} (hSh : lw_Sh Inv) (C : LwC p s m c b Ln xs sa av) (S : LwS D sa s H locs hx hm qx qm qo) (hI : Inv hx hm) (hag : ln_AgI Inv Inv' m_X11_steps m_X12_steps [.int (xs (i + 1))]) (hi : i + 6 ≤ Ln) (hcc : cells ≤ 10000) (hss : slots ≤ 1000000) (hl : am_lr (fun _ => 0) (lw_sa b qx qm qo) ls 7 (lw_L i u w)) (K : LwK Inv' p l e s m below meth c D sa b qx qm qo i cells slots Q) : W p l e room_1 s m #[Value.ref b] below meth c H locs cells slots Q (F0 m 754 ls []) := by
  obtain ⟨⟨fx, ex⟩, ⟨fm, em⟩⟩ := hSh hx hm hI
  obtain ⟨z, hx', hm', kx, jx, km, jm, r1, r2, b1, b2, hI'⟩ := hag hx hm hI
  refine lw_W C.1 C.2.1 C.2.2.2.1 (lw_Ks C.2.2.2.2.1 _) (ad := fun _ => 0) (sa := lw_sa b qx qm qo) 1 (pc := 754) (pc' := 755) (L := lw_L i u w) (L' := lw_L i u w) (st := []) (st' := [.retAddr 10]) rfl hl (fun ls hl => ?_)
  refine lw_ld C S (pc := 755) (k := 1) (kc := 1) (st := [.retAddr 10]) (nI_add i 1) (by omega) rfl dL_law_760 hl (fun ls hl => ?_)
  refine lw_callX (pc := 761) (as := [.int (xs (i + 1))]) (rest := []) C hl.1.1 dL_law_761 rfl rfl (List.forall_mem_cons.mpr ⟨Or.inl ⟨_, rfl⟩, fun v hv => nomatch hv⟩) (Nat.le_of_ble_eq_true rfl) ex r1 (Or.inl ⟨_, rfl⟩) (Nat.le_of_ble_eq_true rfl) (by omega) (by omega) S (fun H1 locs1 S => ?_)
  refine lw_W C.1 C.2.1 C.2.2.2.1 (lw_Ks C.2.2.2.2.1 _) (ad := fun _ => 0) (sa := lw_sa b qx qm qo) 1 (pc := 764) (pc' := 765) (L := lw_L i u w) (L' := lw_L i u w) (st := [.int z]) (st' := [.retAddr 11, .int z]) rfl hl (fun ls hl => ?_)
  refine lw_ld C S (pc := 765) (k := 1) (kc := 1) (st := [.retAddr 11, .int z]) (nI_add i 1) (by omega) rfl dL_law_770 hl (fun ls hl => ?_)
  refine lw_callM (pc := 771) (as := [.int (xs (i + 1))]) (rest := [.int z]) C hl.1.1 dL_law_771 rfl rfl (List.forall_mem_cons.mpr ⟨Or.inl ⟨_, rfl⟩, fun v hv => nomatch hv⟩) (Nat.le_of_ble_eq_true rfl) em r2 (Or.inl ⟨_, rfl⟩) (Nat.le_of_ble_eq_true rfl) (by omega) (by omega) S (fun H1 locs1 S => ?_)
  refine lw_W C.1 C.2.1 C.2.2.2.1 (lw_Ks C.2.2.2.2.1 _) (ad := fun _ => 0) (sa := lw_sa b qx qm qo) 1 (pc := 774) (pc' := 1514) (L := lw_L i u w) (L' := lw_L i u w) (st := [.int z, .int z]) (st' := []) (lw_br rfl) hl (fun ls hl => ?_)
  exact K hx' hm' _ _ ls _ _ _ _ hI' S hl (by omega) (by omega)
set_option maxRecDepth 100000 in
set_option maxHeartbeats 4000000 in
theorem ln_c17 {p : Program} {l : Launch} {e : Env} {s : State} {m : MethodId} {below : List Frame} {meth : Method} {c : Code} {H : Heap} {locs : List Loc} {cells slots : Nat} {Q : State → Prop} {b Ln : Nat} {xs : Nat → Int32} {sa av : Nat → Nat} {D : va_G} {hx hm : AmH} {qx qm qo : Nat} {ls : Array Slot} {i : Nat} {u w : Option Value} {Inv Inv' : AmH → AmH → Prop} (hSh : lw_Sh Inv) (C : LwC p s m c b Ln xs sa av) (S : LwS D sa s H locs hx hm qx qm qo) (hI : Inv hx hm) (hag : ln_AgI Inv Inv' m_X11_most m_X12_most []) (hi : i + 6 ≤ Ln) (hcc : cells ≤ 10000) (hss : slots ≤ 1000000) (hl : am_lr (fun _ => 0) (lw_sa b qx qm qo) ls 7 (lw_L i u w)) (K : LwK Inv' p l e s m below meth c D sa b qx qm qo i cells slots Q) : W p l e room_1 s m #[Value.ref b] below meth c H locs cells slots Q (F0 m 779 ls []) := by
  obtain ⟨⟨fx, ex⟩, ⟨fm, em⟩⟩ := hSh hx hm hI
  obtain ⟨z, hx', hm', kx, jx, km, jm, r1, r2, b1, b2, hI'⟩ := hag hx hm hI
  refine lw_W C.1 C.2.1 C.2.2.2.1 (lw_Ks C.2.2.2.2.1 _) (ad := fun _ => 0) (sa := lw_sa b qx qm qo) 1 (pc := 779) (pc' := 780) (L := lw_L i u w) (L' := lw_L i u w) (st := []) (st' := [.retAddr 10]) rfl hl (fun ls hl => ?_)
  refine lw_callX (pc := 780) (as := []) (rest := []) C hl.1.1 dL_law_780 rfl rfl (fun v hv => nomatch hv) (Nat.le_of_ble_eq_true rfl) ex r1 (Or.inl ⟨_, rfl⟩) (Nat.le_of_ble_eq_true rfl) (by omega) (by omega) S (fun H1 locs1 S => ?_)
  refine lw_W C.1 C.2.1 C.2.2.2.1 (lw_Ks C.2.2.2.2.1 _) (ad := fun _ => 0) (sa := lw_sa b qx qm qo) 1 (pc := 783) (pc' := 784) (L := lw_L i u w) (L' := lw_L i u w) (st := [.int z]) (st' := [.retAddr 11, .int z]) rfl hl (fun ls hl => ?_)
  refine lw_callM (pc := 784) (as := []) (rest := [.int z]) C hl.1.1 dL_law_784 rfl rfl (fun v hv => nomatch hv) (Nat.le_of_ble_eq_true rfl) em r2 (Or.inl ⟨_, rfl⟩) (Nat.le_of_ble_eq_true rfl) (by omega) (by omega) S (fun H1 locs1 S => ?_)
  refine lw_W C.1 C.2.1 C.2.2.2.1 (lw_Ks C.2.2.2.2.1 _) (ad := fun _ => 0) (sa := lw_sa b qx qm qo) 1 (pc := 787) (pc' := 1514) (L := lw_L i u w) (L' := lw_L i u w) (st := [.int z, .int z]) (st' := []) (lw_br rfl) hl (fun ls hl => ?_)
  exact K hx' hm' _ _ ls _ _ _ _ hI' S hl (by omega) (by omega)
set_option maxRecDepth 100000 in
set_option maxHeartbeats 4000000 in
theorem ln_c18 {p : Program} {l : Launch} {e : Env} {s : State} {m : MethodId} {below : List Frame} {meth : Method} {c : Code} {H : Heap} {locs : List Loc} {cells slots : Nat} {Q : State → Prop} {b Ln : Nat} {xs : Nat → Int32} {sa av : Nat → Nat} {D : va_G} {hx hm : AmH} {qx qm qo : Nat} {ls : Array Slot} {i : Nat} {u w : Option Value} {Inv Inv' : AmH → AmH → Prop} (hSh : lw_Sh Inv) (C : LwC p s m c b Ln xs sa av) (S : LwS D sa s H locs hx hm qx qm qo) (hI : Inv hx hm) (hag : ln_AgL Inv Inv' m_X11_dawn m_X12_dawn [.int (xs (i + 1)), .int (xs (i + 2))]) (hi : i + 6 ≤ Ln) (hcc : cells ≤ 10000) (hss : slots ≤ 1000000) (hl : am_lr (fun _ => 0) (lw_sa b qx qm qo) ls 7 (lw_L i u w)) (K : LwK Inv' p l e s m below meth c D sa b qx qm qo i cells slots Q) : W p l e room_1 s m #[Value.ref b] below meth c H locs cells slots Q (F0 m 792 ls []) := by
  obtain ⟨⟨fx, ex⟩, ⟨fm, em⟩⟩ := hSh hx hm hI
  obtain ⟨z, hx', hm', kx, jx, km, jm, r1, r2, b1, b2, hI'⟩ := hag hx hm hI
  refine lw_W C.1 C.2.1 C.2.2.2.1 (lw_Ks C.2.2.2.2.1 _) (ad := fun _ => 0) (sa := lw_sa b qx qm qo) 1 (pc := 792) (pc' := 793) (L := lw_L i u w) (L' := lw_L i u w) (st := []) (st' := [.retAddr 10]) rfl hl (fun ls hl => ?_)
  refine lw_ld C S (pc := 793) (k := 1) (kc := 1) (st := [.retAddr 10]) (nI_add i 1) (by omega) rfl dL_law_798 hl (fun ls hl => ?_)
  refine lw_ld C S (pc := 799) (k := 2) (kc := 2) (st := [.int (xs (i + 1)), .retAddr 10]) (nI_add i 2) (by omega) rfl dL_law_804 hl (fun ls hl => ?_)
  refine lw_callX (pc := 805) (as := [.int (xs (i + 1)), .int (xs (i + 2))]) (rest := []) C hl.1.1 dL_law_805 rfl rfl (List.forall_mem_cons.mpr ⟨Or.inl ⟨_, rfl⟩, List.forall_mem_cons.mpr ⟨Or.inl ⟨_, rfl⟩, fun v hv => nomatch hv⟩⟩) (Nat.le_of_ble_eq_true rfl) ex r1 (Or.inr ⟨_, rfl⟩) (Nat.le_of_ble_eq_true rfl) (by omega) (by omega) S (fun H1 locs1 S => ?_)
  refine lw_W C.1 C.2.1 C.2.2.2.1 (lw_Ks C.2.2.2.2.1 _) (ad := fun _ => 0) (sa := lw_sa b qx qm qo) 1 (pc := 808) (pc' := 809) (L := lw_L i u w) (L' := lw_L i u w) (st := [.long z]) (st' := [.retAddr 11, .long z]) rfl hl (fun ls hl => ?_)
  refine lw_ld C S (pc := 809) (k := 1) (kc := 1) (st := [.retAddr 11, .long z]) (nI_add i 1) (by omega) rfl dL_law_814 hl (fun ls hl => ?_)
  refine lw_ld C S (pc := 815) (k := 2) (kc := 2) (st := [.int (xs (i + 1)), .retAddr 11, .long z]) (nI_add i 2) (by omega) rfl dL_law_820 hl (fun ls hl => ?_)
  refine lw_callM (pc := 821) (as := [.int (xs (i + 1)), .int (xs (i + 2))]) (rest := [.long z]) C hl.1.1 dL_law_821 rfl rfl (List.forall_mem_cons.mpr ⟨Or.inl ⟨_, rfl⟩, List.forall_mem_cons.mpr ⟨Or.inl ⟨_, rfl⟩, fun v hv => nomatch hv⟩⟩) (Nat.le_of_ble_eq_true rfl) em r2 (Or.inr ⟨_, rfl⟩) (Nat.le_of_ble_eq_true rfl) (by omega) (by omega) S (fun H1 locs1 S => ?_)
  refine lw_W C.1 C.2.1 C.2.2.2.1 (lw_Ks C.2.2.2.2.1 _) (ad := fun _ => 0) (sa := lw_sa b qx qm qo) 1 (pc := 824) (pc' := 825) (L := lw_L i u w) (L' := lw_L i u w) (st := [.long z, .long z]) (st' := [.int (lg_cmp z z)]) rfl hl (fun ls hl => ?_)
  rw [show lg_cmp z z = 0 from lg_cmp_self z]
  refine lw_W C.1 C.2.1 C.2.2.2.1 (lw_Ks C.2.2.2.2.1 _) (ad := fun _ => 0) (sa := lw_sa b qx qm qo) 1 (pc := 825) (pc' := 1514) (L := lw_L i u w) (L' := lw_L i u w) (st := [.int 0]) (st' := []) rfl hl (fun ls hl => ?_)
  exact K hx' hm' _ _ ls _ _ _ _ hI' S hl (by omega) (by omega)
set_option maxRecDepth 100000 in
set_option maxHeartbeats 4000000 in
theorem ln_c19 {p : Program} {l : Launch} {e : Env} {s : State} {m : MethodId} {below : List Frame} {meth : Method} {c : Code} {H : Heap} {locs : List Loc} {cells slots : Nat} {Q : State → Prop} {b Ln : Nat} {xs : Nat → Int32} {sa av : Nat → Nat} {D : va_G} {hx hm : AmH} {qx qm qo : Nat} {ls : Array Slot} {i : Nat} {u w : Option Value} {Inv Inv' : AmH → AmH → Prop} (hSh : lw_Sh Inv) (C : LwC p s m c b Ln xs sa av) (S : LwS D sa s H locs hx hm qx qm qo) (hI : Inv hx hm) (hag : ln_AgI Inv Inv' m_X11_breaks m_X12_breaks [.int (xs (i + 1))]) (hi : i + 6 ≤ Ln) (hcc : cells ≤ 10000) (hss : slots ≤ 1000000) (hl : am_lr (fun _ => 0) (lw_sa b qx qm qo) ls 7 (lw_L i u w)) (K : LwK Inv' p l e s m below meth c D sa b qx qm qo i cells slots Q) : W p l e room_1 s m #[Value.ref b] below meth c H locs cells slots Q (F0 m 830 ls []) := by
  obtain ⟨⟨fx, ex⟩, ⟨fm, em⟩⟩ := hSh hx hm hI
  obtain ⟨z, hx', hm', kx, jx, km, jm, r1, r2, b1, b2, hI'⟩ := hag hx hm hI
  refine lw_W C.1 C.2.1 C.2.2.2.1 (lw_Ks C.2.2.2.2.1 _) (ad := fun _ => 0) (sa := lw_sa b qx qm qo) 1 (pc := 830) (pc' := 831) (L := lw_L i u w) (L' := lw_L i u w) (st := []) (st' := [.retAddr 10]) rfl hl (fun ls hl => ?_)
  refine lw_ld C S (pc := 831) (k := 1) (kc := 1) (st := [.retAddr 10]) (nI_add i 1) (by omega) rfl dL_law_836 hl (fun ls hl => ?_)
  refine lw_callX (pc := 837) (as := [.int (xs (i + 1))]) (rest := []) C hl.1.1 dL_law_837 rfl rfl (List.forall_mem_cons.mpr ⟨Or.inl ⟨_, rfl⟩, fun v hv => nomatch hv⟩) (Nat.le_of_ble_eq_true rfl) ex r1 (Or.inl ⟨_, rfl⟩) (Nat.le_of_ble_eq_true rfl) (by omega) (by omega) S (fun H1 locs1 S => ?_)
  refine lw_W C.1 C.2.1 C.2.2.2.1 (lw_Ks C.2.2.2.2.1 _) (ad := fun _ => 0) (sa := lw_sa b qx qm qo) 1 (pc := 840) (pc' := 841) (L := lw_L i u w) (L' := lw_L i u w) (st := [.int z]) (st' := [.retAddr 11, .int z]) rfl hl (fun ls hl => ?_)
  refine lw_ld C S (pc := 841) (k := 1) (kc := 1) (st := [.retAddr 11, .int z]) (nI_add i 1) (by omega) rfl dL_law_846 hl (fun ls hl => ?_)
  refine lw_callM (pc := 847) (as := [.int (xs (i + 1))]) (rest := [.int z]) C hl.1.1 dL_law_847 rfl rfl (List.forall_mem_cons.mpr ⟨Or.inl ⟨_, rfl⟩, fun v hv => nomatch hv⟩) (Nat.le_of_ble_eq_true rfl) em r2 (Or.inl ⟨_, rfl⟩) (Nat.le_of_ble_eq_true rfl) (by omega) (by omega) S (fun H1 locs1 S => ?_)
  refine lw_W C.1 C.2.1 C.2.2.2.1 (lw_Ks C.2.2.2.2.1 _) (ad := fun _ => 0) (sa := lw_sa b qx qm qo) 1 (pc := 850) (pc' := 1514) (L := lw_L i u w) (L' := lw_L i u w) (st := [.int z, .int z]) (st' := []) (lw_br rfl) hl (fun ls hl => ?_)
  exact K hx' hm' _ _ ls _ _ _ _ hI' S hl (by omega) (by omega)
set_option maxRecDepth 100000 in
set_option maxHeartbeats 4000000 in
theorem ln_c20 {p : Program} {l : Launch} {e : Env} {s : State} {m : MethodId} {below : List Frame} {meth : Method} {c : Code} {H : Heap} {locs : List Loc} {cells slots : Nat} {Q : State → Prop} {b Ln : Nat} {xs : Nat → Int32} {sa av : Nat → Nat} {D : va_G} {hx hm : AmH} {qx qm qo : Nat} {ls : Array Slot} {i : Nat} {u w : Option Value} {Inv Inv' : AmH → AmH → Prop} (hSh : lw_Sh Inv) (C : LwC p s m c b Ln xs sa av) (S : LwS D sa s H locs hx hm qx qm qo) (hI : Inv hx hm) (hag : ln_AgI Inv Inv' m_X11_by m_X12_by [.int (xs (i + 1)), .int (xs (i + 2))]) (hi : i + 6 ≤ Ln) (hcc : cells ≤ 10000) (hss : slots ≤ 1000000) (hl : am_lr (fun _ => 0) (lw_sa b qx qm qo) ls 7 (lw_L i u w)) (K : LwK Inv' p l e s m below meth c D sa b qx qm qo i cells slots Q) : W p l e room_1 s m #[Value.ref b] below meth c H locs cells slots Q (F0 m 855 ls []) := by
  obtain ⟨⟨fx, ex⟩, ⟨fm, em⟩⟩ := hSh hx hm hI
  obtain ⟨z, hx', hm', kx, jx, km, jm, r1, r2, b1, b2, hI'⟩ := hag hx hm hI
  refine lw_W C.1 C.2.1 C.2.2.2.1 (lw_Ks C.2.2.2.2.1 _) (ad := fun _ => 0) (sa := lw_sa b qx qm qo) 1 (pc := 855) (pc' := 856) (L := lw_L i u w) (L' := lw_L i u w) (st := []) (st' := [.retAddr 10]) rfl hl (fun ls hl => ?_)
  refine lw_ld C S (pc := 856) (k := 1) (kc := 1) (st := [.retAddr 10]) (nI_add i 1) (by omega) rfl dL_law_861 hl (fun ls hl => ?_)
  refine lw_ld C S (pc := 862) (k := 2) (kc := 2) (st := [.int (xs (i + 1)), .retAddr 10]) (nI_add i 2) (by omega) rfl dL_law_867 hl (fun ls hl => ?_)
  refine lw_callX (pc := 868) (as := [.int (xs (i + 1)), .int (xs (i + 2))]) (rest := []) C hl.1.1 dL_law_868 rfl rfl (List.forall_mem_cons.mpr ⟨Or.inl ⟨_, rfl⟩, List.forall_mem_cons.mpr ⟨Or.inl ⟨_, rfl⟩, fun v hv => nomatch hv⟩⟩) (Nat.le_of_ble_eq_true rfl) ex r1 (Or.inl ⟨_, rfl⟩) (Nat.le_of_ble_eq_true rfl) (by omega) (by omega) S (fun H1 locs1 S => ?_)
  refine lw_W C.1 C.2.1 C.2.2.2.1 (lw_Ks C.2.2.2.2.1 _) (ad := fun _ => 0) (sa := lw_sa b qx qm qo) 1 (pc := 871) (pc' := 872) (L := lw_L i u w) (L' := lw_L i u w) (st := [.int z]) (st' := [.retAddr 11, .int z]) rfl hl (fun ls hl => ?_)
  refine lw_ld C S (pc := 872) (k := 1) (kc := 1) (st := [.retAddr 11, .int z]) (nI_add i 1) (by omega) rfl dL_law_877 hl (fun ls hl => ?_)
  refine lw_ld C S (pc := 878) (k := 2) (kc := 2) (st := [.int (xs (i + 1)), .retAddr 11, .int z]) (nI_add i 2) (by omega) rfl dL_law_883 hl (fun ls hl => ?_)
  refine lw_callM (pc := 884) (as := [.int (xs (i + 1)), .int (xs (i + 2))]) (rest := [.int z]) C hl.1.1 dL_law_884 rfl rfl (List.forall_mem_cons.mpr ⟨Or.inl ⟨_, rfl⟩, List.forall_mem_cons.mpr ⟨Or.inl ⟨_, rfl⟩, fun v hv => nomatch hv⟩⟩) (Nat.le_of_ble_eq_true rfl) em r2 (Or.inl ⟨_, rfl⟩) (Nat.le_of_ble_eq_true rfl) (by omega) (by omega) S (fun H1 locs1 S => ?_)
  refine lw_W C.1 C.2.1 C.2.2.2.1 (lw_Ks C.2.2.2.2.1 _) (ad := fun _ => 0) (sa := lw_sa b qx qm qo) 1 (pc := 887) (pc' := 1514) (L := lw_L i u w) (L' := lw_L i u w) (st := [.int z, .int z]) (st' := []) (lw_br rfl) hl (fun ls hl => ?_)
  exact K hx' hm' _ _ ls _ _ _ _ hI' S hl (by omega) (by omega)
set_option maxRecDepth 100000 in
set_option maxHeartbeats 4000000 in
theorem ln_c21 {p : Program} {l : Launch} {e : Env} {s : State} {m : MethodId} {below : List Frame} {meth : Method} {c : Code} {H : Heap} {locs : List Loc} {cells slots : Nat} {Q : State → Prop} {b Ln : Nat} {xs : Nat → Int32} {sa av : Nat → Nat} {D : va_G} {hx hm : AmH} {qx qm qo : Nat} {ls : Array Slot} {i : Nat} {u w : Option Value} {Inv Inv' : AmH → AmH → Prop} (hSh : lw_Sh Inv) (C : LwC p s m c b Ln xs sa av) (S : LwS D sa s H locs hx hm qx qm qo) (hI : Inv hx hm) (hag : ln_AgI Inv Inv' m_X11_gives m_X12_gives [.int (xs (i + 1)), .int (xs (i + 2))]) (hi : i + 6 ≤ Ln) (hcc : cells ≤ 10000) (hss : slots ≤ 1000000) (hl : am_lr (fun _ => 0) (lw_sa b qx qm qo) ls 7 (lw_L i u w)) (K : LwK Inv' p l e s m below meth c D sa b qx qm qo i cells slots Q) : W p l e room_1 s m #[Value.ref b] below meth c H locs cells slots Q (F0 m 892 ls []) := by
  obtain ⟨⟨fx, ex⟩, ⟨fm, em⟩⟩ := hSh hx hm hI
  obtain ⟨z, hx', hm', kx, jx, km, jm, r1, r2, b1, b2, hI'⟩ := hag hx hm hI
  refine lw_W C.1 C.2.1 C.2.2.2.1 (lw_Ks C.2.2.2.2.1 _) (ad := fun _ => 0) (sa := lw_sa b qx qm qo) 1 (pc := 892) (pc' := 893) (L := lw_L i u w) (L' := lw_L i u w) (st := []) (st' := [.retAddr 10]) rfl hl (fun ls hl => ?_)
  refine lw_ld C S (pc := 893) (k := 1) (kc := 1) (st := [.retAddr 10]) (nI_add i 1) (by omega) rfl dL_law_898 hl (fun ls hl => ?_)
  refine lw_ld C S (pc := 899) (k := 2) (kc := 2) (st := [.int (xs (i + 1)), .retAddr 10]) (nI_add i 2) (by omega) rfl dL_law_904 hl (fun ls hl => ?_)
  refine lw_callX (pc := 905) (as := [.int (xs (i + 1)), .int (xs (i + 2))]) (rest := []) C hl.1.1 dL_law_905 rfl rfl (List.forall_mem_cons.mpr ⟨Or.inl ⟨_, rfl⟩, List.forall_mem_cons.mpr ⟨Or.inl ⟨_, rfl⟩, fun v hv => nomatch hv⟩⟩) (Nat.le_of_ble_eq_true rfl) ex r1 (Or.inl ⟨_, rfl⟩) (Nat.le_of_ble_eq_true rfl) (by omega) (by omega) S (fun H1 locs1 S => ?_)
  refine lw_W C.1 C.2.1 C.2.2.2.1 (lw_Ks C.2.2.2.2.1 _) (ad := fun _ => 0) (sa := lw_sa b qx qm qo) 1 (pc := 908) (pc' := 909) (L := lw_L i u w) (L' := lw_L i u w) (st := [.int z]) (st' := [.retAddr 11, .int z]) rfl hl (fun ls hl => ?_)
  refine lw_ld C S (pc := 909) (k := 1) (kc := 1) (st := [.retAddr 11, .int z]) (nI_add i 1) (by omega) rfl dL_law_914 hl (fun ls hl => ?_)
  refine lw_ld C S (pc := 915) (k := 2) (kc := 2) (st := [.int (xs (i + 1)), .retAddr 11, .int z]) (nI_add i 2) (by omega) rfl dL_law_920 hl (fun ls hl => ?_)
  refine lw_callM (pc := 921) (as := [.int (xs (i + 1)), .int (xs (i + 2))]) (rest := [.int z]) C hl.1.1 dL_law_921 rfl rfl (List.forall_mem_cons.mpr ⟨Or.inl ⟨_, rfl⟩, List.forall_mem_cons.mpr ⟨Or.inl ⟨_, rfl⟩, fun v hv => nomatch hv⟩⟩) (Nat.le_of_ble_eq_true rfl) em r2 (Or.inl ⟨_, rfl⟩) (Nat.le_of_ble_eq_true rfl) (by omega) (by omega) S (fun H1 locs1 S => ?_)
  refine lw_W C.1 C.2.1 C.2.2.2.1 (lw_Ks C.2.2.2.2.1 _) (ad := fun _ => 0) (sa := lw_sa b qx qm qo) 1 (pc := 924) (pc' := 1514) (L := lw_L i u w) (L' := lw_L i u w) (st := [.int z, .int z]) (st' := []) (lw_br rfl) hl (fun ls hl => ?_)
  exact K hx' hm' _ _ ls _ _ _ _ hI' S hl (by omega) (by omega)
set_option maxRecDepth 100000 in
set_option maxHeartbeats 4000000 in
theorem ln_c22 {p : Program} {l : Launch} {e : Env} {s : State} {m : MethodId} {below : List Frame} {meth : Method} {c : Code} {H : Heap} {locs : List Loc} {cells slots : Nat} {Q : State → Prop} {b Ln : Nat} {xs : Nat → Int32} {sa av : Nat → Nat} {D : va_G} {hx hm : AmH} {qx qm qo : Nat} {ls : Array Slot} {i : Nat} {u w : Option Value} {Inv Inv' : AmH → AmH → Prop} (hSh : lw_Sh Inv) (C : LwC p s m c b Ln xs sa av) (S : LwS D sa s H locs hx hm qx qm qo) (hI : Inv hx hm) (hag : ln_AgI Inv Inv' m_X11_run m_X12_run [.int (xs (i + 1)), .int (xs (i + 2))]) (hi : i + 6 ≤ Ln) (hcc : cells ≤ 10000) (hss : slots ≤ 1000000) (hl : am_lr (fun _ => 0) (lw_sa b qx qm qo) ls 7 (lw_L i u w)) (K : LwK Inv' p l e s m below meth c D sa b qx qm qo i cells slots Q) : W p l e room_1 s m #[Value.ref b] below meth c H locs cells slots Q (F0 m 929 ls []) := by
  obtain ⟨⟨fx, ex⟩, ⟨fm, em⟩⟩ := hSh hx hm hI
  obtain ⟨z, hx', hm', kx, jx, km, jm, r1, r2, b1, b2, hI'⟩ := hag hx hm hI
  refine lw_W C.1 C.2.1 C.2.2.2.1 (lw_Ks C.2.2.2.2.1 _) (ad := fun _ => 0) (sa := lw_sa b qx qm qo) 1 (pc := 929) (pc' := 930) (L := lw_L i u w) (L' := lw_L i u w) (st := []) (st' := [.retAddr 10]) rfl hl (fun ls hl => ?_)
  refine lw_ld C S (pc := 930) (k := 1) (kc := 1) (st := [.retAddr 10]) (nI_add i 1) (by omega) rfl dL_law_935 hl (fun ls hl => ?_)
  refine lw_ld C S (pc := 936) (k := 2) (kc := 2) (st := [.int (xs (i + 1)), .retAddr 10]) (nI_add i 2) (by omega) rfl dL_law_941 hl (fun ls hl => ?_)
  refine lw_callX (pc := 942) (as := [.int (xs (i + 1)), .int (xs (i + 2))]) (rest := []) C hl.1.1 dL_law_942 rfl rfl (List.forall_mem_cons.mpr ⟨Or.inl ⟨_, rfl⟩, List.forall_mem_cons.mpr ⟨Or.inl ⟨_, rfl⟩, fun v hv => nomatch hv⟩⟩) (Nat.le_of_ble_eq_true rfl) ex r1 (Or.inl ⟨_, rfl⟩) (Nat.le_of_ble_eq_true rfl) (by omega) (by omega) S (fun H1 locs1 S => ?_)
  refine lw_W C.1 C.2.1 C.2.2.2.1 (lw_Ks C.2.2.2.2.1 _) (ad := fun _ => 0) (sa := lw_sa b qx qm qo) 1 (pc := 945) (pc' := 946) (L := lw_L i u w) (L' := lw_L i u w) (st := [.int z]) (st' := [.retAddr 11, .int z]) rfl hl (fun ls hl => ?_)
  refine lw_ld C S (pc := 946) (k := 1) (kc := 1) (st := [.retAddr 11, .int z]) (nI_add i 1) (by omega) rfl dL_law_951 hl (fun ls hl => ?_)
  refine lw_ld C S (pc := 952) (k := 2) (kc := 2) (st := [.int (xs (i + 1)), .retAddr 11, .int z]) (nI_add i 2) (by omega) rfl dL_law_957 hl (fun ls hl => ?_)
  refine lw_callM (pc := 958) (as := [.int (xs (i + 1)), .int (xs (i + 2))]) (rest := [.int z]) C hl.1.1 dL_law_958 rfl rfl (List.forall_mem_cons.mpr ⟨Or.inl ⟨_, rfl⟩, List.forall_mem_cons.mpr ⟨Or.inl ⟨_, rfl⟩, fun v hv => nomatch hv⟩⟩) (Nat.le_of_ble_eq_true rfl) em r2 (Or.inl ⟨_, rfl⟩) (Nat.le_of_ble_eq_true rfl) (by omega) (by omega) S (fun H1 locs1 S => ?_)
  refine lw_W C.1 C.2.1 C.2.2.2.1 (lw_Ks C.2.2.2.2.1 _) (ad := fun _ => 0) (sa := lw_sa b qx qm qo) 1 (pc := 961) (pc' := 1514) (L := lw_L i u w) (L' := lw_L i u w) (st := [.int z, .int z]) (st' := []) (lw_br rfl) hl (fun ls hl => ?_)
  exact K hx' hm' _ _ ls _ _ _ _ hI' S hl (by omega) (by omega)
set_option maxRecDepth 100000 in
set_option maxHeartbeats 4000000 in
theorem ln_c23 {p : Program} {l : Launch} {e : Env} {s : State} {m : MethodId} {below : List Frame} {meth : Method} {c : Code} {H : Heap} {locs : List Loc} {cells slots : Nat} {Q : State → Prop} {b Ln : Nat} {xs : Nat → Int32} {sa av : Nat → Nat} {D : va_G} {hx hm : AmH} {qx qm qo : Nat} {ls : Array Slot} {i : Nat} {u w : Option Value} {Inv Inv' : AmH → AmH → Prop} (hSh : lw_Sh Inv) (C : LwC p s m c b Ln xs sa av) (S : LwS D sa s H locs hx hm qx qm qo) (hI : Inv hx hm) (hag : ln_AgI Inv Inv' m_X11_worst m_X12_worst [.int (xs (i + 1)), .int (xs (i + 2))]) (hi : i + 6 ≤ Ln) (hcc : cells ≤ 10000) (hss : slots ≤ 1000000) (hl : am_lr (fun _ => 0) (lw_sa b qx qm qo) ls 7 (lw_L i u w)) (K : LwK Inv' p l e s m below meth c D sa b qx qm qo i cells slots Q) : W p l e room_1 s m #[Value.ref b] below meth c H locs cells slots Q (F0 m 966 ls []) := by
  obtain ⟨⟨fx, ex⟩, ⟨fm, em⟩⟩ := hSh hx hm hI
  obtain ⟨z, hx', hm', kx, jx, km, jm, r1, r2, b1, b2, hI'⟩ := hag hx hm hI
  refine lw_W C.1 C.2.1 C.2.2.2.1 (lw_Ks C.2.2.2.2.1 _) (ad := fun _ => 0) (sa := lw_sa b qx qm qo) 1 (pc := 966) (pc' := 967) (L := lw_L i u w) (L' := lw_L i u w) (st := []) (st' := [.retAddr 10]) rfl hl (fun ls hl => ?_)
  refine lw_ld C S (pc := 967) (k := 1) (kc := 1) (st := [.retAddr 10]) (nI_add i 1) (by omega) rfl dL_law_972 hl (fun ls hl => ?_)
  refine lw_ld C S (pc := 973) (k := 2) (kc := 2) (st := [.int (xs (i + 1)), .retAddr 10]) (nI_add i 2) (by omega) rfl dL_law_978 hl (fun ls hl => ?_)
  refine lw_callX (pc := 979) (as := [.int (xs (i + 1)), .int (xs (i + 2))]) (rest := []) C hl.1.1 dL_law_979 rfl rfl (List.forall_mem_cons.mpr ⟨Or.inl ⟨_, rfl⟩, List.forall_mem_cons.mpr ⟨Or.inl ⟨_, rfl⟩, fun v hv => nomatch hv⟩⟩) (Nat.le_of_ble_eq_true rfl) ex r1 (Or.inl ⟨_, rfl⟩) (Nat.le_of_ble_eq_true rfl) (by omega) (by omega) S (fun H1 locs1 S => ?_)
  refine lw_W C.1 C.2.1 C.2.2.2.1 (lw_Ks C.2.2.2.2.1 _) (ad := fun _ => 0) (sa := lw_sa b qx qm qo) 1 (pc := 982) (pc' := 983) (L := lw_L i u w) (L' := lw_L i u w) (st := [.int z]) (st' := [.retAddr 11, .int z]) rfl hl (fun ls hl => ?_)
  refine lw_ld C S (pc := 983) (k := 1) (kc := 1) (st := [.retAddr 11, .int z]) (nI_add i 1) (by omega) rfl dL_law_988 hl (fun ls hl => ?_)
  refine lw_ld C S (pc := 989) (k := 2) (kc := 2) (st := [.int (xs (i + 1)), .retAddr 11, .int z]) (nI_add i 2) (by omega) rfl dL_law_994 hl (fun ls hl => ?_)
  refine lw_callM (pc := 995) (as := [.int (xs (i + 1)), .int (xs (i + 2))]) (rest := [.int z]) C hl.1.1 dL_law_995 rfl rfl (List.forall_mem_cons.mpr ⟨Or.inl ⟨_, rfl⟩, List.forall_mem_cons.mpr ⟨Or.inl ⟨_, rfl⟩, fun v hv => nomatch hv⟩⟩) (Nat.le_of_ble_eq_true rfl) em r2 (Or.inl ⟨_, rfl⟩) (Nat.le_of_ble_eq_true rfl) (by omega) (by omega) S (fun H1 locs1 S => ?_)
  refine lw_W C.1 C.2.1 C.2.2.2.1 (lw_Ks C.2.2.2.2.1 _) (ad := fun _ => 0) (sa := lw_sa b qx qm qo) 1 (pc := 998) (pc' := 1514) (L := lw_L i u w) (L' := lw_L i u w) (st := [.int z, .int z]) (st' := []) (lw_br rfl) hl (fun ls hl => ?_)
  exact K hx' hm' _ _ ls _ _ _ _ hI' S hl (by omega) (by omega)
set_option maxRecDepth 100000 in
set_option maxHeartbeats 4000000 in
theorem ln_c24 {p : Program} {l : Launch} {e : Env} {s : State} {m : MethodId} {below : List Frame} {meth : Method} {c : Code} {H : Heap} {locs : List Loc} {cells slots : Nat} {Q : State → Prop} {b Ln : Nat} {xs : Nat → Int32} {sa av : Nat → Nat} {D : va_G} {hx hm : AmH} {qx qm qo : Nat} {ls : Array Slot} {i : Nat} {u w : Option Value} {Inv Inv' : AmH → AmH → Prop} (hSh : lw_Sh Inv) (C : LwC p s m c b Ln xs sa av) (S : LwS D sa s H locs hx hm qx qm qo) (hI : Inv hx hm) (hag : ln_AgI Inv Inv' m_X11_day m_X12_day [.int (xs (i + 1)), .int (xs (i + 2)), .long ((((xs (i + 3))).toInt64 <<< ((32 : Int32).toInt64 &&& 63)) ||| (((xs (i + 4))).toInt64 &&& 4294967295))]) (hi : i + 6 ≤ Ln) (hcc : cells ≤ 10000) (hss : slots ≤ 1000000) (hl : am_lr (fun _ => 0) (lw_sa b qx qm qo) ls 7 (lw_L i u w)) (K : LwK Inv' p l e s m below meth c D sa b qx qm qo i cells slots Q) : W p l e room_1 s m #[Value.ref b] below meth c H locs cells slots Q (F0 m 1003 ls []) := by
  obtain ⟨⟨fx, ex⟩, ⟨fm, em⟩⟩ := hSh hx hm hI
  obtain ⟨z, hx', hm', kx, jx, km, jm, r1, r2, b1, b2, hI'⟩ := hag hx hm hI
  refine lw_W C.1 C.2.1 C.2.2.2.1 (lw_Ks C.2.2.2.2.1 _) (ad := fun _ => 0) (sa := lw_sa b qx qm qo) 1 (pc := 1003) (pc' := 1004) (L := lw_L i u w) (L' := lw_L i u w) (st := []) (st' := [.retAddr 10]) rfl hl (fun ls hl => ?_)
  refine lw_ld C S (pc := 1004) (k := 1) (kc := 1) (st := [.retAddr 10]) (nI_add i 1) (by omega) rfl dL_law_1009 hl (fun ls hl => ?_)
  refine lw_ld C S (pc := 1010) (k := 2) (kc := 2) (st := [.int (xs (i + 1)), .retAddr 10]) (nI_add i 2) (by omega) rfl dL_law_1015 hl (fun ls hl => ?_)
  refine lw_ld C S (pc := 1016) (k := 3) (kc := 3) (st := [.int (xs (i + 2)), .int (xs (i + 1)), .retAddr 10]) (nI_add i 3) (by omega) rfl dL_law_1021 hl (fun ls hl => ?_)
  refine lw_W C.1 C.2.1 C.2.2.2.1 (lw_Ks C.2.2.2.2.1 _) (ad := fun _ => 0) (sa := lw_sa b qx qm qo) 3 (pc := 1022) (pc' := 1026) (L := lw_L i u w) (L' := lw_L i u w) (st := [.int (xs (i + 3)), .int (xs (i + 2)), .int (xs (i + 1)), .retAddr 10]) (st' := [.long (((xs (i + 3))).toInt64 <<< ((32 : Int32).toInt64 &&& 63)), .int (xs (i + 2)), .int (xs (i + 1)), .retAddr 10]) rfl hl (fun ls hl => ?_)
  refine lw_ld C S (pc := 1026) (k := 4) (kc := 4) (st := [.long (((xs (i + 3))).toInt64 <<< ((32 : Int32).toInt64 &&& 63)), .int (xs (i + 2)), .int (xs (i + 1)), .retAddr 10]) (nI_add i 4) (by omega) rfl dL_law_1031 hl (fun ls hl => ?_)
  refine lw_W C.1 C.2.1 C.2.2.2.1 (lw_Ks C.2.2.2.2.1 _) (ad := fun _ => 0) (sa := lw_sa b qx qm qo) 4 (pc := 1032) (pc' := 1038) (L := lw_L i u w) (L' := lw_L i u w) (st := [.int (xs (i + 4)), .long (((xs (i + 3))).toInt64 <<< ((32 : Int32).toInt64 &&& 63)), .int (xs (i + 2)), .int (xs (i + 1)), .retAddr 10]) (st' := [.long ((((xs (i + 3))).toInt64 <<< ((32 : Int32).toInt64 &&& 63)) ||| (((xs (i + 4))).toInt64 &&& 4294967295)), .int (xs (i + 2)), .int (xs (i + 1)), .retAddr 10]) rfl hl (fun ls hl => ?_)
  refine lw_callX (pc := 1038) (as := [.int (xs (i + 1)), .int (xs (i + 2)), .long ((((xs (i + 3))).toInt64 <<< ((32 : Int32).toInt64 &&& 63)) ||| (((xs (i + 4))).toInt64 &&& 4294967295))]) (rest := []) C hl.1.1 dL_law_1038 rfl rfl (List.forall_mem_cons.mpr ⟨Or.inl ⟨_, rfl⟩, List.forall_mem_cons.mpr ⟨Or.inl ⟨_, rfl⟩, List.forall_mem_cons.mpr ⟨Or.inr ⟨_, rfl⟩, fun v hv => nomatch hv⟩⟩⟩) (Nat.le_of_ble_eq_true rfl) ex r1 (Or.inl ⟨_, rfl⟩) (Nat.le_of_ble_eq_true rfl) (by omega) (by omega) S (fun H1 locs1 S => ?_)
  refine lw_W C.1 C.2.1 C.2.2.2.1 (lw_Ks C.2.2.2.2.1 _) (ad := fun _ => 0) (sa := lw_sa b qx qm qo) 1 (pc := 1041) (pc' := 1042) (L := lw_L i u w) (L' := lw_L i u w) (st := [.int z]) (st' := [.retAddr 11, .int z]) rfl hl (fun ls hl => ?_)
  refine lw_ld C S (pc := 1042) (k := 1) (kc := 1) (st := [.retAddr 11, .int z]) (nI_add i 1) (by omega) rfl dL_law_1047 hl (fun ls hl => ?_)
  refine lw_ld C S (pc := 1048) (k := 2) (kc := 2) (st := [.int (xs (i + 1)), .retAddr 11, .int z]) (nI_add i 2) (by omega) rfl dL_law_1053 hl (fun ls hl => ?_)
  refine lw_ld C S (pc := 1054) (k := 3) (kc := 3) (st := [.int (xs (i + 2)), .int (xs (i + 1)), .retAddr 11, .int z]) (nI_add i 3) (by omega) rfl dL_law_1059 hl (fun ls hl => ?_)
  refine lw_W C.1 C.2.1 C.2.2.2.1 (lw_Ks C.2.2.2.2.1 _) (ad := fun _ => 0) (sa := lw_sa b qx qm qo) 3 (pc := 1060) (pc' := 1064) (L := lw_L i u w) (L' := lw_L i u w) (st := [.int (xs (i + 3)), .int (xs (i + 2)), .int (xs (i + 1)), .retAddr 11, .int z]) (st' := [.long (((xs (i + 3))).toInt64 <<< ((32 : Int32).toInt64 &&& 63)), .int (xs (i + 2)), .int (xs (i + 1)), .retAddr 11, .int z]) rfl hl (fun ls hl => ?_)
  refine lw_ld C S (pc := 1064) (k := 4) (kc := 4) (st := [.long (((xs (i + 3))).toInt64 <<< ((32 : Int32).toInt64 &&& 63)), .int (xs (i + 2)), .int (xs (i + 1)), .retAddr 11, .int z]) (nI_add i 4) (by omega) rfl dL_law_1069 hl (fun ls hl => ?_)
  refine lw_W C.1 C.2.1 C.2.2.2.1 (lw_Ks C.2.2.2.2.1 _) (ad := fun _ => 0) (sa := lw_sa b qx qm qo) 4 (pc := 1070) (pc' := 1076) (L := lw_L i u w) (L' := lw_L i u w) (st := [.int (xs (i + 4)), .long (((xs (i + 3))).toInt64 <<< ((32 : Int32).toInt64 &&& 63)), .int (xs (i + 2)), .int (xs (i + 1)), .retAddr 11, .int z]) (st' := [.long ((((xs (i + 3))).toInt64 <<< ((32 : Int32).toInt64 &&& 63)) ||| (((xs (i + 4))).toInt64 &&& 4294967295)), .int (xs (i + 2)), .int (xs (i + 1)), .retAddr 11, .int z]) rfl hl (fun ls hl => ?_)
  refine lw_callM (pc := 1076) (as := [.int (xs (i + 1)), .int (xs (i + 2)), .long ((((xs (i + 3))).toInt64 <<< ((32 : Int32).toInt64 &&& 63)) ||| (((xs (i + 4))).toInt64 &&& 4294967295))]) (rest := [.int z]) C hl.1.1 dL_law_1076 rfl rfl (List.forall_mem_cons.mpr ⟨Or.inl ⟨_, rfl⟩, List.forall_mem_cons.mpr ⟨Or.inl ⟨_, rfl⟩, List.forall_mem_cons.mpr ⟨Or.inr ⟨_, rfl⟩, fun v hv => nomatch hv⟩⟩⟩) (Nat.le_of_ble_eq_true rfl) em r2 (Or.inl ⟨_, rfl⟩) (Nat.le_of_ble_eq_true rfl) (by omega) (by omega) S (fun H1 locs1 S => ?_)
  refine lw_W C.1 C.2.1 C.2.2.2.1 (lw_Ks C.2.2.2.2.1 _) (ad := fun _ => 0) (sa := lw_sa b qx qm qo) 1 (pc := 1079) (pc' := 1514) (L := lw_L i u w) (L' := lw_L i u w) (st := [.int z, .int z]) (st' := []) (lw_br rfl) hl (fun ls hl => ?_)
  exact K hx' hm' _ _ ls _ _ _ _ hI' S hl (by omega) (by omega)
set_option maxRecDepth 100000 in
set_option maxHeartbeats 4000000 in
theorem ln_c25 {p : Program} {l : Launch} {e : Env} {s : State} {m : MethodId} {below : List Frame} {meth : Method} {c : Code} {H : Heap} {locs : List Loc} {cells slots : Nat} {Q : State → Prop} {b Ln : Nat} {xs : Nat → Int32} {sa av : Nat → Nat} {D : va_G} {hx hm : AmH} {qx qm qo : Nat} {ls : Array Slot} {i : Nat} {u w : Option Value} {Inv Inv' : AmH → AmH → Prop} (hSh : lw_Sh Inv) (C : LwC p s m c b Ln xs sa av) (S : LwS D sa s H locs hx hm qx qm qo) (hI : Inv hx hm) (hag : ln_AgI Inv Inv' m_X11_best m_X12_best [.int (xs (i + 1)), .int (xs (i + 2)), .long ((((xs (i + 3))).toInt64 <<< ((32 : Int32).toInt64 &&& 63)) ||| (((xs (i + 4))).toInt64 &&& 4294967295))]) (hi : i + 6 ≤ Ln) (hcc : cells ≤ 10000) (hss : slots ≤ 1000000) (hl : am_lr (fun _ => 0) (lw_sa b qx qm qo) ls 7 (lw_L i u w)) (K : LwK Inv' p l e s m below meth c D sa b qx qm qo i cells slots Q) : W p l e room_1 s m #[Value.ref b] below meth c H locs cells slots Q (F0 m 1084 ls []) := by
  obtain ⟨⟨fx, ex⟩, ⟨fm, em⟩⟩ := hSh hx hm hI
  obtain ⟨z, hx', hm', kx, jx, km, jm, r1, r2, b1, b2, hI'⟩ := hag hx hm hI
  refine lw_W C.1 C.2.1 C.2.2.2.1 (lw_Ks C.2.2.2.2.1 _) (ad := fun _ => 0) (sa := lw_sa b qx qm qo) 1 (pc := 1084) (pc' := 1085) (L := lw_L i u w) (L' := lw_L i u w) (st := []) (st' := [.retAddr 10]) rfl hl (fun ls hl => ?_)
  refine lw_ld C S (pc := 1085) (k := 1) (kc := 1) (st := [.retAddr 10]) (nI_add i 1) (by omega) rfl dL_law_1090 hl (fun ls hl => ?_)
  refine lw_ld C S (pc := 1091) (k := 2) (kc := 2) (st := [.int (xs (i + 1)), .retAddr 10]) (nI_add i 2) (by omega) rfl dL_law_1096 hl (fun ls hl => ?_)
  refine lw_ld C S (pc := 1097) (k := 3) (kc := 3) (st := [.int (xs (i + 2)), .int (xs (i + 1)), .retAddr 10]) (nI_add i 3) (by omega) rfl dL_law_1102 hl (fun ls hl => ?_)
  refine lw_W C.1 C.2.1 C.2.2.2.1 (lw_Ks C.2.2.2.2.1 _) (ad := fun _ => 0) (sa := lw_sa b qx qm qo) 3 (pc := 1103) (pc' := 1107) (L := lw_L i u w) (L' := lw_L i u w) (st := [.int (xs (i + 3)), .int (xs (i + 2)), .int (xs (i + 1)), .retAddr 10]) (st' := [.long (((xs (i + 3))).toInt64 <<< ((32 : Int32).toInt64 &&& 63)), .int (xs (i + 2)), .int (xs (i + 1)), .retAddr 10]) rfl hl (fun ls hl => ?_)
  refine lw_ld C S (pc := 1107) (k := 4) (kc := 4) (st := [.long (((xs (i + 3))).toInt64 <<< ((32 : Int32).toInt64 &&& 63)), .int (xs (i + 2)), .int (xs (i + 1)), .retAddr 10]) (nI_add i 4) (by omega) rfl dL_law_1112 hl (fun ls hl => ?_)
  refine lw_W C.1 C.2.1 C.2.2.2.1 (lw_Ks C.2.2.2.2.1 _) (ad := fun _ => 0) (sa := lw_sa b qx qm qo) 4 (pc := 1113) (pc' := 1119) (L := lw_L i u w) (L' := lw_L i u w) (st := [.int (xs (i + 4)), .long (((xs (i + 3))).toInt64 <<< ((32 : Int32).toInt64 &&& 63)), .int (xs (i + 2)), .int (xs (i + 1)), .retAddr 10]) (st' := [.long ((((xs (i + 3))).toInt64 <<< ((32 : Int32).toInt64 &&& 63)) ||| (((xs (i + 4))).toInt64 &&& 4294967295)), .int (xs (i + 2)), .int (xs (i + 1)), .retAddr 10]) rfl hl (fun ls hl => ?_)
  refine lw_callX (pc := 1119) (as := [.int (xs (i + 1)), .int (xs (i + 2)), .long ((((xs (i + 3))).toInt64 <<< ((32 : Int32).toInt64 &&& 63)) ||| (((xs (i + 4))).toInt64 &&& 4294967295))]) (rest := []) C hl.1.1 dL_law_1119 rfl rfl (List.forall_mem_cons.mpr ⟨Or.inl ⟨_, rfl⟩, List.forall_mem_cons.mpr ⟨Or.inl ⟨_, rfl⟩, List.forall_mem_cons.mpr ⟨Or.inr ⟨_, rfl⟩, fun v hv => nomatch hv⟩⟩⟩) (Nat.le_of_ble_eq_true rfl) ex r1 (Or.inl ⟨_, rfl⟩) (Nat.le_of_ble_eq_true rfl) (by omega) (by omega) S (fun H1 locs1 S => ?_)
  refine lw_W C.1 C.2.1 C.2.2.2.1 (lw_Ks C.2.2.2.2.1 _) (ad := fun _ => 0) (sa := lw_sa b qx qm qo) 1 (pc := 1122) (pc' := 1123) (L := lw_L i u w) (L' := lw_L i u w) (st := [.int z]) (st' := [.retAddr 11, .int z]) rfl hl (fun ls hl => ?_)
  refine lw_ld C S (pc := 1123) (k := 1) (kc := 1) (st := [.retAddr 11, .int z]) (nI_add i 1) (by omega) rfl dL_law_1128 hl (fun ls hl => ?_)
  refine lw_ld C S (pc := 1129) (k := 2) (kc := 2) (st := [.int (xs (i + 1)), .retAddr 11, .int z]) (nI_add i 2) (by omega) rfl dL_law_1134 hl (fun ls hl => ?_)
  refine lw_ld C S (pc := 1135) (k := 3) (kc := 3) (st := [.int (xs (i + 2)), .int (xs (i + 1)), .retAddr 11, .int z]) (nI_add i 3) (by omega) rfl dL_law_1140 hl (fun ls hl => ?_)
  refine lw_W C.1 C.2.1 C.2.2.2.1 (lw_Ks C.2.2.2.2.1 _) (ad := fun _ => 0) (sa := lw_sa b qx qm qo) 3 (pc := 1141) (pc' := 1145) (L := lw_L i u w) (L' := lw_L i u w) (st := [.int (xs (i + 3)), .int (xs (i + 2)), .int (xs (i + 1)), .retAddr 11, .int z]) (st' := [.long (((xs (i + 3))).toInt64 <<< ((32 : Int32).toInt64 &&& 63)), .int (xs (i + 2)), .int (xs (i + 1)), .retAddr 11, .int z]) rfl hl (fun ls hl => ?_)
  refine lw_ld C S (pc := 1145) (k := 4) (kc := 4) (st := [.long (((xs (i + 3))).toInt64 <<< ((32 : Int32).toInt64 &&& 63)), .int (xs (i + 2)), .int (xs (i + 1)), .retAddr 11, .int z]) (nI_add i 4) (by omega) rfl dL_law_1150 hl (fun ls hl => ?_)
  refine lw_W C.1 C.2.1 C.2.2.2.1 (lw_Ks C.2.2.2.2.1 _) (ad := fun _ => 0) (sa := lw_sa b qx qm qo) 4 (pc := 1151) (pc' := 1157) (L := lw_L i u w) (L' := lw_L i u w) (st := [.int (xs (i + 4)), .long (((xs (i + 3))).toInt64 <<< ((32 : Int32).toInt64 &&& 63)), .int (xs (i + 2)), .int (xs (i + 1)), .retAddr 11, .int z]) (st' := [.long ((((xs (i + 3))).toInt64 <<< ((32 : Int32).toInt64 &&& 63)) ||| (((xs (i + 4))).toInt64 &&& 4294967295)), .int (xs (i + 2)), .int (xs (i + 1)), .retAddr 11, .int z]) rfl hl (fun ls hl => ?_)
  refine lw_callM (pc := 1157) (as := [.int (xs (i + 1)), .int (xs (i + 2)), .long ((((xs (i + 3))).toInt64 <<< ((32 : Int32).toInt64 &&& 63)) ||| (((xs (i + 4))).toInt64 &&& 4294967295))]) (rest := [.int z]) C hl.1.1 dL_law_1157 rfl rfl (List.forall_mem_cons.mpr ⟨Or.inl ⟨_, rfl⟩, List.forall_mem_cons.mpr ⟨Or.inl ⟨_, rfl⟩, List.forall_mem_cons.mpr ⟨Or.inr ⟨_, rfl⟩, fun v hv => nomatch hv⟩⟩⟩) (Nat.le_of_ble_eq_true rfl) em r2 (Or.inl ⟨_, rfl⟩) (Nat.le_of_ble_eq_true rfl) (by omega) (by omega) S (fun H1 locs1 S => ?_)
  refine lw_W C.1 C.2.1 C.2.2.2.1 (lw_Ks C.2.2.2.2.1 _) (ad := fun _ => 0) (sa := lw_sa b qx qm qo) 1 (pc := 1160) (pc' := 1514) (L := lw_L i u w) (L' := lw_L i u w) (st := [.int z, .int z]) (st' := []) (lw_br rfl) hl (fun ls hl => ?_)
  exact K hx' hm' _ _ ls _ _ _ _ hI' S hl (by omega) (by omega)
set_option maxRecDepth 100000 in
set_option maxHeartbeats 4000000 in
theorem ln_c26 {p : Program} {l : Launch} {e : Env} {s : State} {m : MethodId} {below : List Frame} {meth : Method} {c : Code} {H : Heap} {locs : List Loc} {cells slots : Nat} {Q : State → Prop} {b Ln : Nat} {xs : Nat → Int32} {sa av : Nat → Nat} {D : va_G} {hx hm : AmH} {qx qm qo : Nat} {ls : Array Slot} {i : Nat} {u w : Option Value} {Inv Inv' : AmH → AmH → Prop} (hSh : lw_Sh Inv) (C : LwC p s m c b Ln xs sa av) (S : LwS D sa s H locs hx hm qx qm qo) (hI : Inv hx hm) (hag : ln_AgI Inv Inv' m_X11_served m_X12_served [.int (xs (i + 1))]) (hi : i + 6 ≤ Ln) (hcc : cells ≤ 10000) (hss : slots ≤ 1000000) (hl : am_lr (fun _ => 0) (lw_sa b qx qm qo) ls 7 (lw_L i u w)) (K : LwK Inv' p l e s m below meth c D sa b qx qm qo i cells slots Q) : W p l e room_1 s m #[Value.ref b] below meth c H locs cells slots Q (F0 m 1165 ls []) := by
  obtain ⟨⟨fx, ex⟩, ⟨fm, em⟩⟩ := hSh hx hm hI
  obtain ⟨z, hx', hm', kx, jx, km, jm, r1, r2, b1, b2, hI'⟩ := hag hx hm hI
  refine lw_W C.1 C.2.1 C.2.2.2.1 (lw_Ks C.2.2.2.2.1 _) (ad := fun _ => 0) (sa := lw_sa b qx qm qo) 1 (pc := 1165) (pc' := 1166) (L := lw_L i u w) (L' := lw_L i u w) (st := []) (st' := [.retAddr 10]) rfl hl (fun ls hl => ?_)
  refine lw_ld C S (pc := 1166) (k := 1) (kc := 1) (st := [.retAddr 10]) (nI_add i 1) (by omega) rfl dL_law_1171 hl (fun ls hl => ?_)
  refine lw_callX (pc := 1172) (as := [.int (xs (i + 1))]) (rest := []) C hl.1.1 dL_law_1172 rfl rfl (List.forall_mem_cons.mpr ⟨Or.inl ⟨_, rfl⟩, fun v hv => nomatch hv⟩) (Nat.le_of_ble_eq_true rfl) ex r1 (Or.inl ⟨_, rfl⟩) (Nat.le_of_ble_eq_true rfl) (by omega) (by omega) S (fun H1 locs1 S => ?_)
  refine lw_W C.1 C.2.1 C.2.2.2.1 (lw_Ks C.2.2.2.2.1 _) (ad := fun _ => 0) (sa := lw_sa b qx qm qo) 1 (pc := 1175) (pc' := 1176) (L := lw_L i u w) (L' := lw_L i u w) (st := [.int z]) (st' := [.retAddr 11, .int z]) rfl hl (fun ls hl => ?_)
  refine lw_ld C S (pc := 1176) (k := 1) (kc := 1) (st := [.retAddr 11, .int z]) (nI_add i 1) (by omega) rfl dL_law_1181 hl (fun ls hl => ?_)
  refine lw_callM (pc := 1182) (as := [.int (xs (i + 1))]) (rest := [.int z]) C hl.1.1 dL_law_1182 rfl rfl (List.forall_mem_cons.mpr ⟨Or.inl ⟨_, rfl⟩, fun v hv => nomatch hv⟩) (Nat.le_of_ble_eq_true rfl) em r2 (Or.inl ⟨_, rfl⟩) (Nat.le_of_ble_eq_true rfl) (by omega) (by omega) S (fun H1 locs1 S => ?_)
  refine lw_W C.1 C.2.1 C.2.2.2.1 (lw_Ks C.2.2.2.2.1 _) (ad := fun _ => 0) (sa := lw_sa b qx qm qo) 1 (pc := 1185) (pc' := 1514) (L := lw_L i u w) (L' := lw_L i u w) (st := [.int z, .int z]) (st' := []) (lw_br rfl) hl (fun ls hl => ?_)
  exact K hx' hm' _ _ ls _ _ _ _ hI' S hl (by omega) (by omega)
set_option maxRecDepth 100000 in
set_option maxHeartbeats 4000000 in
theorem ln_c27 {p : Program} {l : Launch} {e : Env} {s : State} {m : MethodId} {below : List Frame} {meth : Method} {c : Code} {H : Heap} {locs : List Loc} {cells slots : Nat} {Q : State → Prop} {b Ln : Nat} {xs : Nat → Int32} {sa av : Nat → Nat} {D : va_G} {hx hm : AmH} {qx qm qo : Nat} {ls : Array Slot} {i : Nat} {u w : Option Value} {Inv Inv' : AmH → AmH → Prop} (hSh : lw_Sh Inv) (C : LwC p s m c b Ln xs sa av) (S : LwS D sa s H locs hx hm qx qm qo) (hI : Inv hx hm) (hag : ln_AgI Inv Inv' m_X11_cover m_X12_cover [.int (xs (i + 1))]) (hi : i + 6 ≤ Ln) (hcc : cells ≤ 10000) (hss : slots ≤ 1000000) (hl : am_lr (fun _ => 0) (lw_sa b qx qm qo) ls 7 (lw_L i u w)) (K : LwK Inv' p l e s m below meth c D sa b qx qm qo i cells slots Q) : W p l e room_1 s m #[Value.ref b] below meth c H locs cells slots Q (F0 m 1190 ls []) := by
  obtain ⟨⟨fx, ex⟩, ⟨fm, em⟩⟩ := hSh hx hm hI
  obtain ⟨z, hx', hm', kx, jx, km, jm, r1, r2, b1, b2, hI'⟩ := hag hx hm hI
  refine lw_W C.1 C.2.1 C.2.2.2.1 (lw_Ks C.2.2.2.2.1 _) (ad := fun _ => 0) (sa := lw_sa b qx qm qo) 1 (pc := 1190) (pc' := 1191) (L := lw_L i u w) (L' := lw_L i u w) (st := []) (st' := [.retAddr 10]) rfl hl (fun ls hl => ?_)
  refine lw_ld C S (pc := 1191) (k := 1) (kc := 1) (st := [.retAddr 10]) (nI_add i 1) (by omega) rfl dL_law_1196 hl (fun ls hl => ?_)
  refine lw_callX (pc := 1197) (as := [.int (xs (i + 1))]) (rest := []) C hl.1.1 dL_law_1197 rfl rfl (List.forall_mem_cons.mpr ⟨Or.inl ⟨_, rfl⟩, fun v hv => nomatch hv⟩) (Nat.le_of_ble_eq_true rfl) ex r1 (Or.inl ⟨_, rfl⟩) (Nat.le_of_ble_eq_true rfl) (by omega) (by omega) S (fun H1 locs1 S => ?_)
  refine lw_W C.1 C.2.1 C.2.2.2.1 (lw_Ks C.2.2.2.2.1 _) (ad := fun _ => 0) (sa := lw_sa b qx qm qo) 1 (pc := 1200) (pc' := 1201) (L := lw_L i u w) (L' := lw_L i u w) (st := [.int z]) (st' := [.retAddr 11, .int z]) rfl hl (fun ls hl => ?_)
  refine lw_ld C S (pc := 1201) (k := 1) (kc := 1) (st := [.retAddr 11, .int z]) (nI_add i 1) (by omega) rfl dL_law_1206 hl (fun ls hl => ?_)
  refine lw_callM (pc := 1207) (as := [.int (xs (i + 1))]) (rest := [.int z]) C hl.1.1 dL_law_1207 rfl rfl (List.forall_mem_cons.mpr ⟨Or.inl ⟨_, rfl⟩, fun v hv => nomatch hv⟩) (Nat.le_of_ble_eq_true rfl) em r2 (Or.inl ⟨_, rfl⟩) (Nat.le_of_ble_eq_true rfl) (by omega) (by omega) S (fun H1 locs1 S => ?_)
  refine lw_W C.1 C.2.1 C.2.2.2.1 (lw_Ks C.2.2.2.2.1 _) (ad := fun _ => 0) (sa := lw_sa b qx qm qo) 1 (pc := 1210) (pc' := 1514) (L := lw_L i u w) (L' := lw_L i u w) (st := [.int z, .int z]) (st' := []) (lw_br rfl) hl (fun ls hl => ?_)
  exact K hx' hm' _ _ ls _ _ _ _ hI' S hl (by omega) (by omega)
set_option maxRecDepth 100000 in
set_option maxHeartbeats 4000000 in
theorem ln_c28 {p : Program} {l : Launch} {e : Env} {s : State} {m : MethodId} {below : List Frame} {meth : Method} {c : Code} {H : Heap} {locs : List Loc} {cells slots : Nat} {Q : State → Prop} {b Ln : Nat} {xs : Nat → Int32} {sa av : Nat → Nat} {D : va_G} {hx hm : AmH} {qx qm qo : Nat} {ls : Array Slot} {i : Nat} {u w : Option Value} {Inv Inv' : AmH → AmH → Prop} (hSh : lw_Sh Inv) (C : LwC p s m c b Ln xs sa av) (S : LwS D sa s H locs hx hm qx qm qo) (hI : Inv hx hm) (hag : ln_AgI Inv Inv' m_X11_change m_X12_change [.int (xs (i + 1)), .int (xs (i + 2))]) (hi : i + 6 ≤ Ln) (hcc : cells ≤ 10000) (hss : slots ≤ 1000000) (hl : am_lr (fun _ => 0) (lw_sa b qx qm qo) ls 7 (lw_L i u w)) (K : LwK Inv' p l e s m below meth c D sa b qx qm qo i cells slots Q) : W p l e room_1 s m #[Value.ref b] below meth c H locs cells slots Q (F0 m 1215 ls []) := by
  obtain ⟨⟨fx, ex⟩, ⟨fm, em⟩⟩ := hSh hx hm hI
  obtain ⟨z, hx', hm', kx, jx, km, jm, r1, r2, b1, b2, hI'⟩ := hag hx hm hI
  refine lw_W C.1 C.2.1 C.2.2.2.1 (lw_Ks C.2.2.2.2.1 _) (ad := fun _ => 0) (sa := lw_sa b qx qm qo) 1 (pc := 1215) (pc' := 1216) (L := lw_L i u w) (L' := lw_L i u w) (st := []) (st' := [.retAddr 10]) rfl hl (fun ls hl => ?_)
  refine lw_ld C S (pc := 1216) (k := 1) (kc := 1) (st := [.retAddr 10]) (nI_add i 1) (by omega) rfl dL_law_1221 hl (fun ls hl => ?_)
  refine lw_ld C S (pc := 1222) (k := 2) (kc := 2) (st := [.int (xs (i + 1)), .retAddr 10]) (nI_add i 2) (by omega) rfl dL_law_1227 hl (fun ls hl => ?_)
  refine lw_callX (pc := 1228) (as := [.int (xs (i + 1)), .int (xs (i + 2))]) (rest := []) C hl.1.1 dL_law_1228 rfl rfl (List.forall_mem_cons.mpr ⟨Or.inl ⟨_, rfl⟩, List.forall_mem_cons.mpr ⟨Or.inl ⟨_, rfl⟩, fun v hv => nomatch hv⟩⟩) (Nat.le_of_ble_eq_true rfl) ex r1 (Or.inl ⟨_, rfl⟩) (Nat.le_of_ble_eq_true rfl) (by omega) (by omega) S (fun H1 locs1 S => ?_)
  refine lw_W C.1 C.2.1 C.2.2.2.1 (lw_Ks C.2.2.2.2.1 _) (ad := fun _ => 0) (sa := lw_sa b qx qm qo) 1 (pc := 1231) (pc' := 1232) (L := lw_L i u w) (L' := lw_L i u w) (st := [.int z]) (st' := [.retAddr 11, .int z]) rfl hl (fun ls hl => ?_)
  refine lw_ld C S (pc := 1232) (k := 1) (kc := 1) (st := [.retAddr 11, .int z]) (nI_add i 1) (by omega) rfl dL_law_1237 hl (fun ls hl => ?_)
  refine lw_ld C S (pc := 1238) (k := 2) (kc := 2) (st := [.int (xs (i + 1)), .retAddr 11, .int z]) (nI_add i 2) (by omega) rfl dL_law_1243 hl (fun ls hl => ?_)
  refine lw_callM (pc := 1244) (as := [.int (xs (i + 1)), .int (xs (i + 2))]) (rest := [.int z]) C hl.1.1 dL_law_1244 rfl rfl (List.forall_mem_cons.mpr ⟨Or.inl ⟨_, rfl⟩, List.forall_mem_cons.mpr ⟨Or.inl ⟨_, rfl⟩, fun v hv => nomatch hv⟩⟩) (Nat.le_of_ble_eq_true rfl) em r2 (Or.inl ⟨_, rfl⟩) (Nat.le_of_ble_eq_true rfl) (by omega) (by omega) S (fun H1 locs1 S => ?_)
  refine lw_W C.1 C.2.1 C.2.2.2.1 (lw_Ks C.2.2.2.2.1 _) (ad := fun _ => 0) (sa := lw_sa b qx qm qo) 1 (pc := 1247) (pc' := 1514) (L := lw_L i u w) (L' := lw_L i u w) (st := [.int z, .int z]) (st' := []) (lw_br rfl) hl (fun ls hl => ?_)
  exact K hx' hm' _ _ ls _ _ _ _ hI' S hl (by omega) (by omega)
set_option maxRecDepth 100000 in
set_option maxHeartbeats 4000000 in
theorem ln_c29 {p : Program} {l : Launch} {e : Env} {s : State} {m : MethodId} {below : List Frame} {meth : Method} {c : Code} {H : Heap} {locs : List Loc} {cells slots : Nat} {Q : State → Prop} {b Ln : Nat} {xs : Nat → Int32} {sa av : Nat → Nat} {D : va_G} {hx hm : AmH} {qx qm qo : Nat} {ls : Array Slot} {i : Nat} {u w : Option Value} {Inv Inv' : AmH → AmH → Prop} (hSh : lw_Sh Inv) (C : LwC p s m c b Ln xs sa av) (S : LwS D sa s H locs hx hm qx qm qo) (hI : Inv hx hm) (hag : ln_AgI Inv Inv' m_X11_amounts m_X12_amounts []) (hi : i + 6 ≤ Ln) (hcc : cells ≤ 10000) (hss : slots ≤ 1000000) (hl : am_lr (fun _ => 0) (lw_sa b qx qm qo) ls 7 (lw_L i u w)) (K : LwK Inv' p l e s m below meth c D sa b qx qm qo i cells slots Q) : W p l e room_1 s m #[Value.ref b] below meth c H locs cells slots Q (F0 m 1252 ls []) := by
  obtain ⟨⟨fx, ex⟩, ⟨fm, em⟩⟩ := hSh hx hm hI
  obtain ⟨z, hx', hm', kx, jx, km, jm, r1, r2, b1, b2, hI'⟩ := hag hx hm hI
  refine lw_W C.1 C.2.1 C.2.2.2.1 (lw_Ks C.2.2.2.2.1 _) (ad := fun _ => 0) (sa := lw_sa b qx qm qo) 1 (pc := 1252) (pc' := 1253) (L := lw_L i u w) (L' := lw_L i u w) (st := []) (st' := [.retAddr 10]) rfl hl (fun ls hl => ?_)
  refine lw_callX (pc := 1253) (as := []) (rest := []) C hl.1.1 dL_law_1253 rfl rfl (fun v hv => nomatch hv) (Nat.le_of_ble_eq_true rfl) ex r1 (Or.inl ⟨_, rfl⟩) (Nat.le_of_ble_eq_true rfl) (by omega) (by omega) S (fun H1 locs1 S => ?_)
  refine lw_W C.1 C.2.1 C.2.2.2.1 (lw_Ks C.2.2.2.2.1 _) (ad := fun _ => 0) (sa := lw_sa b qx qm qo) 1 (pc := 1256) (pc' := 1257) (L := lw_L i u w) (L' := lw_L i u w) (st := [.int z]) (st' := [.retAddr 11, .int z]) rfl hl (fun ls hl => ?_)
  refine lw_callM (pc := 1257) (as := []) (rest := [.int z]) C hl.1.1 dL_law_1257 rfl rfl (fun v hv => nomatch hv) (Nat.le_of_ble_eq_true rfl) em r2 (Or.inl ⟨_, rfl⟩) (Nat.le_of_ble_eq_true rfl) (by omega) (by omega) S (fun H1 locs1 S => ?_)
  refine lw_W C.1 C.2.1 C.2.2.2.1 (lw_Ks C.2.2.2.2.1 _) (ad := fun _ => 0) (sa := lw_sa b qx qm qo) 1 (pc := 1260) (pc' := 1514) (L := lw_L i u w) (L' := lw_L i u w) (st := [.int z, .int z]) (st' := []) (lw_br rfl) hl (fun ls hl => ?_)
  exact K hx' hm' _ _ ls _ _ _ _ hI' S hl (by omega) (by omega)
set_option maxRecDepth 100000 in
set_option maxHeartbeats 4000000 in
theorem ln_c30 {p : Program} {l : Launch} {e : Env} {s : State} {m : MethodId} {below : List Frame} {meth : Method} {c : Code} {H : Heap} {locs : List Loc} {cells slots : Nat} {Q : State → Prop} {b Ln : Nat} {xs : Nat → Int32} {sa av : Nat → Nat} {D : va_G} {hx hm : AmH} {qx qm qo : Nat} {ls : Array Slot} {i : Nat} {u w : Option Value} {Inv Inv' : AmH → AmH → Prop} (hSh : lw_Sh Inv) (C : LwC p s m c b Ln xs sa av) (S : LwS D sa s H locs hx hm qx qm qo) (hI : Inv hx hm) (hag : ln_AgI Inv Inv' m_X11_helps m_X12_helps [.int (xs (i + 1))]) (hi : i + 6 ≤ Ln) (hcc : cells ≤ 10000) (hss : slots ≤ 1000000) (hl : am_lr (fun _ => 0) (lw_sa b qx qm qo) ls 7 (lw_L i u w)) (K : LwK Inv' p l e s m below meth c D sa b qx qm qo i cells slots Q) : W p l e room_1 s m #[Value.ref b] below meth c H locs cells slots Q (F0 m 1265 ls []) := by
  obtain ⟨⟨fx, ex⟩, ⟨fm, em⟩⟩ := hSh hx hm hI
  obtain ⟨z, hx', hm', kx, jx, km, jm, r1, r2, b1, b2, hI'⟩ := hag hx hm hI
  refine lw_W C.1 C.2.1 C.2.2.2.1 (lw_Ks C.2.2.2.2.1 _) (ad := fun _ => 0) (sa := lw_sa b qx qm qo) 1 (pc := 1265) (pc' := 1266) (L := lw_L i u w) (L' := lw_L i u w) (st := []) (st' := [.retAddr 10]) rfl hl (fun ls hl => ?_)
  refine lw_ld C S (pc := 1266) (k := 1) (kc := 1) (st := [.retAddr 10]) (nI_add i 1) (by omega) rfl dL_law_1271 hl (fun ls hl => ?_)
  refine lw_callX (pc := 1272) (as := [.int (xs (i + 1))]) (rest := []) C hl.1.1 dL_law_1272 rfl rfl (List.forall_mem_cons.mpr ⟨Or.inl ⟨_, rfl⟩, fun v hv => nomatch hv⟩) (Nat.le_of_ble_eq_true rfl) ex r1 (Or.inl ⟨_, rfl⟩) (Nat.le_of_ble_eq_true rfl) (by omega) (by omega) S (fun H1 locs1 S => ?_)
  refine lw_W C.1 C.2.1 C.2.2.2.1 (lw_Ks C.2.2.2.2.1 _) (ad := fun _ => 0) (sa := lw_sa b qx qm qo) 1 (pc := 1275) (pc' := 1276) (L := lw_L i u w) (L' := lw_L i u w) (st := [.int z]) (st' := [.retAddr 11, .int z]) rfl hl (fun ls hl => ?_)
  refine lw_ld C S (pc := 1276) (k := 1) (kc := 1) (st := [.retAddr 11, .int z]) (nI_add i 1) (by omega) rfl dL_law_1281 hl (fun ls hl => ?_)
  refine lw_callM (pc := 1282) (as := [.int (xs (i + 1))]) (rest := [.int z]) C hl.1.1 dL_law_1282 rfl rfl (List.forall_mem_cons.mpr ⟨Or.inl ⟨_, rfl⟩, fun v hv => nomatch hv⟩) (Nat.le_of_ble_eq_true rfl) em r2 (Or.inl ⟨_, rfl⟩) (Nat.le_of_ble_eq_true rfl) (by omega) (by omega) S (fun H1 locs1 S => ?_)
  refine lw_W C.1 C.2.1 C.2.2.2.1 (lw_Ks C.2.2.2.2.1 _) (ad := fun _ => 0) (sa := lw_sa b qx qm qo) 1 (pc := 1285) (pc' := 1514) (L := lw_L i u w) (L' := lw_L i u w) (st := [.int z, .int z]) (st' := []) (lw_br rfl) hl (fun ls hl => ?_)
  exact K hx' hm' _ _ ls _ _ _ _ hI' S hl (by omega) (by omega)
set_option maxRecDepth 100000 in
set_option maxHeartbeats 4000000 in
theorem ln_c31 {p : Program} {l : Launch} {e : Env} {s : State} {m : MethodId} {below : List Frame} {meth : Method} {c : Code} {H : Heap} {locs : List Loc} {cells slots : Nat} {Q : State → Prop} {b Ln : Nat} {xs : Nat → Int32} {sa av : Nat → Nat} {D : va_G} {hx hm : AmH} {qx qm qo : Nat} {ls : Array Slot} {i : Nat} {u w : Option Value} {Inv Inv' : AmH → AmH → Prop} (hSh : lw_Sh Inv) (C : LwC p s m c b Ln xs sa av) (S : LwS D sa s H locs hx hm qx qm qo) (hI : Inv hx hm) (hag : ln_AgI Inv Inv' m_X11_spoils m_X12_spoils [.int (xs (i + 1))]) (hi : i + 6 ≤ Ln) (hcc : cells ≤ 10000) (hss : slots ≤ 1000000) (hl : am_lr (fun _ => 0) (lw_sa b qx qm qo) ls 7 (lw_L i u w)) (K : LwK Inv' p l e s m below meth c D sa b qx qm qo i cells slots Q) : W p l e room_1 s m #[Value.ref b] below meth c H locs cells slots Q (F0 m 1290 ls []) := by
  obtain ⟨⟨fx, ex⟩, ⟨fm, em⟩⟩ := hSh hx hm hI
  obtain ⟨z, hx', hm', kx, jx, km, jm, r1, r2, b1, b2, hI'⟩ := hag hx hm hI
  refine lw_W C.1 C.2.1 C.2.2.2.1 (lw_Ks C.2.2.2.2.1 _) (ad := fun _ => 0) (sa := lw_sa b qx qm qo) 1 (pc := 1290) (pc' := 1291) (L := lw_L i u w) (L' := lw_L i u w) (st := []) (st' := [.retAddr 10]) rfl hl (fun ls hl => ?_)
  refine lw_ld C S (pc := 1291) (k := 1) (kc := 1) (st := [.retAddr 10]) (nI_add i 1) (by omega) rfl dL_law_1296 hl (fun ls hl => ?_)
  refine lw_callX (pc := 1297) (as := [.int (xs (i + 1))]) (rest := []) C hl.1.1 dL_law_1297 rfl rfl (List.forall_mem_cons.mpr ⟨Or.inl ⟨_, rfl⟩, fun v hv => nomatch hv⟩) (Nat.le_of_ble_eq_true rfl) ex r1 (Or.inl ⟨_, rfl⟩) (Nat.le_of_ble_eq_true rfl) (by omega) (by omega) S (fun H1 locs1 S => ?_)
  refine lw_W C.1 C.2.1 C.2.2.2.1 (lw_Ks C.2.2.2.2.1 _) (ad := fun _ => 0) (sa := lw_sa b qx qm qo) 1 (pc := 1300) (pc' := 1301) (L := lw_L i u w) (L' := lw_L i u w) (st := [.int z]) (st' := [.retAddr 11, .int z]) rfl hl (fun ls hl => ?_)
  refine lw_ld C S (pc := 1301) (k := 1) (kc := 1) (st := [.retAddr 11, .int z]) (nI_add i 1) (by omega) rfl dL_law_1306 hl (fun ls hl => ?_)
  refine lw_callM (pc := 1307) (as := [.int (xs (i + 1))]) (rest := [.int z]) C hl.1.1 dL_law_1307 rfl rfl (List.forall_mem_cons.mpr ⟨Or.inl ⟨_, rfl⟩, fun v hv => nomatch hv⟩) (Nat.le_of_ble_eq_true rfl) em r2 (Or.inl ⟨_, rfl⟩) (Nat.le_of_ble_eq_true rfl) (by omega) (by omega) S (fun H1 locs1 S => ?_)
  refine lw_W C.1 C.2.1 C.2.2.2.1 (lw_Ks C.2.2.2.2.1 _) (ad := fun _ => 0) (sa := lw_sa b qx qm qo) 1 (pc := 1310) (pc' := 1514) (L := lw_L i u w) (L' := lw_L i u w) (st := [.int z, .int z]) (st' := []) (lw_br rfl) hl (fun ls hl => ?_)
  exact K hx' hm' _ _ ls _ _ _ _ hI' S hl (by omega) (by omega)
set_option maxRecDepth 100000 in
set_option maxHeartbeats 4000000 in
theorem ln_c32 {p : Program} {l : Launch} {e : Env} {s : State} {m : MethodId} {below : List Frame} {meth : Method} {c : Code} {H : Heap} {locs : List Loc} {cells slots : Nat} {Q : State → Prop} {b Ln : Nat} {xs : Nat → Int32} {sa av : Nat → Nat} {D : va_G} {hx hm : AmH} {qx qm qo : Nat} {ls : Array Slot} {i : Nat} {u w : Option Value} {Inv Inv' : AmH → AmH → Prop} (hSh : lw_Sh Inv) (C : LwC p s m c b Ln xs sa av) (S : LwS D sa s H locs hx hm qx qm qo) (hI : Inv hx hm) (hag : ln_AgI Inv Inv' m_X11_wise m_X12_wise [.int (xs (i + 1)), .int (xs (i + 2))]) (hi : i + 6 ≤ Ln) (hcc : cells ≤ 10000) (hss : slots ≤ 1000000) (hl : am_lr (fun _ => 0) (lw_sa b qx qm qo) ls 7 (lw_L i u w)) (K : LwK Inv' p l e s m below meth c D sa b qx qm qo i cells slots Q) : W p l e room_1 s m #[Value.ref b] below meth c H locs cells slots Q (F0 m 1315 ls []) := by
  obtain ⟨⟨fx, ex⟩, ⟨fm, em⟩⟩ := hSh hx hm hI
  obtain ⟨z, hx', hm', kx, jx, km, jm, r1, r2, b1, b2, hI'⟩ := hag hx hm hI
  refine lw_W C.1 C.2.1 C.2.2.2.1 (lw_Ks C.2.2.2.2.1 _) (ad := fun _ => 0) (sa := lw_sa b qx qm qo) 1 (pc := 1315) (pc' := 1316) (L := lw_L i u w) (L' := lw_L i u w) (st := []) (st' := [.retAddr 10]) rfl hl (fun ls hl => ?_)
  refine lw_ld C S (pc := 1316) (k := 1) (kc := 1) (st := [.retAddr 10]) (nI_add i 1) (by omega) rfl dL_law_1321 hl (fun ls hl => ?_)
  refine lw_ld C S (pc := 1322) (k := 2) (kc := 2) (st := [.int (xs (i + 1)), .retAddr 10]) (nI_add i 2) (by omega) rfl dL_law_1327 hl (fun ls hl => ?_)
  refine lw_callX (pc := 1328) (as := [.int (xs (i + 1)), .int (xs (i + 2))]) (rest := []) C hl.1.1 dL_law_1328 rfl rfl (List.forall_mem_cons.mpr ⟨Or.inl ⟨_, rfl⟩, List.forall_mem_cons.mpr ⟨Or.inl ⟨_, rfl⟩, fun v hv => nomatch hv⟩⟩) (Nat.le_of_ble_eq_true rfl) ex r1 (Or.inl ⟨_, rfl⟩) (Nat.le_of_ble_eq_true rfl) (by omega) (by omega) S (fun H1 locs1 S => ?_)
  refine lw_W C.1 C.2.1 C.2.2.2.1 (lw_Ks C.2.2.2.2.1 _) (ad := fun _ => 0) (sa := lw_sa b qx qm qo) 1 (pc := 1331) (pc' := 1332) (L := lw_L i u w) (L' := lw_L i u w) (st := [.int z]) (st' := [.retAddr 11, .int z]) rfl hl (fun ls hl => ?_)
  refine lw_ld C S (pc := 1332) (k := 1) (kc := 1) (st := [.retAddr 11, .int z]) (nI_add i 1) (by omega) rfl dL_law_1337 hl (fun ls hl => ?_)
  refine lw_ld C S (pc := 1338) (k := 2) (kc := 2) (st := [.int (xs (i + 1)), .retAddr 11, .int z]) (nI_add i 2) (by omega) rfl dL_law_1343 hl (fun ls hl => ?_)
  refine lw_callM (pc := 1344) (as := [.int (xs (i + 1)), .int (xs (i + 2))]) (rest := [.int z]) C hl.1.1 dL_law_1344 rfl rfl (List.forall_mem_cons.mpr ⟨Or.inl ⟨_, rfl⟩, List.forall_mem_cons.mpr ⟨Or.inl ⟨_, rfl⟩, fun v hv => nomatch hv⟩⟩) (Nat.le_of_ble_eq_true rfl) em r2 (Or.inl ⟨_, rfl⟩) (Nat.le_of_ble_eq_true rfl) (by omega) (by omega) S (fun H1 locs1 S => ?_)
  refine lw_W C.1 C.2.1 C.2.2.2.1 (lw_Ks C.2.2.2.2.1 _) (ad := fun _ => 0) (sa := lw_sa b qx qm qo) 1 (pc := 1347) (pc' := 1514) (L := lw_L i u w) (L' := lw_L i u w) (st := [.int z, .int z]) (st' := []) (lw_br rfl) hl (fun ls hl => ?_)
  exact K hx' hm' _ _ ls _ _ _ _ hI' S hl (by omega) (by omega)
set_option maxRecDepth 100000 in
set_option maxHeartbeats 4000000 in
theorem ln_c33 {p : Program} {l : Launch} {e : Env} {s : State} {m : MethodId} {below : List Frame} {meth : Method} {c : Code} {H : Heap} {locs : List Loc} {cells slots : Nat} {Q : State → Prop} {b Ln : Nat} {xs : Nat → Int32} {sa av : Nat → Nat} {D : va_G} {hx hm : AmH} {qx qm qo : Nat} {ls : Array Slot} {i : Nat} {u w : Option Value} {Inv Inv' : AmH → AmH → Prop} (hSh : lw_Sh Inv) (C : LwC p s m c b Ln xs sa av) (S : LwS D sa s H locs hx hm qx qm qo) (hI : Inv hx hm) (hag : ln_AgI Inv Inv' m_X11_rich m_X12_rich [.int (xs (i + 1)), .int (xs (i + 2))]) (hi : i + 6 ≤ Ln) (hcc : cells ≤ 10000) (hss : slots ≤ 1000000) (hl : am_lr (fun _ => 0) (lw_sa b qx qm qo) ls 7 (lw_L i u w)) (K : LwK Inv' p l e s m below meth c D sa b qx qm qo i cells slots Q) : W p l e room_1 s m #[Value.ref b] below meth c H locs cells slots Q (F0 m 1352 ls []) := by
  obtain ⟨⟨fx, ex⟩, ⟨fm, em⟩⟩ := hSh hx hm hI
  obtain ⟨z, hx', hm', kx, jx, km, jm, r1, r2, b1, b2, hI'⟩ := hag hx hm hI
  refine lw_W C.1 C.2.1 C.2.2.2.1 (lw_Ks C.2.2.2.2.1 _) (ad := fun _ => 0) (sa := lw_sa b qx qm qo) 1 (pc := 1352) (pc' := 1353) (L := lw_L i u w) (L' := lw_L i u w) (st := []) (st' := [.retAddr 10]) rfl hl (fun ls hl => ?_)
  refine lw_ld C S (pc := 1353) (k := 1) (kc := 1) (st := [.retAddr 10]) (nI_add i 1) (by omega) rfl dL_law_1358 hl (fun ls hl => ?_)
  refine lw_ld C S (pc := 1359) (k := 2) (kc := 2) (st := [.int (xs (i + 1)), .retAddr 10]) (nI_add i 2) (by omega) rfl dL_law_1364 hl (fun ls hl => ?_)
  refine lw_callX (pc := 1365) (as := [.int (xs (i + 1)), .int (xs (i + 2))]) (rest := []) C hl.1.1 dL_law_1365 rfl rfl (List.forall_mem_cons.mpr ⟨Or.inl ⟨_, rfl⟩, List.forall_mem_cons.mpr ⟨Or.inl ⟨_, rfl⟩, fun v hv => nomatch hv⟩⟩) (Nat.le_of_ble_eq_true rfl) ex r1 (Or.inl ⟨_, rfl⟩) (Nat.le_of_ble_eq_true rfl) (by omega) (by omega) S (fun H1 locs1 S => ?_)
  refine lw_W C.1 C.2.1 C.2.2.2.1 (lw_Ks C.2.2.2.2.1 _) (ad := fun _ => 0) (sa := lw_sa b qx qm qo) 1 (pc := 1368) (pc' := 1369) (L := lw_L i u w) (L' := lw_L i u w) (st := [.int z]) (st' := [.retAddr 11, .int z]) rfl hl (fun ls hl => ?_)
  refine lw_ld C S (pc := 1369) (k := 1) (kc := 1) (st := [.retAddr 11, .int z]) (nI_add i 1) (by omega) rfl dL_law_1374 hl (fun ls hl => ?_)
  refine lw_ld C S (pc := 1375) (k := 2) (kc := 2) (st := [.int (xs (i + 1)), .retAddr 11, .int z]) (nI_add i 2) (by omega) rfl dL_law_1380 hl (fun ls hl => ?_)
  refine lw_callM (pc := 1381) (as := [.int (xs (i + 1)), .int (xs (i + 2))]) (rest := [.int z]) C hl.1.1 dL_law_1381 rfl rfl (List.forall_mem_cons.mpr ⟨Or.inl ⟨_, rfl⟩, List.forall_mem_cons.mpr ⟨Or.inl ⟨_, rfl⟩, fun v hv => nomatch hv⟩⟩) (Nat.le_of_ble_eq_true rfl) em r2 (Or.inl ⟨_, rfl⟩) (Nat.le_of_ble_eq_true rfl) (by omega) (by omega) S (fun H1 locs1 S => ?_)
  refine lw_W C.1 C.2.1 C.2.2.2.1 (lw_Ks C.2.2.2.2.1 _) (ad := fun _ => 0) (sa := lw_sa b qx qm qo) 1 (pc := 1384) (pc' := 1514) (L := lw_L i u w) (L' := lw_L i u w) (st := [.int z, .int z]) (st' := []) (lw_br rfl) hl (fun ls hl => ?_)
  exact K hx' hm' _ _ ls _ _ _ _ hI' S hl (by omega) (by omega)
set_option maxRecDepth 100000 in
set_option maxHeartbeats 4000000 in
theorem ln_c34 {p : Program} {l : Launch} {e : Env} {s : State} {m : MethodId} {below : List Frame} {meth : Method} {c : Code} {H : Heap} {locs : List Loc} {cells slots : Nat} {Q : State → Prop} {b Ln : Nat} {xs : Nat → Int32} {sa av : Nat → Nat} {D : va_G} {hx hm : AmH} {qx qm qo : Nat} {ls : Array Slot} {i : Nat} {u w : Option Value} {Inv Inv' : AmH → AmH → Prop} (hSh : lw_Sh Inv) (C : LwC p s m c b Ln xs sa av) (S : LwS D sa s H locs hx hm qx qm qo) (hI : Inv hx hm) (hag : ln_AgI Inv Inv' m_X11_chain m_X12_chain []) (hi : i + 6 ≤ Ln) (hcc : cells ≤ 10000) (hss : slots ≤ 1000000) (hl : am_lr (fun _ => 0) (lw_sa b qx qm qo) ls 7 (lw_L i u w)) (K : LwK Inv' p l e s m below meth c D sa b qx qm qo i cells slots Q) : W p l e room_1 s m #[Value.ref b] below meth c H locs cells slots Q (F0 m 1389 ls []) := by
  obtain ⟨⟨fx, ex⟩, ⟨fm, em⟩⟩ := hSh hx hm hI
  obtain ⟨z, hx', hm', kx, jx, km, jm, r1, r2, b1, b2, hI'⟩ := hag hx hm hI
  refine lw_W C.1 C.2.1 C.2.2.2.1 (lw_Ks C.2.2.2.2.1 _) (ad := fun _ => 0) (sa := lw_sa b qx qm qo) 1 (pc := 1389) (pc' := 1390) (L := lw_L i u w) (L' := lw_L i u w) (st := []) (st' := [.retAddr 10]) rfl hl (fun ls hl => ?_)
  refine lw_callX (pc := 1390) (as := []) (rest := []) C hl.1.1 dL_law_1390 rfl rfl (fun v hv => nomatch hv) (Nat.le_of_ble_eq_true rfl) ex r1 (Or.inl ⟨_, rfl⟩) (Nat.le_of_ble_eq_true rfl) (by omega) (by omega) S (fun H1 locs1 S => ?_)
  refine lw_W C.1 C.2.1 C.2.2.2.1 (lw_Ks C.2.2.2.2.1 _) (ad := fun _ => 0) (sa := lw_sa b qx qm qo) 1 (pc := 1393) (pc' := 1394) (L := lw_L i u w) (L' := lw_L i u w) (st := [.int z]) (st' := [.retAddr 11, .int z]) rfl hl (fun ls hl => ?_)
  refine lw_callM (pc := 1394) (as := []) (rest := [.int z]) C hl.1.1 dL_law_1394 rfl rfl (fun v hv => nomatch hv) (Nat.le_of_ble_eq_true rfl) em r2 (Or.inl ⟨_, rfl⟩) (Nat.le_of_ble_eq_true rfl) (by omega) (by omega) S (fun H1 locs1 S => ?_)
  refine lw_W C.1 C.2.1 C.2.2.2.1 (lw_Ks C.2.2.2.2.1 _) (ad := fun _ => 0) (sa := lw_sa b qx qm qo) 1 (pc := 1397) (pc' := 1514) (L := lw_L i u w) (L' := lw_L i u w) (st := [.int z, .int z]) (st' := []) (lw_br rfl) hl (fun ls hl => ?_)
  exact K hx' hm' _ _ ls _ _ _ _ hI' S hl (by omega) (by omega)
set_option maxRecDepth 100000 in
set_option maxHeartbeats 4000000 in
theorem ln_c35 {p : Program} {l : Launch} {e : Env} {s : State} {m : MethodId} {below : List Frame} {meth : Method} {c : Code} {H : Heap} {locs : List Loc} {cells slots : Nat} {Q : State → Prop} {b Ln : Nat} {xs : Nat → Int32} {sa av : Nat → Nat} {D : va_G} {hx hm : AmH} {qx qm qo : Nat} {ls : Array Slot} {i : Nat} {u w : Option Value} {Inv Inv' : AmH → AmH → Prop} (hSh : lw_Sh Inv) (C : LwC p s m c b Ln xs sa av) (S : LwS D sa s H locs hx hm qx qm qo) (hI : Inv hx hm) (hag : ln_AgI Inv Inv' m_X11_mean m_X12_mean [.int (xs (i + 1)), .int (xs (i + 2)), .int (xs (i + 3)), .int (xs (i + 4))]) (hi : i + 6 ≤ Ln) (hcc : cells ≤ 10000) (hss : slots ≤ 1000000) (hl : am_lr (fun _ => 0) (lw_sa b qx qm qo) ls 7 (lw_L i u w)) (K : LwK Inv' p l e s m below meth c D sa b qx qm qo i cells slots Q) : W p l e room_1 s m #[Value.ref b] below meth c H locs cells slots Q (F0 m 1402 ls []) := by
  obtain ⟨⟨fx, ex⟩, ⟨fm, em⟩⟩ := hSh hx hm hI
  obtain ⟨z, hx', hm', kx, jx, km, jm, r1, r2, b1, b2, hI'⟩ := hag hx hm hI
  refine lw_W C.1 C.2.1 C.2.2.2.1 (lw_Ks C.2.2.2.2.1 _) (ad := fun _ => 0) (sa := lw_sa b qx qm qo) 1 (pc := 1402) (pc' := 1403) (L := lw_L i u w) (L' := lw_L i u w) (st := []) (st' := [.retAddr 10]) rfl hl (fun ls hl => ?_)
  refine lw_ld C S (pc := 1403) (k := 1) (kc := 1) (st := [.retAddr 10]) (nI_add i 1) (by omega) rfl dL_law_1408 hl (fun ls hl => ?_)
  refine lw_ld C S (pc := 1409) (k := 2) (kc := 2) (st := [.int (xs (i + 1)), .retAddr 10]) (nI_add i 2) (by omega) rfl dL_law_1414 hl (fun ls hl => ?_)
  refine lw_ld C S (pc := 1415) (k := 3) (kc := 3) (st := [.int (xs (i + 2)), .int (xs (i + 1)), .retAddr 10]) (nI_add i 3) (by omega) rfl dL_law_1420 hl (fun ls hl => ?_)
  refine lw_ld C S (pc := 1421) (k := 4) (kc := 4) (st := [.int (xs (i + 3)), .int (xs (i + 2)), .int (xs (i + 1)), .retAddr 10]) (nI_add i 4) (by omega) rfl dL_law_1426 hl (fun ls hl => ?_)
  refine lw_callX (pc := 1427) (as := [.int (xs (i + 1)), .int (xs (i + 2)), .int (xs (i + 3)), .int (xs (i + 4))]) (rest := []) C hl.1.1 dL_law_1427 rfl rfl (List.forall_mem_cons.mpr ⟨Or.inl ⟨_, rfl⟩, List.forall_mem_cons.mpr ⟨Or.inl ⟨_, rfl⟩, List.forall_mem_cons.mpr ⟨Or.inl ⟨_, rfl⟩, List.forall_mem_cons.mpr ⟨Or.inl ⟨_, rfl⟩, fun v hv => nomatch hv⟩⟩⟩⟩) (Nat.le_of_ble_eq_true rfl) ex r1 (Or.inl ⟨_, rfl⟩) (Nat.le_of_ble_eq_true rfl) (by omega) (by omega) S (fun H1 locs1 S => ?_)
  refine lw_W C.1 C.2.1 C.2.2.2.1 (lw_Ks C.2.2.2.2.1 _) (ad := fun _ => 0) (sa := lw_sa b qx qm qo) 1 (pc := 1430) (pc' := 1431) (L := lw_L i u w) (L' := lw_L i u w) (st := [.int z]) (st' := [.retAddr 11, .int z]) rfl hl (fun ls hl => ?_)
  refine lw_ld C S (pc := 1431) (k := 1) (kc := 1) (st := [.retAddr 11, .int z]) (nI_add i 1) (by omega) rfl dL_law_1436 hl (fun ls hl => ?_)
  refine lw_ld C S (pc := 1437) (k := 2) (kc := 2) (st := [.int (xs (i + 1)), .retAddr 11, .int z]) (nI_add i 2) (by omega) rfl dL_law_1442 hl (fun ls hl => ?_)
  refine lw_ld C S (pc := 1443) (k := 3) (kc := 3) (st := [.int (xs (i + 2)), .int (xs (i + 1)), .retAddr 11, .int z]) (nI_add i 3) (by omega) rfl dL_law_1448 hl (fun ls hl => ?_)
  refine lw_ld C S (pc := 1449) (k := 4) (kc := 4) (st := [.int (xs (i + 3)), .int (xs (i + 2)), .int (xs (i + 1)), .retAddr 11, .int z]) (nI_add i 4) (by omega) rfl dL_law_1454 hl (fun ls hl => ?_)
  refine lw_callM (pc := 1455) (as := [.int (xs (i + 1)), .int (xs (i + 2)), .int (xs (i + 3)), .int (xs (i + 4))]) (rest := [.int z]) C hl.1.1 dL_law_1455 rfl rfl (List.forall_mem_cons.mpr ⟨Or.inl ⟨_, rfl⟩, List.forall_mem_cons.mpr ⟨Or.inl ⟨_, rfl⟩, List.forall_mem_cons.mpr ⟨Or.inl ⟨_, rfl⟩, List.forall_mem_cons.mpr ⟨Or.inl ⟨_, rfl⟩, fun v hv => nomatch hv⟩⟩⟩⟩) (Nat.le_of_ble_eq_true rfl) em r2 (Or.inl ⟨_, rfl⟩) (Nat.le_of_ble_eq_true rfl) (by omega) (by omega) S (fun H1 locs1 S => ?_)
  refine lw_W C.1 C.2.1 C.2.2.2.1 (lw_Ks C.2.2.2.2.1 _) (ad := fun _ => 0) (sa := lw_sa b qx qm qo) 1 (pc := 1458) (pc' := 1514) (L := lw_L i u w) (L' := lw_L i u w) (st := [.int z, .int z]) (st' := []) (lw_br rfl) hl (fun ls hl => ?_)
  exact K hx' hm' _ _ ls _ _ _ _ hI' S hl (by omega) (by omega)
set_option maxRecDepth 100000 in
set_option maxHeartbeats 4000000 in
theorem ln_c36 {p : Program} {l : Launch} {e : Env} {s : State} {m : MethodId} {below : List Frame} {meth : Method} {c : Code} {H : Heap} {locs : List Loc} {cells slots : Nat} {Q : State → Prop} {b Ln : Nat} {xs : Nat → Int32} {sa av : Nat → Nat} {D : va_G} {hx hm : AmH} {qx qm qo : Nat} {ls : Array Slot} {i : Nat} {u w : Option Value} {Inv Inv' : AmH → AmH → Prop} (hSh : lw_Sh Inv) (C : LwC p s m c b Ln xs sa av) (S : LwS D sa s H locs hx hm qx qm qo) (hI : Inv hx hm) (hag : ln_AgI Inv Inv' m_X11_image m_X12_image []) (hi : i + 6 ≤ Ln) (hcc : cells ≤ 10000) (hss : slots ≤ 1000000) (hl : am_lr (fun _ => 0) (lw_sa b qx qm qo) ls 7 (lw_L i u w)) (K : LwK Inv' p l e s m below meth c D sa b qx qm qo i cells slots Q) : W p l e room_1 s m #[Value.ref b] below meth c H locs cells slots Q (F0 m 1463 ls []) := by
  obtain ⟨⟨fx, ex⟩, ⟨fm, em⟩⟩ := hSh hx hm hI
  obtain ⟨z, hx', hm', kx, jx, km, jm, r1, r2, b1, b2, hI'⟩ := hag hx hm hI
  refine lw_W C.1 C.2.1 C.2.2.2.1 (lw_Ks C.2.2.2.2.1 _) (ad := fun _ => 0) (sa := lw_sa b qx qm qo) 1 (pc := 1463) (pc' := 1464) (L := lw_L i u w) (L' := lw_L i u w) (st := []) (st' := [.retAddr 10]) rfl hl (fun ls hl => ?_)
  refine lw_callX (pc := 1464) (as := []) (rest := []) C hl.1.1 dL_law_1464 rfl rfl (fun v hv => nomatch hv) (Nat.le_of_ble_eq_true rfl) ex r1 (Or.inl ⟨_, rfl⟩) (Nat.le_of_ble_eq_true rfl) (by omega) (by omega) S (fun H1 locs1 S => ?_)
  refine lw_W C.1 C.2.1 C.2.2.2.1 (lw_Ks C.2.2.2.2.1 _) (ad := fun _ => 0) (sa := lw_sa b qx qm qo) 1 (pc := 1467) (pc' := 1468) (L := lw_L i u w) (L' := lw_L i u w) (st := [.int z]) (st' := [.retAddr 11, .int z]) rfl hl (fun ls hl => ?_)
  refine lw_callM (pc := 1468) (as := []) (rest := [.int z]) C hl.1.1 dL_law_1468 rfl rfl (fun v hv => nomatch hv) (Nat.le_of_ble_eq_true rfl) em r2 (Or.inl ⟨_, rfl⟩) (Nat.le_of_ble_eq_true rfl) (by omega) (by omega) S (fun H1 locs1 S => ?_)
  refine lw_W C.1 C.2.1 C.2.2.2.1 (lw_Ks C.2.2.2.2.1 _) (ad := fun _ => 0) (sa := lw_sa b qx qm qo) 1 (pc := 1471) (pc' := 1514) (L := lw_L i u w) (L' := lw_L i u w) (st := [.int z, .int z]) (st' := []) (lw_br rfl) hl (fun ls hl => ?_)
  exact K hx' hm' _ _ ls _ _ _ _ hI' S hl (by omega) (by omega)
set_option maxRecDepth 100000 in
set_option maxHeartbeats 4000000 in
theorem ln_c37 {p : Program} {l : Launch} {e : Env} {s : State} {m : MethodId} {below : List Frame} {meth : Method} {c : Code} {H : Heap} {locs : List Loc} {cells slots : Nat} {Q : State → Prop} {b Ln : Nat} {xs : Nat → Int32} {sa av : Nat → Nat} {D : va_G} {hx hm : AmH} {qx qm qo : Nat} {ls : Array Slot} {i : Nat} {u w : Option Value} {Inv Inv' : AmH → AmH → Prop} (hSh : lw_Sh Inv) (C : LwC p s m c b Ln xs sa av) (S : LwS D sa s H locs hx hm qx qm qo) (hI : Inv hx hm) (hag : ln_AgI Inv Inv' m_X11_back m_X12_back []) (hi : i + 6 ≤ Ln) (hcc : cells ≤ 10000) (hss : slots ≤ 1000000) (hl : am_lr (fun _ => 0) (lw_sa b qx qm qo) ls 7 (lw_L i u w)) (K : LwK Inv' p l e s m below meth c D sa b qx qm qo i cells slots Q) : W p l e room_1 s m #[Value.ref b] below meth c H locs cells slots Q (F0 m 1476 ls []) := by
  obtain ⟨⟨fx, ex⟩, ⟨fm, em⟩⟩ := hSh hx hm hI
  obtain ⟨z, hx', hm', kx, jx, km, jm, r1, r2, b1, b2, hI'⟩ := hag hx hm hI
  refine lw_W C.1 C.2.1 C.2.2.2.1 (lw_Ks C.2.2.2.2.1 _) (ad := fun _ => 0) (sa := lw_sa b qx qm qo) 1 (pc := 1476) (pc' := 1477) (L := lw_L i u w) (L' := lw_L i u w) (st := []) (st' := [.retAddr 10]) rfl hl (fun ls hl => ?_)
  refine lw_callX (pc := 1477) (as := []) (rest := []) C hl.1.1 dL_law_1477 rfl rfl (fun v hv => nomatch hv) (Nat.le_of_ble_eq_true rfl) ex r1 (Or.inl ⟨_, rfl⟩) (Nat.le_of_ble_eq_true rfl) (by omega) (by omega) S (fun H1 locs1 S => ?_)
  refine lw_W C.1 C.2.1 C.2.2.2.1 (lw_Ks C.2.2.2.2.1 _) (ad := fun _ => 0) (sa := lw_sa b qx qm qo) 1 (pc := 1480) (pc' := 1481) (L := lw_L i u w) (L' := lw_L i u w) (st := [.int z]) (st' := [.retAddr 11, .int z]) rfl hl (fun ls hl => ?_)
  refine lw_callM (pc := 1481) (as := []) (rest := [.int z]) C hl.1.1 dL_law_1481 rfl rfl (fun v hv => nomatch hv) (Nat.le_of_ble_eq_true rfl) em r2 (Or.inl ⟨_, rfl⟩) (Nat.le_of_ble_eq_true rfl) (by omega) (by omega) S (fun H1 locs1 S => ?_)
  refine lw_W C.1 C.2.1 C.2.2.2.1 (lw_Ks C.2.2.2.2.1 _) (ad := fun _ => 0) (sa := lw_sa b qx qm qo) 1 (pc := 1484) (pc' := 1514) (L := lw_L i u w) (L' := lw_L i u w) (st := [.int z, .int z]) (st' := []) (lw_br rfl) hl (fun ls hl => ?_)
  exact K hx' hm' _ _ ls _ _ _ _ hI' S hl (by omega) (by omega)
set_option maxRecDepth 100000 in
set_option maxHeartbeats 4000000 in
theorem ln_c38 {p : Program} {l : Launch} {e : Env} {s : State} {m : MethodId} {below : List Frame} {meth : Method} {c : Code} {H : Heap} {locs : List Loc} {cells slots : Nat} {Q : State → Prop} {b Ln : Nat} {xs : Nat → Int32} {sa av : Nat → Nat} {D : va_G} {hx hm : AmH} {qx qm qo : Nat} {ls : Array Slot} {i : Nat} {u w : Option Value} {Inv Inv' : AmH → AmH → Prop} (hSh : lw_Sh Inv) (C : LwC p s m c b Ln xs sa av) (S : LwS D sa s H locs hx hm qx qm qo) (hI : Inv hx hm) (hag : ln_AgI Inv Inv' m_X11_count m_X12_count [.int (xs (i + 1))]) (hi : i + 6 ≤ Ln) (hcc : cells ≤ 10000) (hss : slots ≤ 1000000) (hl : am_lr (fun _ => 0) (lw_sa b qx qm qo) ls 7 (lw_L i u w)) (K : LwK Inv' p l e s m below meth c D sa b qx qm qo i cells slots Q) : W p l e room_1 s m #[Value.ref b] below meth c H locs cells slots Q (F0 m 1489 ls []) := by
  obtain ⟨⟨fx, ex⟩, ⟨fm, em⟩⟩ := hSh hx hm hI
  obtain ⟨z, hx', hm', kx, jx, km, jm, r1, r2, b1, b2, hI'⟩ := hag hx hm hI
  refine lw_W C.1 C.2.1 C.2.2.2.1 (lw_Ks C.2.2.2.2.1 _) (ad := fun _ => 0) (sa := lw_sa b qx qm qo) 1 (pc := 1489) (pc' := 1490) (L := lw_L i u w) (L' := lw_L i u w) (st := []) (st' := [.retAddr 10]) rfl hl (fun ls hl => ?_)
  refine lw_ld C S (pc := 1490) (k := 1) (kc := 1) (st := [.retAddr 10]) (nI_add i 1) (by omega) rfl dL_law_1495 hl (fun ls hl => ?_)
  refine lw_callX (pc := 1496) (as := [.int (xs (i + 1))]) (rest := []) C hl.1.1 dL_law_1496 rfl rfl (List.forall_mem_cons.mpr ⟨Or.inl ⟨_, rfl⟩, fun v hv => nomatch hv⟩) (Nat.le_of_ble_eq_true rfl) ex r1 (Or.inl ⟨_, rfl⟩) (Nat.le_of_ble_eq_true rfl) (by omega) (by omega) S (fun H1 locs1 S => ?_)
  refine lw_W C.1 C.2.1 C.2.2.2.1 (lw_Ks C.2.2.2.2.1 _) (ad := fun _ => 0) (sa := lw_sa b qx qm qo) 1 (pc := 1499) (pc' := 1500) (L := lw_L i u w) (L' := lw_L i u w) (st := [.int z]) (st' := [.retAddr 11, .int z]) rfl hl (fun ls hl => ?_)
  refine lw_ld C S (pc := 1500) (k := 1) (kc := 1) (st := [.retAddr 11, .int z]) (nI_add i 1) (by omega) rfl dL_law_1505 hl (fun ls hl => ?_)
  refine lw_callM (pc := 1506) (as := [.int (xs (i + 1))]) (rest := [.int z]) C hl.1.1 dL_law_1506 rfl rfl (List.forall_mem_cons.mpr ⟨Or.inl ⟨_, rfl⟩, fun v hv => nomatch hv⟩) (Nat.le_of_ble_eq_true rfl) em r2 (Or.inl ⟨_, rfl⟩) (Nat.le_of_ble_eq_true rfl) (by omega) (by omega) S (fun H1 locs1 S => ?_)
  refine lw_W C.1 C.2.1 C.2.2.2.1 (lw_Ks C.2.2.2.2.1 _) (ad := fun _ => 0) (sa := lw_sa b qx qm qo) 1 (pc := 1509) (pc' := 1514) (L := lw_L i u w) (L' := lw_L i u w) (st := [.int z, .int z]) (st' := []) (lw_br rfl) hl (fun ls hl => ?_)
  exact K hx' hm' _ _ ls _ _ _ _ hI' S hl (by omega) (by omega)
/-- of every case: class and model agree (the case of value stands by itself: it throws) -/
def ln_All (Inv : Nat → AmH → AmH → Prop) : Prop := ∀ n : Nat, n < 64 → lw_Sh (Inv n) ∧
  (∀ y1 y2 y3 y4 y5 : Int32, ln_AgI (Inv n) (Inv (n + 1)) m_X11_feed m_X12_feed [.int (y1), .int (y2), .int (y3), .int (y4), .int (y5)]) ∧
  (∀ y1 : Int32, ln_AgI (Inv n) (Inv (n + 1)) m_X11_end m_X12_end [.int (y1)]) ∧
  (∀ y1 : Int32, ln_AgI (Inv n) (Inv (n + 1)) m_X11_fault m_X12_fault [.int (y1)]) ∧
  (∀ y1 : Int32, ln_AgI (Inv n) (Inv (n + 1)) m_X11_text m_X12_text [.int (y1)]) ∧
  (∀ y1 y2 : Int32, ln_AgI (Inv n) (Inv (n + 1)) m_X11_customer m_X12_customer [.int (y1), .int (y2)]) ∧
  (∀ y1 y2 : Int32, ln_AgI (Inv n) (Inv (n + 1)) m_X11_lay m_X12_lay [.int (y1), .int (y2)]) ∧
  (∀ y1 : Int32, ln_AgI (Inv n) (Inv (n + 1)) m_X11_lift m_X12_lift [.int (y1)]) ∧
  (∀ y1 y2 : Int32, ln_AgI (Inv n) (Inv (n + 1)) m_X11_coin m_X12_coin [.int (y1), .int (y2)]) ∧
  (∀ y1 : Int32, ln_AgI (Inv n) (Inv (n + 1)) m_X11_tray m_X12_tray [.int (y1)]) ∧
  (ln_AgL (Inv n) (Inv (n + 1)) m_X11_till m_X12_till []) ∧
  (∀ y1 y2 : Int32, ln_AgL (Inv n) (Inv (n + 1)) m_X11_result m_X12_result [.int (y1), .int (y2)]) ∧
  (∀ y1 y2 : Int32, ln_AgI (Inv n) (Inv (n + 1)) m_X11_serve m_X12_serve [.int (y1), .int (y2)]) ∧
  (∀ y1 : Int32, ln_AgI (Inv n) (Inv (n + 1)) m_X11_row m_X12_row [.int (y1)]) ∧
  (∀ y1 y2 : Int32, ln_AgL (Inv n) (Inv (n + 1)) m_X11_left m_X12_left [.int (y1), .int (y2)]) ∧
  (∀ y1 : Int32, ln_AgI (Inv n) (Inv (n + 1)) m_X11_aside m_X12_aside [.int (y1)]) ∧
  (∀ y1 : Int32, ln_AgI (Inv n) (Inv (n + 1)) m_X11_steps m_X12_steps [.int (y1)]) ∧
  (ln_AgI (Inv n) (Inv (n + 1)) m_X11_most m_X12_most []) ∧
  (∀ y1 y2 : Int32, ln_AgL (Inv n) (Inv (n + 1)) m_X11_dawn m_X12_dawn [.int (y1), .int (y2)]) ∧
  (∀ y1 : Int32, ln_AgI (Inv n) (Inv (n + 1)) m_X11_breaks m_X12_breaks [.int (y1)]) ∧
  (∀ y1 y2 : Int32, ln_AgI (Inv n) (Inv (n + 1)) m_X11_by m_X12_by [.int (y1), .int (y2)]) ∧
  (∀ y1 y2 : Int32, ln_AgI (Inv n) (Inv (n + 1)) m_X11_gives m_X12_gives [.int (y1), .int (y2)]) ∧
  (∀ y1 y2 : Int32, ln_AgI (Inv n) (Inv (n + 1)) m_X11_run m_X12_run [.int (y1), .int (y2)]) ∧
  (∀ y1 y2 : Int32, ln_AgI (Inv n) (Inv (n + 1)) m_X11_worst m_X12_worst [.int (y1), .int (y2)]) ∧
  (∀ y1 y2 y3 y4 : Int32, ln_AgI (Inv n) (Inv (n + 1)) m_X11_day m_X12_day [.int (y1), .int (y2), .long ((((y3)).toInt64 <<< ((32 : Int32).toInt64 &&& 63)) ||| (((y4)).toInt64 &&& 4294967295))]) ∧
  (∀ y1 y2 y3 y4 : Int32, ln_AgI (Inv n) (Inv (n + 1)) m_X11_best m_X12_best [.int (y1), .int (y2), .long ((((y3)).toInt64 <<< ((32 : Int32).toInt64 &&& 63)) ||| (((y4)).toInt64 &&& 4294967295))]) ∧
  (∀ y1 : Int32, ln_AgI (Inv n) (Inv (n + 1)) m_X11_served m_X12_served [.int (y1)]) ∧
  (∀ y1 : Int32, ln_AgI (Inv n) (Inv (n + 1)) m_X11_cover m_X12_cover [.int (y1)]) ∧
  (∀ y1 y2 : Int32, ln_AgI (Inv n) (Inv (n + 1)) m_X11_change m_X12_change [.int (y1), .int (y2)]) ∧
  (ln_AgI (Inv n) (Inv (n + 1)) m_X11_amounts m_X12_amounts []) ∧
  (∀ y1 : Int32, ln_AgI (Inv n) (Inv (n + 1)) m_X11_helps m_X12_helps [.int (y1)]) ∧
  (∀ y1 : Int32, ln_AgI (Inv n) (Inv (n + 1)) m_X11_spoils m_X12_spoils [.int (y1)]) ∧
  (∀ y1 y2 : Int32, ln_AgI (Inv n) (Inv (n + 1)) m_X11_wise m_X12_wise [.int (y1), .int (y2)]) ∧
  (∀ y1 y2 : Int32, ln_AgI (Inv n) (Inv (n + 1)) m_X11_rich m_X12_rich [.int (y1), .int (y2)]) ∧
  (ln_AgI (Inv n) (Inv (n + 1)) m_X11_chain m_X12_chain []) ∧
  (∀ y1 y2 y3 y4 : Int32, ln_AgI (Inv n) (Inv (n + 1)) m_X11_mean m_X12_mean [.int (y1), .int (y2), .int (y3), .int (y4)]) ∧
  (ln_AgI (Inv n) (Inv (n + 1)) m_X11_image m_X12_image []) ∧
  (ln_AgI (Inv n) (Inv (n + 1)) m_X11_back m_X12_back []) ∧
  (∀ y1 : Int32, ln_AgI (Inv n) (Inv (n + 1)) m_X11_count m_X12_count [.int (y1)])
/-- the case of value -/
def ln_C4 (Inv : Nat → AmH → AmH → Prop) : Prop := ∀ (n : Nat), n < 64 → ∀ (p : Program) (l : Launch) (e : Env) (s : State) (m : MethodId) (below : List Frame) (meth : Method) (c : Code) (H : Heap) (locs : List Loc) (cells slots : Nat) (Q : State → Prop) (b Ln : Nat) (xs : Nat → Int32) (sa av : Nat → Nat) (D : va_G) (hx hm : AmH) (qx qm qo : Nat) (ls : Array Slot) (i : Nat) (u w : Option Value), LwC p s m c b Ln xs sa av → LwS D sa s H locs hx hm qx qm qo → Inv n hx hm → i + 6 ≤ Ln → cells ≤ 10000 → slots ≤ 1000000 → am_lr (fun _ => 0) (lw_sa b qx qm qo) ls 7 (lw_L i u w) → LwK (Inv (n + 1)) p l e s m below meth c D sa b qx qm qo i cells slots Q → W p l e room_1 s m #[Value.ref b] below meth c H locs cells slots Q (F0 m 360 ls [])
set_option maxRecDepth 100000 in
set_option maxHeartbeats 8000000 in
theorem ln_loop {p : Program} {l : Launch} {e : Env} {s : State} {m : MethodId} {below : List Frame} {meth : Method} {c : Code} {b Ln : Nat} {xs : Nat → Int32} {sa av : Nat → Nat} {D : va_G} {qx qm qo : Nat} {Inv : Nat → AmH → AmH → Prop} (hAll : ln_All Inv) (hMo : ∀ (n : Nat) (hx hm : AmH), Inv n hx hm → Inv (n + 1) hx hm) (hV : ln_C4 Inv) (C : LwC p s m c b Ln xs sa av) (hr : meth.sig.returnType = ret) (hlocks : meth.locks = false) : ∀ (r dn : Nat) (hx hm : AmH) (H : Heap) (locs : List Loc) (ls : Array Slot) (u w : Option Value), Ln < 6 * dn + 6 * r → dn ≤ 64 → Inv dn hx hm → LwS D sa s H locs hx hm qx qm qo → am_lr (fun _ => 0) (lw_sa b qx qm qo) ls 7 (lw_L (6 * dn) u w) → W p l e room_1 s m #[Value.ref b] below meth c H locs (200 + 8 * dn) (200000 + 2000 * dn) (lw_Z below #[Value.ref b] s) (F0 m 23 ls [])
  | r, dn, hx, hm, H, locs, ls, u, w, hm1, hd, hI, S, hl => by
    have hLn := C.2.2.2.2.2.2.2.2
    have hbl := C.2.2.2.2.2.2.2.1
    have hX := C.2.2.2.2.2.2.1
    have hS : va_S (lw_A s) s.heap H locs := by
      obtain ⟨_, _, _, _, _, _, _, _, w1, _⟩ := S
      exact w1.2.2.2.2.1
    generalize hi0 : 6 * dn = i at hl
    refine lw_W C.1 C.2.1 C.2.2.2.1 (lw_Ks C.2.2.2.2.1 _) (ad := fun _ => 0) (sa := lw_sa b qx qm qo) 2 (pc := 23) (pc' := 26) (L := lw_L i u w) (L' := lw_L i u w) (st := []) (st' := [.retAddr 9, .int (nI i)]) rfl hl (fun ls hl => ?_)
    refine va_slen C.1 C.2.1 hX hbl (Nat.not_le.mpr hbl) hS dL_law_26 ?_
    refine lw_W C.1 C.2.1 C.2.2.2.1 (lw_Ks C.2.2.2.2.1 _) (ad := fun _ => 0) (sa := lw_sa b qx qm qo) 2 (pc := 27) (pc' := 30) (L := lw_L i u w) (L' := lw_L i u w) (st := [.int (Int32.ofNat Ln), .int (nI i)]) (st' := [.int (Int32.ofNat Ln - 6), .int (nI i)]) rfl hl (fun ls hl => ?_)
    have hcmp : Int32.ofNat Ln - 6 < nI i ↔ Ln < i + 6 := by
      rw [Int32.lt_iff_toInt_lt, show (Int32.ofNat Ln - 6).toInt = (Ln : Int) - 6 from pk_sub_toInt (a := Ln) (b := 6) (by omega) (by omega), nI_toInt (by omega)]
      omega
    by_cases hend : Ln < i + 6
    · refine lw_W C.1 C.2.1 C.2.2.2.1 (lw_Ks C.2.2.2.2.1 _) (ad := fun _ => 0) (sa := lw_sa b qx qm qo) 1 (pc := 30) (pc' := 1520) (L := lw_L i u w) (L' := lw_L i u w) (st := [.int (Int32.ofNat Ln - 6), .int (nI i)]) (st' := []) (lw_gt1 rfl (hcmp.mpr hend)) hl (fun ls hl => ?_)
      refine lw_W C.1 C.2.1 C.2.2.2.1 (lw_Ks C.2.2.2.2.1 _) (ad := fun _ => 0) (sa := lw_sa b qx qm qo) 1 (pc := 1520) (pc' := 1521) (L := lw_L i u w) (L' := lw_L i u w) (st := []) (st' := [.int 1]) rfl hl (fun ls hl => ?_)
      refine va_forget (fun q hq => hS.2.2 q hq) ?_
      refine W.widen (k := 600128) (n := 7301098) (by omega) (by omega) ?_
      exact lw_ret C.1 C.2.1 hr hlocks dL_law_1521
    · have hi6 : i + 6 ≤ Ln := by omega
      obtain ⟨r, rfl⟩ : ∃ r', r = r' + 1 := ⟨r - 1, by omega⟩
      refine lw_W C.1 C.2.1 C.2.2.2.1 (lw_Ks C.2.2.2.2.1 _) (ad := fun _ => 0) (sa := lw_sa b qx qm qo) 1 (pc := 30) (pc' := 33) (L := lw_L i u w) (L' := lw_L i u w) (st := [.int (Int32.ofNat Ln - 6), .int (nI i)]) (st' := []) (lw_gt0 rfl (fun q => hend (hcmp.mp q))) hl (fun ls hl => ?_)
      refine lw_W C.1 C.2.1 C.2.2.2.1 (lw_Ks C.2.2.2.2.1 _) (ad := fun _ => 0) (sa := lw_sa b qx qm qo) 2 (pc := 33) (pc' := 36) (L := lw_L i u w) (L' := lw_L i u w) (st := []) (st' := [.int (nI i), .retAddr 9]) rfl hl (fun ls hl => ?_)
      refine va_sld C.1 C.2.1 hX hbl (Nat.not_le.mpr hbl) hS (vp_in_nI (by omega) (by omega)) dL_law_36 ?_
      rw [nI_clamp (by omega)]
      refine lw_W C.1 C.2.1 C.2.2.2.1 (lw_Ks C.2.2.2.2.1 _) (ad := fun _ => 0) (sa := lw_sa b qx qm qo) 2 (pc := 37) (pc' := 40) (L := lw_L i u w) (L' := lw_L i u w) (st := [.int (xs i)]) (st' := [.int (xs i &&& 63)]) rfl hl (fun ls hl => ?_)
      have hnext : nI i + 6 = nI (i + 6) := nI_add i 6
      have K : LwK (Inv (dn + 1)) p l e s m below meth c D sa b qx qm qo i (200 + 8 * dn) (200000 + 2000 * dn) (lw_Z below #[Value.ref b] s) := by
        intro hx' hm' H' locs' ls' cells' slots' u' w' hI' S' hl' c1 c2
        refine W.widen (k := 200 + 8 * (dn + 1)) (n := 200000 + 2000 * (dn + 1)) (by omega) (by omega) ?_
        refine lw_W C.1 C.2.1 C.2.2.2.1 (lw_Ks C.2.2.2.2.1 _) (ad := fun _ => 0) (sa := lw_sa b qx qm qo) 2 (pc := 1514) (pc' := 23) (L := lw_L i u' w') (L' := [some (.retAddr 9), some (.retAddr 10), some (.retAddr 11), some (.retAddr 12), some (.int (nI i + 6)), u', w']) (st := []) (st' := []) rfl hl' (fun ls hl => ?_)
        rw [hnext] at hl
        exact ln_loop hAll hMo hV C hr hlocks r (dn + 1) hx' hm' H' locs' ls u' w' (by omega) (by omega) hI' S' (by rw [show 6 * (dn + 1) = i + 6 by omega]; exact hl)
      obtain ⟨q, hq, eq⟩ := pk_andE (xs i) (m := 63) 6 (by decide +kernel)
      rw [eq]
      have hce : 200 + 8 * dn ≤ 10000 := by omega
      have hsl : 200000 + 2000 * dn ≤ 1000000 := by omega
      obtain ⟨hSh, h0, h1, h2, h3, h5, h6, h7, h8, h9, h10, h11, h12, h13, h14, h15, h16, h17, h18, h19, h20, h21, h22, h23, h24, h25, h26, h27, h28, h29, h30, h31, h32, h33, h34, h35, h36, h37, h38⟩ := hAll dn (by omega)
      match q, hq with
      | 0, _ =>
        refine lw_W C.1 C.2.1 C.2.2.2.1 (lw_Ks C.2.2.2.2.1 _) (ad := fun _ => 0) (sa := lw_sa b qx qm qo) 1 (pc := 40) (pc' := 212) (L := lw_L i u w) (L' := lw_L i u w) (st := [.int (nI 0)]) (st' := []) rfl hl (fun ls hl => ?_)
        exact ln_c0 hSh C S hI (h0 _ _ _ _ _) hi6 hce hsl hl K
      | 1, _ =>
        refine lw_W C.1 C.2.1 C.2.2.2.1 (lw_Ks C.2.2.2.2.1 _) (ad := fun _ => 0) (sa := lw_sa b qx qm qo) 1 (pc := 40) (pc' := 285) (L := lw_L i u w) (L' := lw_L i u w) (st := [.int (nI 1)]) (st' := []) rfl hl (fun ls hl => ?_)
        exact ln_c1 hSh C S hI (h1 _) hi6 hce hsl hl K
      | 2, _ =>
        refine lw_W C.1 C.2.1 C.2.2.2.1 (lw_Ks C.2.2.2.2.1 _) (ad := fun _ => 0) (sa := lw_sa b qx qm qo) 1 (pc := 40) (pc' := 310) (L := lw_L i u w) (L' := lw_L i u w) (st := [.int (nI 2)]) (st' := []) rfl hl (fun ls hl => ?_)
        exact ln_c2 hSh C S hI (h2 _) hi6 hce hsl hl K
      | 3, _ =>
        refine lw_W C.1 C.2.1 C.2.2.2.1 (lw_Ks C.2.2.2.2.1 _) (ad := fun _ => 0) (sa := lw_sa b qx qm qo) 1 (pc := 40) (pc' := 335) (L := lw_L i u w) (L' := lw_L i u w) (st := [.int (nI 3)]) (st' := []) rfl hl (fun ls hl => ?_)
        exact ln_c3 hSh C S hI (h3 _) hi6 hce hsl hl K
      | 4, _ =>
        refine lw_W C.1 C.2.1 C.2.2.2.1 (lw_Ks C.2.2.2.2.1 _) (ad := fun _ => 0) (sa := lw_sa b qx qm qo) 1 (pc := 40) (pc' := 360) (L := lw_L i u w) (L' := lw_L i u w) (st := [.int (nI 4)]) (st' := []) rfl hl (fun ls hl => ?_)
        exact hV dn (by omega) p l e s m below meth c H locs _ _ _ b Ln xs sa av D hx hm qx qm qo ls i u w C S hI hi6 hce hsl hl K
      | 5, _ =>
        refine lw_W C.1 C.2.1 C.2.2.2.1 (lw_Ks C.2.2.2.2.1 _) (ad := fun _ => 0) (sa := lw_sa b qx qm qo) 1 (pc := 40) (pc' := 416) (L := lw_L i u w) (L' := lw_L i u w) (st := [.int (nI 5)]) (st' := []) rfl hl (fun ls hl => ?_)
        exact ln_c5 hSh C S hI (h5 _ _) hi6 hce hsl hl K
      | 6, _ =>
        refine lw_W C.1 C.2.1 C.2.2.2.1 (lw_Ks C.2.2.2.2.1 _) (ad := fun _ => 0) (sa := lw_sa b qx qm qo) 1 (pc := 40) (pc' := 453) (L := lw_L i u w) (L' := lw_L i u w) (st := [.int (nI 6)]) (st' := []) rfl hl (fun ls hl => ?_)
        exact ln_c6 hSh C S hI (h6 _ _) hi6 hce hsl hl K
      | 7, _ =>
        refine lw_W C.1 C.2.1 C.2.2.2.1 (lw_Ks C.2.2.2.2.1 _) (ad := fun _ => 0) (sa := lw_sa b qx qm qo) 1 (pc := 40) (pc' := 490) (L := lw_L i u w) (L' := lw_L i u w) (st := [.int (nI 7)]) (st' := []) rfl hl (fun ls hl => ?_)
        exact ln_c7 hSh C S hI (h7 _) hi6 hce hsl hl K
      | 8, _ =>
        refine lw_W C.1 C.2.1 C.2.2.2.1 (lw_Ks C.2.2.2.2.1 _) (ad := fun _ => 0) (sa := lw_sa b qx qm qo) 1 (pc := 40) (pc' := 515) (L := lw_L i u w) (L' := lw_L i u w) (st := [.int (nI 8)]) (st' := []) rfl hl (fun ls hl => ?_)
        exact ln_c8 hSh C S hI (h8 _ _) hi6 hce hsl hl K
      | 9, _ =>
        refine lw_W C.1 C.2.1 C.2.2.2.1 (lw_Ks C.2.2.2.2.1 _) (ad := fun _ => 0) (sa := lw_sa b qx qm qo) 1 (pc := 40) (pc' := 552) (L := lw_L i u w) (L' := lw_L i u w) (st := [.int (nI 9)]) (st' := []) rfl hl (fun ls hl => ?_)
        exact ln_c9 hSh C S hI (h9 _) hi6 hce hsl hl K
      | 10, _ =>
        refine lw_W C.1 C.2.1 C.2.2.2.1 (lw_Ks C.2.2.2.2.1 _) (ad := fun _ => 0) (sa := lw_sa b qx qm qo) 1 (pc := 40) (pc' := 577) (L := lw_L i u w) (L' := lw_L i u w) (st := [.int (nI 10)]) (st' := []) rfl hl (fun ls hl => ?_)
        exact ln_c10 hSh C S hI (h10) hi6 hce hsl hl K
      | 11, _ =>
        refine lw_W C.1 C.2.1 C.2.2.2.1 (lw_Ks C.2.2.2.2.1 _) (ad := fun _ => 0) (sa := lw_sa b qx qm qo) 1 (pc := 40) (pc' := 591) (L := lw_L i u w) (L' := lw_L i u w) (st := [.int (nI 11)]) (st' := []) rfl hl (fun ls hl => ?_)
        exact ln_c11 hSh C S hI (h11 _ _) hi6 hce hsl hl K
      | 12, _ =>
        refine lw_W C.1 C.2.1 C.2.2.2.1 (lw_Ks C.2.2.2.2.1 _) (ad := fun _ => 0) (sa := lw_sa b qx qm qo) 1 (pc := 40) (pc' := 629) (L := lw_L i u w) (L' := lw_L i u w) (st := [.int (nI 12)]) (st' := []) rfl hl (fun ls hl => ?_)
        exact ln_c12 hSh C S hI (h12 _ _) hi6 hce hsl hl K
      | 13, _ =>
        refine lw_W C.1 C.2.1 C.2.2.2.1 (lw_Ks C.2.2.2.2.1 _) (ad := fun _ => 0) (sa := lw_sa b qx qm qo) 1 (pc := 40) (pc' := 666) (L := lw_L i u w) (L' := lw_L i u w) (st := [.int (nI 13)]) (st' := []) rfl hl (fun ls hl => ?_)
        exact ln_c13 hSh C S hI (h13 _) hi6 hce hsl hl K
      | 14, _ =>
        refine lw_W C.1 C.2.1 C.2.2.2.1 (lw_Ks C.2.2.2.2.1 _) (ad := fun _ => 0) (sa := lw_sa b qx qm qo) 1 (pc := 40) (pc' := 691) (L := lw_L i u w) (L' := lw_L i u w) (st := [.int (nI 14)]) (st' := []) rfl hl (fun ls hl => ?_)
        exact ln_c14 hSh C S hI (h14 _ _) hi6 hce hsl hl K
      | 15, _ =>
        refine lw_W C.1 C.2.1 C.2.2.2.1 (lw_Ks C.2.2.2.2.1 _) (ad := fun _ => 0) (sa := lw_sa b qx qm qo) 1 (pc := 40) (pc' := 729) (L := lw_L i u w) (L' := lw_L i u w) (st := [.int (nI 15)]) (st' := []) rfl hl (fun ls hl => ?_)
        exact ln_c15 hSh C S hI (h15 _) hi6 hce hsl hl K
      | 16, _ =>
        refine lw_W C.1 C.2.1 C.2.2.2.1 (lw_Ks C.2.2.2.2.1 _) (ad := fun _ => 0) (sa := lw_sa b qx qm qo) 1 (pc := 40) (pc' := 754) (L := lw_L i u w) (L' := lw_L i u w) (st := [.int (nI 16)]) (st' := []) rfl hl (fun ls hl => ?_)
        exact ln_c16 hSh C S hI (h16 _) hi6 hce hsl hl K
      | 17, _ =>
        refine lw_W C.1 C.2.1 C.2.2.2.1 (lw_Ks C.2.2.2.2.1 _) (ad := fun _ => 0) (sa := lw_sa b qx qm qo) 1 (pc := 40) (pc' := 779) (L := lw_L i u w) (L' := lw_L i u w) (st := [.int (nI 17)]) (st' := []) rfl hl (fun ls hl => ?_)
        exact ln_c17 hSh C S hI (h17) hi6 hce hsl hl K
      | 18, _ =>
        refine lw_W C.1 C.2.1 C.2.2.2.1 (lw_Ks C.2.2.2.2.1 _) (ad := fun _ => 0) (sa := lw_sa b qx qm qo) 1 (pc := 40) (pc' := 792) (L := lw_L i u w) (L' := lw_L i u w) (st := [.int (nI 18)]) (st' := []) rfl hl (fun ls hl => ?_)
        exact ln_c18 hSh C S hI (h18 _ _) hi6 hce hsl hl K
      | 19, _ =>
        refine lw_W C.1 C.2.1 C.2.2.2.1 (lw_Ks C.2.2.2.2.1 _) (ad := fun _ => 0) (sa := lw_sa b qx qm qo) 1 (pc := 40) (pc' := 830) (L := lw_L i u w) (L' := lw_L i u w) (st := [.int (nI 19)]) (st' := []) rfl hl (fun ls hl => ?_)
        exact ln_c19 hSh C S hI (h19 _) hi6 hce hsl hl K
      | 20, _ =>
        refine lw_W C.1 C.2.1 C.2.2.2.1 (lw_Ks C.2.2.2.2.1 _) (ad := fun _ => 0) (sa := lw_sa b qx qm qo) 1 (pc := 40) (pc' := 855) (L := lw_L i u w) (L' := lw_L i u w) (st := [.int (nI 20)]) (st' := []) rfl hl (fun ls hl => ?_)
        exact ln_c20 hSh C S hI (h20 _ _) hi6 hce hsl hl K
      | 21, _ =>
        refine lw_W C.1 C.2.1 C.2.2.2.1 (lw_Ks C.2.2.2.2.1 _) (ad := fun _ => 0) (sa := lw_sa b qx qm qo) 1 (pc := 40) (pc' := 892) (L := lw_L i u w) (L' := lw_L i u w) (st := [.int (nI 21)]) (st' := []) rfl hl (fun ls hl => ?_)
        exact ln_c21 hSh C S hI (h21 _ _) hi6 hce hsl hl K
      | 22, _ =>
        refine lw_W C.1 C.2.1 C.2.2.2.1 (lw_Ks C.2.2.2.2.1 _) (ad := fun _ => 0) (sa := lw_sa b qx qm qo) 1 (pc := 40) (pc' := 929) (L := lw_L i u w) (L' := lw_L i u w) (st := [.int (nI 22)]) (st' := []) rfl hl (fun ls hl => ?_)
        exact ln_c22 hSh C S hI (h22 _ _) hi6 hce hsl hl K
      | 23, _ =>
        refine lw_W C.1 C.2.1 C.2.2.2.1 (lw_Ks C.2.2.2.2.1 _) (ad := fun _ => 0) (sa := lw_sa b qx qm qo) 1 (pc := 40) (pc' := 966) (L := lw_L i u w) (L' := lw_L i u w) (st := [.int (nI 23)]) (st' := []) rfl hl (fun ls hl => ?_)
        exact ln_c23 hSh C S hI (h23 _ _) hi6 hce hsl hl K
      | 24, _ =>
        refine lw_W C.1 C.2.1 C.2.2.2.1 (lw_Ks C.2.2.2.2.1 _) (ad := fun _ => 0) (sa := lw_sa b qx qm qo) 1 (pc := 40) (pc' := 1003) (L := lw_L i u w) (L' := lw_L i u w) (st := [.int (nI 24)]) (st' := []) rfl hl (fun ls hl => ?_)
        exact ln_c24 hSh C S hI (h24 _ _ _ _) hi6 hce hsl hl K
      | 25, _ =>
        refine lw_W C.1 C.2.1 C.2.2.2.1 (lw_Ks C.2.2.2.2.1 _) (ad := fun _ => 0) (sa := lw_sa b qx qm qo) 1 (pc := 40) (pc' := 1084) (L := lw_L i u w) (L' := lw_L i u w) (st := [.int (nI 25)]) (st' := []) rfl hl (fun ls hl => ?_)
        exact ln_c25 hSh C S hI (h25 _ _ _ _) hi6 hce hsl hl K
      | 26, _ =>
        refine lw_W C.1 C.2.1 C.2.2.2.1 (lw_Ks C.2.2.2.2.1 _) (ad := fun _ => 0) (sa := lw_sa b qx qm qo) 1 (pc := 40) (pc' := 1165) (L := lw_L i u w) (L' := lw_L i u w) (st := [.int (nI 26)]) (st' := []) rfl hl (fun ls hl => ?_)
        exact ln_c26 hSh C S hI (h26 _) hi6 hce hsl hl K
      | 27, _ =>
        refine lw_W C.1 C.2.1 C.2.2.2.1 (lw_Ks C.2.2.2.2.1 _) (ad := fun _ => 0) (sa := lw_sa b qx qm qo) 1 (pc := 40) (pc' := 1190) (L := lw_L i u w) (L' := lw_L i u w) (st := [.int (nI 27)]) (st' := []) rfl hl (fun ls hl => ?_)
        exact ln_c27 hSh C S hI (h27 _) hi6 hce hsl hl K
      | 28, _ =>
        refine lw_W C.1 C.2.1 C.2.2.2.1 (lw_Ks C.2.2.2.2.1 _) (ad := fun _ => 0) (sa := lw_sa b qx qm qo) 1 (pc := 40) (pc' := 1215) (L := lw_L i u w) (L' := lw_L i u w) (st := [.int (nI 28)]) (st' := []) rfl hl (fun ls hl => ?_)
        exact ln_c28 hSh C S hI (h28 _ _) hi6 hce hsl hl K
      | 29, _ =>
        refine lw_W C.1 C.2.1 C.2.2.2.1 (lw_Ks C.2.2.2.2.1 _) (ad := fun _ => 0) (sa := lw_sa b qx qm qo) 1 (pc := 40) (pc' := 1252) (L := lw_L i u w) (L' := lw_L i u w) (st := [.int (nI 29)]) (st' := []) rfl hl (fun ls hl => ?_)
        exact ln_c29 hSh C S hI (h29) hi6 hce hsl hl K
      | 30, _ =>
        refine lw_W C.1 C.2.1 C.2.2.2.1 (lw_Ks C.2.2.2.2.1 _) (ad := fun _ => 0) (sa := lw_sa b qx qm qo) 1 (pc := 40) (pc' := 1265) (L := lw_L i u w) (L' := lw_L i u w) (st := [.int (nI 30)]) (st' := []) rfl hl (fun ls hl => ?_)
        exact ln_c30 hSh C S hI (h30 _) hi6 hce hsl hl K
      | 31, _ =>
        refine lw_W C.1 C.2.1 C.2.2.2.1 (lw_Ks C.2.2.2.2.1 _) (ad := fun _ => 0) (sa := lw_sa b qx qm qo) 1 (pc := 40) (pc' := 1290) (L := lw_L i u w) (L' := lw_L i u w) (st := [.int (nI 31)]) (st' := []) rfl hl (fun ls hl => ?_)
        exact ln_c31 hSh C S hI (h31 _) hi6 hce hsl hl K
      | 32, _ =>
        refine lw_W C.1 C.2.1 C.2.2.2.1 (lw_Ks C.2.2.2.2.1 _) (ad := fun _ => 0) (sa := lw_sa b qx qm qo) 1 (pc := 40) (pc' := 1315) (L := lw_L i u w) (L' := lw_L i u w) (st := [.int (nI 32)]) (st' := []) rfl hl (fun ls hl => ?_)
        exact ln_c32 hSh C S hI (h32 _ _) hi6 hce hsl hl K
      | 33, _ =>
        refine lw_W C.1 C.2.1 C.2.2.2.1 (lw_Ks C.2.2.2.2.1 _) (ad := fun _ => 0) (sa := lw_sa b qx qm qo) 1 (pc := 40) (pc' := 1352) (L := lw_L i u w) (L' := lw_L i u w) (st := [.int (nI 33)]) (st' := []) rfl hl (fun ls hl => ?_)
        exact ln_c33 hSh C S hI (h33 _ _) hi6 hce hsl hl K
      | 34, _ =>
        refine lw_W C.1 C.2.1 C.2.2.2.1 (lw_Ks C.2.2.2.2.1 _) (ad := fun _ => 0) (sa := lw_sa b qx qm qo) 1 (pc := 40) (pc' := 1389) (L := lw_L i u w) (L' := lw_L i u w) (st := [.int (nI 34)]) (st' := []) rfl hl (fun ls hl => ?_)
        exact ln_c34 hSh C S hI (h34) hi6 hce hsl hl K
      | 35, _ =>
        refine lw_W C.1 C.2.1 C.2.2.2.1 (lw_Ks C.2.2.2.2.1 _) (ad := fun _ => 0) (sa := lw_sa b qx qm qo) 1 (pc := 40) (pc' := 1402) (L := lw_L i u w) (L' := lw_L i u w) (st := [.int (nI 35)]) (st' := []) rfl hl (fun ls hl => ?_)
        exact ln_c35 hSh C S hI (h35 _ _ _ _) hi6 hce hsl hl K
      | 36, _ =>
        refine lw_W C.1 C.2.1 C.2.2.2.1 (lw_Ks C.2.2.2.2.1 _) (ad := fun _ => 0) (sa := lw_sa b qx qm qo) 1 (pc := 40) (pc' := 1463) (L := lw_L i u w) (L' := lw_L i u w) (st := [.int (nI 36)]) (st' := []) rfl hl (fun ls hl => ?_)
        exact ln_c36 hSh C S hI (h36) hi6 hce hsl hl K
      | 37, _ =>
        refine lw_W C.1 C.2.1 C.2.2.2.1 (lw_Ks C.2.2.2.2.1 _) (ad := fun _ => 0) (sa := lw_sa b qx qm qo) 1 (pc := 40) (pc' := 1476) (L := lw_L i u w) (L' := lw_L i u w) (st := [.int (nI 37)]) (st' := []) rfl hl (fun ls hl => ?_)
        exact ln_c37 hSh C S hI (h37) hi6 hce hsl hl K
      | 38, _ =>
        refine lw_W C.1 C.2.1 C.2.2.2.1 (lw_Ks C.2.2.2.2.1 _) (ad := fun _ => 0) (sa := lw_sa b qx qm qo) 1 (pc := 40) (pc' := 1489) (L := lw_L i u w) (L' := lw_L i u w) (st := [.int (nI 38)]) (st' := []) rfl hl (fun ls hl => ?_)
        exact ln_c38 hSh C S hI (h38 _) hi6 hce hsl hl K
      | 39, _ =>
        refine lw_W C.1 C.2.1 C.2.2.2.1 (lw_Ks C.2.2.2.2.1 _) (ad := fun _ => 0) (sa := lw_sa b qx qm qo) 1 (pc := 40) (pc' := 1514) (L := lw_L i u w) (L' := lw_L i u w) (st := [.int (nI 39)]) (st' := []) rfl hl (fun ls hl => ?_)
        exact K hx hm _ _ ls _ _ _ _ (hMo dn hx hm hI) S hl (by omega) (by omega)
      | 40, _ =>
        refine lw_W C.1 C.2.1 C.2.2.2.1 (lw_Ks C.2.2.2.2.1 _) (ad := fun _ => 0) (sa := lw_sa b qx qm qo) 1 (pc := 40) (pc' := 1514) (L := lw_L i u w) (L' := lw_L i u w) (st := [.int (nI 40)]) (st' := []) rfl hl (fun ls hl => ?_)
        exact K hx hm _ _ ls _ _ _ _ (hMo dn hx hm hI) S hl (by omega) (by omega)
      | 41, _ =>
        refine lw_W C.1 C.2.1 C.2.2.2.1 (lw_Ks C.2.2.2.2.1 _) (ad := fun _ => 0) (sa := lw_sa b qx qm qo) 1 (pc := 40) (pc' := 1514) (L := lw_L i u w) (L' := lw_L i u w) (st := [.int (nI 41)]) (st' := []) rfl hl (fun ls hl => ?_)
        exact K hx hm _ _ ls _ _ _ _ (hMo dn hx hm hI) S hl (by omega) (by omega)
      | 42, _ =>
        refine lw_W C.1 C.2.1 C.2.2.2.1 (lw_Ks C.2.2.2.2.1 _) (ad := fun _ => 0) (sa := lw_sa b qx qm qo) 1 (pc := 40) (pc' := 1514) (L := lw_L i u w) (L' := lw_L i u w) (st := [.int (nI 42)]) (st' := []) rfl hl (fun ls hl => ?_)
        exact K hx hm _ _ ls _ _ _ _ (hMo dn hx hm hI) S hl (by omega) (by omega)
      | 43, _ =>
        refine lw_W C.1 C.2.1 C.2.2.2.1 (lw_Ks C.2.2.2.2.1 _) (ad := fun _ => 0) (sa := lw_sa b qx qm qo) 1 (pc := 40) (pc' := 1514) (L := lw_L i u w) (L' := lw_L i u w) (st := [.int (nI 43)]) (st' := []) rfl hl (fun ls hl => ?_)
        exact K hx hm _ _ ls _ _ _ _ (hMo dn hx hm hI) S hl (by omega) (by omega)
      | 44, _ =>
        refine lw_W C.1 C.2.1 C.2.2.2.1 (lw_Ks C.2.2.2.2.1 _) (ad := fun _ => 0) (sa := lw_sa b qx qm qo) 1 (pc := 40) (pc' := 1514) (L := lw_L i u w) (L' := lw_L i u w) (st := [.int (nI 44)]) (st' := []) rfl hl (fun ls hl => ?_)
        exact K hx hm _ _ ls _ _ _ _ (hMo dn hx hm hI) S hl (by omega) (by omega)
      | 45, _ =>
        refine lw_W C.1 C.2.1 C.2.2.2.1 (lw_Ks C.2.2.2.2.1 _) (ad := fun _ => 0) (sa := lw_sa b qx qm qo) 1 (pc := 40) (pc' := 1514) (L := lw_L i u w) (L' := lw_L i u w) (st := [.int (nI 45)]) (st' := []) rfl hl (fun ls hl => ?_)
        exact K hx hm _ _ ls _ _ _ _ (hMo dn hx hm hI) S hl (by omega) (by omega)
      | 46, _ =>
        refine lw_W C.1 C.2.1 C.2.2.2.1 (lw_Ks C.2.2.2.2.1 _) (ad := fun _ => 0) (sa := lw_sa b qx qm qo) 1 (pc := 40) (pc' := 1514) (L := lw_L i u w) (L' := lw_L i u w) (st := [.int (nI 46)]) (st' := []) rfl hl (fun ls hl => ?_)
        exact K hx hm _ _ ls _ _ _ _ (hMo dn hx hm hI) S hl (by omega) (by omega)
      | 47, _ =>
        refine lw_W C.1 C.2.1 C.2.2.2.1 (lw_Ks C.2.2.2.2.1 _) (ad := fun _ => 0) (sa := lw_sa b qx qm qo) 1 (pc := 40) (pc' := 1514) (L := lw_L i u w) (L' := lw_L i u w) (st := [.int (nI 47)]) (st' := []) rfl hl (fun ls hl => ?_)
        exact K hx hm _ _ ls _ _ _ _ (hMo dn hx hm hI) S hl (by omega) (by omega)
      | 48, _ =>
        refine lw_W C.1 C.2.1 C.2.2.2.1 (lw_Ks C.2.2.2.2.1 _) (ad := fun _ => 0) (sa := lw_sa b qx qm qo) 1 (pc := 40) (pc' := 1514) (L := lw_L i u w) (L' := lw_L i u w) (st := [.int (nI 48)]) (st' := []) rfl hl (fun ls hl => ?_)
        exact K hx hm _ _ ls _ _ _ _ (hMo dn hx hm hI) S hl (by omega) (by omega)
      | 49, _ =>
        refine lw_W C.1 C.2.1 C.2.2.2.1 (lw_Ks C.2.2.2.2.1 _) (ad := fun _ => 0) (sa := lw_sa b qx qm qo) 1 (pc := 40) (pc' := 1514) (L := lw_L i u w) (L' := lw_L i u w) (st := [.int (nI 49)]) (st' := []) rfl hl (fun ls hl => ?_)
        exact K hx hm _ _ ls _ _ _ _ (hMo dn hx hm hI) S hl (by omega) (by omega)
      | 50, _ =>
        refine lw_W C.1 C.2.1 C.2.2.2.1 (lw_Ks C.2.2.2.2.1 _) (ad := fun _ => 0) (sa := lw_sa b qx qm qo) 1 (pc := 40) (pc' := 1514) (L := lw_L i u w) (L' := lw_L i u w) (st := [.int (nI 50)]) (st' := []) rfl hl (fun ls hl => ?_)
        exact K hx hm _ _ ls _ _ _ _ (hMo dn hx hm hI) S hl (by omega) (by omega)
      | 51, _ =>
        refine lw_W C.1 C.2.1 C.2.2.2.1 (lw_Ks C.2.2.2.2.1 _) (ad := fun _ => 0) (sa := lw_sa b qx qm qo) 1 (pc := 40) (pc' := 1514) (L := lw_L i u w) (L' := lw_L i u w) (st := [.int (nI 51)]) (st' := []) rfl hl (fun ls hl => ?_)
        exact K hx hm _ _ ls _ _ _ _ (hMo dn hx hm hI) S hl (by omega) (by omega)
      | 52, _ =>
        refine lw_W C.1 C.2.1 C.2.2.2.1 (lw_Ks C.2.2.2.2.1 _) (ad := fun _ => 0) (sa := lw_sa b qx qm qo) 1 (pc := 40) (pc' := 1514) (L := lw_L i u w) (L' := lw_L i u w) (st := [.int (nI 52)]) (st' := []) rfl hl (fun ls hl => ?_)
        exact K hx hm _ _ ls _ _ _ _ (hMo dn hx hm hI) S hl (by omega) (by omega)
      | 53, _ =>
        refine lw_W C.1 C.2.1 C.2.2.2.1 (lw_Ks C.2.2.2.2.1 _) (ad := fun _ => 0) (sa := lw_sa b qx qm qo) 1 (pc := 40) (pc' := 1514) (L := lw_L i u w) (L' := lw_L i u w) (st := [.int (nI 53)]) (st' := []) rfl hl (fun ls hl => ?_)
        exact K hx hm _ _ ls _ _ _ _ (hMo dn hx hm hI) S hl (by omega) (by omega)
      | 54, _ =>
        refine lw_W C.1 C.2.1 C.2.2.2.1 (lw_Ks C.2.2.2.2.1 _) (ad := fun _ => 0) (sa := lw_sa b qx qm qo) 1 (pc := 40) (pc' := 1514) (L := lw_L i u w) (L' := lw_L i u w) (st := [.int (nI 54)]) (st' := []) rfl hl (fun ls hl => ?_)
        exact K hx hm _ _ ls _ _ _ _ (hMo dn hx hm hI) S hl (by omega) (by omega)
      | 55, _ =>
        refine lw_W C.1 C.2.1 C.2.2.2.1 (lw_Ks C.2.2.2.2.1 _) (ad := fun _ => 0) (sa := lw_sa b qx qm qo) 1 (pc := 40) (pc' := 1514) (L := lw_L i u w) (L' := lw_L i u w) (st := [.int (nI 55)]) (st' := []) rfl hl (fun ls hl => ?_)
        exact K hx hm _ _ ls _ _ _ _ (hMo dn hx hm hI) S hl (by omega) (by omega)
      | 56, _ =>
        refine lw_W C.1 C.2.1 C.2.2.2.1 (lw_Ks C.2.2.2.2.1 _) (ad := fun _ => 0) (sa := lw_sa b qx qm qo) 1 (pc := 40) (pc' := 1514) (L := lw_L i u w) (L' := lw_L i u w) (st := [.int (nI 56)]) (st' := []) rfl hl (fun ls hl => ?_)
        exact K hx hm _ _ ls _ _ _ _ (hMo dn hx hm hI) S hl (by omega) (by omega)
      | 57, _ =>
        refine lw_W C.1 C.2.1 C.2.2.2.1 (lw_Ks C.2.2.2.2.1 _) (ad := fun _ => 0) (sa := lw_sa b qx qm qo) 1 (pc := 40) (pc' := 1514) (L := lw_L i u w) (L' := lw_L i u w) (st := [.int (nI 57)]) (st' := []) rfl hl (fun ls hl => ?_)
        exact K hx hm _ _ ls _ _ _ _ (hMo dn hx hm hI) S hl (by omega) (by omega)
      | 58, _ =>
        refine lw_W C.1 C.2.1 C.2.2.2.1 (lw_Ks C.2.2.2.2.1 _) (ad := fun _ => 0) (sa := lw_sa b qx qm qo) 1 (pc := 40) (pc' := 1514) (L := lw_L i u w) (L' := lw_L i u w) (st := [.int (nI 58)]) (st' := []) rfl hl (fun ls hl => ?_)
        exact K hx hm _ _ ls _ _ _ _ (hMo dn hx hm hI) S hl (by omega) (by omega)
      | 59, _ =>
        refine lw_W C.1 C.2.1 C.2.2.2.1 (lw_Ks C.2.2.2.2.1 _) (ad := fun _ => 0) (sa := lw_sa b qx qm qo) 1 (pc := 40) (pc' := 1514) (L := lw_L i u w) (L' := lw_L i u w) (st := [.int (nI 59)]) (st' := []) rfl hl (fun ls hl => ?_)
        exact K hx hm _ _ ls _ _ _ _ (hMo dn hx hm hI) S hl (by omega) (by omega)
      | 60, _ =>
        refine lw_W C.1 C.2.1 C.2.2.2.1 (lw_Ks C.2.2.2.2.1 _) (ad := fun _ => 0) (sa := lw_sa b qx qm qo) 1 (pc := 40) (pc' := 1514) (L := lw_L i u w) (L' := lw_L i u w) (st := [.int (nI 60)]) (st' := []) rfl hl (fun ls hl => ?_)
        exact K hx hm _ _ ls _ _ _ _ (hMo dn hx hm hI) S hl (by omega) (by omega)
      | 61, _ =>
        refine lw_W C.1 C.2.1 C.2.2.2.1 (lw_Ks C.2.2.2.2.1 _) (ad := fun _ => 0) (sa := lw_sa b qx qm qo) 1 (pc := 40) (pc' := 1514) (L := lw_L i u w) (L' := lw_L i u w) (st := [.int (nI 61)]) (st' := []) rfl hl (fun ls hl => ?_)
        exact K hx hm _ _ ls _ _ _ _ (hMo dn hx hm hI) S hl (by omega) (by omega)
      | 62, _ =>
        refine lw_W C.1 C.2.1 C.2.2.2.1 (lw_Ks C.2.2.2.2.1 _) (ad := fun _ => 0) (sa := lw_sa b qx qm qo) 1 (pc := 40) (pc' := 1514) (L := lw_L i u w) (L' := lw_L i u w) (st := [.int (nI 62)]) (st' := []) rfl hl (fun ls hl => ?_)
        exact K hx hm _ _ ls _ _ _ _ (hMo dn hx hm hI) S hl (by omega) (by omega)
      | 63, _ =>
        refine lw_W C.1 C.2.1 C.2.2.2.1 (lw_Ks C.2.2.2.2.1 _) (ad := fun _ => 0) (sa := lw_sa b qx qm qo) 1 (pc := 40) (pc' := 1514) (L := lw_L i u w) (L' := lw_L i u w) (st := [.int (nI 63)]) (st' := []) rfl hl (fun ls hl => ?_)
        exact K hx hm _ _ ls _ _ _ _ (hMo dn hx hm hI) S hl (by omega) (by omega)
      | q + 64, hq => omega
set_option maxRecDepth 100000 in
set_option maxHeartbeats 8000000 in
theorem ln_whole {Inv : Nat → AmH → AmH → Prop} (h0 : Inv 0 cx_h0 cm_h0) (hAll : ln_All Inv) (hMo : ∀ (n : Nat) (hx hm : AmH), Inv n hx hm → Inv (n + 1) hx hm) (hV : ln_C4 Inv) {p : Program} {e : Env} {s : State} {m : MethodId} {below : List Frame} {meth : Method} {c : Code} (l : Launch) {b Ln : Nat} {xs : Nat → Int32} (hL : Ln ≤ 384) (C0 : lw_At p s m meth c b Ln xs) : W p l e room_1 s m #[Value.ref b] below meth c s.heap [] 0 0 (lw_Z below #[Value.ref b] s) (entryFrame m ([Value.ref b] : List Value).toArray 7) := by
  obtain ⟨hx, hb, hr, hml, hown, hts0, hX, hbl, hlocks, hgv⟩ := id C0
  have hts := lw_gt hts0
  have hown : s.vm.findClass (am_on 16) = some m.cls := hown
  obtain ⟨sa, av, hen⟩ := lw_env hts0 hgv
  obtain ⟨D, hK⟩ := lw_known hts
  have hA : ∀ q : Nat, s.heap.size ≤ q → lw_A s q := fun _ h => h
  have hC : LwC p s m c b Ln xs sa av := ⟨hx, hb, hml, hown, hts, hen, hX, hbl, hL⟩
  have hS : va_S (lw_A s) s.heap s.heap [] := va_S.rf
  have hP : va_P D vwCl [] s.heap := fun k q h => by simp at h
  have hD : va_D (lw_A s) [] := ⟨fun i j p q h => by simp at h, fun k q h => by simp at h⟩
  have hl := lv_entry ([.ref b]) (n := 7) (Nat.le_of_ble_eq_true rfl)
  rw [lg_entry_eq]
  generalize (lg_sl ([.ref b]) ++ List.replicate (7 - (lg_sl ([.ref b])).length) Slot.unset).toArray = ls at hl ⊢
  have hl : lv_has ls 7 [(0, .ref b)] := hl
  -- the object of the class
  refine va_new (D := D) (cl := vwCl) (ci := 10) (fs := am_dfl 10) (C := RX11) (T := TX11) (N := 20) hx hb hts gw_11 tyX11 tyX11_ok hown (hts _ gn_16_8) (hts _ gi_11) (hts _ gj_11) hK hP hD hS hA rfl (by decide +kernel) (Nat.le_of_ble_eq_true rfl) (Nat.le_of_ble_eq_true rfl) dL_law_0 (fun q0 H hP hD hS => ?_)
  have w0 := lw_wd1 (sa := sa) hK hP hD hS
  refine lv_dup hx hb dL_law_3 rfl ?_
  refine lw_ctor (fr := []) (h := [.inr (10, am_dfl 10)]) (ad := fun _ => q0) (rest := [.ref q0]) hx hb hml hl.1 hown hts lw_room1.1 lw_room1.2.1 hen hA dL_law_4 rfl rfl (Nat.le_of_ble_eq_true rfl) (Nat.succ_pos _) (by decide) cx_init (Nat.le_of_ble_eq_true rfl) (Nat.le_of_ble_eq_true rfl) (Nat.le_of_ble_eq_true rfl) w0 (fun k q h => by simp at h) (fun i j p q _ h => by simp at h) (fun adx cax H locs a0 wx _ _ => ?_)
  refine lv_astore_n (lv' := [(1, .ref q0), (0, .ref b)]) hx hb dL_law_7 rfl hl (by decide) rfl (fun ls hl => ?_)
  -- the object of the model
  refine va_new (D := D) (cl := vwCl) (ws := am_ws adx sa cax cx_h0) (ci := 11) (fs := am_dfl 11) (C := RX12) (T := TX12) (N := 58) hx hb hts gw_12 tyX12 tyX12_ok hown (hts _ gn_16_16) (hts _ gi_12) (hts _ gj_12) hK wx.2.2.1 wx.2.2.2.1 wx.2.2.2.2.1 hA rfl (by decide +kernel) (Nat.le_of_ble_eq_true rfl) (Nat.le_of_ble_eq_true rfl) dL_law_8 (fun q1 H hP hD hS => ?_)
  obtain ⟨dx, dm, dd⟩ := lw_dis_D hD
  have wm := lw_wd1 (sa := sa) hK (lw_P_r hP) dm hS
  have em : am_ws (fun _ => q1) sa (fun _ => 0) [.inr (11, am_dfl 11)] = [(q1, .inr (11, am_dfl 11))] := by
    show [(q1, (.inr (11, (am_dfl 11).map (am_rv (fun _ => q1) sa)) : va_E))] = _
    rw [am_dfl_rv]
  refine lv_dup hx hb dL_law_11 rfl ?_
  refine lw_ctor (fr := am_ws adx sa cax cx_h0) (h := [.inr (11, am_dfl 11)]) (ad := fun _ => q1) (rest := [.ref q1]) hx hb hml hl.1 hown hts lw_room1.1 lw_room1.2.1 hen hA dL_law_12 rfl rfl (Nat.le_of_ble_eq_true rfl) (Nat.succ_pos _) (by decide) cm_init (Nat.le_of_ble_eq_true rfl) (Nat.le_of_ble_eq_true rfl) (Nat.le_of_ble_eq_true rfl) wm (lw_P_l hP) (by rw [em]; exact dd.symm) (fun adm cam H locs a1 wm hPx hdx => ?_)
  refine lv_astore_n (lv' := [(2, .ref q1), (1, .ref q0), (0, .ref b)]) hx hb dL_law_15 rfl hl (by decide) rfl (fun ls hl => ?_)
  -- the row that value writes into
  refine lv_iconst (v := 1) hx hb dL_law_16 (by decide) ?_
  have hDall : va_D (lw_A s) (am_ws adx sa cax cx_h0 ++ am_ws adm sa cam cm_h0) := va_D.app dx wm.2.2.2.1 (fun i j p q hp hq => hdx.symm i j p q hp hq)
  refine va_newa (D := D) (cl := vwCl) (atype := .long) (N' := 1) (ws := am_ws adx sa cax cx_h0 ++ am_ws adm sa cam cm_h0) hx hb (hts _ gs_tlong) rfl hK (va_P.app hPx wm.2.2.1) hDall wm.2.2.2.2.1 hA (a0 := (1, .inr (.inl (fun _ => 0)))) (fun _ => rfl) (by decide) (by decide +kernel) (by decide) (Nat.le_of_ble_eq_true rfl) (Nat.le_of_ble_eq_true rfl) dL_law_17 (fun q2 co H r0 r1 r2 r3 => ?_)
  refine lv_astore_n (lv' := [(3, .ref q2), (2, .ref q1), (1, .ref q0), (0, .ref b)]) hx hb dL_law_19 rfl hl (by decide) rfl (fun ls hl => ?_)
  refine lv_iconst (v := 0) hx hb dL_law_20 (by decide) ?_
  refine lv_istore (lv' := [(4, .int 0), (3, .ref q2), (2, .ref q1), (1, .ref q0), (0, .ref b)]) hx hb dL_law_21 hl (by decide) rfl (fun ls hl => ?_)
  obtain ⟨d1, d2, d3⟩ := lw_dis_D r2
  have hP12 := lw_P_l r1
  have S : LwS D sa s H _ cx_h0 cm_h0 q0 q1 q2 := ⟨adx, cax, adm, cam, co, fun _ => 0, a0, a1, ⟨wx.1, wx.2.1, lw_P_l hP12, dx, r3, wx.2.2.2.2.2⟩, ⟨wm.1, wm.2.1, lw_P_r hP12, wm.2.2.2.1, r3, wm.2.2.2.2.2⟩, r0, lw_P_r r1, d2.2 0 _ rfl, hdx.symm, fun i j p q hp hq => d3 i j p q (by rw [List.getElem?_append_left (List.getElem?_eq_some_iff.mp hp).1]; exact hp) hq, fun i j p q hp hq => d3 ((am_ws adx sa cax cx_h0).length + i) j p q (by rw [List.getElem?_append_right (Nat.le_add_right _ _), Nat.add_sub_cancel_left]; exact hp) hq⟩
  have hlr : am_lr (fun _ => 0) (lw_sa b q0 q1 q2) ls 7 (lw_L (6 * 0) none none) := by
    refine ⟨⟨hl.1, hl.2.1, fun q hq => nomatch hq⟩, fun k v hk => ?_⟩
    match k, hk with
    | 0, hk => cases hk; exact lv_at hl 4 rfl
    | 1, hk => cases hk; exact lv_at hl 3 rfl
    | 2, hk => cases hk; exact lv_at hl 2 rfl
    | 3, hk => cases hk; exact lv_at hl 1 rfl
    | 4, hk => cases hk; exact lv_at hl 0 rfl
    | 5, hk => cases hk
    | 6, hk => cases hk
    | k + 7, hk => cases hk
  refine W.widen (k := 200 + 8 * 0) (n := 200000 + 2000 * 0) (Nat.le_of_ble_eq_true rfl) (Nat.le_of_ble_eq_true rfl) ?_
  exact ln_loop hAll hMo hV hC hr hlocks 65 0 cx_h0 cm_h0 _ _ ls none none (by omega) (by decide) h0 S hlr

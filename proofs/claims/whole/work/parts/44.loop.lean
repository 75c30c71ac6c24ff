/-! THE LAW: its loop -/
theorem lw_gt1 {pc t : Nat} {L : AmL} {x y : Int32} (h : lw_one pc L [.int y, .int x] = if y < x then some (t, L, []) else some (pc + 3, L, [])) (hc : y < x) : lw_wk 1 pc L [.int y, .int x] = some (t, L, []) := by
  show (match lw_one pc L [.int y, .int x] with
    | some (pc', L', st') => lw_wk 0 pc' L' st'
    | none => none) = _
  rw [h, if_pos hc]
  rfl
theorem lw_gt0 {pc t : Nat} {L : AmL} {x y : Int32} (h : lw_one pc L [.int y, .int x] = if y < x then some (t, L, []) else some (pc + 3, L, [])) (hc : ¬ y < x) : lw_wk 1 pc L [.int y, .int x] = some (pc + 3, L, []) := by
  show (match lw_one pc L [.int y, .int x] with
    | some (pc', L', st') => lw_wk 0 pc' L' st'
    | none => none) = _
  rw [h, if_neg hc]
  rfl
theorem dL_law_1521 : decode cL_law 1521 = .ok (.ireturn, 1) := by decide +kernel
/-- of every case: class and model agree (the case of value stands by itself: it throws) -/
def lw_All (Inv : AmH → AmH → Prop) : Prop := lw_Sh Inv ∧
  (∀ y1 y2 y3 y4 y5 : Int32, lw_AgI Inv m_X11_feed m_X12_feed [.int (y1), .int (y2), .int (y3), .int (y4), .int (y5)]) ∧
  (∀ y1 : Int32, lw_AgI Inv m_X11_end m_X12_end [.int (y1)]) ∧
  (∀ y1 : Int32, lw_AgI Inv m_X11_fault m_X12_fault [.int (y1)]) ∧
  (∀ y1 : Int32, lw_AgI Inv m_X11_text m_X12_text [.int (y1)]) ∧
  (∀ y1 y2 : Int32, lw_AgI Inv m_X11_customer m_X12_customer [.int (y1), .int (y2)]) ∧
  (∀ y1 y2 : Int32, lw_AgI Inv m_X11_lay m_X12_lay [.int (y1), .int (y2)]) ∧
  (∀ y1 : Int32, lw_AgI Inv m_X11_lift m_X12_lift [.int (y1)]) ∧
  (∀ y1 y2 : Int32, lw_AgI Inv m_X11_coin m_X12_coin [.int (y1), .int (y2)]) ∧
  (∀ y1 : Int32, lw_AgI Inv m_X11_tray m_X12_tray [.int (y1)]) ∧
  (lw_AgL Inv m_X11_till m_X12_till []) ∧
  (∀ y1 y2 : Int32, lw_AgL Inv m_X11_result m_X12_result [.int (y1), .int (y2)]) ∧
  (∀ y1 y2 : Int32, lw_AgI Inv m_X11_serve m_X12_serve [.int (y1), .int (y2)]) ∧
  (∀ y1 : Int32, lw_AgI Inv m_X11_row m_X12_row [.int (y1)]) ∧
  (∀ y1 y2 : Int32, lw_AgL Inv m_X11_left m_X12_left [.int (y1), .int (y2)]) ∧
  (∀ y1 : Int32, lw_AgI Inv m_X11_aside m_X12_aside [.int (y1)]) ∧
  (∀ y1 : Int32, lw_AgI Inv m_X11_steps m_X12_steps [.int (y1)]) ∧
  (lw_AgI Inv m_X11_most m_X12_most []) ∧
  (∀ y1 y2 : Int32, lw_AgL Inv m_X11_dawn m_X12_dawn [.int (y1), .int (y2)]) ∧
  (∀ y1 : Int32, lw_AgI Inv m_X11_breaks m_X12_breaks [.int (y1)]) ∧
  (∀ y1 y2 : Int32, lw_AgI Inv m_X11_by m_X12_by [.int (y1), .int (y2)]) ∧
  (∀ y1 y2 : Int32, lw_AgI Inv m_X11_gives m_X12_gives [.int (y1), .int (y2)]) ∧
  (∀ y1 y2 : Int32, lw_AgI Inv m_X11_run m_X12_run [.int (y1), .int (y2)]) ∧
  (∀ y1 y2 : Int32, lw_AgI Inv m_X11_worst m_X12_worst [.int (y1), .int (y2)]) ∧
  (∀ y1 y2 y3 y4 : Int32, lw_AgI Inv m_X11_day m_X12_day [.int (y1), .int (y2), .long ((((y3)).toInt64 <<< ((32 : Int32).toInt64 &&& 63)) ||| (((y4)).toInt64 &&& 4294967295))]) ∧
  (∀ y1 y2 y3 y4 : Int32, lw_AgI Inv m_X11_best m_X12_best [.int (y1), .int (y2), .long ((((y3)).toInt64 <<< ((32 : Int32).toInt64 &&& 63)) ||| (((y4)).toInt64 &&& 4294967295))]) ∧
  (∀ y1 : Int32, lw_AgI Inv m_X11_served m_X12_served [.int (y1)]) ∧
  (∀ y1 : Int32, lw_AgI Inv m_X11_cover m_X12_cover [.int (y1)]) ∧
  (∀ y1 y2 : Int32, lw_AgI Inv m_X11_change m_X12_change [.int (y1), .int (y2)]) ∧
  (lw_AgI Inv m_X11_amounts m_X12_amounts []) ∧
  (∀ y1 : Int32, lw_AgI Inv m_X11_helps m_X12_helps [.int (y1)]) ∧
  (∀ y1 : Int32, lw_AgI Inv m_X11_spoils m_X12_spoils [.int (y1)]) ∧
  (∀ y1 y2 : Int32, lw_AgI Inv m_X11_wise m_X12_wise [.int (y1), .int (y2)]) ∧
  (∀ y1 y2 : Int32, lw_AgI Inv m_X11_rich m_X12_rich [.int (y1), .int (y2)]) ∧
  (lw_AgI Inv m_X11_chain m_X12_chain []) ∧
  (∀ y1 y2 y3 y4 : Int32, lw_AgI Inv m_X11_mean m_X12_mean [.int (y1), .int (y2), .int (y3), .int (y4)]) ∧
  (lw_AgI Inv m_X11_image m_X12_image []) ∧
  (lw_AgI Inv m_X11_back m_X12_back []) ∧
  (∀ y1 : Int32, lw_AgI Inv m_X11_count m_X12_count [.int (y1)])
/-- the case of value -/
def lw_C4 (Inv : AmH → AmH → Prop) : Prop := ∀ (p : Program) (l : Launch) (e : Env) (s : State) (m : MethodId) (below : List Frame) (meth : Method) (c : Code) (H : Heap) (locs : List Loc) (cells slots : Nat) (Q : State → Prop) (b Ln : Nat) (xs : Nat → Int32) (sa av : Nat → Nat) (D : va_G) (hx hm : AmH) (qx qm qo : Nat) (ls : Array Slot) (i : Nat) (u w : Option Value), LwC p s m c b Ln xs sa av → LwS D sa s H locs hx hm qx qm qo → Inv hx hm → i + 6 ≤ Ln → cells ≤ 10000 → slots ≤ 1000000 → am_lr (fun _ => 0) (lw_sa b qx qm qo) ls 7 (lw_L i u w) → LwK Inv p l e s m below meth c D sa b qx qm qo i cells slots Q → W p l e room_1 s m #[Value.ref b] below meth c H locs cells slots Q (F0 m 360 ls [])
set_option maxRecDepth 100000 in
set_option maxHeartbeats 8000000 in
theorem lw_loop {p : Program} {l : Launch} {e : Env} {s : State} {m : MethodId} {below : List Frame} {meth : Method} {c : Code} {b Ln : Nat} {xs : Nat → Int32} {sa av : Nat → Nat} {D : va_G} {qx qm qo : Nat} {Inv : AmH → AmH → Prop} (hAll : lw_All Inv) (hV : lw_C4 Inv) (C : LwC p s m c b Ln xs sa av) (hr : meth.sig.returnType = ret) (hlocks : meth.locks = false) : ∀ (r dn : Nat) (hx hm : AmH) (H : Heap) (locs : List Loc) (ls : Array Slot) (u w : Option Value), Ln < 6 * dn + 6 * r → dn ≤ 64 → Inv hx hm → LwS D sa s H locs hx hm qx qm qo → am_lr (fun _ => 0) (lw_sa b qx qm qo) ls 7 (lw_L (6 * dn) u w) → W p l e room_1 s m #[Value.ref b] below meth c H locs (200 + 8 * dn) (200000 + 2000 * dn) (lw_Z below #[Value.ref b] s) (F0 m 23 ls [])
  | r, dn, hx, hm, H, locs, ls, u, w, hm1, hd, hI, S, hl => by
    have hLn := C.2.2.2.2.2.2.2.2
    have hbl := C.2.2.2.2.2.2.2.1
    have hX := C.2.2.2.2.2.2.1
    have hS : va_S (lw_A s) s.heap H locs := by
      obtain ⟨_, _, _, _, _, _, _, _, w1, _⟩ := S
      exact w1.2.2.2.2.1
    generalize hi0 : 6 * dn = i at hl
    refine lw_W C.1 C.2.1 C.2.2.2.1 (lw_Ks C.2.2.2.2.1 _) (ad := fun _ => 0) (sa := lw_sa b qx qm qo) 2 (pc := 23) (pc' := 26) (L := lw_L i u w) (L' := lw_L i u w) (st := []) (st' := [.retAddr 9, .int (nI i)]) rfl hl (fun ls hl => ?_)
    refine va_slen C.1 C.2.1 hX hbl (Nat.not_le.mpr hbl) hS dL_law_26 ?_
    refine lw_W C.1 C.2.1 C.2.2.2.1 (lw_Ks C.2.2.2.2.1 _) (ad := fun _ => 0) (sa := lw_sa b qx qm qo) 2 (pc := 27) (pc' := 30) (L := lw_L i u w) (L' := lw_L i u w) (st := [.int (Int32.ofNat Ln), .int (nI i)]) (st' := [.int (Int32.ofNat Ln - 6), .int (nI i)]) rfl hl (fun ls hl => ?_)
    have hcmp : Int32.ofNat Ln - 6 < nI i ↔ Ln < i + 6 := by
      rw [Int32.lt_iff_toInt_lt, show (Int32.ofNat Ln - 6).toInt = (Ln : Int) - 6 from pk_sub_toInt (a := Ln) (b := 6) (by omega) (by omega), nI_toInt (by omega)]
      omega
    by_cases hend : Ln < i + 6
    · refine lw_W C.1 C.2.1 C.2.2.2.1 (lw_Ks C.2.2.2.2.1 _) (ad := fun _ => 0) (sa := lw_sa b qx qm qo) 1 (pc := 30) (pc' := 1520) (L := lw_L i u w) (L' := lw_L i u w) (st := [.int (Int32.ofNat Ln - 6), .int (nI i)]) (st' := []) (lw_gt1 rfl (hcmp.mpr hend)) hl (fun ls hl => ?_)
      refine lw_W C.1 C.2.1 C.2.2.2.1 (lw_Ks C.2.2.2.2.1 _) (ad := fun _ => 0) (sa := lw_sa b qx qm qo) 1 (pc := 1520) (pc' := 1521) (L := lw_L i u w) (L' := lw_L i u w) (st := []) (st' := [.int 1]) rfl hl (fun ls hl => ?_)
      refine va_forget (fun q hq => hS.2.2 q hq) ?_
      refine W.widen (k := 600128) (n := 7301098) (by omega) (by omega) ?_
      exact lw_ret C.1 C.2.1 hr hlocks dL_law_1521
    · have hi6 : i + 6 ≤ Ln := by omega
      obtain ⟨r, rfl⟩ : ∃ r', r = r' + 1 := ⟨r - 1, by omega⟩
      refine lw_W C.1 C.2.1 C.2.2.2.1 (lw_Ks C.2.2.2.2.1 _) (ad := fun _ => 0) (sa := lw_sa b qx qm qo) 1 (pc := 30) (pc' := 33) (L := lw_L i u w) (L' := lw_L i u w) (st := [.int (Int32.ofNat Ln - 6), .int (nI i)]) (st' := []) (lw_gt0 rfl (fun q => hend (hcmp.mp q))) hl (fun ls hl => ?_)
      refine lw_W C.1 C.2.1 C.2.2.2.1 (lw_Ks C.2.2.2.2.1 _) (ad := fun _ => 0) (sa := lw_sa b qx qm qo) 2 (pc := 33) (pc' := 36) (L := lw_L i u w) (L' := lw_L i u w) (st := []) (st' := [.int (nI i), .retAddr 9]) rfl hl (fun ls hl => ?_)
      refine va_sld C.1 C.2.1 hX hbl (Nat.not_le.mpr hbl) hS (vp_in_nI (by omega) (by omega)) dL_law_36 ?_
      rw [nI_clamp (by omega)]
      refine lw_W C.1 C.2.1 C.2.2.2.1 (lw_Ks C.2.2.2.2.1 _) (ad := fun _ => 0) (sa := lw_sa b qx qm qo) 2 (pc := 37) (pc' := 40) (L := lw_L i u w) (L' := lw_L i u w) (st := [.int (xs i)]) (st' := [.int (xs i &&& 63)]) rfl hl (fun ls hl => ?_)
      have hnext : nI i + 6 = nI (i + 6) := nI_add i 6
      have K : LwK Inv p l e s m below meth c D sa b qx qm qo i (200 + 8 * dn) (200000 + 2000 * dn) (lw_Z below #[Value.ref b] s) := by
        intro hx' hm' H' locs' ls' cells' slots' u' w' hI' S' hl' c1 c2
        refine W.widen (k := 200 + 8 * (dn + 1)) (n := 200000 + 2000 * (dn + 1)) (by omega) (by omega) ?_
        refine lw_W C.1 C.2.1 C.2.2.2.1 (lw_Ks C.2.2.2.2.1 _) (ad := fun _ => 0) (sa := lw_sa b qx qm qo) 2 (pc := 1514) (pc' := 23) (L := lw_L i u' w') (L' := [some (.retAddr 9), some (.retAddr 10), some (.retAddr 11), some (.retAddr 12), some (.int (nI i + 6)), u', w']) (st := []) (st' := []) rfl hl' (fun ls hl => ?_)
        rw [hnext] at hl
        exact lw_loop hAll hV C hr hlocks r (dn + 1) hx' hm' H' locs' ls u' w' (by omega) (by omega) hI' S' (by rw [show 6 * (dn + 1) = i + 6 by omega]; exact hl)
      obtain ⟨q, hq, eq⟩ := pk_andE (xs i) (m := 63) 6 (by decide +kernel)
      rw [eq]
      have hce : 200 + 8 * dn ≤ 10000 := by omega
      have hsl : 200000 + 2000 * dn ≤ 1000000 := by omega
      obtain ⟨hSh, h0, h1, h2, h3, h5, h6, h7, h8, h9, h10, h11, h12, h13, h14, h15, h16, h17, h18, h19, h20, h21, h22, h23, h24, h25, h26, h27, h28, h29, h30, h31, h32, h33, h34, h35, h36, h37, h38⟩ := hAll
      match q, hq with
      | 0, _ =>
        refine lw_W C.1 C.2.1 C.2.2.2.1 (lw_Ks C.2.2.2.2.1 _) (ad := fun _ => 0) (sa := lw_sa b qx qm qo) 1 (pc := 40) (pc' := 212) (L := lw_L i u w) (L' := lw_L i u w) (st := [.int (nI 0)]) (st' := []) rfl hl (fun ls hl => ?_)
        exact lw_c0 hSh C S hI (h0 _ _ _ _ _) hi6 hce hsl hl K
      | 1, _ =>
        refine lw_W C.1 C.2.1 C.2.2.2.1 (lw_Ks C.2.2.2.2.1 _) (ad := fun _ => 0) (sa := lw_sa b qx qm qo) 1 (pc := 40) (pc' := 285) (L := lw_L i u w) (L' := lw_L i u w) (st := [.int (nI 1)]) (st' := []) rfl hl (fun ls hl => ?_)
        exact lw_c1 hSh C S hI (h1 _) hi6 hce hsl hl K
      | 2, _ =>
        refine lw_W C.1 C.2.1 C.2.2.2.1 (lw_Ks C.2.2.2.2.1 _) (ad := fun _ => 0) (sa := lw_sa b qx qm qo) 1 (pc := 40) (pc' := 310) (L := lw_L i u w) (L' := lw_L i u w) (st := [.int (nI 2)]) (st' := []) rfl hl (fun ls hl => ?_)
        exact lw_c2 hSh C S hI (h2 _) hi6 hce hsl hl K
      | 3, _ =>
        refine lw_W C.1 C.2.1 C.2.2.2.1 (lw_Ks C.2.2.2.2.1 _) (ad := fun _ => 0) (sa := lw_sa b qx qm qo) 1 (pc := 40) (pc' := 335) (L := lw_L i u w) (L' := lw_L i u w) (st := [.int (nI 3)]) (st' := []) rfl hl (fun ls hl => ?_)
        exact lw_c3 hSh C S hI (h3 _) hi6 hce hsl hl K
      | 4, _ =>
        refine lw_W C.1 C.2.1 C.2.2.2.1 (lw_Ks C.2.2.2.2.1 _) (ad := fun _ => 0) (sa := lw_sa b qx qm qo) 1 (pc := 40) (pc' := 360) (L := lw_L i u w) (L' := lw_L i u w) (st := [.int (nI 4)]) (st' := []) rfl hl (fun ls hl => ?_)
        exact hV p l e s m below meth c H locs _ _ _ b Ln xs sa av D hx hm qx qm qo ls i u w C S hI hi6 hce hsl hl K
      | 5, _ =>
        refine lw_W C.1 C.2.1 C.2.2.2.1 (lw_Ks C.2.2.2.2.1 _) (ad := fun _ => 0) (sa := lw_sa b qx qm qo) 1 (pc := 40) (pc' := 416) (L := lw_L i u w) (L' := lw_L i u w) (st := [.int (nI 5)]) (st' := []) rfl hl (fun ls hl => ?_)
        exact lw_c5 hSh C S hI (h5 _ _) hi6 hce hsl hl K
      | 6, _ =>
        refine lw_W C.1 C.2.1 C.2.2.2.1 (lw_Ks C.2.2.2.2.1 _) (ad := fun _ => 0) (sa := lw_sa b qx qm qo) 1 (pc := 40) (pc' := 453) (L := lw_L i u w) (L' := lw_L i u w) (st := [.int (nI 6)]) (st' := []) rfl hl (fun ls hl => ?_)
        exact lw_c6 hSh C S hI (h6 _ _) hi6 hce hsl hl K
      | 7, _ =>
        refine lw_W C.1 C.2.1 C.2.2.2.1 (lw_Ks C.2.2.2.2.1 _) (ad := fun _ => 0) (sa := lw_sa b qx qm qo) 1 (pc := 40) (pc' := 490) (L := lw_L i u w) (L' := lw_L i u w) (st := [.int (nI 7)]) (st' := []) rfl hl (fun ls hl => ?_)
        exact lw_c7 hSh C S hI (h7 _) hi6 hce hsl hl K
      | 8, _ =>
        refine lw_W C.1 C.2.1 C.2.2.2.1 (lw_Ks C.2.2.2.2.1 _) (ad := fun _ => 0) (sa := lw_sa b qx qm qo) 1 (pc := 40) (pc' := 515) (L := lw_L i u w) (L' := lw_L i u w) (st := [.int (nI 8)]) (st' := []) rfl hl (fun ls hl => ?_)
        exact lw_c8 hSh C S hI (h8 _ _) hi6 hce hsl hl K
      | 9, _ =>
        refine lw_W C.1 C.2.1 C.2.2.2.1 (lw_Ks C.2.2.2.2.1 _) (ad := fun _ => 0) (sa := lw_sa b qx qm qo) 1 (pc := 40) (pc' := 552) (L := lw_L i u w) (L' := lw_L i u w) (st := [.int (nI 9)]) (st' := []) rfl hl (fun ls hl => ?_)
        exact lw_c9 hSh C S hI (h9 _) hi6 hce hsl hl K
      | 10, _ =>
        refine lw_W C.1 C.2.1 C.2.2.2.1 (lw_Ks C.2.2.2.2.1 _) (ad := fun _ => 0) (sa := lw_sa b qx qm qo) 1 (pc := 40) (pc' := 577) (L := lw_L i u w) (L' := lw_L i u w) (st := [.int (nI 10)]) (st' := []) rfl hl (fun ls hl => ?_)
        exact lw_c10 hSh C S hI (h10) hi6 hce hsl hl K
      | 11, _ =>
        refine lw_W C.1 C.2.1 C.2.2.2.1 (lw_Ks C.2.2.2.2.1 _) (ad := fun _ => 0) (sa := lw_sa b qx qm qo) 1 (pc := 40) (pc' := 591) (L := lw_L i u w) (L' := lw_L i u w) (st := [.int (nI 11)]) (st' := []) rfl hl (fun ls hl => ?_)
        exact lw_c11 hSh C S hI (h11 _ _) hi6 hce hsl hl K
      | 12, _ =>
        refine lw_W C.1 C.2.1 C.2.2.2.1 (lw_Ks C.2.2.2.2.1 _) (ad := fun _ => 0) (sa := lw_sa b qx qm qo) 1 (pc := 40) (pc' := 629) (L := lw_L i u w) (L' := lw_L i u w) (st := [.int (nI 12)]) (st' := []) rfl hl (fun ls hl => ?_)
        exact lw_c12 hSh C S hI (h12 _ _) hi6 hce hsl hl K
      | 13, _ =>
        refine lw_W C.1 C.2.1 C.2.2.2.1 (lw_Ks C.2.2.2.2.1 _) (ad := fun _ => 0) (sa := lw_sa b qx qm qo) 1 (pc := 40) (pc' := 666) (L := lw_L i u w) (L' := lw_L i u w) (st := [.int (nI 13)]) (st' := []) rfl hl (fun ls hl => ?_)
        exact lw_c13 hSh C S hI (h13 _) hi6 hce hsl hl K
      | 14, _ =>
        refine lw_W C.1 C.2.1 C.2.2.2.1 (lw_Ks C.2.2.2.2.1 _) (ad := fun _ => 0) (sa := lw_sa b qx qm qo) 1 (pc := 40) (pc' := 691) (L := lw_L i u w) (L' := lw_L i u w) (st := [.int (nI 14)]) (st' := []) rfl hl (fun ls hl => ?_)
        exact lw_c14 hSh C S hI (h14 _ _) hi6 hce hsl hl K
      | 15, _ =>
        refine lw_W C.1 C.2.1 C.2.2.2.1 (lw_Ks C.2.2.2.2.1 _) (ad := fun _ => 0) (sa := lw_sa b qx qm qo) 1 (pc := 40) (pc' := 729) (L := lw_L i u w) (L' := lw_L i u w) (st := [.int (nI 15)]) (st' := []) rfl hl (fun ls hl => ?_)
        exact lw_c15 hSh C S hI (h15 _) hi6 hce hsl hl K
      | 16, _ =>
        refine lw_W C.1 C.2.1 C.2.2.2.1 (lw_Ks C.2.2.2.2.1 _) (ad := fun _ => 0) (sa := lw_sa b qx qm qo) 1 (pc := 40) (pc' := 754) (L := lw_L i u w) (L' := lw_L i u w) (st := [.int (nI 16)]) (st' := []) rfl hl (fun ls hl => ?_)
        exact lw_c16 hSh C S hI (h16 _) hi6 hce hsl hl K
      | 17, _ =>
        refine lw_W C.1 C.2.1 C.2.2.2.1 (lw_Ks C.2.2.2.2.1 _) (ad := fun _ => 0) (sa := lw_sa b qx qm qo) 1 (pc := 40) (pc' := 779) (L := lw_L i u w) (L' := lw_L i u w) (st := [.int (nI 17)]) (st' := []) rfl hl (fun ls hl => ?_)
        exact lw_c17 hSh C S hI (h17) hi6 hce hsl hl K
      | 18, _ =>
        refine lw_W C.1 C.2.1 C.2.2.2.1 (lw_Ks C.2.2.2.2.1 _) (ad := fun _ => 0) (sa := lw_sa b qx qm qo) 1 (pc := 40) (pc' := 792) (L := lw_L i u w) (L' := lw_L i u w) (st := [.int (nI 18)]) (st' := []) rfl hl (fun ls hl => ?_)
        exact lw_c18 hSh C S hI (h18 _ _) hi6 hce hsl hl K
      | 19, _ =>
        refine lw_W C.1 C.2.1 C.2.2.2.1 (lw_Ks C.2.2.2.2.1 _) (ad := fun _ => 0) (sa := lw_sa b qx qm qo) 1 (pc := 40) (pc' := 830) (L := lw_L i u w) (L' := lw_L i u w) (st := [.int (nI 19)]) (st' := []) rfl hl (fun ls hl => ?_)
        exact lw_c19 hSh C S hI (h19 _) hi6 hce hsl hl K
      | 20, _ =>
        refine lw_W C.1 C.2.1 C.2.2.2.1 (lw_Ks C.2.2.2.2.1 _) (ad := fun _ => 0) (sa := lw_sa b qx qm qo) 1 (pc := 40) (pc' := 855) (L := lw_L i u w) (L' := lw_L i u w) (st := [.int (nI 20)]) (st' := []) rfl hl (fun ls hl => ?_)
        exact lw_c20 hSh C S hI (h20 _ _) hi6 hce hsl hl K
      | 21, _ =>
        refine lw_W C.1 C.2.1 C.2.2.2.1 (lw_Ks C.2.2.2.2.1 _) (ad := fun _ => 0) (sa := lw_sa b qx qm qo) 1 (pc := 40) (pc' := 892) (L := lw_L i u w) (L' := lw_L i u w) (st := [.int (nI 21)]) (st' := []) rfl hl (fun ls hl => ?_)
        exact lw_c21 hSh C S hI (h21 _ _) hi6 hce hsl hl K
      | 22, _ =>
        refine lw_W C.1 C.2.1 C.2.2.2.1 (lw_Ks C.2.2.2.2.1 _) (ad := fun _ => 0) (sa := lw_sa b qx qm qo) 1 (pc := 40) (pc' := 929) (L := lw_L i u w) (L' := lw_L i u w) (st := [.int (nI 22)]) (st' := []) rfl hl (fun ls hl => ?_)
        exact lw_c22 hSh C S hI (h22 _ _) hi6 hce hsl hl K
      | 23, _ =>
        refine lw_W C.1 C.2.1 C.2.2.2.1 (lw_Ks C.2.2.2.2.1 _) (ad := fun _ => 0) (sa := lw_sa b qx qm qo) 1 (pc := 40) (pc' := 966) (L := lw_L i u w) (L' := lw_L i u w) (st := [.int (nI 23)]) (st' := []) rfl hl (fun ls hl => ?_)
        exact lw_c23 hSh C S hI (h23 _ _) hi6 hce hsl hl K
      | 24, _ =>
        refine lw_W C.1 C.2.1 C.2.2.2.1 (lw_Ks C.2.2.2.2.1 _) (ad := fun _ => 0) (sa := lw_sa b qx qm qo) 1 (pc := 40) (pc' := 1003) (L := lw_L i u w) (L' := lw_L i u w) (st := [.int (nI 24)]) (st' := []) rfl hl (fun ls hl => ?_)
        exact lw_c24 hSh C S hI (h24 _ _ _ _) hi6 hce hsl hl K
      | 25, _ =>
        refine lw_W C.1 C.2.1 C.2.2.2.1 (lw_Ks C.2.2.2.2.1 _) (ad := fun _ => 0) (sa := lw_sa b qx qm qo) 1 (pc := 40) (pc' := 1084) (L := lw_L i u w) (L' := lw_L i u w) (st := [.int (nI 25)]) (st' := []) rfl hl (fun ls hl => ?_)
        exact lw_c25 hSh C S hI (h25 _ _ _ _) hi6 hce hsl hl K
      | 26, _ =>
        refine lw_W C.1 C.2.1 C.2.2.2.1 (lw_Ks C.2.2.2.2.1 _) (ad := fun _ => 0) (sa := lw_sa b qx qm qo) 1 (pc := 40) (pc' := 1165) (L := lw_L i u w) (L' := lw_L i u w) (st := [.int (nI 26)]) (st' := []) rfl hl (fun ls hl => ?_)
        exact lw_c26 hSh C S hI (h26 _) hi6 hce hsl hl K
      | 27, _ =>
        refine lw_W C.1 C.2.1 C.2.2.2.1 (lw_Ks C.2.2.2.2.1 _) (ad := fun _ => 0) (sa := lw_sa b qx qm qo) 1 (pc := 40) (pc' := 1190) (L := lw_L i u w) (L' := lw_L i u w) (st := [.int (nI 27)]) (st' := []) rfl hl (fun ls hl => ?_)
        exact lw_c27 hSh C S hI (h27 _) hi6 hce hsl hl K
      | 28, _ =>
        refine lw_W C.1 C.2.1 C.2.2.2.1 (lw_Ks C.2.2.2.2.1 _) (ad := fun _ => 0) (sa := lw_sa b qx qm qo) 1 (pc := 40) (pc' := 1215) (L := lw_L i u w) (L' := lw_L i u w) (st := [.int (nI 28)]) (st' := []) rfl hl (fun ls hl => ?_)
        exact lw_c28 hSh C S hI (h28 _ _) hi6 hce hsl hl K
      | 29, _ =>
        refine lw_W C.1 C.2.1 C.2.2.2.1 (lw_Ks C.2.2.2.2.1 _) (ad := fun _ => 0) (sa := lw_sa b qx qm qo) 1 (pc := 40) (pc' := 1252) (L := lw_L i u w) (L' := lw_L i u w) (st := [.int (nI 29)]) (st' := []) rfl hl (fun ls hl => ?_)
        exact lw_c29 hSh C S hI (h29) hi6 hce hsl hl K
      | 30, _ =>
        refine lw_W C.1 C.2.1 C.2.2.2.1 (lw_Ks C.2.2.2.2.1 _) (ad := fun _ => 0) (sa := lw_sa b qx qm qo) 1 (pc := 40) (pc' := 1265) (L := lw_L i u w) (L' := lw_L i u w) (st := [.int (nI 30)]) (st' := []) rfl hl (fun ls hl => ?_)
        exact lw_c30 hSh C S hI (h30 _) hi6 hce hsl hl K
      | 31, _ =>
        refine lw_W C.1 C.2.1 C.2.2.2.1 (lw_Ks C.2.2.2.2.1 _) (ad := fun _ => 0) (sa := lw_sa b qx qm qo) 1 (pc := 40) (pc' := 1290) (L := lw_L i u w) (L' := lw_L i u w) (st := [.int (nI 31)]) (st' := []) rfl hl (fun ls hl => ?_)
        exact lw_c31 hSh C S hI (h31 _) hi6 hce hsl hl K
      | 32, _ =>
        refine lw_W C.1 C.2.1 C.2.2.2.1 (lw_Ks C.2.2.2.2.1 _) (ad := fun _ => 0) (sa := lw_sa b qx qm qo) 1 (pc := 40) (pc' := 1315) (L := lw_L i u w) (L' := lw_L i u w) (st := [.int (nI 32)]) (st' := []) rfl hl (fun ls hl => ?_)
        exact lw_c32 hSh C S hI (h32 _ _) hi6 hce hsl hl K
      | 33, _ =>
        refine lw_W C.1 C.2.1 C.2.2.2.1 (lw_Ks C.2.2.2.2.1 _) (ad := fun _ => 0) (sa := lw_sa b qx qm qo) 1 (pc := 40) (pc' := 1352) (L := lw_L i u w) (L' := lw_L i u w) (st := [.int (nI 33)]) (st' := []) rfl hl (fun ls hl => ?_)
        exact lw_c33 hSh C S hI (h33 _ _) hi6 hce hsl hl K
      | 34, _ =>
        refine lw_W C.1 C.2.1 C.2.2.2.1 (lw_Ks C.2.2.2.2.1 _) (ad := fun _ => 0) (sa := lw_sa b qx qm qo) 1 (pc := 40) (pc' := 1389) (L := lw_L i u w) (L' := lw_L i u w) (st := [.int (nI 34)]) (st' := []) rfl hl (fun ls hl => ?_)
        exact lw_c34 hSh C S hI (h34) hi6 hce hsl hl K
      | 35, _ =>
        refine lw_W C.1 C.2.1 C.2.2.2.1 (lw_Ks C.2.2.2.2.1 _) (ad := fun _ => 0) (sa := lw_sa b qx qm qo) 1 (pc := 40) (pc' := 1402) (L := lw_L i u w) (L' := lw_L i u w) (st := [.int (nI 35)]) (st' := []) rfl hl (fun ls hl => ?_)
        exact lw_c35 hSh C S hI (h35 _ _ _ _) hi6 hce hsl hl K
      | 36, _ =>
        refine lw_W C.1 C.2.1 C.2.2.2.1 (lw_Ks C.2.2.2.2.1 _) (ad := fun _ => 0) (sa := lw_sa b qx qm qo) 1 (pc := 40) (pc' := 1463) (L := lw_L i u w) (L' := lw_L i u w) (st := [.int (nI 36)]) (st' := []) rfl hl (fun ls hl => ?_)
        exact lw_c36 hSh C S hI (h36) hi6 hce hsl hl K
      | 37, _ =>
        refine lw_W C.1 C.2.1 C.2.2.2.1 (lw_Ks C.2.2.2.2.1 _) (ad := fun _ => 0) (sa := lw_sa b qx qm qo) 1 (pc := 40) (pc' := 1476) (L := lw_L i u w) (L' := lw_L i u w) (st := [.int (nI 37)]) (st' := []) rfl hl (fun ls hl => ?_)
        exact lw_c37 hSh C S hI (h37) hi6 hce hsl hl K
      | 38, _ =>
        refine lw_W C.1 C.2.1 C.2.2.2.1 (lw_Ks C.2.2.2.2.1 _) (ad := fun _ => 0) (sa := lw_sa b qx qm qo) 1 (pc := 40) (pc' := 1489) (L := lw_L i u w) (L' := lw_L i u w) (st := [.int (nI 38)]) (st' := []) rfl hl (fun ls hl => ?_)
        exact lw_c38 hSh C S hI (h38 _) hi6 hce hsl hl K
      | 39, _ =>
        refine lw_W C.1 C.2.1 C.2.2.2.1 (lw_Ks C.2.2.2.2.1 _) (ad := fun _ => 0) (sa := lw_sa b qx qm qo) 1 (pc := 40) (pc' := 1514) (L := lw_L i u w) (L' := lw_L i u w) (st := [.int (nI 39)]) (st' := []) rfl hl (fun ls hl => ?_)
        exact K hx hm _ _ ls _ _ _ _ hI S hl (by omega) (by omega)
      | 40, _ =>
        refine lw_W C.1 C.2.1 C.2.2.2.1 (lw_Ks C.2.2.2.2.1 _) (ad := fun _ => 0) (sa := lw_sa b qx qm qo) 1 (pc := 40) (pc' := 1514) (L := lw_L i u w) (L' := lw_L i u w) (st := [.int (nI 40)]) (st' := []) rfl hl (fun ls hl => ?_)
        exact K hx hm _ _ ls _ _ _ _ hI S hl (by omega) (by omega)
      | 41, _ =>
        refine lw_W C.1 C.2.1 C.2.2.2.1 (lw_Ks C.2.2.2.2.1 _) (ad := fun _ => 0) (sa := lw_sa b qx qm qo) 1 (pc := 40) (pc' := 1514) (L := lw_L i u w) (L' := lw_L i u w) (st := [.int (nI 41)]) (st' := []) rfl hl (fun ls hl => ?_)
        exact K hx hm _ _ ls _ _ _ _ hI S hl (by omega) (by omega)
      | 42, _ =>
        refine lw_W C.1 C.2.1 C.2.2.2.1 (lw_Ks C.2.2.2.2.1 _) (ad := fun _ => 0) (sa := lw_sa b qx qm qo) 1 (pc := 40) (pc' := 1514) (L := lw_L i u w) (L' := lw_L i u w) (st := [.int (nI 42)]) (st' := []) rfl hl (fun ls hl => ?_)
        exact K hx hm _ _ ls _ _ _ _ hI S hl (by omega) (by omega)
      | 43, _ =>
        refine lw_W C.1 C.2.1 C.2.2.2.1 (lw_Ks C.2.2.2.2.1 _) (ad := fun _ => 0) (sa := lw_sa b qx qm qo) 1 (pc := 40) (pc' := 1514) (L := lw_L i u w) (L' := lw_L i u w) (st := [.int (nI 43)]) (st' := []) rfl hl (fun ls hl => ?_)
        exact K hx hm _ _ ls _ _ _ _ hI S hl (by omega) (by omega)
      | 44, _ =>
        refine lw_W C.1 C.2.1 C.2.2.2.1 (lw_Ks C.2.2.2.2.1 _) (ad := fun _ => 0) (sa := lw_sa b qx qm qo) 1 (pc := 40) (pc' := 1514) (L := lw_L i u w) (L' := lw_L i u w) (st := [.int (nI 44)]) (st' := []) rfl hl (fun ls hl => ?_)
        exact K hx hm _ _ ls _ _ _ _ hI S hl (by omega) (by omega)
      | 45, _ =>
        refine lw_W C.1 C.2.1 C.2.2.2.1 (lw_Ks C.2.2.2.2.1 _) (ad := fun _ => 0) (sa := lw_sa b qx qm qo) 1 (pc := 40) (pc' := 1514) (L := lw_L i u w) (L' := lw_L i u w) (st := [.int (nI 45)]) (st' := []) rfl hl (fun ls hl => ?_)
        exact K hx hm _ _ ls _ _ _ _ hI S hl (by omega) (by omega)
      | 46, _ =>
        refine lw_W C.1 C.2.1 C.2.2.2.1 (lw_Ks C.2.2.2.2.1 _) (ad := fun _ => 0) (sa := lw_sa b qx qm qo) 1 (pc := 40) (pc' := 1514) (L := lw_L i u w) (L' := lw_L i u w) (st := [.int (nI 46)]) (st' := []) rfl hl (fun ls hl => ?_)
        exact K hx hm _ _ ls _ _ _ _ hI S hl (by omega) (by omega)
      | 47, _ =>
        refine lw_W C.1 C.2.1 C.2.2.2.1 (lw_Ks C.2.2.2.2.1 _) (ad := fun _ => 0) (sa := lw_sa b qx qm qo) 1 (pc := 40) (pc' := 1514) (L := lw_L i u w) (L' := lw_L i u w) (st := [.int (nI 47)]) (st' := []) rfl hl (fun ls hl => ?_)
        exact K hx hm _ _ ls _ _ _ _ hI S hl (by omega) (by omega)
      | 48, _ =>
        refine lw_W C.1 C.2.1 C.2.2.2.1 (lw_Ks C.2.2.2.2.1 _) (ad := fun _ => 0) (sa := lw_sa b qx qm qo) 1 (pc := 40) (pc' := 1514) (L := lw_L i u w) (L' := lw_L i u w) (st := [.int (nI 48)]) (st' := []) rfl hl (fun ls hl => ?_)
        exact K hx hm _ _ ls _ _ _ _ hI S hl (by omega) (by omega)
      | 49, _ =>
        refine lw_W C.1 C.2.1 C.2.2.2.1 (lw_Ks C.2.2.2.2.1 _) (ad := fun _ => 0) (sa := lw_sa b qx qm qo) 1 (pc := 40) (pc' := 1514) (L := lw_L i u w) (L' := lw_L i u w) (st := [.int (nI 49)]) (st' := []) rfl hl (fun ls hl => ?_)
        exact K hx hm _ _ ls _ _ _ _ hI S hl (by omega) (by omega)
      | 50, _ =>
        refine lw_W C.1 C.2.1 C.2.2.2.1 (lw_Ks C.2.2.2.2.1 _) (ad := fun _ => 0) (sa := lw_sa b qx qm qo) 1 (pc := 40) (pc' := 1514) (L := lw_L i u w) (L' := lw_L i u w) (st := [.int (nI 50)]) (st' := []) rfl hl (fun ls hl => ?_)
        exact K hx hm _ _ ls _ _ _ _ hI S hl (by omega) (by omega)
      | 51, _ =>
        refine lw_W C.1 C.2.1 C.2.2.2.1 (lw_Ks C.2.2.2.2.1 _) (ad := fun _ => 0) (sa := lw_sa b qx qm qo) 1 (pc := 40) (pc' := 1514) (L := lw_L i u w) (L' := lw_L i u w) (st := [.int (nI 51)]) (st' := []) rfl hl (fun ls hl => ?_)
        exact K hx hm _ _ ls _ _ _ _ hI S hl (by omega) (by omega)
      | 52, _ =>
        refine lw_W C.1 C.2.1 C.2.2.2.1 (lw_Ks C.2.2.2.2.1 _) (ad := fun _ => 0) (sa := lw_sa b qx qm qo) 1 (pc := 40) (pc' := 1514) (L := lw_L i u w) (L' := lw_L i u w) (st := [.int (nI 52)]) (st' := []) rfl hl (fun ls hl => ?_)
        exact K hx hm _ _ ls _ _ _ _ hI S hl (by omega) (by omega)
      | 53, _ =>
        refine lw_W C.1 C.2.1 C.2.2.2.1 (lw_Ks C.2.2.2.2.1 _) (ad := fun _ => 0) (sa := lw_sa b qx qm qo) 1 (pc := 40) (pc' := 1514) (L := lw_L i u w) (L' := lw_L i u w) (st := [.int (nI 53)]) (st' := []) rfl hl (fun ls hl => ?_)
        exact K hx hm _ _ ls _ _ _ _ hI S hl (by omega) (by omega)
      | 54, _ =>
        refine lw_W C.1 C.2.1 C.2.2.2.1 (lw_Ks C.2.2.2.2.1 _) (ad := fun _ => 0) (sa := lw_sa b qx qm qo) 1 (pc := 40) (pc' := 1514) (L := lw_L i u w) (L' := lw_L i u w) (st := [.int (nI 54)]) (st' := []) rfl hl (fun ls hl => ?_)
        exact K hx hm _ _ ls _ _ _ _ hI S hl (by omega) (by omega)
      | 55, _ =>
        refine lw_W C.1 C.2.1 C.2.2.2.1 (lw_Ks C.2.2.2.2.1 _) (ad := fun _ => 0) (sa := lw_sa b qx qm qo) 1 (pc := 40) (pc' := 1514) (L := lw_L i u w) (L' := lw_L i u w) (st := [.int (nI 55)]) (st' := []) rfl hl (fun ls hl => ?_)
        exact K hx hm _ _ ls _ _ _ _ hI S hl (by omega) (by omega)
      | 56, _ =>
        refine lw_W C.1 C.2.1 C.2.2.2.1 (lw_Ks C.2.2.2.2.1 _) (ad := fun _ => 0) (sa := lw_sa b qx qm qo) 1 (pc := 40) (pc' := 1514) (L := lw_L i u w) (L' := lw_L i u w) (st := [.int (nI 56)]) (st' := []) rfl hl (fun ls hl => ?_)
        exact K hx hm _ _ ls _ _ _ _ hI S hl (by omega) (by omega)
      | 57, _ =>
        refine lw_W C.1 C.2.1 C.2.2.2.1 (lw_Ks C.2.2.2.2.1 _) (ad := fun _ => 0) (sa := lw_sa b qx qm qo) 1 (pc := 40) (pc' := 1514) (L := lw_L i u w) (L' := lw_L i u w) (st := [.int (nI 57)]) (st' := []) rfl hl (fun ls hl => ?_)
        exact K hx hm _ _ ls _ _ _ _ hI S hl (by omega) (by omega)
      | 58, _ =>
        refine lw_W C.1 C.2.1 C.2.2.2.1 (lw_Ks C.2.2.2.2.1 _) (ad := fun _ => 0) (sa := lw_sa b qx qm qo) 1 (pc := 40) (pc' := 1514) (L := lw_L i u w) (L' := lw_L i u w) (st := [.int (nI 58)]) (st' := []) rfl hl (fun ls hl => ?_)
        exact K hx hm _ _ ls _ _ _ _ hI S hl (by omega) (by omega)
      | 59, _ =>
        refine lw_W C.1 C.2.1 C.2.2.2.1 (lw_Ks C.2.2.2.2.1 _) (ad := fun _ => 0) (sa := lw_sa b qx qm qo) 1 (pc := 40) (pc' := 1514) (L := lw_L i u w) (L' := lw_L i u w) (st := [.int (nI 59)]) (st' := []) rfl hl (fun ls hl => ?_)
        exact K hx hm _ _ ls _ _ _ _ hI S hl (by omega) (by omega)
      | 60, _ =>
        refine lw_W C.1 C.2.1 C.2.2.2.1 (lw_Ks C.2.2.2.2.1 _) (ad := fun _ => 0) (sa := lw_sa b qx qm qo) 1 (pc := 40) (pc' := 1514) (L := lw_L i u w) (L' := lw_L i u w) (st := [.int (nI 60)]) (st' := []) rfl hl (fun ls hl => ?_)
        exact K hx hm _ _ ls _ _ _ _ hI S hl (by omega) (by omega)
      | 61, _ =>
        refine lw_W C.1 C.2.1 C.2.2.2.1 (lw_Ks C.2.2.2.2.1 _) (ad := fun _ => 0) (sa := lw_sa b qx qm qo) 1 (pc := 40) (pc' := 1514) (L := lw_L i u w) (L' := lw_L i u w) (st := [.int (nI 61)]) (st' := []) rfl hl (fun ls hl => ?_)
        exact K hx hm _ _ ls _ _ _ _ hI S hl (by omega) (by omega)
      | 62, _ =>
        refine lw_W C.1 C.2.1 C.2.2.2.1 (lw_Ks C.2.2.2.2.1 _) (ad := fun _ => 0) (sa := lw_sa b qx qm qo) 1 (pc := 40) (pc' := 1514) (L := lw_L i u w) (L' := lw_L i u w) (st := [.int (nI 62)]) (st' := []) rfl hl (fun ls hl => ?_)
        exact K hx hm _ _ ls _ _ _ _ hI S hl (by omega) (by omega)
      | 63, _ =>
        refine lw_W C.1 C.2.1 C.2.2.2.1 (lw_Ks C.2.2.2.2.1 _) (ad := fun _ => 0) (sa := lw_sa b qx qm qo) 1 (pc := 40) (pc' := 1514) (L := lw_L i u w) (L' := lw_L i u w) (st := [.int (nI 63)]) (st' := []) rfl hl (fun ls hl => ?_)
        exact K hx hm _ _ ls _ _ _ _ hI S hl (by omega) (by omega)
      | q + 64, hq => omega

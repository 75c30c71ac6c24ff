/-! THE LAW: its loop and the whole, value throwing (printed by wip/whole/genlawx.py out of 97) -/
def lx_C4 (Inv : Nat → AmH → AmH → Prop) : Prop := ∀ (n : Nat), n < 64 → ∀ (p : Program) (l : Launch) (e : Env) (s : State) (m : MethodId) (below : List Frame) (meth : Method) (c : Code) (H : Heap) (locs : List Loc) (cells slots : Nat) (Q : State → Prop) (b Ln : Nat) (xs : Nat → Int32) (sa av : Nat → Nat) (D : va_G) (hx hm : AmH) (qx qm qo : Nat) (ls : Array Slot) (i : Nat) (u w : Option Value), l.stackTraces = false → vy_E (lw_A s) s → LwC p s m c b Ln xs sa av → LwS D sa s H locs hx hm qx qm qo → Inv n hx hm → i + 6 ≤ Ln → cells ≤ 10000 → slots ≤ 1000000 → am_lr (fun _ => 0) (lw_sa b qx qm qo) ls 7 (lw_L i u w) → LwK (Inv (n + 1)) p l e s m below meth c D sa b qx qm qo i cells slots Q → W p l e room_1 s m #[Value.ref b] below meth c H locs cells slots Q (F0 m 360 ls [])
theorem vy_w7 : Cond.laysStatic Jvm.Bundle.tN "UNASSIGNED_STACK" Jvm.Bundle.steD ∈ lw_tbl ∧ Cond.laysStatic Jvm.Bundle.tN "SUPPRESSED_SENTINEL" Jvm.Bundle.listD ∈ lw_tbl ∧ Cond.initialized Jvm.Bundle.tN ∈ lw_tbl := by
  refine ⟨?_, ?_, ?_⟩ <;> decide +kernel
theorem vy_w8 : Cond.isRef (.static Jvm.Bundle.tN "UNASSIGNED_STACK" Jvm.Bundle.steD) ∈ flatC (Jvm.Cond.and given_1 narrow_1) ∧ Cond.isRef (.static Jvm.Bundle.tN "SUPPRESSED_SENTINEL" Jvm.Bundle.listD) ∈ flatC (Jvm.Cond.and given_1 narrow_1) := by
  refine ⟨?_, ?_⟩ <;> decide +kernel
set_option maxRecDepth 100000 in
set_option maxHeartbeats 8000000 in
theorem lx_loop {p : Program} {l : Launch} {e : Env} {s : State} {m : MethodId} {below : List Frame} {meth : Method} {c : Code} {b Ln : Nat} {xs : Nat → Int32} {sa av : Nat → Nat} {D : va_G} {qx qm qo : Nat} {Inv : Nat → AmH → AmH → Prop} (hAll : ln_All Inv) (hMo : ∀ (n : Nat) (hx hm : AmH), Inv n hx hm → Inv (n + 1) hx hm) (hV : lx_C4 Inv) (hlt : l.stackTraces = false) (hE : vy_E (lw_A s) s) (C : LwC p s m c b Ln xs sa av) (hr : meth.sig.returnType = ret) (hlocks : meth.locks = false) : ∀ (r dn : Nat) (hx hm : AmH) (H : Heap) (locs : List Loc) (ls : Array Slot) (u w : Option Value), Ln < 6 * dn + 6 * r → dn ≤ 64 → Inv dn hx hm → LwS D sa s H locs hx hm qx qm qo → am_lr (fun _ => 0) (lw_sa b qx qm qo) ls 7 (lw_L (6 * dn) u w) → W p l e room_1 s m #[Value.ref b] below meth c H locs (200 + 8 * dn) (200000 + 2000 * dn) (lw_Z below #[Value.ref b] s) (F0 m 23 ls [])
  | r, dn, hx, hm, H, locs, ls, u, w, hm1, hd, hI, S, hl => by
    have hLn := C.2.2.2.2.2.2.2.2
    have hbl := C.2.2.2.2.2.2.2.1
    have hX := C.2.2.2.2.2.2.1
    have hS : va_S (lw_A s) s.heap H locs := by
      obtain ⟨_, _, _, _, _, _, _, _, w1, _⟩ := S
      exact w1.2.2.2.2.1
    generalize hi0 : 6 * dn = i at hl
    refine lw_W C.1 C.2.1 C.2.2.2.1 (lw_Ks C.2.2.2.2.1 _) (ad := fun _ => 0) (sa := lw_sa b qx qm qo) 2 (pc := 23) (pc' := 26) (L := lw_L i u w) (L' := lw_L i u w) (st := []) (st' := [.retAddr 9, .int (nI i)]) rfl hl (fun ls hl => ?_)
    refine va_slen C.1 C.2.1 hX hbl (Nat.not_le.mpr hbl) hS dL_law_26 ?_
    refine lw_W C.1 C.2.1 C.2.2.2.1 (lw_Ks C.2.2.2.2.1 _) (ad := fun _ => 0) (sa := lw_sa b qx qm qo) 2 (pc := 27) (pc' := 30) (L := lw_L i u w) (L' := lw_L i u w) (st := [.int (Int32.ofNat Ln), .int (nI i)]) (st' := [.int (Int32.ofNat Ln - 6), .int (nI i)]) rfl hl (fun ls hl => ?_)
    have hcmp : Int32.ofNat Ln - 6 < nI i ↔ Ln < i + 6 := by
      rw [Int32.lt_iff_toInt_lt, show (Int32.ofNat Ln - 6).toInt = (Ln : Int) - 6 from pk_sub_toInt (a := Ln) (b := 6) (by omega) (by omega), nI_toInt (by omega)]
      omega
    by_cases hend : Ln < i + 6
    · refine lw_W C.1 C.2.1 C.2.2.2.1 (lw_Ks C.2.2.2.2.1 _) (ad := fun _ => 0) (sa := lw_sa b qx qm qo) 1 (pc := 30) (pc' := 1520) (L := lw_L i u w) (L' := lw_L i u w) (st := [.int (Int32.ofNat Ln - 6), .int (nI i)]) (st' := []) (lw_gt1 rfl (hcmp.mpr hend)) hl (fun ls hl => ?_)
      refine lw_W C.1 C.2.1 C.2.2.2.1 (lw_Ks C.2.2.2.2.1 _) (ad := fun _ => 0) (sa := lw_sa b qx qm qo) 1 (pc := 1520) (pc' := 1521) (L := lw_L i u w) (L' := lw_L i u w) (st := []) (st' := [.int 1]) rfl hl (fun ls hl => ?_)
      refine va_forget (fun q hq => hS.2.2 q hq) ?_
      refine W.widen (k := 600128) (n := 7301098) (by omega) (by omega) ?_
      exact lw_ret C.1 C.2.1 hr hlocks dL_law_1521
    · have hi6 : i + 6 ≤ Ln := by omega
      obtain ⟨r, rfl⟩ : ∃ r', r = r' + 1 := ⟨r - 1, by omega⟩
      refine lw_W C.1 C.2.1 C.2.2.2.1 (lw_Ks C.2.2.2.2.1 _) (ad := fun _ => 0) (sa := lw_sa b qx qm qo) 1 (pc := 30) (pc' := 33) (L := lw_L i u w) (L' := lw_L i u w) (st := [.int (Int32.ofNat Ln - 6), .int (nI i)]) (st' := []) (lw_gt0 rfl (fun q => hend (hcmp.mp q))) hl (fun ls hl => ?_)
      refine lw_W C.1 C.2.1 C.2.2.2.1 (lw_Ks C.2.2.2.2.1 _) (ad := fun _ => 0) (sa := lw_sa b qx qm qo) 2 (pc := 33) (pc' := 36) (L := lw_L i u w) (L' := lw_L i u w) (st := []) (st' := [.int (nI i), .retAddr 9]) rfl hl (fun ls hl => ?_)
      refine va_sld C.1 C.2.1 hX hbl (Nat.not_le.mpr hbl) hS (vp_in_nI (by omega) (by omega)) dL_law_36 ?_
      rw [nI_clamp (by omega)]
      refine lw_W C.1 C.2.1 C.2.2.2.1 (lw_Ks C.2.2.2.2.1 _) (ad := fun _ => 0) (sa := lw_sa b qx qm qo) 2 (pc := 37) (pc' := 40) (L := lw_L i u w) (L' := lw_L i u w) (st := [.int (xs i)]) (st' := [.int (xs i &&& 63)]) rfl hl (fun ls hl => ?_)
      have hnext : nI i + 6 = nI (i + 6) := nI_add i 6
      have K : LwK (Inv (dn + 1)) p l e s m below meth c D sa b qx qm qo i (200 + 8 * dn) (200000 + 2000 * dn) (lw_Z below #[Value.ref b] s) := by
        intro hx' hm' H' locs' ls' cells' slots' u' w' hI' S' hl' c1 c2
        refine W.widen (k := 200 + 8 * (dn + 1)) (n := 200000 + 2000 * (dn + 1)) (by omega) (by omega) ?_
        refine lw_W C.1 C.2.1 C.2.2.2.1 (lw_Ks C.2.2.2.2.1 _) (ad := fun _ => 0) (sa := lw_sa b qx qm qo) 2 (pc := 1514) (pc' := 23) (L := lw_L i u' w') (L' := [some (.retAddr 9), some (.retAddr 10), some (.retAddr 11), some (.retAddr 12), some (.int (nI i + 6)), u', w']) (st := []) (st' := []) rfl hl' (fun ls hl => ?_)
        rw [hnext] at hl
        exact lx_loop hAll hMo hV hlt hE C hr hlocks r (dn + 1) hx' hm' H' locs' ls u' w' (by omega) (by omega) hI' S' (by rw [show 6 * (dn + 1) = i + 6 by omega]; exact hl)
      obtain ⟨q, hq, eq⟩ := pk_andE (xs i) (m := 63) 6 (by decide +kernel)
      rw [eq]
      have hce : 200 + 8 * dn ≤ 10000 := by omega
      have hsl : 200000 + 2000 * dn ≤ 1000000 := by omega
      obtain ⟨hSh, h0, h1, h2, h3, h5, h6, h7, h8, h9, h10, h11, h12, h13, h14, h15, h16, h17, h18, h19, h20, h21, h22, h23, h24, h25, h26, h27, h28, h29, h30, h31, h32, h33, h34, h35, h36, h37, h38⟩ := hAll dn (by omega)
      match q, hq with
      | 0, _ =>
        refine lw_W C.1 C.2.1 C.2.2.2.1 (lw_Ks C.2.2.2.2.1 _) (ad := fun _ => 0) (sa := lw_sa b qx qm qo) 1 (pc := 40) (pc' := 212) (L := lw_L i u w) (L' := lw_L i u w) (st := [.int (nI 0)]) (st' := []) rfl hl (fun ls hl => ?_)
        exact ln_c0 hSh C S hI (h0 _ _ _ _ _) hi6 hce hsl hl K
      | 1, _ =>
        refine lw_W C.1 C.2.1 C.2.2.2.1 (lw_Ks C.2.2.2.2.1 _) (ad := fun _ => 0) (sa := lw_sa b qx qm qo) 1 (pc := 40) (pc' := 285) (L := lw_L i u w) (L' := lw_L i u w) (st := [.int (nI 1)]) (st' := []) rfl hl (fun ls hl => ?_)
        exact ln_c1 hSh C S hI (h1 _) hi6 hce hsl hl K
      | 2, _ =>
        refine lw_W C.1 C.2.1 C.2.2.2.1 (lw_Ks C.2.2.2.2.1 _) (ad := fun _ => 0) (sa := lw_sa b qx qm qo) 1 (pc := 40) (pc' := 310) (L := lw_L i u w) (L' := lw_L i u w) (st := [.int (nI 2)]) (st' := []) rfl hl (fun ls hl => ?_)
        exact ln_c2 hSh C S hI (h2 _) hi6 hce hsl hl K
      | 3, _ =>
        refine lw_W C.1 C.2.1 C.2.2.2.1 (lw_Ks C.2.2.2.2.1 _) (ad := fun _ => 0) (sa := lw_sa b qx qm qo) 1 (pc := 40) (pc' := 335) (L := lw_L i u w) (L' := lw_L i u w) (st := [.int (nI 3)]) (st' := []) rfl hl (fun ls hl => ?_)
        exact ln_c3 hSh C S hI (h3 _) hi6 hce hsl hl K
      | 4, _ =>
        refine lw_W C.1 C.2.1 C.2.2.2.1 (lw_Ks C.2.2.2.2.1 _) (ad := fun _ => 0) (sa := lw_sa b qx qm qo) 1 (pc := 40) (pc' := 360) (L := lw_L i u w) (L' := lw_L i u w) (st := [.int (nI 4)]) (st' := []) rfl hl (fun ls hl => ?_)
        exact hV dn (by omega) p l e s m below meth c H locs _ _ _ b Ln xs sa av D hx hm qx qm qo ls i u w hlt hE C S hI hi6 hce hsl hl K
      | 5, _ =>
        refine lw_W C.1 C.2.1 C.2.2.2.1 (lw_Ks C.2.2.2.2.1 _) (ad := fun _ => 0) (sa := lw_sa b qx qm qo) 1 (pc := 40) (pc' := 416) (L := lw_L i u w) (L' := lw_L i u w) (st := [.int (nI 5)]) (st' := []) rfl hl (fun ls hl => ?_)
        exact ln_c5 hSh C S hI (h5 _ _) hi6 hce hsl hl K
      | 6, _ =>
        refine lw_W C.1 C.2.1 C.2.2.2.1 (lw_Ks C.2.2.2.2.1 _) (ad := fun _ => 0) (sa := lw_sa b qx qm qo) 1 (pc := 40) (pc' := 453) (L := lw_L i u w) (L' := lw_L i u w) (st := [.int (nI 6)]) (st' := []) rfl hl (fun ls hl => ?_)
        exact ln_c6 hSh C S hI (h6 _ _) hi6 hce hsl hl K
      | 7, _ =>
        refine lw_W C.1 C.2.1 C.2.2.2.1 (lw_Ks C.2.2.2.2.1 _) (ad := fun _ => 0) (sa := lw_sa b qx qm qo) 1 (pc := 40) (pc' := 490) (L := lw_L i u w) (L' := lw_L i u w) (st := [.int (nI 7)]) (st' := []) rfl hl (fun ls hl => ?_)
        exact ln_c7 hSh C S hI (h7 _) hi6 hce hsl hl K
      | 8, _ =>
        refine lw_W C.1 C.2.1 C.2.2.2.1 (lw_Ks C.2.2.2.2.1 _) (ad := fun _ => 0) (sa := lw_sa b qx qm qo) 1 (pc := 40) (pc' := 515) (L := lw_L i u w) (L' := lw_L i u w) (st := [.int (nI 8)]) (st' := []) rfl hl (fun ls hl => ?_)
        exact ln_c8 hSh C S hI (h8 _ _) hi6 hce hsl hl K
      | 9, _ =>
        refine lw_W C.1 C.2.1 C.2.2.2.1 (lw_Ks C.2.2.2.2.1 _) (ad := fun _ => 0) (sa := lw_sa b qx qm qo) 1 (pc := 40) (pc' := 552) (L := lw_L i u w) (L' := lw_L i u w) (st := [.int (nI 9)]) (st' := []) rfl hl (fun ls hl => ?_)
        exact ln_c9 hSh C S hI (h9 _) hi6 hce hsl hl K
      | 10, _ =>
        refine lw_W C.1 C.2.1 C.2.2.2.1 (lw_Ks C.2.2.2.2.1 _) (ad := fun _ => 0) (sa := lw_sa b qx qm qo) 1 (pc := 40) (pc' := 577) (L := lw_L i u w) (L' := lw_L i u w) (st := [.int (nI 10)]) (st' := []) rfl hl (fun ls hl => ?_)
        exact ln_c10 hSh C S hI (h10) hi6 hce hsl hl K
      | 11, _ =>
        refine lw_W C.1 C.2.1 C.2.2.2.1 (lw_Ks C.2.2.2.2.1 _) (ad := fun _ => 0) (sa := lw_sa b qx qm qo) 1 (pc := 40) (pc' := 591) (L := lw_L i u w) (L' := lw_L i u w) (st := [.int (nI 11)]) (st' := []) rfl hl (fun ls hl => ?_)
        exact ln_c11 hSh C S hI (h11 _ _) hi6 hce hsl hl K
      | 12, _ =>
        refine lw_W C.1 C.2.1 C.2.2.2.1 (lw_Ks C.2.2.2.2.1 _) (ad := fun _ => 0) (sa := lw_sa b qx qm qo) 1 (pc := 40) (pc' := 629) (L := lw_L i u w) (L' := lw_L i u w) (st := [.int (nI 12)]) (st' := []) rfl hl (fun ls hl => ?_)
        exact ln_c12 hSh C S hI (h12 _ _) hi6 hce hsl hl K
      | 13, _ =>
        refine lw_W C.1 C.2.1 C.2.2.2.1 (lw_Ks C.2.2.2.2.1 _) (ad := fun _ => 0) (sa := lw_sa b qx qm qo) 1 (pc := 40) (pc' := 666) (L := lw_L i u w) (L' := lw_L i u w) (st := [.int (nI 13)]) (st' := []) rfl hl (fun ls hl => ?_)
        exact ln_c13 hSh C S hI (h13 _) hi6 hce hsl hl K
      | 14, _ =>
        refine lw_W C.1 C.2.1 C.2.2.2.1 (lw_Ks C.2.2.2.2.1 _) (ad := fun _ => 0) (sa := lw_sa b qx qm qo) 1 (pc := 40) (pc' := 691) (L := lw_L i u w) (L' := lw_L i u w) (st := [.int (nI 14)]) (st' := []) rfl hl (fun ls hl => ?_)
        exact ln_c14 hSh C S hI (h14 _ _) hi6 hce hsl hl K
      | 15, _ =>
        refine lw_W C.1 C.2.1 C.2.2.2.1 (lw_Ks C.2.2.2.2.1 _) (ad := fun _ => 0) (sa := lw_sa b qx qm qo) 1 (pc := 40) (pc' := 729) (L := lw_L i u w) (L' := lw_L i u w) (st := [.int (nI 15)]) (st' := []) rfl hl (fun ls hl => ?_)
        exact ln_c15 hSh C S hI (h15 _) hi6 hce hsl hl K
      | 16, _ =>
        refine lw_W C.1 C.2.1 C.2.2.2.1 (lw_Ks C.2.2.2.2.1 _) (ad := fun _ => 0) (sa := lw_sa b qx qm qo) 1 (pc := 40) (pc' := 754) (L := lw_L i u w) (L' := lw_L i u w) (st := [.int (nI 16)]) (st' := []) rfl hl (fun ls hl => ?_)
        exact ln_c16 hSh C S hI (h16 _) hi6 hce hsl hl K
      | 17, _ =>
        refine lw_W C.1 C.2.1 C.2.2.2.1 (lw_Ks C.2.2.2.2.1 _) (ad := fun _ => 0) (sa := lw_sa b qx qm qo) 1 (pc := 40) (pc' := 779) (L := lw_L i u w) (L' := lw_L i u w) (st := [.int (nI 17)]) (st' := []) rfl hl (fun ls hl => ?_)
        exact ln_c17 hSh C S hI (h17) hi6 hce hsl hl K
      | 18, _ =>
        refine lw_W C.1 C.2.1 C.2.2.2.1 (lw_Ks C.2.2.2.2.1 _) (ad := fun _ => 0) (sa := lw_sa b qx qm qo) 1 (pc := 40) (pc' := 792) (L := lw_L i u w) (L' := lw_L i u w) (st := [.int (nI 18)]) (st' := []) rfl hl (fun ls hl => ?_)
        exact ln_c18 hSh C S hI (h18 _ _) hi6 hce hsl hl K
      | 19, _ =>
        refine lw_W C.1 C.2.1 C.2.2.2.1 (lw_Ks C.2.2.2.2.1 _) (ad := fun _ => 0) (sa := lw_sa b qx qm qo) 1 (pc := 40) (pc' := 830) (L := lw_L i u w) (L' := lw_L i u w) (st := [.int (nI 19)]) (st' := []) rfl hl (fun ls hl => ?_)
        exact ln_c19 hSh C S hI (h19 _) hi6 hce hsl hl K
      | 20, _ =>
        refine lw_W C.1 C.2.1 C.2.2.2.1 (lw_Ks C.2.2.2.2.1 _) (ad := fun _ => 0) (sa := lw_sa b qx qm qo) 1 (pc := 40) (pc' := 855) (L := lw_L i u w) (L' := lw_L i u w) (st := [.int (nI 20)]) (st' := []) rfl hl (fun ls hl => ?_)
        exact ln_c20 hSh C S hI (h20 _ _) hi6 hce hsl hl K
      | 21, _ =>
        refine lw_W C.1 C.2.1 C.2.2.2.1 (lw_Ks C.2.2.2.2.1 _) (ad := fun _ => 0) (sa := lw_sa b qx qm qo) 1 (pc := 40) (pc' := 892) (L := lw_L i u w) (L' := lw_L i u w) (st := [.int (nI 21)]) (st' := []) rfl hl (fun ls hl => ?_)
        exact ln_c21 hSh C S hI (h21 _ _) hi6 hce hsl hl K
      | 22, _ =>
        refine lw_W C.1 C.2.1 C.2.2.2.1 (lw_Ks C.2.2.2.2.1 _) (ad := fun _ => 0) (sa := lw_sa b qx qm qo) 1 (pc := 40) (pc' := 929) (L := lw_L i u w) (L' := lw_L i u w) (st := [.int (nI 22)]) (st' := []) rfl hl (fun ls hl => ?_)
        exact ln_c22 hSh C S hI (h22 _ _) hi6 hce hsl hl K
      | 23, _ =>
        refine lw_W C.1 C.2.1 C.2.2.2.1 (lw_Ks C.2.2.2.2.1 _) (ad := fun _ => 0) (sa := lw_sa b qx qm qo) 1 (pc := 40) (pc' := 966) (L := lw_L i u w) (L' := lw_L i u w) (st := [.int (nI 23)]) (st' := []) rfl hl (fun ls hl => ?_)
        exact ln_c23 hSh C S hI (h23 _ _) hi6 hce hsl hl K
      | 24, _ =>
        refine lw_W C.1 C.2.1 C.2.2.2.1 (lw_Ks C.2.2.2.2.1 _) (ad := fun _ => 0) (sa := lw_sa b qx qm qo) 1 (pc := 40) (pc' := 1003) (L := lw_L i u w) (L' := lw_L i u w) (st := [.int (nI 24)]) (st' := []) rfl hl (fun ls hl => ?_)
        exact ln_c24 hSh C S hI (h24 _ _ _ _) hi6 hce hsl hl K
      | 25, _ =>
        refine lw_W C.1 C.2.1 C.2.2.2.1 (lw_Ks C.2.2.2.2.1 _) (ad := fun _ => 0) (sa := lw_sa b qx qm qo) 1 (pc := 40) (pc' := 1084) (L := lw_L i u w) (L' := lw_L i u w) (st := [.int (nI 25)]) (st' := []) rfl hl (fun ls hl => ?_)
        exact ln_c25 hSh C S hI (h25 _ _ _ _) hi6 hce hsl hl K
      | 26, _ =>
        refine lw_W C.1 C.2.1 C.2.2.2.1 (lw_Ks C.2.2.2.2.1 _) (ad := fun _ => 0) (sa := lw_sa b qx qm qo) 1 (pc := 40) (pc' := 1165) (L := lw_L i u w) (L' := lw_L i u w) (st := [.int (nI 26)]) (st' := []) rfl hl (fun ls hl => ?_)
        exact ln_c26 hSh C S hI (h26 _) hi6 hce hsl hl K
      | 27, _ =>
        refine lw_W C.1 C.2.1 C.2.2.2.1 (lw_Ks C.2.2.2.2.1 _) (ad := fun _ => 0) (sa := lw_sa b qx qm qo) 1 (pc := 40) (pc' := 1190) (L := lw_L i u w) (L' := lw_L i u w) (st := [.int (nI 27)]) (st' := []) rfl hl (fun ls hl => ?_)
        exact ln_c27 hSh C S hI (h27 _) hi6 hce hsl hl K
      | 28, _ =>
        refine lw_W C.1 C.2.1 C.2.2.2.1 (lw_Ks C.2.2.2.2.1 _) (ad := fun _ => 0) (sa := lw_sa b qx qm qo) 1 (pc := 40) (pc' := 1215) (L := lw_L i u w) (L' := lw_L i u w) (st := [.int (nI 28)]) (st' := []) rfl hl (fun ls hl => ?_)
        exact ln_c28 hSh C S hI (h28 _ _) hi6 hce hsl hl K
      | 29, _ =>
        refine lw_W C.1 C.2.1 C.2.2.2.1 (lw_Ks C.2.2.2.2.1 _) (ad := fun _ => 0) (sa := lw_sa b qx qm qo) 1 (pc := 40) (pc' := 1252) (L := lw_L i u w) (L' := lw_L i u w) (st := [.int (nI 29)]) (st' := []) rfl hl (fun ls hl => ?_)
        exact ln_c29 hSh C S hI (h29) hi6 hce hsl hl K
      | 30, _ =>
        refine lw_W C.1 C.2.1 C.2.2.2.1 (lw_Ks C.2.2.2.2.1 _) (ad := fun _ => 0) (sa := lw_sa b qx qm qo) 1 (pc := 40) (pc' := 1265) (L := lw_L i u w) (L' := lw_L i u w) (st := [.int (nI 30)]) (st' := []) rfl hl (fun ls hl => ?_)
        exact ln_c30 hSh C S hI (h30 _) hi6 hce hsl hl K
      | 31, _ =>
        refine lw_W C.1 C.2.1 C.2.2.2.1 (lw_Ks C.2.2.2.2.1 _) (ad := fun _ => 0) (sa := lw_sa b qx qm qo) 1 (pc := 40) (pc' := 1290) (L := lw_L i u w) (L' := lw_L i u w) (st := [.int (nI 31)]) (st' := []) rfl hl (fun ls hl => ?_)
        exact ln_c31 hSh C S hI (h31 _) hi6 hce hsl hl K
      | 32, _ =>
        refine lw_W C.1 C.2.1 C.2.2.2.1 (lw_Ks C.2.2.2.2.1 _) (ad := fun _ => 0) (sa := lw_sa b qx qm qo) 1 (pc := 40) (pc' := 1315) (L := lw_L i u w) (L' := lw_L i u w) (st := [.int (nI 32)]) (st' := []) rfl hl (fun ls hl => ?_)
        exact ln_c32 hSh C S hI (h32 _ _) hi6 hce hsl hl K
      | 33, _ =>
        refine lw_W C.1 C.2.1 C.2.2.2.1 (lw_Ks C.2.2.2.2.1 _) (ad := fun _ => 0) (sa := lw_sa b qx qm qo) 1 (pc := 40) (pc' := 1352) (L := lw_L i u w) (L' := lw_L i u w) (st := [.int (nI 33)]) (st' := []) rfl hl (fun ls hl => ?_)
        exact ln_c33 hSh C S hI (h33 _ _) hi6 hce hsl hl K
      | 34, _ =>
        refine lw_W C.1 C.2.1 C.2.2.2.1 (lw_Ks C.2.2.2.2.1 _) (ad := fun _ => 0) (sa := lw_sa b qx qm qo) 1 (pc := 40) (pc' := 1389) (L := lw_L i u w) (L' := lw_L i u w) (st := [.int (nI 34)]) (st' := []) rfl hl (fun ls hl => ?_)
        exact ln_c34 hSh C S hI (h34) hi6 hce hsl hl K
      | 35, _ =>
        refine lw_W C.1 C.2.1 C.2.2.2.1 (lw_Ks C.2.2.2.2.1 _) (ad := fun _ => 0) (sa := lw_sa b qx qm qo) 1 (pc := 40) (pc' := 1402) (L := lw_L i u w) (L' := lw_L i u w) (st := [.int (nI 35)]) (st' := []) rfl hl (fun ls hl => ?_)
        exact ln_c35 hSh C S hI (h35 _ _ _ _) hi6 hce hsl hl K
      | 36, _ =>
        refine lw_W C.1 C.2.1 C.2.2.2.1 (lw_Ks C.2.2.2.2.1 _) (ad := fun _ => 0) (sa := lw_sa b qx qm qo) 1 (pc := 40) (pc' := 1463) (L := lw_L i u w) (L' := lw_L i u w) (st := [.int (nI 36)]) (st' := []) rfl hl (fun ls hl => ?_)
        exact ln_c36 hSh C S hI (h36) hi6 hce hsl hl K
      | 37, _ =>
        refine lw_W C.1 C.2.1 C.2.2.2.1 (lw_Ks C.2.2.2.2.1 _) (ad := fun _ => 0) (sa := lw_sa b qx qm qo) 1 (pc := 40) (pc' := 1476) (L := lw_L i u w) (L' := lw_L i u w) (st := [.int (nI 37)]) (st' := []) rfl hl (fun ls hl => ?_)
        exact ln_c37 hSh C S hI (h37) hi6 hce hsl hl K
      | 38, _ =>
        refine lw_W C.1 C.2.1 C.2.2.2.1 (lw_Ks C.2.2.2.2.1 _) (ad := fun _ => 0) (sa := lw_sa b qx qm qo) 1 (pc := 40) (pc' := 1489) (L := lw_L i u w) (L' := lw_L i u w) (st := [.int (nI 38)]) (st' := []) rfl hl (fun ls hl => ?_)
        exact ln_c38 hSh C S hI (h38 _) hi6 hce hsl hl K
      | 39, _ =>
        refine lw_W C.1 C.2.1 C.2.2.2.1 (lw_Ks C.2.2.2.2.1 _) (ad := fun _ => 0) (sa := lw_sa b qx qm qo) 1 (pc := 40) (pc' := 1514) (L := lw_L i u w) (L' := lw_L i u w) (st := [.int (nI 39)]) (st' := []) rfl hl (fun ls hl => ?_)
        exact K hx hm _ _ ls _ _ _ _ (hMo dn hx hm hI) S hl (by omega) (by omega)
      | 40, _ =>
        refine lw_W C.1 C.2.1 C.2.2.2.1 (lw_Ks C.2.2.2.2.1 _) (ad := fun _ => 0) (sa := lw_sa b qx qm qo) 1 (pc := 40) (pc' := 1514) (L := lw_L i u w) (L' := lw_L i u w) (st := [.int (nI 40)]) (st' := []) rfl hl (fun ls hl => ?_)
        exact K hx hm _ _ ls _ _ _ _ (hMo dn hx hm hI) S hl (by omega) (by omega)
      | 41, _ =>
        refine lw_W C.1 C.2.1 C.2.2.2.1 (lw_Ks C.2.2.2.2.1 _) (ad := fun _ => 0) (sa := lw_sa b qx qm qo) 1 (pc := 40) (pc' := 1514) (L := lw_L i u w) (L' := lw_L i u w) (st := [.int (nI 41)]) (st' := []) rfl hl (fun ls hl => ?_)
        exact K hx hm _ _ ls _ _ _ _ (hMo dn hx hm hI) S hl (by omega) (by omega)
      | 42, _ =>
        refine lw_W C.1 C.2.1 C.2.2.2.1 (lw_Ks C.2.2.2.2.1 _) (ad := fun _ => 0) (sa := lw_sa b qx qm qo) 1 (pc := 40) (pc' := 1514) (L := lw_L i u w) (L' := lw_L i u w) (st := [.int (nI 42)]) (st' := []) rfl hl (fun ls hl => ?_)
        exact K hx hm _ _ ls _ _ _ _ (hMo dn hx hm hI) S hl (by omega) (by omega)
      | 43, _ =>
        refine lw_W C.1 C.2.1 C.2.2.2.1 (lw_Ks C.2.2.2.2.1 _) (ad := fun _ => 0) (sa := lw_sa b qx qm qo) 1 (pc := 40) (pc' := 1514) (L := lw_L i u w) (L' := lw_L i u w) (st := [.int (nI 43)]) (st' := []) rfl hl (fun ls hl => ?_)
        exact K hx hm _ _ ls _ _ _ _ (hMo dn hx hm hI) S hl (by omega) (by omega)
      | 44, _ =>
        refine lw_W C.1 C.2.1 C.2.2.2.1 (lw_Ks C.2.2.2.2.1 _) (ad := fun _ => 0) (sa := lw_sa b qx qm qo) 1 (pc := 40) (pc' := 1514) (L := lw_L i u w) (L' := lw_L i u w) (st := [.int (nI 44)]) (st' := []) rfl hl (fun ls hl => ?_)
        exact K hx hm _ _ ls _ _ _ _ (hMo dn hx hm hI) S hl (by omega) (by omega)
      | 45, _ =>
        refine lw_W C.1 C.2.1 C.2.2.2.1 (lw_Ks C.2.2.2.2.1 _) (ad := fun _ => 0) (sa := lw_sa b qx qm qo) 1 (pc := 40) (pc' := 1514) (L := lw_L i u w) (L' := lw_L i u w) (st := [.int (nI 45)]) (st' := []) rfl hl (fun ls hl => ?_)
        exact K hx hm _ _ ls _ _ _ _ (hMo dn hx hm hI) S hl (by omega) (by omega)
      | 46, _ =>
        refine lw_W C.1 C.2.1 C.2.2.2.1 (lw_Ks C.2.2.2.2.1 _) (ad := fun _ => 0) (sa := lw_sa b qx qm qo) 1 (pc := 40) (pc' := 1514) (L := lw_L i u w) (L' := lw_L i u w) (st := [.int (nI 46)]) (st' := []) rfl hl (fun ls hl => ?_)
        exact K hx hm _ _ ls _ _ _ _ (hMo dn hx hm hI) S hl (by omega) (by omega)
      | 47, _ =>
        refine lw_W C.1 C.2.1 C.2.2.2.1 (lw_Ks C.2.2.2.2.1 _) (ad := fun _ => 0) (sa := lw_sa b qx qm qo) 1 (pc := 40) (pc' := 1514) (L := lw_L i u w) (L' := lw_L i u w) (st := [.int (nI 47)]) (st' := []) rfl hl (fun ls hl => ?_)
        exact K hx hm _ _ ls _ _ _ _ (hMo dn hx hm hI) S hl (by omega) (by omega)
      | 48, _ =>
        refine lw_W C.1 C.2.1 C.2.2.2.1 (lw_Ks C.2.2.2.2.1 _) (ad := fun _ => 0) (sa := lw_sa b qx qm qo) 1 (pc := 40) (pc' := 1514) (L := lw_L i u w) (L' := lw_L i u w) (st := [.int (nI 48)]) (st' := []) rfl hl (fun ls hl => ?_)
        exact K hx hm _ _ ls _ _ _ _ (hMo dn hx hm hI) S hl (by omega) (by omega)
      | 49, _ =>
        refine lw_W C.1 C.2.1 C.2.2.2.1 (lw_Ks C.2.2.2.2.1 _) (ad := fun _ => 0) (sa := lw_sa b qx qm qo) 1 (pc := 40) (pc' := 1514) (L := lw_L i u w) (L' := lw_L i u w) (st := [.int (nI 49)]) (st' := []) rfl hl (fun ls hl => ?_)
        exact K hx hm _ _ ls _ _ _ _ (hMo dn hx hm hI) S hl (by omega) (by omega)
      | 50, _ =>
        refine lw_W C.1 C.2.1 C.2.2.2.1 (lw_Ks C.2.2.2.2.1 _) (ad := fun _ => 0) (sa := lw_sa b qx qm qo) 1 (pc := 40) (pc' := 1514) (L := lw_L i u w) (L' := lw_L i u w) (st := [.int (nI 50)]) (st' := []) rfl hl (fun ls hl => ?_)
        exact K hx hm _ _ ls _ _ _ _ (hMo dn hx hm hI) S hl (by omega) (by omega)
      | 51, _ =>
        refine lw_W C.1 C.2.1 C.2.2.2.1 (lw_Ks C.2.2.2.2.1 _) (ad := fun _ => 0) (sa := lw_sa b qx qm qo) 1 (pc := 40) (pc' := 1514) (L := lw_L i u w) (L' := lw_L i u w) (st := [.int (nI 51)]) (st' := []) rfl hl (fun ls hl => ?_)
        exact K hx hm _ _ ls _ _ _ _ (hMo dn hx hm hI) S hl (by omega) (by omega)
      | 52, _ =>
        refine lw_W C.1 C.2.1 C.2.2.2.1 (lw_Ks C.2.2.2.2.1 _) (ad := fun _ => 0) (sa := lw_sa b qx qm qo) 1 (pc := 40) (pc' := 1514) (L := lw_L i u w) (L' := lw_L i u w) (st := [.int (nI 52)]) (st' := []) rfl hl (fun ls hl => ?_)
        exact K hx hm _ _ ls _ _ _ _ (hMo dn hx hm hI) S hl (by omega) (by omega)
      | 53, _ =>
        refine lw_W C.1 C.2.1 C.2.2.2.1 (lw_Ks C.2.2.2.2.1 _) (ad := fun _ => 0) (sa := lw_sa b qx qm qo) 1 (pc := 40) (pc' := 1514) (L := lw_L i u w) (L' := lw_L i u w) (st := [.int (nI 53)]) (st' := []) rfl hl (fun ls hl => ?_)
        exact K hx hm _ _ ls _ _ _ _ (hMo dn hx hm hI) S hl (by omega) (by omega)
      | 54, _ =>
        refine lw_W C.1 C.2.1 C.2.2.2.1 (lw_Ks C.2.2.2.2.1 _) (ad := fun _ => 0) (sa := lw_sa b qx qm qo) 1 (pc := 40) (pc' := 1514) (L := lw_L i u w) (L' := lw_L i u w) (st := [.int (nI 54)]) (st' := []) rfl hl (fun ls hl => ?_)
        exact K hx hm _ _ ls _ _ _ _ (hMo dn hx hm hI) S hl (by omega) (by omega)
      | 55, _ =>
        refine lw_W C.1 C.2.1 C.2.2.2.1 (lw_Ks C.2.2.2.2.1 _) (ad := fun _ => 0) (sa := lw_sa b qx qm qo) 1 (pc := 40) (pc' := 1514) (L := lw_L i u w) (L' := lw_L i u w) (st := [.int (nI 55)]) (st' := []) rfl hl (fun ls hl => ?_)
        exact K hx hm _ _ ls _ _ _ _ (hMo dn hx hm hI) S hl (by omega) (by omega)
      | 56, _ =>
        refine lw_W C.1 C.2.1 C.2.2.2.1 (lw_Ks C.2.2.2.2.1 _) (ad := fun _ => 0) (sa := lw_sa b qx qm qo) 1 (pc := 40) (pc' := 1514) (L := lw_L i u w) (L' := lw_L i u w) (st := [.int (nI 56)]) (st' := []) rfl hl (fun ls hl => ?_)
        exact K hx hm _ _ ls _ _ _ _ (hMo dn hx hm hI) S hl (by omega) (by omega)
      | 57, _ =>
        refine lw_W C.1 C.2.1 C.2.2.2.1 (lw_Ks C.2.2.2.2.1 _) (ad := fun _ => 0) (sa := lw_sa b qx qm qo) 1 (pc := 40) (pc' := 1514) (L := lw_L i u w) (L' := lw_L i u w) (st := [.int (nI 57)]) (st' := []) rfl hl (fun ls hl => ?_)
        exact K hx hm _ _ ls _ _ _ _ (hMo dn hx hm hI) S hl (by omega) (by omega)
      | 58, _ =>
        refine lw_W C.1 C.2.1 C.2.2.2.1 (lw_Ks C.2.2.2.2.1 _) (ad := fun _ => 0) (sa := lw_sa b qx qm qo) 1 (pc := 40) (pc' := 1514) (L := lw_L i u w) (L' := lw_L i u w) (st := [.int (nI 58)]) (st' := []) rfl hl (fun ls hl => ?_)
        exact K hx hm _ _ ls _ _ _ _ (hMo dn hx hm hI) S hl (by omega) (by omega)
      | 59, _ =>
        refine lw_W C.1 C.2.1 C.2.2.2.1 (lw_Ks C.2.2.2.2.1 _) (ad := fun _ => 0) (sa := lw_sa b qx qm qo) 1 (pc := 40) (pc' := 1514) (L := lw_L i u w) (L' := lw_L i u w) (st := [.int (nI 59)]) (st' := []) rfl hl (fun ls hl => ?_)
        exact K hx hm _ _ ls _ _ _ _ (hMo dn hx hm hI) S hl (by omega) (by omega)
      | 60, _ =>
        refine lw_W C.1 C.2.1 C.2.2.2.1 (lw_Ks C.2.2.2.2.1 _) (ad := fun _ => 0) (sa := lw_sa b qx qm qo) 1 (pc := 40) (pc' := 1514) (L := lw_L i u w) (L' := lw_L i u w) (st := [.int (nI 60)]) (st' := []) rfl hl (fun ls hl => ?_)
        exact K hx hm _ _ ls _ _ _ _ (hMo dn hx hm hI) S hl (by omega) (by omega)
      | 61, _ =>
        refine lw_W C.1 C.2.1 C.2.2.2.1 (lw_Ks C.2.2.2.2.1 _) (ad := fun _ => 0) (sa := lw_sa b qx qm qo) 1 (pc := 40) (pc' := 1514) (L := lw_L i u w) (L' := lw_L i u w) (st := [.int (nI 61)]) (st' := []) rfl hl (fun ls hl => ?_)
        exact K hx hm _ _ ls _ _ _ _ (hMo dn hx hm hI) S hl (by omega) (by omega)
      | 62, _ =>
        refine lw_W C.1 C.2.1 C.2.2.2.1 (lw_Ks C.2.2.2.2.1 _) (ad := fun _ => 0) (sa := lw_sa b qx qm qo) 1 (pc := 40) (pc' := 1514) (L := lw_L i u w) (L' := lw_L i u w) (st := [.int (nI 62)]) (st' := []) rfl hl (fun ls hl => ?_)
        exact K hx hm _ _ ls _ _ _ _ (hMo dn hx hm hI) S hl (by omega) (by omega)
      | 63, _ =>
        refine lw_W C.1 C.2.1 C.2.2.2.1 (lw_Ks C.2.2.2.2.1 _) (ad := fun _ => 0) (sa := lw_sa b qx qm qo) 1 (pc := 40) (pc' := 1514) (L := lw_L i u w) (L' := lw_L i u w) (st := [.int (nI 63)]) (st' := []) rfl hl (fun ls hl => ?_)
        exact K hx hm _ _ ls _ _ _ _ (hMo dn hx hm hI) S hl (by omega) (by omega)
      | q + 64, hq => omega
set_option maxRecDepth 100000 in
set_option maxHeartbeats 8000000 in
theorem lx_whole {Inv : Nat → AmH → AmH → Prop} (h0 : Inv 0 cx_h0 cm_h0) (hAll : ln_All Inv) (hMo : ∀ (n : Nat) (hx hm : AmH), Inv n hx hm → Inv (n + 1) hx hm) (hV : lx_C4 Inv) {p : Program} {e : Env} {s : State} {m : MethodId} {below : List Frame} {meth : Method} {c : Code} (l : Launch) (hlt : l.stackTraces = false) {b Ln : Nat} {xs : Nat → Int32} (hL : Ln ≤ 384) (C0 : lw_At p s m meth c b Ln xs) : W p l e room_1 s m #[Value.ref b] below meth c s.heap [] 0 0 (lw_Z below #[Value.ref b] s) (entryFrame m ([Value.ref b] : List Value).toArray 7) := by
  obtain ⟨hx, hb, hr, hml, hown, hts0, hX, hbl, hlocks, hgv⟩ := id C0
  have hts := lw_gt hts0
  have hE : vy_E (lw_A s) s := by
    have hs := flat_of_before _ hgv
    have hA : ∀ a : Nat, a < s.heap.size → ¬ lw_A s a := fun a h => Nat.not_le.mpr h
    exact ⟨vx_Zqof (hts0 _ vy_w7.1) (hts0 _ vy_w7.2.2) (hs _ vy_w8.1) hA, vx_Zqof (hts0 _ vy_w7.2.1) (hts0 _ vy_w7.2.2) (hs _ vy_w8.2) hA, vy_Cs.of hts0⟩
  have hown : s.vm.findClass (am_on 16) = some m.cls := hown
  obtain ⟨sa, av, hen⟩ := lw_env hts0 hgv
  obtain ⟨D, hK⟩ := lw_known hts
  have hA : ∀ q : Nat, s.heap.size ≤ q → lw_A s q := fun _ h => h
  have hC : LwC p s m c b Ln xs sa av := ⟨hx, hb, hml, hown, hts, hen, hX, hbl, hL⟩
  have hS : va_S (lw_A s) s.heap s.heap [] := va_S.rf
  have hP : va_P D vwCl [] s.heap := fun k q h => by simp at h
  have hD : va_D (lw_A s) [] := ⟨fun i j p q h => by simp at h, fun k q h => by simp at h⟩
  have hl := lv_entry ([.ref b]) (n := 7) (Nat.le_of_ble_eq_true rfl)
  rw [lg_entry_eq]
  generalize (lg_sl ([.ref b]) ++ List.replicate (7 - (lg_sl ([.ref b])).length) Slot.unset).toArray = ls at hl ⊢
  have hl : lv_has ls 7 [(0, .ref b)] := hl
  -- the object of the class
  refine va_new (D := D) (cl := vwCl) (ci := 10) (fs := am_dfl 10) (C := RX11) (T := TX11) (N := 20) hx hb hts gw_11 tyX11 tyX11_ok hown (hts _ gn_16_8) (hts _ gi_11) (hts _ gj_11) hK hP hD hS hA rfl (by decide +kernel) (Nat.le_of_ble_eq_true rfl) (Nat.le_of_ble_eq_true rfl) dL_law_0 (fun q0 H hP hD hS => ?_)
  have w0 := lw_wd1 (sa := sa) hK hP hD hS
  refine lv_dup hx hb dL_law_3 rfl ?_
  refine lw_ctor (fr := []) (h := [.inr (10, am_dfl 10)]) (ad := fun _ => q0) (rest := [.ref q0]) hx hb hml hl.1 hown hts lw_room1.1 lw_room1.2.1 hen hA dL_law_4 rfl rfl (Nat.le_of_ble_eq_true rfl) (Nat.succ_pos _) (by decide) cx_init (Nat.le_of_ble_eq_true rfl) (Nat.le_of_ble_eq_true rfl) (Nat.le_of_ble_eq_true rfl) w0 (fun k q h => by simp at h) (fun i j p q _ h => by simp at h) (fun adx cax H locs a0 wx _ _ => ?_)
  refine lv_astore_n (lv' := [(1, .ref q0), (0, .ref b)]) hx hb dL_law_7 rfl hl (by decide) rfl (fun ls hl => ?_)
  -- the object of the model
  refine va_new (D := D) (cl := vwCl) (ws := am_ws adx sa cax cx_h0) (ci := 11) (fs := am_dfl 11) (C := RX12) (T := TX12) (N := 58) hx hb hts gw_12 tyX12 tyX12_ok hown (hts _ gn_16_16) (hts _ gi_12) (hts _ gj_12) hK wx.2.2.1 wx.2.2.2.1 wx.2.2.2.2.1 hA rfl (by decide +kernel) (Nat.le_of_ble_eq_true rfl) (Nat.le_of_ble_eq_true rfl) dL_law_8 (fun q1 H hP hD hS => ?_)
  obtain ⟨dx, dm, dd⟩ := lw_dis_D hD
  have wm := lw_wd1 (sa := sa) hK (lw_P_r hP) dm hS
  have em : am_ws (fun _ => q1) sa (fun _ => 0) [.inr (11, am_dfl 11)] = [(q1, .inr (11, am_dfl 11))] := by
    show [(q1, (.inr (11, (am_dfl 11).map (am_rv (fun _ => q1) sa)) : va_E))] = _
    rw [am_dfl_rv]
  refine lv_dup hx hb dL_law_11 rfl ?_
  refine lw_ctor (fr := am_ws adx sa cax cx_h0) (h := [.inr (11, am_dfl 11)]) (ad := fun _ => q1) (rest := [.ref q1]) hx hb hml hl.1 hown hts lw_room1.1 lw_room1.2.1 hen hA dL_law_12 rfl rfl (Nat.le_of_ble_eq_true rfl) (Nat.succ_pos _) (by decide) cm_init (Nat.le_of_ble_eq_true rfl) (Nat.le_of_ble_eq_true rfl) (Nat.le_of_ble_eq_true rfl) wm (lw_P_l hP) (by rw [em]; exact dd.symm) (fun adm cam H locs a1 wm hPx hdx => ?_)
  refine lv_astore_n (lv' := [(2, .ref q1), (1, .ref q0), (0, .ref b)]) hx hb dL_law_15 rfl hl (by decide) rfl (fun ls hl => ?_)
  -- the row that value writes into
  refine lv_iconst (v := 1) hx hb dL_law_16 (by decide) ?_
  have hDall : va_D (lw_A s) (am_ws adx sa cax cx_h0 ++ am_ws adm sa cam cm_h0) := va_D.app dx wm.2.2.2.1 (fun i j p q hp hq => hdx.symm i j p q hp hq)
  refine va_newa (D := D) (cl := vwCl) (atype := .long) (N' := 1) (ws := am_ws adx sa cax cx_h0 ++ am_ws adm sa cam cm_h0) hx hb (hts _ gs_tlong) rfl hK (va_P.app hPx wm.2.2.1) hDall wm.2.2.2.2.1 hA (a0 := (1, .inr (.inl (fun _ => 0)))) (fun _ => rfl) (by decide) (by decide +kernel) (by decide) (Nat.le_of_ble_eq_true rfl) (Nat.le_of_ble_eq_true rfl) dL_law_17 (fun q2 co H r0 r1 r2 r3 => ?_)
  refine lv_astore_n (lv' := [(3, .ref q2), (2, .ref q1), (1, .ref q0), (0, .ref b)]) hx hb dL_law_19 rfl hl (by decide) rfl (fun ls hl => ?_)
  refine lv_iconst (v := 0) hx hb dL_law_20 (by decide) ?_
  refine lv_istore (lv' := [(4, .int 0), (3, .ref q2), (2, .ref q1), (1, .ref q0), (0, .ref b)]) hx hb dL_law_21 hl (by decide) rfl (fun ls hl => ?_)
  obtain ⟨d1, d2, d3⟩ := lw_dis_D r2
  have hP12 := lw_P_l r1
  have S : LwS D sa s H _ cx_h0 cm_h0 q0 q1 q2 := ⟨adx, cax, adm, cam, co, fun _ => 0, a0, a1, ⟨wx.1, wx.2.1, lw_P_l hP12, dx, r3, wx.2.2.2.2.2⟩, ⟨wm.1, wm.2.1, lw_P_r hP12, wm.2.2.2.1, r3, wm.2.2.2.2.2⟩, r0, lw_P_r r1, d2.2 0 _ rfl, hdx.symm, fun i j p q hp hq => d3 i j p q (by rw [List.getElem?_append_left (List.getElem?_eq_some_iff.mp hp).1]; exact hp) hq, fun i j p q hp hq => d3 ((am_ws adx sa cax cx_h0).length + i) j p q (by rw [List.getElem?_append_right (Nat.le_add_right _ _), Nat.add_sub_cancel_left]; exact hp) hq⟩
  have hlr : am_lr (fun _ => 0) (lw_sa b q0 q1 q2) ls 7 (lw_L (6 * 0) none none) := by
    refine ⟨⟨hl.1, hl.2.1, fun q hq => nomatch hq⟩, fun k v hk => ?_⟩
    match k, hk with
    | 0, hk => cases hk; exact lv_at hl 4 rfl
    | 1, hk => cases hk; exact lv_at hl 3 rfl
    | 2, hk => cases hk; exact lv_at hl 2 rfl
    | 3, hk => cases hk; exact lv_at hl 1 rfl
    | 4, hk => cases hk; exact lv_at hl 0 rfl
    | 5, hk => cases hk
    | 6, hk => cases hk
    | k + 7, hk => cases hk
  refine W.widen (k := 200 + 8 * 0) (n := 200000 + 2000 * 0) (Nat.le_of_ble_eq_true rfl) (Nat.le_of_ble_eq_true rfl) ?_
  exact lx_loop hAll hMo hV hlt hE hC hr hlocks 65 0 cx_h0 cm_h0 _ _ ls none none (by omega) (by decide) h0 S hlr

/-! THE LAW: the walk of its body, out of the agreement of class and model -/
theorem dL_law_20 : decode cL_law 20 = .ok (.iconst 0, 1) := by decide +kernel
theorem dL_law_21 : decode cL_law 21 = .ok (.istore 4, 2) := by decide +kernel
set_option maxRecDepth 100000 in
set_option maxHeartbeats 8000000 in
theorem lw_known {s : State} {b : Nat} (hts : ∀ w ∈ am_gt, w.before #[Value.ref b] s = true) : ∃ D : va_G, va_K D vwCl [] s := by
  obtain ⟨c0, i0, k0⟩ := u_known (C := RX0) (T := TX0) (N := 4) (n := 4) hts gw_0 (hts _ gi_0)
  obtain ⟨c1, i1, k1⟩ := u_known (C := RX1) (T := TX1) (N := 6) (n := 6) hts gw_1 (hts _ gi_1)
  obtain ⟨c2, i2, k2⟩ := u_known (C := RX2) (T := TX2) (N := 8) (n := 8) hts gw_2 (hts _ gi_2)
  obtain ⟨c3, i3, k3⟩ := u_known (C := RX3) (T := TX3) (N := 3) (n := 3) hts gw_3 (hts _ gi_3)
  obtain ⟨c4, i4, k4⟩ := u_known (C := RX4) (T := TX4) (N := 13) (n := 13) hts gw_4 (hts _ gi_4)
  obtain ⟨c5, i5, k5⟩ := u_known (C := RX5) (T := TX5) (N := 7) (n := 7) hts gw_5 (hts _ gi_5)
  obtain ⟨c6, i6, k6⟩ := u_known (C := RX6) (T := TX6) (N := 2) (n := 2) hts gw_6 (hts _ gi_6)
  obtain ⟨c7, i7, k7⟩ := u_known (C := RX7) (T := TX7) (N := 5) (n := 5) hts gw_7 (hts _ gi_7)
  obtain ⟨c8, i8, k8⟩ := u_known (C := RX8) (T := TX8) (N := 3) (n := 3) hts gw_8 (hts _ gi_8)
  obtain ⟨c9, i9, k9⟩ := u_known (C := RX9) (T := TX9) (N := 6) (n := 6) hts gw_9 (hts _ gi_9)
  obtain ⟨c11, i11, k11⟩ := u_known (C := RX11) (T := TX11) (N := 20) (n := 20) hts gw_11 (hts _ gi_11)
  obtain ⟨c12, i12, k12⟩ := u_known (C := RX12) (T := TX12) (N := 58) (n := 58) hts gw_12 (hts _ gi_12)
  refine ⟨(fun k => ([c0, c1, c2, c3, c4, c5, c6, c7, c8, c9, c11, c12] : List ClassId).getD k c0, fun k => ([i0, i1, i2, i3, i4, i5, i6, i7, i8, i9, i11, i12] : List (Nat → Nat)).getD k i0), fun k q hq => ?_, fun k q h => by simp at h⟩
  match k, hq with
  | 0, hq => cases hq; exact k0
  | 1, hq => cases hq; exact k1
  | 2, hq => cases hq; exact k2
  | 3, hq => cases hq; exact k3
  | 4, hq => cases hq; exact k4
  | 5, hq => cases hq; exact k5
  | 6, hq => cases hq; exact k6
  | 7, hq => cases hq; exact k7
  | 8, hq => cases hq; exact k8
  | 9, hq => cases hq; exact k9
  | 10, hq => cases hq; exact k11
  | 11, hq => cases hq; exact k12
  | k + 12, hq => simp [vwCl] at hq
set_option maxRecDepth 100000 in
set_option maxHeartbeats 8000000 in
theorem lw_whole {Inv : AmH → AmH → Prop} (h0 : Inv cx_h0 cm_h0) (hAll : lw_All Inv) (hV : lw_C4 Inv) {p : Program} {e : Env} {s : State} {m : MethodId} {below : List Frame} {meth : Method} {c : Code} (l : Launch) {b Ln : Nat} {xs : Nat → Int32} (hL : Ln ≤ 384) (C0 : lw_At p s m meth c b Ln xs) : W p l e room_1 s m #[Value.ref b] below meth c s.heap [] 0 0 (lw_Z below #[Value.ref b] s) (entryFrame m ([Value.ref b] : List Value).toArray 7) := by
  obtain ⟨hx, hb, hr, hml, hown, hts0, hX, hbl, hlocks, hgv⟩ := id C0
  have hts := lw_gt hts0
  have hown : s.vm.findClass (am_on 16) = some m.cls := hown
  obtain ⟨sa, av, hen⟩ := lw_env hts0 hgv
  obtain ⟨D, hK⟩ := lw_known hts
  have hA : ∀ q : Nat, s.heap.size ≤ q → lw_A s q := fun _ h => h
  have hC : LwC p s m c b Ln xs sa av := ⟨hx, hb, hml, hown, hts, hen, hX, hbl, hL⟩
  have hS : va_S (lw_A s) s.heap s.heap [] := va_S.rf
  have hP : va_P D vwCl [] s.heap := fun k q h => by simp at h
  have hD : va_D (lw_A s) [] := ⟨fun i j p q h => by simp at h, fun k q h => by simp at h⟩
  have hl := lv_entry ([.ref b]) (n := 7) (Nat.le_of_ble_eq_true rfl)
  rw [lg_entry_eq]
  generalize (lg_sl ([.ref b]) ++ List.replicate (7 - (lg_sl ([.ref b])).length) Slot.unset).toArray = ls at hl ⊢
  have hl : lv_has ls 7 [(0, .ref b)] := hl
  -- the object of the class
  refine va_new (D := D) (cl := vwCl) (ci := 10) (fs := am_dfl 10) (C := RX11) (T := TX11) (N := 20) hx hb hts gw_11 tyX11 tyX11_ok hown (hts _ gn_16_8) (hts _ gi_11) (hts _ gj_11) hK hP hD hS hA rfl (by decide +kernel) (Nat.le_of_ble_eq_true rfl) (Nat.le_of_ble_eq_true rfl) dL_law_0 (fun q0 H hP hD hS => ?_)
  have w0 := lw_wd1 (sa := sa) hK hP hD hS
  refine lv_dup hx hb dL_law_3 rfl ?_
  refine lw_ctor (fr := []) (h := [.inr (10, am_dfl 10)]) (ad := fun _ => q0) (rest := [.ref q0]) hx hb hml hl.1 hown hts lw_room1.1 lw_room1.2.1 hen hA dL_law_4 rfl rfl (Nat.le_of_ble_eq_true rfl) (Nat.succ_pos _) (by decide) cx_init (Nat.le_of_ble_eq_true rfl) (Nat.le_of_ble_eq_true rfl) (Nat.le_of_ble_eq_true rfl) w0 (fun k q h => by simp at h) (fun i j p q _ h => by simp at h) (fun adx cax H locs a0 wx _ _ => ?_)
  refine lv_astore_n (lv' := [(1, .ref q0), (0, .ref b)]) hx hb dL_law_7 rfl hl (by decide) rfl (fun ls hl => ?_)
  -- the object of the model
  refine va_new (D := D) (cl := vwCl) (ws := am_ws adx sa cax cx_h0) (ci := 11) (fs := am_dfl 11) (C := RX12) (T := TX12) (N := 58) hx hb hts gw_12 tyX12 tyX12_ok hown (hts _ gn_16_16) (hts _ gi_12) (hts _ gj_12) hK wx.2.2.1 wx.2.2.2.1 wx.2.2.2.2.1 hA rfl (by decide +kernel) (Nat.le_of_ble_eq_true rfl) (Nat.le_of_ble_eq_true rfl) dL_law_8 (fun q1 H hP hD hS => ?_)
  obtain ⟨dx, dm, dd⟩ := lw_dis_D hD
  have wm := lw_wd1 (sa := sa) hK (lw_P_r hP) dm hS
  have em : am_ws (fun _ => q1) sa (fun _ => 0) [.inr (11, am_dfl 11)] = [(q1, .inr (11, am_dfl 11))] := by
    show [(q1, (.inr (11, (am_dfl 11).map (am_rv (fun _ => q1) sa)) : va_E))] = _
    rw [am_dfl_rv]
  refine lv_dup hx hb dL_law_11 rfl ?_
  refine lw_ctor (fr := am_ws adx sa cax cx_h0) (h := [.inr (11, am_dfl 11)]) (ad := fun _ => q1) (rest := [.ref q1]) hx hb hml hl.1 hown hts lw_room1.1 lw_room1.2.1 hen hA dL_law_12 rfl rfl (Nat.le_of_ble_eq_true rfl) (Nat.succ_pos _) (by decide) cm_init (Nat.le_of_ble_eq_true rfl) (Nat.le_of_ble_eq_true rfl) (Nat.le_of_ble_eq_true rfl) wm (lw_P_l hP) (by rw [em]; exact dd.symm) (fun adm cam H locs a1 wm hPx hdx => ?_)
  refine lv_astore_n (lv' := [(2, .ref q1), (1, .ref q0), (0, .ref b)]) hx hb dL_law_15 rfl hl (by decide) rfl (fun ls hl => ?_)
  -- the row that value writes into
  refine lv_iconst (v := 1) hx hb dL_law_16 (by decide) ?_
  have hDall : va_D (lw_A s) (am_ws adx sa cax cx_h0 ++ am_ws adm sa cam cm_h0) := va_D.app dx wm.2.2.2.1 (fun i j p q hp hq => hdx.symm i j p q hp hq)
  refine va_newa (D := D) (cl := vwCl) (atype := .long) (N' := 1) (ws := am_ws adx sa cax cx_h0 ++ am_ws adm sa cam cm_h0) hx hb (hts _ gs_tlong) rfl hK (va_P.app hPx wm.2.2.1) hDall wm.2.2.2.2.1 hA (a0 := (1, .inr (.inl (fun _ => 0)))) (fun _ => rfl) (by decide) (by decide +kernel) (by decide) (Nat.le_of_ble_eq_true rfl) (Nat.le_of_ble_eq_true rfl) dL_law_17 (fun q2 co H r0 r1 r2 r3 => ?_)
  refine lv_astore_n (lv' := [(3, .ref q2), (2, .ref q1), (1, .ref q0), (0, .ref b)]) hx hb dL_law_19 rfl hl (by decide) rfl (fun ls hl => ?_)
  refine lv_iconst (v := 0) hx hb dL_law_20 (by decide) ?_
  refine lv_istore (lv' := [(4, .int 0), (3, .ref q2), (2, .ref q1), (1, .ref q0), (0, .ref b)]) hx hb dL_law_21 hl (by decide) rfl (fun ls hl => ?_)
  obtain ⟨d1, d2, d3⟩ := lw_dis_D r2
  have hP12 := lw_P_l r1
  have S : LwS D sa s H _ cx_h0 cm_h0 q0 q1 q2 := ⟨adx, cax, adm, cam, co, fun _ => 0, a0, a1, ⟨wx.1, wx.2.1, lw_P_l hP12, dx, r3, wx.2.2.2.2.2⟩, ⟨wm.1, wm.2.1, lw_P_r hP12, wm.2.2.2.1, r3, wm.2.2.2.2.2⟩, r0, lw_P_r r1, d2.2 0 _ rfl, hdx.symm, fun i j p q hp hq => d3 i j p q (by rw [List.getElem?_append_left (List.getElem?_eq_some_iff.mp hp).1]; exact hp) hq, fun i j p q hp hq => d3 ((am_ws adx sa cax cx_h0).length + i) j p q (by rw [List.getElem?_append_right (Nat.le_add_right _ _), Nat.add_sub_cancel_left]; exact hp) hq⟩
  have hlr : am_lr (fun _ => 0) (lw_sa b q0 q1 q2) ls 7 (lw_L (6 * 0) none none) := by
    refine ⟨⟨hl.1, hl.2.1, fun q hq => nomatch hq⟩, fun k v hk => ?_⟩
    match k, hk with
    | 0, hk => cases hk; exact lv_at hl 4 rfl
    | 1, hk => cases hk; exact lv_at hl 3 rfl
    | 2, hk => cases hk; exact lv_at hl 2 rfl
    | 3, hk => cases hk; exact lv_at hl 1 rfl
    | 4, hk => cases hk; exact lv_at hl 0 rfl
    | 5, hk => cases hk
    | 6, hk => cases hk
    | k + 7, hk => cases hk
  refine W.widen (k := 200 + 8 * 0) (n := 200000 + 2000 * 0) (Nat.le_of_ble_eq_true rfl) (Nat.le_of_ble_eq_true rfl) ?_
  exact lw_loop hAll hV hC hr hlocks 65 0 cx_h0 cm_h0 _ _ ls none none (by omega) (by decide) h0 S hlr

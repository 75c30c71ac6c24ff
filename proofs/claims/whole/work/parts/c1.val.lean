/-! value: the class throws, the law catches (printed by wip/whole/genval.py) -/
/-- the words of the throw that a change of the resolved names keeps, though they are not good ones -/
def vy_B : List Cond := [.castable vyN vyN, .declares (Jvm.Bundle.initS "java/lang/RuntimeException"), .declares (Jvm.Bundle.initS "java/lang/Exception"), .declares (Jvm.Bundle.initS Jvm.Bundle.tN)]
theorem vy_Bo : ∀ w ∈ vy_B, w.onTables = true := by decide +kernel
theorem vy_Bf : ∀ w ∈ vy_B, w.faceAtom = true := by decide +kernel
theorem vy_w9 : ∀ w ∈ vy_B, w ∈ lw_tbl := by decide +kernel
def vy_Cs (U : State) : Prop := ∀ w ∈ vy_B, w.before #[] U = true
theorem vy_Cs.moved {u U : State} (hvm : u.vm.Alike U.vm) (h : vy_Cs u) : vy_Cs U := fun w hw => va_tabs (vy_Bo w hw) (u := u.setVm U.vm) rfl (Cond.faceAtom_setVm hvm w (vy_Bf w hw) (h w hw))
theorem vy_Cs.words {args : Array Value} {U : State} (h : vy_Cs U) : ∀ w ∈ vy_B, w.before args U = true := fun w hw => va_tabs (vy_Bo w hw) rfl (h w hw)
theorem vy_Cs.word {args : Array Value} {U : State} (h : vy_Cs U) : (Cond.castable vyN vyN).before args U = true := h.words _ List.mem_cons_self
theorem vy_Cs.of {args : Array Value} {s : State} (h : ∀ w ∈ lw_tbl, w.before args s = true) : vy_Cs s := fun w hw => va_tabs (vy_Bo w hw) rfl (h w (vy_w9 w hw))
def vy_E (A : Nat → Prop) (U : State) : Prop := vx_Zq Jvm.Bundle.tN "UNASSIGNED_STACK" Jvm.Bundle.steD A U U.heap ∧ vx_Zq Jvm.Bundle.tN "SUPPRESSED_SENTINEL" Jvm.Bundle.listD A U U.heap ∧ vy_Cs U
theorem vy_E.move {A B : Nat → Prop} {s U : State} {H : Heap} {locs : List Loc} (h : vy_E A s) (hS : va_S A s.heap H locs) (hAB : ∀ q, B q → A q) (hU : U.heap = H) (hW : s.WarmedH U.vm) : vy_E B U := by
  obtain ⟨a1, a2, a3⟩ := h
  subst hU
  exact ⟨((a1.kept hS.2.1).narrow hAB).moved hW.alike, ((a2.kept hS.2.1).narrow hAB).moved hW.alike, a3.moved hW.alike⟩
theorem vy_E.calling {A : Nat → Prop} {U : State} {a : Array Value} {g : JFrame} {mk : MethodId} (h : vy_E A U) : vy_E A (U.calling g mk a) := by
  have hv : U.vm.Alike (U.calling g mk a).vm := Vm.Alike.refl U.vm
  exact ⟨h.1.moved hv, h.2.1.moved hv, h.2.2.moved hv⟩
theorem vy_w1 : Cond.classLink RX11 190 vyN ∈ am_gt ∧ Cond.initialized vyN ∈ am_gt := by
  refine ⟨List.mem_filter.mpr ⟨?_, rfl⟩, List.mem_filter.mpr ⟨?_, rfl⟩⟩ <;> decide +kernel
theorem vy_w2 : ∀ w ∈ vz_atS.filter goodWord, w ∈ lw_tbl := by decide +kernel
theorem vy_w3 : ∀ w ∈ vz_atS.filter (fun w => !goodWord w), w ∈ vy_B := by decide +kernel
theorem vy_w4 : ∀ w ∈ Cond.classLink RX11 190 vyN :: Cond.initialized vyN :: vz_atS, vx_ot w = true := by decide +kernel
theorem vy_w5 : ∀ w ∈ ([.methodLink RL 37 yL_value, .static yL_value, .initialized yL_value.cls, .codeWith yL_value cL_value 4 (some .int) [(0, 9, 12, 13)], .classLink RL 13 vyN] : List Cond), w ∈ lw_tbl := by decide +kernel
theorem vy_w5g : ∀ w ∈ ([.methodLink RL 37 yL_value, .static yL_value, .initialized yL_value.cls, .codeWith yL_value cL_value 4 (some .int) [(0, 9, 12, 13)], .classLink RL 13 vyN] : List Cond), goodWord w = true := by decide +kernel
theorem vy_w6 {w : Cond} (h : w ∈ ([.methodLink RL 37 yL_value, .static yL_value, .initialized yL_value.cls, .codeWith yL_value cL_value 4 (some .int) [(0, 9, 12, 13)], .classLink RL 13 vyN] : List Cond)) : w ∈ am_gt := List.mem_filter.mpr ⟨vy_w5 w h, vy_w5g w h⟩
theorem vy_hat {args : Array Value} {s : State} (hts : ∀ w ∈ am_gt, w.before args s = true) (hC : vy_Cs s) : ∀ w ∈ vz_atS, w.before args s = true := by
  exact vx_hat (B := vy_B) (fun w hw => hts w (List.mem_filter.mpr ⟨vy_w2 w hw, (List.mem_filter.mp hw).2⟩)) vy_w3 hC.words
theorem vv_11 : decode cX11_value 11 = .ok (.new 190, 3) := by decide +kernel
theorem vv_14 : decode cX11_value 14 = .ok (.dup, 1) := by decide +kernel
theorem vv_15 : decode cX11_value 15 = .ok (.ldc 192, 2) := by decide +kernel
theorem vv_17 : decode cX11_value 17 = .ok (.invokespecial 194, 3) := by decide +kernel
theorem vv_20 : decode cX11_value 20 = .ok (.athrow, 1) := by decide +kernel
theorem vl_0 : decode cL_value 0 = .ok (.aload_n 2, 1) := by decide +kernel
theorem vl_1 : decode cL_value 1 = .ok (.iconst 0, 1) := by decide +kernel
theorem vl_2 : decode cL_value 2 = .ok (.aload_n 0, 1) := by decide +kernel
theorem vl_3 : decode cL_value 3 = .ok (.iload_n 1, 1) := by decide +kernel
theorem vl_4 : decode cL_value 4 = .ok (.invokevirtual 7, 3) := by decide +kernel
theorem vl_7 : decode cL_value 7 = .ok (.i2l, 1) := by decide +kernel
theorem vl_8 : decode cL_value 8 = .ok (.lastore, 1) := by decide +kernel
theorem vl_9 : decode cL_value 9 = .ok (.goto 6, 3) := by decide +kernel
theorem vl_12 : decode cL_value 12 = .ok (.astore_n 3, 1) := by decide +kernel
theorem vl_13 : decode cL_value 13 = .ok (.iconst 1, 1) := by decide +kernel
theorem vl_14 : decode cL_value 14 = .ok (.ireturn, 1) := by decide +kernel
theorem vl_15 : decode cL_value 15 = .ok (.iconst 0, 1) := by decide +kernel
theorem vl_16 : decode cL_value 16 = .ok (.ireturn, 1) := by decide +kernel
def vy_rt : Room := { frames := 120, cells := 1, slots := 6, locals := 5000 }
def vy_rv : Room := { frames := 200, cells := 1, slots := 6, locals := 8000 }
def vy_Pt (D : va_G) (ad sa av : Nat → Nat) (ca : Nat → ClassId) (h : AmH) (y : Int32) (sz : Nat) : Array Value → State → Prop := fun a U => am_Pre D ad sa av ca h [.ref 0, .int y] sz a U ∧ vy_E (va_A (am_ws ad sa ca h) sz) U
def vy_Xt (D : va_G) (ad sa : Nat → Nat) (h : AmH) (A : Nat → Prop) : String → State → State → Prop := fun E st t => E = vyN ∧ (∃ (ad' : Nat → Nat) (ca' : Nat → ClassId), (∀ q, q < h.length → ad' q = ad q) ∧ am_wk D ad' sa ca' h t A) ∧ va_F A st t
theorem vy_Pt_blind {D : va_G} {ad sa av : Nat → Nat} {ca : Nat → ClassId} {h : AmH} {y : Int32} {sz : Nat} : FrameBlind (vy_Pt D ad sa av ca h y sz) := fun a U g mk hp => ⟨am_blind a U g mk hp.1, hp.2.calling⟩
set_option maxRecDepth 100000 in
set_option maxHeartbeats 8000000 in
/-- the class's value throws where there is no such kind -/
theorem vy_thr {l : Launch} (hlt : l.stackTraces = false) {D : va_G} {ad sa av : Nat → Nat} {ca : Nat → ClassId} {h : AmH} {y : Int32} {sz ps : Nat} {fs : List Value} (h0 : 0 < h.length) (hps : ps < h.length)
    (hgf : am_heap 11 (am_ini m_X11_value) (.getfield 19) [.ref 0] h = some (3, [.ref ps], h)) (hes : h[ps]? = some (.inr (7, fs))) (hrun : Rn 100 m_X7_hasKind 0 (am_ent [.ref ps, .int y] 2) [] h (some (.int 0), h, 0, 0)) :
    vx_Met l yX11_value (am_wsM m_X11_value) vy_rt (vy_Pt D ad sa av ca h y sz) (fun _ _ _ _ => False) (vy_Xt D ad sa h (va_A (am_ws ad sa ca h) sz)) 1 6 (va_A (am_ws ad sa ca h) sz) := by
  have hM := mk_X11_value
  refine vx_ofW (cc := cX11_value) (maxL := 2) (ret := some .int) hM.2.2.1 rfl ?_
  intro p e s m args below meth c s₁ B hml htab hv
  obtain ⟨⟨rfl, hsz, ⟨w1, w2, w3, w4, w5⟩, hen⟩, hE⟩ := hv
  have hts0 := atoms_spec (ws := am_wsM m_X11_value) B.pre
  have hts : ∀ w ∈ am_gt, w.before _ s = true := fun w hw => hts0 w (List.mem_cons_of_mem _ hw)
  have hown : s.vm.findClass (am_on 11) = some m.cls := findClass_of_methodNamed B.named
  have hx := B.exec
  have hb := B.bytes
  have hlocks := B.notSynchronized
  have hnm : meth.name = m_X11_value.1.name := (name_of_methodNamed B.named B.method).1
  subst hsz
  have hl := lv_entry ([Value.ref 0, .int y].map (am_rv ad sa)) (n := 2) (Nat.le_of_ble_eq_true rfl)
  rw [lg_entry_eq]
  generalize (lg_sl ([Value.ref 0, .int y].map (am_rv ad sa)) ++ List.replicate (2 - (lg_sl ([Value.ref 0, .int y].map (am_rv ad sa))).length) Slot.unset).toArray = ls at hl ⊢
  have hlr : am_lr ad sa ls 2 (am_ent [.ref 0, .int y] 2) := by
    refine ⟨⟨hl.1, hl.2.1, fun q hq => nomatch hq⟩, fun i v hi => ?_⟩
    have := am_ent_at ad sa [.ref 0, .int y] 0 i v (am_ent_get hi)
    rw [Nat.zero_add] at this
    exact hl.2.2 _ this
  have hoa : am_oks h.length [.ref 0, .int y] := am_oks_c (am_okv_r h0) (am_oks_c (am_okv_i _ _) (fun v hv => nomatch hv))
  have hoL : am_okl h.length (am_ent [.ref 0, .int y] 2) := fun i v hi => hoa v (am_sl1_mem _ i v (am_ent_get hi))
  have hA : ∀ q, s.heap.size ≤ q → va_A (am_ws ad sa ca h) s.heap.size q := fun q hq => Or.inr hq
  have hW : am_wd D ad sa ca h s (va_A (am_ws ad sa ca h) s.heap.size) s.heap s.heap [] := ⟨w1, w2, w3, w4.self, va_S.rf, w5⟩
  have hKs : am_Ks 11 sa _ s := am_Ks_of hts hen
  have hin : am_ini m_X11_value = true → meth.name = "<init>" := fun q => absurd q (by decide)
  obtain ⟨d0, t0⟩ := co_X11_value 0 (.aload_n 0) 1 .null rfl
  refine am_pure_W (st := []) (st' := [.ref 0]) (pc' := 1) (L' := am_ent [.ref 0, .int y] 2) hx hb hown hKs d0 t0 rfl hlr (fun ls hlr => ?_)
  obtain ⟨d1, t1⟩ := co_X11_value 1 (.getfield 19) 3 .null rfl
  refine am_heap_W (R := vy_rt) hx hb hml hown hts hin d1 t1 hlr.1.1 ⟨by decide, by decide⟩ (by decide) (by decide) (fun x j t r g1 g2 => by have d9 : decode cX11_value 1 = .ok (.getfield 19, 3) := d1; rw [d9] at g2; cases g2) hW (am_oks_c (am_okv_r h0) (fun v hv => nomatch hv)) hgf (fun _ o2 H1 locs1 hW => ?_)
  obtain ⟨d4, t4⟩ := co_X11_value 4 (.iload_n 1) 1 .null rfl
  refine am_pure_W (st := [.ref ps]) (st' := [.int y, .ref ps]) (pc' := 5) (L' := am_ent [.ref 0, .int y] 2) hx hb hown hKs d4 t4 rfl hlr (fun ls hlr => ?_)
  obtain ⟨d5, t5⟩ := co_X11_value 5 (.invokevirtual 186) 3 .null rfl
  obtain ⟨n, hrun⟩ := hrun
  have hf2 : am_look (am_ml 11) 186 = some (3, m_X7_hasKind, 1, 7) := rfl
  obtain ⟨hM', hpd, hkd⟩ := am_ml_ok hf2
  rcases hkd with ⟨q, -⟩ | ⟨q, -⟩ | ⟨-, g1, g2, g3, q0, g4, g5⟩ | ⟨q, -⟩
  · cases q
  · cases q
  · have hrcv := va_recv hW.1 hW.2.2.1 g4 (am_ws_at hes)
    rw [g5] at hrcv
    have hoa2 : am_oks h.length [.ref ps, .int y] := am_oks_c (am_okv_r hps) (am_oks_c (am_okv_i _ _) (fun v hv => nomatch hv))
    have hpre : ∀ U : State, U.heap = H1 → s.WarmedH U.vm → am_Pre D ad sa av ca h [.ref ps, .int y] H1.size (Value.ref (ad ps) :: [.int y]).toArray U := fun U hU hw => am_preU hW hA hen [.ref ps, .int y] hU hw
    refine am_callW (va_runV (C := m_X7_hasKind.1.cls) (b := ad ps) (As := [.int y]) (rest := []) (R := vy_rt) ⟨hx, hb, hml, hown, hts⟩ (am_met (am_snd (am_ia l) (fun _ _ _ q => am_ck q) n) hrun hM' (am_ck hf2) (Nat.le_of_ble_eq_true rfl) hoa2 D ad sa av ca H1.size) (cwV 1 hts (am_ml_GIv g1 g2 g3 hM') rfl rfl rfl ⟨rfl, hM'.2.2.2.1.1, hM'.2.2.2.1.2, hpd⟩ ⟨by decide, by decide⟩) ⟨am_blind, hrcv, hpre⟩ rfl rfl hlr.1.1 rfl (lv_room (Nat.le_of_ble_eq_true rfl)) d5 ⟨by decide, by decide⟩) hW.2.2.2.2.1 (am_A1 hW hA) (fun ad' ca' H2 locs2 a1 a2 a3 hW2 => ?_)
    have hlr2 := am_lr_ag a1 hlr hoL
    obtain ⟨d8, t8⟩ := co_X11_value 8 (.ifCond .ne 13) 3 .null rfl
    refine am_pure_W (ad := ad') (st := [.int 0]) (st' := []) (pc' := 11) (L' := am_ent [.ref 0, .int y] 2) hx hb hown hKs d8 t8 rfl hlr2 (fun ls hlr => ?_)
    have hS := hW2.2.2.2.2.1
    refine vz_throwS (cc := cX11_value) (pc := 11) (text := "no such kind") (ik := 190) (is := 192) (mc := 1) (ms := 6) (sa := sa 2) (A := va_A (am_ws ad sa ca h) s.heap.size) (rest := []) hx hb hlt hown (hts _ vy_w1.1) (hts _ vy_w1.2) hen.2.1.2.2 (vy_hat hts hE.2.2) vy_w4 hE.1 hE.2.1 hS (by rw [hml]; exact hlr.1.1) vv_11 vv_14 vv_15 vv_17 vv_20 (fun x hx => (htab x hx).elim) (by decide) (by decide) (by decide) (by decide) hlocks (fun t hal hz hk => ?_) hS.2.2 (by decide) (by decide)
    refine ⟨rfl, ⟨ad', ca', a1, va_K.moved hal hW2.1, fun k ty a q => va_K.moved hal (hW2.2.1 k ty a q), hW2.2.2.1.kept (fun i q hq => hk q.1 (hW2.2.2.1 i q hq).lt), hW2.2.2.2.1, hW2.2.2.2.2.2⟩, Nat.le_trans hS.1 hz, fun q h1 h2 => (hk q (Nat.lt_of_lt_of_le h1 hS.1)).trans (hS.2.1 q h1 h2)⟩
  · cases q
section VyCall
variable {p : Program} {l : Launch} {e : Env} {R : Room} {s : State} {m : MethodId} {args : Array Value} {below : List Frame} {meth : Method} {c : Code} {H : Heap} {locs : List Loc} {cells slots : Nat} {Q : State → Prop}
variable {pc : Nat} {ls : Array Slot} {D : va_G} {ad sa av : Nat → Nat} {ca : Nat → ClassId} {A : Nat → Prop}
set_option maxRecDepth 100000 in
set_option maxHeartbeats 8000000 in
theorem vy_call {cc : ByteArray} {nL : Nat} (hIA : am_IA l) {M : AmM} {x na rc : Nat} {as rest : List Value} {fs : List Value} {h hf : AmH} {rv : Option Value} {k j : Nat} {fr : va_W} (hx : p.tables.exec = Jvm.exec) (hb : c.code = cc) (hml : c.maxLocals = nL) (hlr : ls.size = nL) (hown : s.vm.findClass (am_on 16) = some m.cls) (hts : ∀ w ∈ am_gt, w.before args s = true) (hRf : 200 ≤ R.frames) (hRl : 8000 ≤ R.locals) (hen : am_env sa av A s) (hA : ∀ q, s.heap.size ≤ q → A q)
    (hdg : decode cc pc = .ok (.invokevirtual x, 3)) (hf2 : am_look (am_ml 16) x = some (3, M, na, rc)) (hna : as.length = na) (hpl : ∀ v ∈ as, am_pl v) (hsl : (am_sl1 (.ref 0 :: as)).length ≤ M.2.2.2.1) (he : h[0]? = some (.inr (rc, fs))) (hrun : Rn 100 M 0 (am_ent (.ref 0 :: as) M.2.2.2.1) [] h (rv, hf, k, j)) (hrv : ∀ v, rv = some v → am_pl v) (hlow : (rest.map fun v => v.category).sum ≤ 8) (hce : cells + k ≤ R.cells) (hss : slots + j ≤ R.slots)
    (hW : am_wd D ad sa ca h s A s.heap H locs) (hP2 : va_P D vwCl fr H) (hdis : lw_dis (am_ws ad sa ca h) fr)
    (kk : ∀ (ad' : Nat → Nat) (ca' : Nat → ClassId) (H1 : Heap) (locs1 : List Loc), ad' 0 = ad 0 → am_wd D ad' sa ca' hf s A s.heap H1 locs1 → va_P D vwCl fr H1 → lw_dis (am_ws ad' sa ca' hf) fr → W p l e R s m args below meth c H1 locs1 (cells + k) (slots + j) Q (F0 m (pc + 3) ls (rv.toList ++ rest))) : W p l e R s m args below meth c H locs cells slots Q (F0 m pc ls (as.reverse ++ .ref (ad 0) :: rest)) := by
  obtain ⟨n, hrun⟩ := hrun
  obtain ⟨hM', hpd, hkd⟩ := am_ml_ok hf2
  have hA1 := am_A1 hW hA
  have h0 : 0 < h.length := (List.getElem?_eq_some_iff.mp he).1
  have hoa : am_oks h.length (.ref 0 :: as) := am_oks_c (am_okv_r h0) (fun v hv => by rcases hpl v hv with ⟨x, rfl⟩ | ⟨x, rfl⟩ <;> exact fun _ q => nomatch q)
  have f1 : (am_rm 100 k j).frames + 1 ≤ R.frames := by simp only [am_rm]; omega
  have f2 : 8 + (M.2.2.2.1 + 11) + (am_rm 100 k j).locals ≤ R.locals := by
    have := hM'.2.2.2.2.2
    simp only [] at this
    simp only [am_rm]
    omega
  have hmap : (.ref 0 :: as : List Value).map (am_rv ad sa) = .ref (ad 0) :: as := congrArg (Value.ref (ad 0) :: ·) (am_pl_map hpl ad sa)
  rcases hkd with ⟨q, -⟩ | ⟨q, -⟩ | ⟨-, g1, g2, g3, q0, g4, g5⟩ | ⟨q, -⟩
  · cases q
  · cases q
  · have hrcv := va_recv hW.1 hW.2.2.1 g4 (am_ws_at he)
    rw [g5] at hrcv
    have hpre : ∀ U : State, U.heap = H → s.WarmedH U.vm → am_Pre D ad sa av ca h (.ref 0 :: as) H.size (Value.ref (ad 0) :: as).toArray U := fun U hU hw => by
      have := am_preU hW hA hen (.ref 0 :: as) hU hw
      rw [hmap] at this
      exact this
    have hr := va_runV (p := p) (l := l) (e := e) (R := R) (s := s) (m := m) (args := args) (below := below) (meth := meth) (c := c) (H := H) (locs := locs) (cells := cells) (slots := slots) (g := F0 m pc ls (as.reverse ++ .ref (ad 0) :: rest)) (C := M.1.cls) (b := ad 0) (As := as) (rest := rest) ⟨hx, hb, hml, hown, hts⟩ (am_met (am_snd hIA (fun _ _ _ q => am_ck q) n) hrun hM' (am_ck hf2) hsl hoa D ad sa av ca H.size) (cwV na hts (am_ml_GIv g1 g2 g3 hM') rfl rfl rfl ⟨rfl, hM'.2.2.2.1.1, hM'.2.2.2.1.2, hpd⟩ ⟨f1, f2⟩) ⟨am_blind, hrcv, hpre⟩ rfl hna hlr rfl (lv_room hlow) hdg ⟨hce, hss⟩
    intro T hT X
    obtain ⟨v, st₀, t, T', L, g0, X', hL, e1, e2, ⟨⟨ad', ca', hv, hag, ⟨w1, w2, w3, w4, w5⟩, hle, hok⟩, hz, hk⟩, st⟩ := hr T hT X
    cases hv
    rw [g0] at hz hk
    have hal : t.vm.Alike s.vm := by
      have : s.vm.Alike t.vm := by rw [← e2]; exact X'.warmed.alike
      exact this.symm
    have hS := hW.2.2.2.2.1
    have hS' : va_S A s.heap T'.heap (locs ++ L) := ⟨Nat.le_trans hS.1 (by rw [e1]; exact hz), fun q h1 h2 => by rw [e1, hk q (Nat.lt_of_lt_of_le h1 hS.1) (fun z => h2 (hA1 q z))]; exact hS.2.1 q h1 h2, fun q hq => by
        rcases List.mem_append.mp hq with h | h
        · exact hS.2.2 q h
        · exact hA1 _ (hL q h)⟩
    have hnot : ∀ (i : Nat) (q : Nat × va_E), fr[i]? = some q → q.1 < H.size ∧ ¬ va_A (am_ws ad sa ca h) H.size q.1 := fun i q hq => by
      have hlt := (hP2 i q hq).lt
      refine ⟨hlt, fun z => ?_⟩
      rcases z with ⟨k9, e9, h9⟩ | z
      · exact hdis k9 i _ q h9 hq rfl
      · omega
    have e3 : rv.map (am_rv ad' sa) = rv := by
      cases rv with
      | none => rfl
      | some w => exact congrArg some (am_pl_rv (hrv w rfl) ad' sa)
    have hP3 : va_P D vwCl fr T'.heap := hP2.kept (fun i q hq => by rw [e1]; exact hk q.1 (hnot i q hq).1 (hnot i q hq).2)
    have hdis' : lw_dis (am_ws ad' sa ca' hf) fr := fun i j9 p9 q9 hp hq hpq => (hnot j9 q9 hq).2 (by rw [← hpq]; exact w4.2 i p9 hp)
    obtain ⟨t2, a1, b1⟩ := kk ad' ca' T'.heap (locs ++ L) (hag 0 h0) ⟨va_K.moved hal w1, fun k ty a q => va_K.moved hal (w2 k ty a q), by rw [e1]; exact w3, w4.weaken (fun _ _ _ q => hA1 _ q), hS', w5⟩ hP3 hdis' T' rfl X'
    rw [e3] at st
    exact ⟨t2, st t2 a1, b1⟩
  · cases q
end VyCall

/-! value in the law: called with an object, a number and a row of one long -/
abbrev vy_o (co : ClassId) (qo : Nat) (fo : Nat → Int64) : va_W := [(qo, .inl (co, 1, .inr (.inl fo)))]
theorem vy_dis {a : va_W} {co : ClassId} {qo : Nat} {fo fo' : Nat → Int64} (h : lw_dis a (vy_o co qo fo)) : lw_dis a (vy_o co qo fo') := by
  intro i j p q hp hq
  cases j with
  | zero => cases hq; exact h i 0 p (qo, .inl (co, 1, .inr (.inl fo))) hp rfl
  | succ j => cases hq
theorem vy_oD {A : Nat → Prop} {co : ClassId} {qo : Nat} {fo : Nat → Int64} (h : A qo) : va_D A (vy_o co qo fo) := by
  refine ⟨fun i j p q hp hq _ => ?_, fun k q hk => ?_⟩
  · cases i with
    | zero => cases j with
      | zero => rfl
      | succ j => cases hq
    | succ i => cases hp
  · cases k with
    | zero => cases hk; exact h
    | succ k => cases hk
def vy_Pv (D : va_G) (ad sa av : Nat → Nat) (ca : Nat → ClassId) (h : AmH) (co : ClassId) (qo : Nat) (fo : Nat → Int64) (y : Int32) (sz : Nat) : Array Value → State → Prop := va_Pc [.ref (ad 0), .int y, .ref qo] (fun U => U.heap.size = sz ∧ am_wk D ad sa ca h U (fun _ => True) ∧ am_env sa av (va_A (am_ws ad sa ca h ++ vy_o co qo fo) sz) U ∧ vy_E (va_A (am_ws ad sa ca h ++ vy_o co qo fo) sz) U ∧ va_K D vwCl [(co, .long)] U ∧ va_P D vwCl (vy_o co qo fo) U.heap ∧ lw_dis (am_ws ad sa ca h) (vy_o co qo fo))
def vy_Qv (D : va_G) (ad sa : Nat → Nat) (n0 : Nat) (hf : AmH) (co : ClassId) (qo : Nat) (fo : Nat → Int64) (r : Int32) (A : Nat → Prop) : Array Value → State → Outcome → State → Prop := fun _ st o t => (∃ (ad' : Nat → Nat) (ca' : Nat → ClassId), o = .returned (some (.int r)) ∧ (∀ q, q < n0 → ad' q = ad q) ∧ am_wk D ad' sa ca' hf t A ∧ va_P D vwCl (vy_o co qo fo) t.heap ∧ lw_dis (am_ws ad' sa ca' hf) (vy_o co qo fo)) ∧ va_F A st t
theorem vy_Pv_blind {D : va_G} {ad sa av : Nat → Nat} {ca : Nat → ClassId} {h : AmH} {co : ClassId} {qo : Nat} {fo : Nat → Int64} {y : Int32} {sz : Nat} : FrameBlind (vy_Pv D ad sa av ca h co qo fo y sz) := by
  intro a U g mk hp
  obtain ⟨e0, h1, h2, h3, h4, h5, h6, h7⟩ := hp
  have hv : U.vm.Alike (U.calling g mk a).vm := Vm.Alike.refl U.vm
  exact ⟨e0, h1, h2.moved hv rfl, h3.calling, h4.calling, va_K.moved hv h5, h6, h7⟩
theorem vy_ofWH {l : Launch} {y : MethodName} {ws ws' : List Cond} {rm : Room} {Pc : Array Value → State → Prop} {Qc : Array Value → State → Outcome → State → Prop} {mc ms : Nat} {free : Addr → Prop} {cc : ByteArray} {maxL : Nat} {ret : Option FieldType} {hh : List (Nat × Nat × Nat × Nat)}
    (hy : plainName y.cls = true) (hw : ws = Cond.codeWith y cc maxL ret hh :: ws')
    (body : ∀ p e s m args below meth c s₁, BodyLoose p l y (headSpec ws rm) cc maxL ret e s m args below meth c s₁ → c.maxLocals = maxL → Pc args s →
      W p l e (headSpec ws rm).room s m args below meth c s.heap [] 0 0 (MQ below Qc args s mc ms free) (entryFrame m args maxL)) : Met l y ws rm Pc Qc mc ms free := by
  refine MetFree.of_bodyS (code := cc) (maxLocals := maxL) (ret := ret) hy ?_ ?_
  · intro args s m h hn
    obtain ⟨m9, meth, c, hn9, h1, h2, h3, h4, -, h5, h6, -⟩ := Cond.codeWith_spec (atoms_spec (ws := ws) h _ (by rw [hw]; exact List.mem_cons_self))
    cases hn.symm.trans hn9
    exact ⟨meth, c, h1, h2, h3, h4, h5, h6⟩
  · intro p e s m args below meth c s₁ B hml hP _
    have hh0 : s₁.heap = s.heap := by rw [B.state]; rfl
    obtain ⟨t, a1, o, b1, b2, b3⟩ := body p e s m args below meth c s₁ B hml hP s₁ hh0 (Stand.of_body B)
    exact ⟨t, o, a1, b1, b2, ⟨b3.1, b3.2⟩⟩
abbrev vy_ws : List Cond := Cond.codeWith yL_value cL_value 4 (some .int) [(0, 9, 12, 13)] :: am_gt
/-- what a method's end hands back of the world -/
theorem vy_end {D : va_G} {ad ad' sa : Nat → Nat} {ca' : Nat → ClassId} {n0 : Nat} {hf : AmH} {co : ClassId} {qo : Nat} {fo : Nat → Int64} {r : Int32} {A : Nat → Prop} {a : Array Value} {s t : State} {H : Heap} {locs : List Loc} (hag : ∀ q, q < n0 → ad' q = ad q) (hW : am_wd D ad' sa ca' hf s A s.heap H locs) (hP : va_P D vwCl (vy_o co qo fo) H) (hd : lw_dis (am_ws ad' sa ca' hf) (vy_o co qo fo)) (ht : t.heap = H) (hw : s.WarmedH t.vm) : vy_Qv D ad sa n0 hf co qo fo r A a s (.returned (some (.int r))) t := by
  subst ht
  exact ⟨⟨ad', ca', rfl, hag, ⟨va_K.moved hw.alike hW.1, fun k ty a q => va_K.moved hw.alike (hW.2.1 k ty a q), hW.2.2.1, hW.2.2.2.1, hW.2.2.2.2.2⟩, hP, hd⟩, hW.2.2.2.2.1.F rfl⟩
set_option maxRecDepth 100000 in
set_option maxHeartbeats 8000000 in
/-- the number is there: it is written into the row -/
theorem vy_valA {l : Launch} {D : va_G} {ad sa av : Nat → Nat} {ca : Nat → ClassId} {h hf : AmH} {co : ClassId} {qo : Nat} {fo : Nat → Int64} {y v : Int32} {sz : Nat} {fs : List Value} (h0 : 0 < h.length) (he : h[0]? = some (.inr (10, fs))) (hrun : Rn 100 m_X11_value 0 (am_ent [.ref 0, .int y] 2) [] h (some (.int v), hf, 0, 0)) :
    Met l yL_value vy_ws vy_rv (vy_Pv D ad sa av ca h co qo fo y sz) (vy_Qv D ad sa 1 hf co qo (vp_updL fo 0 v.toInt64) 0 (va_A (am_ws ad sa ca h ++ vy_o co qo fo) sz)) 1 6 (va_A (am_ws ad sa ca h ++ vy_o co qo fo) sz) := by
  refine vy_ofWH (cc := cL_value) (maxL := 4) (ret := some .int) (hh := [(0, 9, 12, 13)]) (by decide) rfl ?_
  intro p e s m args below meth c s₁ B hml hv
  obtain ⟨rfl, hsz, ⟨w1, w2, w3, w4, w5⟩, hen, hE, k1, p1, dis⟩ := hv
  have hts0 := atoms_spec (ws := vy_ws) B.pre
  have hts : ∀ w ∈ am_gt, w.before _ s = true := fun w hw => hts0 w (List.mem_cons_of_mem _ hw)
  have hown : s.vm.findClass (am_on 16) = some m.cls := findClass_of_methodNamed B.named
  have hx := B.exec
  have hb := B.bytes
  have hlocks := B.notSynchronized
  have hret := B.returns
  subst hsz
  have hl := lv_entry ([.ref (ad 0), .int y, .ref qo]) (n := 4) (Nat.le_of_ble_eq_true rfl)
  rw [lg_entry_eq]
  generalize (lg_sl ([.ref (ad 0), .int y, .ref qo]) ++ List.replicate (4 - (lg_sl ([.ref (ad 0), .int y, .ref qo])).length) Slot.unset).toArray = ls at hl ⊢
  have hl : lv_has ls 4 [(0, .ref (ad 0)), (1, .int y), (2, .ref qo)] := hl
  generalize hAA : va_A (am_ws ad sa ca h ++ vy_o co qo fo) s.heap.size = A at hen hE ⊢
  have hA : ∀ q, s.heap.size ≤ q → A q := fun q hq => by rw [← hAA]; exact Or.inr hq
  have hAw : ∀ (k : Nat) (q : Nat × va_E), (am_ws ad sa ca h)[k]? = some q → A q.1 := fun k q hq => by
    rw [← hAA]
    exact Or.inl ⟨k, q.2, by rw [List.getElem?_append_left (List.getElem?_eq_some_iff.mp hq).1]; exact hq⟩
  have hAo : A qo := by
    rw [← hAA]
    exact Or.inl ⟨(am_ws ad sa ca h).length, _, by rw [List.getElem?_append_right (Nat.le_refl _), Nat.sub_self]; rfl⟩
  have hW : am_wd D ad sa ca h s A s.heap s.heap [] := ⟨w1, w2, w3, ⟨w4.1, hAw⟩, va_S.rf, w5⟩
  refine lv_aload_n hx hb vl_0 rfl (lv_at hl 2 rfl) ?_
  refine lv_iconst (v := 0) hx hb vl_1 (by decide) ?_
  refine lv_aload_n hx hb vl_2 rfl (lv_at hl 0 rfl) ?_
  refine lv_iload_n hx hb vl_3 rfl (lv_at hl 1 rfl) ?_
  refine vy_call (cc := cL_value) (nL := 4) (pc := 4) (R := vy_rv) (fr := vy_o co qo fo) (M := m_X11_value) (x := 7) (na := 1) (rc := 10) (as := [.int y]) (rest := [.int 0, .ref qo]) (fs := fs) (h := h) (A := A) (am_ia l) hx hb hml hl.1 hown hts (by decide) (by decide) hen hA vl_4 rfl rfl (List.forall_mem_cons.mpr ⟨Or.inl ⟨_, rfl⟩, fun v hv => nomatch hv⟩) (Nat.le_of_ble_eq_true rfl) he hrun (fun w hw => by cases hw; exact Or.inl ⟨_, rfl⟩) (Nat.le_of_ble_eq_true rfl) (by decide) (by decide) hW p1 dis (fun ad' ca' H1 locs1 g1 g2 g3 g4 => ?_)
  have hS := g2.2.2.2.2.1
  refine lv_i2l (v := v.toInt64) hx hb vl_7 rfl ?_
  have hoD : va_D A (am_ws ad' sa ca' hf ++ vy_o co qo fo) := va_D.app g2.2.2.2.1 (vy_oD hAo) g4
  refine va_last (D := D) (cl := vwCl) (tys := [(co, .long)]) (ws := am_ws ad' sa ca' hf ++ vy_o co qo fo) (A := A) (H0 := s.heap) (i := 0) (x := v.toInt64) hx hb k1 (va_P.app g2.2.2.1 g3) hoD hS (am_ws ad' sa ca' hf).length 0 (cA := co) (n := 1) (f := fo) (by rw [List.getElem?_append_right (Nat.le_refl _), Nat.sub_self]; rfl) rfl (by unfold vp_in; decide) vl_8 (fun H2 locs2 q1 q2 q3 => ?_)
  have es : (am_ws ad' sa ca' hf ++ vy_o co qo fo).set (am_ws ad' sa ca' hf).length (qo, .inl (co, 1, .inr (.inl (vp_updL fo (0 : Int32).toNatClampNeg v.toInt64)))) = am_ws ad' sa ca' hf ++ vy_o co qo (vp_updL fo 0 v.toInt64) := by
    rw [List.set_append_right _ _ (Nat.le_refl _), Nat.sub_self]
    rfl
  rw [es] at q1 q2
  refine lv_goto (tgt := 15) hx hb vl_9 rfl ?_
  refine lv_iconst (v := 0) hx hb vl_15 (by decide) ?_
  refine W.widen (k := 1) (n := 6) (by decide) (by decide) ?_
  refine W.iret (v := 0) hx hb hret (fun t ht hw => ?_) q3.2.2 vl_16 hlocks
  exact vy_end (H := H2) (locs := locs2) (fun q hq => by cases Nat.lt_one_iff.mp hq; exact g1) ⟨g2.1, g2.2.1, lw_P_l q1, g2.2.2.2.1, q3, g2.2.2.2.2.2⟩ (lw_P_r q1) (vy_dis g4) ht hw
set_option maxRecDepth 100000 in
set_option maxHeartbeats 8000000 in
/-- no such kind: caught -/
theorem vy_valB {l : Launch} (hlt : l.stackTraces = false) {D : va_G} {ad sa av : Nat → Nat} {ca : Nat → ClassId} {h : AmH} {co : ClassId} {qo : Nat} {fo : Nat → Int64} {y : Int32} {sz ps : Nat} {fs fs2 : List Value} (h0 : 0 < h.length) (hps : ps < h.length) (he : h[0]? = some (.inr (10, fs)))
    (hgf : am_heap 11 (am_ini m_X11_value) (.getfield 19) [.ref 0] h = some (3, [.ref ps], h)) (hes : h[ps]? = some (.inr (7, fs2))) (hrun : Rn 100 m_X7_hasKind 0 (am_ent [.ref ps, .int y] 2) [] h (some (.int 0), h, 0, 0)) :
    Met l yL_value vy_ws vy_rv (vy_Pv D ad sa av ca h co qo fo y sz) (vy_Qv D ad sa 1 h co qo fo 1 (va_A (am_ws ad sa ca h ++ vy_o co qo fo) sz)) 1 6 (va_A (am_ws ad sa ca h ++ vy_o co qo fo) sz) := by
  refine vy_ofWH (cc := cL_value) (maxL := 4) (ret := some .int) (hh := [(0, 9, 12, 13)]) (by decide) rfl ?_
  intro p e s m args below meth c s₁ B hml hv
  obtain ⟨rfl, hsz, ⟨w1, w2, w3, w4, w5⟩, hen, hE, k1, p1, dis⟩ := hv
  have hts0 := atoms_spec (ws := vy_ws) B.pre
  have hts : ∀ w ∈ am_gt, w.before _ s = true := fun w hw => hts0 w (List.mem_cons_of_mem _ hw)
  have hown : s.vm.findClass (am_on 16) = some m.cls := findClass_of_methodNamed B.named
  have hx := B.exec
  have hb := B.bytes
  have hlocks := B.notSynchronized
  have hret := B.returns
  subst hsz
  have hl := lv_entry ([.ref (ad 0), .int y, .ref qo]) (n := 4) (Nat.le_of_ble_eq_true rfl)
  rw [lg_entry_eq]
  generalize (lg_sl ([.ref (ad 0), .int y, .ref qo]) ++ List.replicate (4 - (lg_sl ([.ref (ad 0), .int y, .ref qo])).length) Slot.unset).toArray = ls at hl ⊢
  have hl : lv_has ls 4 [(0, .ref (ad 0)), (1, .int y), (2, .ref qo)] := hl
  generalize hAA : va_A (am_ws ad sa ca h ++ vy_o co qo fo) s.heap.size = A at hen hE ⊢
  have hA : ∀ q, s.heap.size ≤ q → A q := fun q hq => by rw [← hAA]; exact Or.inr hq
  have hAw : ∀ (k : Nat) (q : Nat × va_E), (am_ws ad sa ca h)[k]? = some q → A q.1 := fun k q hq => by
    rw [← hAA]
    exact Or.inl ⟨k, q.2, by rw [List.getElem?_append_left (List.getElem?_eq_some_iff.mp hq).1]; exact hq⟩
  have hAo : A qo := by
    rw [← hAA]
    exact Or.inl ⟨(am_ws ad sa ca h).length, _, by rw [List.getElem?_append_right (Nat.le_refl _), Nat.sub_self]; rfl⟩
  have hW : am_wd D ad sa ca h s A s.heap s.heap [] := ⟨w1, w2, w3, ⟨w4.1, hAw⟩, va_S.rf, w5⟩
  refine lv_aload_n hx hb vl_0 rfl (lv_at hl 2 rfl) ?_
  refine lv_iconst (v := 0) hx hb vl_1 (by decide) ?_
  refine lv_aload_n hx hb vl_2 rfl (lv_at hl 0 rfl) ?_
  refine lv_iload_n hx hb vl_3 rfl (lv_at hl 1 rfl) ?_
  have hA1 := am_A1 hW hA
  have hf2 : am_look (am_ml 16) 7 = some (3, m_X11_value, 1, 10) := rfl
  obtain ⟨hM', hpd, hkd⟩ := am_ml_ok hf2
  have htb : c.exceptionTable.toList = [] ++ (⟨0, 9, 12, 13⟩ : ExceptionTableEntry) :: []   := vx_table (x := yL_value) B (hts0 _ List.mem_cons_self)
  rcases hkd with ⟨q, -⟩ | ⟨q, -⟩ | ⟨-, g1, g2, g3, q0, g4, g5⟩ | ⟨q, -⟩
  · cases q
  · cases q
  · have hrcv := va_recv hW.1 hW.2.2.1 g4 (am_ws_at he)
    rw [g5] at hrcv
    have hpre : ∀ U : State, U.heap = s.heap → s.WarmedH U.vm → vy_Pt D ad sa av ca h y s.heap.size (Value.ref (ad 0) :: [.int y]).toArray U := fun U hU hw => ⟨am_preU hW hA hen [.ref 0, .int y] hU hw, hE.move va_S.rf (am_A1 hW hA) hU hw⟩
    have hr := vx_runV (p := p) (l := l) (e := e) (R := vy_rv) (s := s) (m := m) (below := below) (meth := meth) (c := c) (H := s.heap) (locs := []) (cells := 0) (slots := 0) (g := F0 m 4 ls ([.int y] ++ .ref (ad 0) :: [.int 0, .ref qo])) (C := m_X11_value.1.cls) (b := ad 0) (As := [.int y]) (rest := [.int 0, .ref qo]) ⟨hx, hb, hml, hown, hts⟩ (vy_thr (l := l) hlt (D := D) (ad := ad) (sa := sa) (av := av) (ca := ca) (sz := s.heap.size) h0 hps hgf hes hrun) (cwV 1 hts (am_ml_GIv g1 g2 g3 hM') rfl rfl rfl ⟨rfl, hM'.2.2.2.1.1, hM'.2.2.2.1.2, hpd⟩ ⟨by decide, by decide⟩) ⟨vy_Pt_blind, hrcv, hpre⟩ rfl rfl hl.1 rfl (lv_room (Nat.le_of_ble_eq_true rfl)) vl_4 ⟨by decide, by decide⟩
    intro T hT X
    rcases hr T hT X with ⟨v, st₀, t, T', L, i0, X', hL, e1, e2, hq, st⟩ | ⟨q, st₀, t, T', L, E, ce, i0, X', hL, e1, e2, ⟨hEn, ⟨ad', ca', hag, ⟨u1, u2, u3, u4, u5⟩⟩, hz, hk⟩, hce, hcv, hcl, st⟩
    · exact hq.elim
    · subst hEn
      rw [i0] at hz hk
      have hal : t.vm.Alike s.vm := by
        have : s.vm.Alike t.vm := by rw [← e2]; exact X'.warmed.alike
        exact this.symm
      have hS' : va_S A s.heap T'.heap ([] ++ L) := ⟨by rw [e1]; exact hz, fun q h1 h2 => by rw [e1]; exact hk q h1 (fun z => h2 (hA1 q z)), fun q hq => hA1 _ (hL q hq)⟩
      have hnot : ∀ (i : Nat) (q : Nat × va_E), (vy_o co qo fo)[i]? = some q → q.1 < s.heap.size ∧ ¬ va_A (am_ws ad sa ca h) s.heap.size q.1 := fun i q hq => by
        have hlt := (p1 i q hq).lt
        refine ⟨hlt, fun z => ?_⟩
        rcases z with ⟨k9, e9, h9⟩ | z
        · exact dis k9 i _ q h9 hq rfl
        · omega
      have hP3 : va_P D vwCl (vy_o co qo fo) T'.heap := p1.kept (fun i q hq => by rw [e1]; exact hk q.1 (hnot i q hq).1 (hnot i q hq).2)
      have hdis' : lw_dis (am_ws ad' sa ca' h) (vy_o co qo fo) := fun i j9 p9 q9 hp hq hpq => (hnot j9 q9 hq).2 (by rw [← hpq]; exact u4.2 i p9 hp)
      have hW' : am_wd D ad' sa ca' h s A s.heap T'.heap ([] ++ L) := ⟨va_K.moved hal u1, fun k ty a q => va_K.moved hal (u2 k ty a q), by rw [e1]; exact u3, u4.weaken (fun _ _ _ q => hA1 _ q), hS', u5⟩
      have key : vx_W p l e vy_rv s m ([.ref (ad 0), .int y, .ref qo] : List Value).toArray below meth c T'.heap ([] ++ L) (0 + 1) (0 + 6) (MQ below (vy_Qv D ad sa 1 h co qo fo 1 A) ([.ref (ad 0), .int y, .ref qo] : List Value).toArray s 1 6 A) (F0 m 4 ls [.int 0, .ref qo]) q := by
        refine vx_catch (own := am_on 16) (name := vyN) (E := vyN) (ce := ce) hown [] ⟨0, 9, 12, 13⟩ [] htb (fun z hz => nomatch hz) (by decide) (by decide) (hts _ (vy_w6 (List.mem_cons_of_mem _ (List.mem_cons_of_mem _ (List.mem_cons_of_mem _ (List.mem_cons_of_mem _ List.mem_cons_self)))))) (hE.2.2.word) (by rw [e1]; exact hce) hcv hcl ?_
        refine lv_astore_n (lv' := [(3, .ref q), (0, .ref (ad 0)), (1, .int y), (2, .ref qo)]) hx hb vl_12 rfl hl (by decide) rfl (fun ls hl => ?_)
        refine lv_iconst (v := 1) hx hb vl_13 (by decide) ?_
        refine W.iret (v := 1) hx hb hret (fun t ht hw => ?_) hS'.2.2 vl_14 hlocks
        exact vy_end (H := T'.heap) (fun q hq => hag q (Nat.lt_of_lt_of_le hq h0)) hW' hP3 hdis' ht hw
      obtain ⟨t2, a1, b1⟩ := key T' rfl X'
      exact ⟨t2, st.trans a1, b1⟩
  · cases q
section VyLaw
variable {p : Program} {l : Launch} {e : Env} {s : State} {m : MethodId} {below : List Frame} {meth : Method} {c : Code} {H : Heap} {locs : List Loc} {cells slots : Nat} {Q : State → Prop} {b Ln : Nat} {xs : Nat → Int32} {sa av : Nat → Nat} {D : va_G} {hx hm : AmH} {qx qm qo pc : Nat} {ls : Array Slot}
/-- .. and what lies in the row -/
def LwV (D : va_G) (sa : Nat → Nat) (s : State) (H : Heap) (locs : List Loc) (hx hm : AmH) (qx qm qo : Nat) (g : Int64 → Prop) : Prop := ∃ (adx : Nat → Nat) (cax : Nat → ClassId) (adm : Nat → Nat) (cam : Nat → ClassId) (co : ClassId) (fo : Nat → Int64), (adx 0 = qx ∧ adm 0 = qm ∧ am_wd D adx sa cax hx s (lw_A s) s.heap H locs ∧ am_wd D adm sa cam hm s (lw_A s) s.heap H locs ∧ va_K D vwCl [(co, .long)] s ∧ va_P D vwCl [(qo, .inl (co, 1, .inr (.inl fo)))] H ∧ s.heap.size ≤ qo ∧ lw_dis (am_ws adx sa cax hx) (am_ws adm sa cam hm) ∧ lw_dis (am_ws adx sa cax hx) [(qo, .inl (co, 1, .inr (.inl fo)))] ∧ lw_dis (am_ws adm sa cam hm) [(qo, .inl (co, 1, .inr (.inl fo)))]) ∧ g (fo 0)
theorem LwV.S {g : Int64 → Prop} (h : LwV D sa s H locs hx hm qx qm qo g) : LwS D sa s H locs hx hm qx qm qo := by
  obtain ⟨a1, a2, a3, a4, a5, a6, h, -⟩ := h
  exact ⟨a1, a2, a3, a4, a5, a6, h⟩
set_option maxRecDepth 100000 in
set_option maxHeartbeats 8000000 in
theorem lw_callV {g : Int64 → Prop} {M : AmM} {x na : Nat} {as rest : List Value} {fs : List Value} {hf : AmH} {v : Value} {k j : Nat} (C : LwC p s m c b Ln xs sa av) (hlr : ls.size = 7) (hdg : decode code pc = .ok (.invokevirtual x, 3)) (hf2 : am_look (am_ml 16) x = some (3, M, na, 11)) (hna : as.length = na) (hpl : ∀ v ∈ as, am_pl v) (hsl : (am_sl1 (.ref 0 :: as)).length ≤ M.2.2.2.1) (he : hm[0]? = some (.inr (11, fs))) (hrun : Rn 100 M 0 (am_ent (.ref 0 :: as) M.2.2.2.1) [] hm (some v, hf, k, j)) (hv : am_pl v) (hlow : (rest.map fun v => v.category).sum ≤ 8) (hce : cells + k ≤ 600128) (hss : slots + j ≤ 7301098)
    (S : LwV D sa s H locs hx hm qx qm qo g) (kk : ∀ (H1 : Heap) (locs1 : List Loc), LwV D sa s H1 locs1 hx hf qx qm qo g → W p l e room_1 s m #[Value.ref b] below meth c H1 locs1 (cells + k) (slots + j) Q (F0 m (pc + 3) ls (v :: rest))) : W p l e room_1 s m #[Value.ref b] below meth c H locs cells slots Q (F0 m pc ls (as.reverse ++ .ref qm :: rest)) := by
  obtain ⟨hexe, hb, hml, hown, hts, hen, -⟩ := C
  obtain ⟨adx, cax, adm, cam, co, fo, ⟨e1, rfl, w1, w2, w3, w4, w5, w6, w7, w8⟩, hg⟩ := S
  refine lw_call (fr := am_ws adx sa cax hx ++ [(qo, .inl (co, 1, .inr (.inl fo)))]) (am_ia l) hexe hb hml hlr hown hts lw_room1.1 lw_room1.2.1 hen (fun _ h => h) hdg hf2 hna hpl hsl he hrun (fun w hw => by cases hw; exact hv) hlow (by rw [lw_room1.2.2.1]; exact hce) (by rw [lw_room1.2.2.2]; exact hss) w2 (va_P.app w1.2.2.1 w4) (lw_dis_app w6.symm w8) (fun ad' ca' H1 locs1 g1 g2 g3 g4 => ?_)
  refine kk H1 locs1 ⟨adx, cax, ad', ca', co, fo, ⟨e1, g1, ⟨w1.1, w1.2.1, lw_P_l g3, w1.2.2.2.1, g2.2.2.2.2.1, w1.2.2.2.2.2⟩, g2, w3, lw_P_r g3, w5, (lw_dis_l g4).symm, w7, lw_dis_r g4⟩, hg⟩
theorem vy_368 : decode cL_law 368 = .ok (.invokestatic 37, 3) := by decide +kernel
theorem vy_GI : GoodIn am_gt (va_wsS (am_on 16) 37 yL_value vy_ws) := am_GI (fun w hw => by
  unfold va_wsS at hw
  rcases List.mem_append.mp hw with h | h
  · refine vy_w6 ?_
    rcases List.mem_cons.mp h with rfl | h
    · exact List.mem_cons_self
    · rcases List.mem_cons.mp h with rfl | h
      · exact List.mem_cons_of_mem _ List.mem_cons_self
      · rcases List.mem_cons.mp h with rfl | h
        · exact List.mem_cons_of_mem _ (List.mem_cons_of_mem _ List.mem_cons_self)
        · cases h
  · rcases List.mem_cons.mp h with rfl | h
    · exact vy_w6 (List.mem_cons_of_mem _ (List.mem_cons_of_mem _ (List.mem_cons_of_mem _ List.mem_cons_self)))
    · exact h)
set_option maxRecDepth 100000 in
set_option maxHeartbeats 8000000 in
/-- the law's call of its own value -/
theorem vy_callS {g : Int64 → Prop} {y r : Int32} {hf : AmH} {up : (Nat → Int64) → Nat → Int64} (C : LwC p s m c b Ln xs sa av) (hE : vy_E (lw_A s) s) (hlr : ls.size = 7) (h0 : 0 < hx.length)
    (hM : ∀ (ad : Nat → Nat) (ca : Nat → ClassId) (co : ClassId) (fo : Nat → Int64), Met l yL_value vy_ws vy_rv (vy_Pv D ad sa av ca hx co qo fo y H.size) (vy_Qv D ad sa 1 hf co qo (up fo) r (va_A (am_ws ad sa ca hx ++ vy_o co qo fo) H.size)) 1 6 (va_A (am_ws ad sa ca hx ++ vy_o co qo fo) H.size)) (hg : ∀ fo, g (up fo 0)) (hce : cells + 1 ≤ 600128) (hss : slots + 6 ≤ 7301098)
    (S : LwS D sa s H locs hx hm qx qm qo) (kk : ∀ (H1 : Heap) (locs1 : List Loc), LwV D sa s H1 locs1 hf hm qx qm qo g → W p l e room_1 s m #[Value.ref b] below meth c H1 locs1 (cells + 1) (slots + 6) Q (F0 m 371 ls [.int r])) : W p l e room_1 s m #[Value.ref b] below meth c H locs cells slots Q (F0 m 368 ls [.ref qo, .int y, .ref qx]) := by
  obtain ⟨hexe, hb, hml, hown, hts, hen, -⟩ := C
  obtain ⟨adx, cax, adm, cam, co, fo, rfl, e2, w1, w2, w3, w4, w5, w6, w7, w8⟩ := S
  have hS := w1.2.2.2.2.1
  have hAB : ∀ q, va_A (am_ws adx sa cax hx ++ vy_o co qo fo) H.size q → lw_A s q := by
    intro q hq
    rcases hq with ⟨k, e9, h9⟩ | hq
    · rcases Nat.lt_or_ge k (am_ws adx sa cax hx).length with z | z
      · rw [List.getElem?_append_left z] at h9
        exact w1.2.2.2.1.2 k _ h9
      · rw [List.getElem?_append_right z] at h9
        have := (vy_oD (co := co) (fo := fo) (A := lw_A s) w5).2 _ _ h9
        exact this
    · exact Nat.le_trans hS.1 hq
  have hpre : ∀ U : State, U.heap = H → s.WarmedH U.vm → vy_Pv D adx sa av cax hx co qo fo y H.size ([.ref (adx 0), .int y, .ref qo] : List Value).toArray U := fun U hU hw => by
    subst hU
    exact ⟨rfl, rfl, ⟨va_K.moved hw.alike w1.1, fun k ty a q => va_K.moved hw.alike (w1.2.1 k ty a q), w1.2.2.1, w1.2.2.2.1.weaken (fun _ _ _ _ => trivial), w1.2.2.2.2.2⟩, hen.move hS hAB rfl hw, hE.move hS hAB rfl hw, va_K.moved hw.alike w3, w4, w7⟩
  have hr := vx_runSW (p := p) (l := l) (e := e) (R := room_1) (s := s) (m := m) (args := #[Value.ref b]) (below := below) (meth := meth) (c := c) (H := H) (locs := locs) (cells := cells) (slots := slots) (cc := cL_law) (nL := 7) (own := am_on 16) (index := 37) (Ts := am_gt) (g := F0 m 368 ls [.ref qo, .int y, .ref (adx 0)]) (As := [.ref (adx 0), .int y, .ref qo]) (rest := []) ⟨hexe, hb, hml, hown, hts⟩ (hM adx cax co fo) (vx_cwSW (bytes := cL_value) (maxL := 4) (ret := some .int) (hh := [(0, 9, 12, 13)]) 3 hts vy_GI rfl rfl rfl ⟨by decide, by decide, by decide +kernel⟩ ⟨by decide +kernel, by decide +kernel⟩) ⟨vy_Pv_blind, hpre⟩ rfl rfl hlr rfl (lv_room (Nat.le_of_ble_eq_true rfl)) vy_368 ⟨by rw [lw_room1.2.2.1]; exact hce, by rw [lw_room1.2.2.2]; exact hss⟩
  intro T hT X
  obtain ⟨v, st₀, t, T', L, g0, X', hL, e1, e3, ⟨⟨ad', ca', hv, hag, ⟨u1, u2, u3, u4, u5⟩, p1, dis1⟩, hz, hk⟩, st⟩ := hr T hT X
  cases hv
  rw [g0] at hz hk
  have hal : t.vm.Alike s.vm := by
    have : s.vm.Alike t.vm := by rw [← e3]; exact X'.warmed.alike
    exact this.symm
  have hS' : va_S (lw_A s) s.heap T'.heap (locs ++ L) := ⟨Nat.le_trans hS.1 (by rw [e1]; exact hz), fun q h1 h2 => by rw [e1, hk q (Nat.lt_of_lt_of_le h1 hS.1) (fun z => h2 (hAB q z))]; exact hS.2.1 q h1 h2, fun q hq => by
      rcases List.mem_append.mp hq with h | h
      · exact hS.2.2 q h
      · exact hAB _ (hL q h)⟩
  have hnot : ∀ (i : Nat) (q : Nat × va_E), (am_ws adm sa cam hm)[i]? = some q → q.1 < H.size ∧ ¬ va_A (am_ws adx sa cax hx ++ vy_o co qo fo) H.size q.1 := fun i q hq => by
    have hlt := (w2.2.2.1 i q hq).lt
    refine ⟨hlt, fun z => ?_⟩
    rcases z with ⟨k9, e9, h9⟩ | z
    · rcases Nat.lt_or_ge k9 (am_ws adx sa cax hx).length with z | z
      · rw [List.getElem?_append_left z] at h9
        exact w6 k9 i _ q h9 hq rfl
      · rw [List.getElem?_append_right z] at h9
        exact w8 i _ q _ hq h9 rfl
    · omega
  have hPm : va_P D vwCl (am_ws adm sa cam hm) T'.heap := w2.2.2.1.kept (fun i q hq => by rw [e1]; exact hk q.1 (hnot i q hq).1 (hnot i q hq).2)
  have hdm : lw_dis (am_ws ad' sa ca' hf) (am_ws adm sa cam hm) := fun i j9 p9 q9 hp hq hpq => (hnot j9 q9 hq).2 (by rw [← hpq]; exact u4.2 i p9 hp)
  have hwx : am_wd D ad' sa ca' hf s (lw_A s) s.heap T'.heap (locs ++ L) := ⟨va_K.moved hal u1, fun k ty a q => va_K.moved hal (u2 k ty a q), by rw [e1]; exact u3, u4.weaken (fun _ _ _ q => hAB _ q), hS', u5⟩
  have hPo : va_P D vwCl (vy_o co qo (up fo)) T'.heap := by rw [e1]; exact p1
  obtain ⟨t2, a1, b1⟩ := kk T'.heap (locs ++ L) ⟨ad', ca', adm, cam, co, up fo, ⟨hag 0 (Nat.zero_lt_one), e2, hwx, ⟨w2.1, w2.2.1, hPm, w2.2.2.2.1, hS', w2.2.2.2.2.2⟩, w3, hPo, w5, hdm, dis1, vy_dis w8⟩, hg fo⟩ T' rfl X'
  exact ⟨t2, st t2 a1, b1⟩
theorem vy_366 : decode cL_law 366 = .ok (.iaload, 1) := by decide +kernel
theorem vy_379 : decode cL_law 379 = .ok (.iaload, 1) := by decide +kernel
theorem vy_380 : decode cL_law 380 = .ok (.invokevirtual 42, 3) := by decide +kernel
theorem vy_386 : decode cL_law 386 = .ok (.invokevirtual 43, 3) := by decide +kernel
theorem vy_403 : decode cL_law 403 = .ok (.laload, 1) := by decide +kernel
theorem vy_cmp (x : Int64) : lg_cmp x x = 0 := by
  unfold lg_cmp
  rw [if_neg (fun h => Int64.lt_irrefl h), if_pos rfl]
set_option maxRecDepth 100000 in
set_option maxHeartbeats 8000000 in
theorem vy_c4A {Inv' : AmH → AmH → Prop} {hm' : AmH} {i : Nat} {u w : Option Value} {v : Int32} {fs fs' : List Value} (C : LwC p s m c b Ln xs sa av) (hE : vy_E (lw_A s) s) (S : LwS D sa s H locs hx hm qx qm qo) (h0 : 0 < hx.length) (em : hm[0]? = some (.inr (11, fs))) (em' : hm'[0]? = some (.inr (11, fs'))) (hM : ∀ (H : Heap) (ad : Nat → Nat) (ca : Nat → ClassId) (co : ClassId) (fo : Nat → Int64), Met l yL_value vy_ws vy_rv (vy_Pv D ad sa av ca hx co qo fo (xs (i + 1)) H.size) (vy_Qv D ad sa 1 hx co qo (vp_updL fo 0 v.toInt64) 0 (va_A (am_ws ad sa ca hx ++ vy_o co qo fo) H.size)) 1 6 (va_A (am_ws ad sa ca hx ++ vy_o co qo fo) H.size))
    (r1 : Rn 100 m_X12_value 0 (am_ent (.ref 0 :: [.int (xs (i + 1))]) m_X12_value.2.2.2.1) [] hm (some (.int v), hm', 0, 0)) (r2 : Rn 100 m_X12_thrown 0 (am_ent (.ref 0 :: []) m_X12_thrown.2.2.2.1) [] hm' (some (.int 0), hm', 0, 0)) (hI' : Inv' hx hm') (hi : i + 6 ≤ Ln) (hcc : cells ≤ 10000) (hss : slots ≤ 1000000) (hl : am_lr (fun _ => 0) (lw_sa b qx qm qo) ls 7 (lw_L i u w)) (K : LwK Inv' p l e s m below meth c D sa b qx qm qo i cells slots Q) : W p l e room_1 s m #[Value.ref b] below meth c H locs cells slots Q (F0 m 360 ls []) := by
  refine lw_W C.1 C.2.1 C.2.2.2.1 (lw_Ks C.2.2.2.2.1 _) (ad := fun _ => 0) (sa := lw_sa b qx qm qo) 1 (pc := 360) (pc' := 361) (L := lw_L i u w) (L' := lw_L i u w) (st := []) (st' := [.retAddr 10]) rfl hl (fun ls hl => ?_)
  refine lw_ld C S (pc := 361) (k := 1) (kc := 1) (st := [.retAddr 10]) (nI_add i 1) (by omega) rfl vy_366 hl (fun ls hl => ?_)
  refine lw_W C.1 C.2.1 C.2.2.2.1 (lw_Ks C.2.2.2.2.1 _) (ad := fun _ => 0) (sa := lw_sa b qx qm qo) 1 (pc := 367) (pc' := 368) (L := lw_L i u w) (L' := lw_L i u w) (st := [.int (xs (i + 1)), .retAddr 10]) (st' := [.retAddr 12, .int (xs (i + 1)), .retAddr 10]) rfl hl (fun ls hl => ?_)
  refine vy_callS (g := fun x => x = v.toInt64) (up := fun fo => vp_updL fo 0 v.toInt64) C hE hl.1.1 h0 (fun ad ca co fo => hM H ad ca co fo) (fun fo => if_pos rfl) (by omega) (by omega) S (fun H1 locs1 S => ?_)
  refine lw_W C.1 C.2.1 C.2.2.2.1 (lw_Ks C.2.2.2.2.1 _) (ad := fun _ => 0) (sa := lw_sa b qx qm qo) 2 (pc := 371) (pc' := 374) (L := lw_L i u w) (L' := lw_L i (some (.int 0)) w) (st := [.int 0]) (st' := [.retAddr 11]) rfl hl (fun ls hl => ?_)
  refine lw_ld C S.S (pc := 374) (k := 1) (kc := 1) (st := [.retAddr 11]) (nI_add i 1) (by omega) rfl vy_379 hl (fun ls hl => ?_)
  refine lw_callV (pc := 380) (as := [.int (xs (i + 1))]) (rest := []) C hl.1.1 vy_380 rfl rfl (List.forall_mem_cons.mpr ⟨Or.inl ⟨_, rfl⟩, fun v hv => nomatch hv⟩) (Nat.le_of_ble_eq_true rfl) em r1 (Or.inl ⟨_, rfl⟩) (Nat.le_of_ble_eq_true rfl) (by omega) (by omega) S (fun H1 locs1 S => ?_)
  refine lw_W C.1 C.2.1 C.2.2.2.1 (lw_Ks C.2.2.2.2.1 _) (ad := fun _ => 0) (sa := lw_sa b qx qm qo) 2 (pc := 383) (pc' := 386) (L := lw_L i (some (.int 0)) w) (L' := lw_L i (some (.int 0)) (some (.int v))) (st := [.int v]) (st' := [.retAddr 11]) rfl hl (fun ls hl => ?_)
  refine lw_callV (pc := 386) (as := []) (rest := []) C hl.1.1 vy_386 rfl rfl (fun v hv => nomatch hv) (Nat.le_of_ble_eq_true rfl) em' r2 (Or.inl ⟨_, rfl⟩) (Nat.le_of_ble_eq_true rfl) (by omega) (by omega) S (fun H1 locs1 S => ?_)
  refine lw_W C.1 C.2.1 C.2.2.2.1 (lw_Ks C.2.2.2.2.1 _) (ad := fun _ => 0) (sa := lw_sa b qx qm qo) 2 (pc := 389) (pc' := 396) (L := lw_L i (some (.int 0)) (some (.int v))) (L' := lw_L i (some (.int 0)) (some (.int v))) (st := [.int 0]) (st' := []) rfl hl (fun ls hl => ?_)
  refine lw_W C.1 C.2.1 C.2.2.2.1 (lw_Ks C.2.2.2.2.1 _) (ad := fun _ => 0) (sa := lw_sa b qx qm qo) 2 (pc := 396) (pc' := 401) (L := lw_L i (some (.int 0)) (some (.int v))) (L' := lw_L i (some (.int 0)) (some (.int v))) (st := []) (st' := []) rfl hl (fun ls hl => ?_)
  refine lw_W C.1 C.2.1 C.2.2.2.1 (lw_Ks C.2.2.2.2.1 _) (ad := fun _ => 0) (sa := lw_sa b qx qm qo) 2 (pc := 401) (pc' := 403) (L := lw_L i (some (.int 0)) (some (.int v))) (L' := lw_L i (some (.int 0)) (some (.int v))) (st := []) (st' := [.int 0, .retAddr 12]) rfl hl (fun ls hl => ?_)
  obtain ⟨adx, cax, adm, cam, co, fo, ⟨e1, e2, w1, w2, w3, w4, wr⟩, hg⟩ := id S
  refine va_lald (D := D) (cl := vwCl) (tys := [(co, .long)]) (ws := vy_o co qo fo) (i := 0) (rest := []) C.1 C.2.1 w3 w4 0 0 (cA := co) (n := 1) (f := fo) rfl rfl (by unfold vp_in; decide) vy_403 ?_
  rw [show fo (0 : Int32).toNatClampNeg = v.toInt64 from hg]
  refine lw_W C.1 C.2.1 C.2.2.2.1 (lw_Ks C.2.2.2.2.1 _) (ad := fun _ => 0) (sa := lw_sa b qx qm qo) 3 (pc := 404) (pc' := 408) (L := lw_L i (some (.int 0)) (some (.int v))) (L' := lw_L i (some (.int 0)) (some (.int v))) (st := [.long v.toInt64]) (st' := [.int (lg_cmp v.toInt64 v.toInt64)]) rfl hl (fun ls hl => ?_)
  rw [vy_cmp]
  refine lw_W C.1 C.2.1 C.2.2.2.1 (lw_Ks C.2.2.2.2.1 _) (ad := fun _ => 0) (sa := lw_sa b qx qm qo) 2 (pc := 408) (pc' := 1514) (L := lw_L i (some (.int 0)) (some (.int v))) (L' := lw_L i (some (.int 0)) (some (.int v))) (st := [.int 0]) (st' := []) rfl hl (fun ls hl => ?_)
  exact K hx hm' _ _ ls _ _ _ _ hI' S.S hl (by omega) (by omega)
set_option maxRecDepth 100000 in
set_option maxHeartbeats 8000000 in
theorem vy_c4B {Inv' : AmH → AmH → Prop} {hm' : AmH} {i : Nat} {u w : Option Value} {v : Int32} {fs fs' : List Value} (C : LwC p s m c b Ln xs sa av) (hE : vy_E (lw_A s) s) (S : LwS D sa s H locs hx hm qx qm qo) (h0 : 0 < hx.length) (em : hm[0]? = some (.inr (11, fs))) (em' : hm'[0]? = some (.inr (11, fs'))) (hM : ∀ (H : Heap) (ad : Nat → Nat) (ca : Nat → ClassId) (co : ClassId) (fo : Nat → Int64), Met l yL_value vy_ws vy_rv (vy_Pv D ad sa av ca hx co qo fo (xs (i + 1)) H.size) (vy_Qv D ad sa 1 hx co qo fo 1 (va_A (am_ws ad sa ca hx ++ vy_o co qo fo) H.size)) 1 6 (va_A (am_ws ad sa ca hx ++ vy_o co qo fo) H.size))
    (r1 : Rn 100 m_X12_value 0 (am_ent (.ref 0 :: [.int (xs (i + 1))]) m_X12_value.2.2.2.1) [] hm (some (.int v), hm', 0, 0)) (r2 : Rn 100 m_X12_thrown 0 (am_ent (.ref 0 :: []) m_X12_thrown.2.2.2.1) [] hm' (some (.int 1), hm', 0, 0)) (hI' : Inv' hx hm') (hi : i + 6 ≤ Ln) (hcc : cells ≤ 10000) (hss : slots ≤ 1000000) (hl : am_lr (fun _ => 0) (lw_sa b qx qm qo) ls 7 (lw_L i u w)) (K : LwK Inv' p l e s m below meth c D sa b qx qm qo i cells slots Q) : W p l e room_1 s m #[Value.ref b] below meth c H locs cells slots Q (F0 m 360 ls []) := by
  refine lw_W C.1 C.2.1 C.2.2.2.1 (lw_Ks C.2.2.2.2.1 _) (ad := fun _ => 0) (sa := lw_sa b qx qm qo) 1 (pc := 360) (pc' := 361) (L := lw_L i u w) (L' := lw_L i u w) (st := []) (st' := [.retAddr 10]) rfl hl (fun ls hl => ?_)
  refine lw_ld C S (pc := 361) (k := 1) (kc := 1) (st := [.retAddr 10]) (nI_add i 1) (by omega) rfl vy_366 hl (fun ls hl => ?_)
  refine lw_W C.1 C.2.1 C.2.2.2.1 (lw_Ks C.2.2.2.2.1 _) (ad := fun _ => 0) (sa := lw_sa b qx qm qo) 1 (pc := 367) (pc' := 368) (L := lw_L i u w) (L' := lw_L i u w) (st := [.int (xs (i + 1)), .retAddr 10]) (st' := [.retAddr 12, .int (xs (i + 1)), .retAddr 10]) rfl hl (fun ls hl => ?_)
  refine vy_callS (g := fun x => True) (up := fun fo => fo) C hE hl.1.1 h0 (fun ad ca co fo => hM H ad ca co fo) (fun fo => trivial) (by omega) (by omega) S (fun H1 locs1 S => ?_)
  refine lw_W C.1 C.2.1 C.2.2.2.1 (lw_Ks C.2.2.2.2.1 _) (ad := fun _ => 0) (sa := lw_sa b qx qm qo) 2 (pc := 371) (pc' := 374) (L := lw_L i u w) (L' := lw_L i (some (.int 1)) w) (st := [.int 1]) (st' := [.retAddr 11]) rfl hl (fun ls hl => ?_)
  refine lw_ld C S.S (pc := 374) (k := 1) (kc := 1) (st := [.retAddr 11]) (nI_add i 1) (by omega) rfl vy_379 hl (fun ls hl => ?_)
  refine lw_callV (pc := 380) (as := [.int (xs (i + 1))]) (rest := []) C hl.1.1 vy_380 rfl rfl (List.forall_mem_cons.mpr ⟨Or.inl ⟨_, rfl⟩, fun v hv => nomatch hv⟩) (Nat.le_of_ble_eq_true rfl) em r1 (Or.inl ⟨_, rfl⟩) (Nat.le_of_ble_eq_true rfl) (by omega) (by omega) S (fun H1 locs1 S => ?_)
  refine lw_W C.1 C.2.1 C.2.2.2.1 (lw_Ks C.2.2.2.2.1 _) (ad := fun _ => 0) (sa := lw_sa b qx qm qo) 2 (pc := 383) (pc' := 386) (L := lw_L i (some (.int 1)) w) (L' := lw_L i (some (.int 1)) (some (.int v))) (st := [.int v]) (st' := [.retAddr 11]) rfl hl (fun ls hl => ?_)
  refine lw_callV (pc := 386) (as := []) (rest := []) C hl.1.1 vy_386 rfl rfl (fun v hv => nomatch hv) (Nat.le_of_ble_eq_true rfl) em' r2 (Or.inl ⟨_, rfl⟩) (Nat.le_of_ble_eq_true rfl) (by omega) (by omega) S (fun H1 locs1 S => ?_)
  refine lw_W C.1 C.2.1 C.2.2.2.1 (lw_Ks C.2.2.2.2.1 _) (ad := fun _ => 0) (sa := lw_sa b qx qm qo) 2 (pc := 389) (pc' := 396) (L := lw_L i (some (.int 1)) (some (.int v))) (L' := lw_L i (some (.int 1)) (some (.int v))) (st := [.int 1]) (st' := []) rfl hl (fun ls hl => ?_)
  refine lw_W C.1 C.2.1 C.2.2.2.1 (lw_Ks C.2.2.2.2.1 _) (ad := fun _ => 0) (sa := lw_sa b qx qm qo) 3 (pc := 396) (pc' := 1514) (L := lw_L i (some (.int 1)) (some (.int v))) (L' := lw_L i (some (.int 1)) (some (.int v))) (st := []) (st' := []) rfl hl (fun ls hl => ?_)
  exact K hx hm' _ _ ls _ _ _ _ hI' S.S hl (by omega) (by omega)
end VyLaw

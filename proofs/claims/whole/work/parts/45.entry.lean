/-! THE LAW: from its entry to its loop -/
section LawEntry
variable {p : Program} {l : Launch} {e : Env} {R : Room} {s : State} {m : MethodId} {args : Array Value} {below : List Frame} {meth : Method} {c : Code} {H : Heap} {locs : List Loc} {cells slots : Nat} {Q : State → Prop}
variable {pc : Nat} {ls : Array Slot} {D : va_G} {ad sa av : Nat → Nat} {ca : Nat → ClassId} {A : Nat → Prop}
set_option maxRecDepth 100000 in
set_option maxHeartbeats 8000000 in
/-- a constructor's call in the law -/
theorem lw_ctor {M : AmM} {x rc n d : Nat} {rest : List Value} {h hf : AmH} {k j : Nat} {fr : va_W} (hx : p.tables.exec = Jvm.exec) (hb : c.code = code) (hml : c.maxLocals = 7) (hlr : ls.size = 7) (hown : s.vm.findClass (am_on 16) = some m.cls) (hts : ∀ w ∈ am_gt, w.before args s = true) (hRf : 200 ≤ R.frames) (hRl : 8000 ≤ R.locals) (hen : am_env sa av A s) (hA : ∀ q, s.heap.size ≤ q → A q)
    (hdg : decode code pc = .ok (.invokespecial x, 3)) (hf2 : am_look (am_ml 16) x = some (1, M, 0, rc)) (hret : M.2.2.2.2.1 = none) (hsl : (am_sl1 [.ref 0]).length ≤ M.2.2.2.1) (h0 : 0 < h.length) (hd : d ≤ 100) (hrun : am_run n d M 0 (am_ent [.ref 0] M.2.2.2.1) [] h = some (none, hf, k, j)) (hlow : (rest.map fun v => v.category).sum ≤ 8) (hce : cells + k ≤ R.cells) (hss : slots + j ≤ R.slots)
    (hW : am_wd D ad sa ca h s A s.heap H locs) (hP2 : va_P D vwCl fr H) (hdis : lw_dis (am_ws ad sa ca h) fr)
    (kk : ∀ (ad' : Nat → Nat) (ca' : Nat → ClassId) (H1 : Heap) (locs1 : List Loc), ad' 0 = ad 0 → am_wd D ad' sa ca' hf s A s.heap H1 locs1 → va_P D vwCl fr H1 → lw_dis (am_ws ad' sa ca' hf) fr → W p l e R s m args below meth c H1 locs1 (cells + k) (slots + j) Q (F0 m (pc + 3) ls rest)) : W p l e R s m args below meth c H locs cells slots Q (F0 m pc ls (.ref (ad 0) :: rest)) := by
  obtain ⟨hM', hpd, hkd⟩ := am_ml_ok hf2
  have hA1 := am_A1 hW hA
  have hoa : am_oks h.length [.ref 0] := am_oks_c (am_okv_r h0) (fun v hv => nomatch hv)
  have f1 : (am_rm d k j).frames + 1 ≤ R.frames := by simp only [am_rm]; omega
  have f2 : 8 + (M.2.2.2.1 + 11) + (am_rm d k j).locals ≤ R.locals := by
    have := hM'.2.2.2.2.2
    simp only [] at this
    simp only [am_rm]
    omega
  have hws : am_wsM M = Cond.code M.1 M.2.1 M.2.2.2.1 none :: am_gt := by
    unfold am_wsM
    rw [hret]
  rcases hkd with ⟨-, g1, g2, g3⟩ | ⟨q, -⟩ | ⟨q, -⟩ | ⟨q, -⟩
  · have hpre : ∀ U : State, U.heap = H → s.WarmedH U.vm → am_Pre D ad sa av ca h [.ref 0] H.size (Value.ref (ad 0) :: []).toArray U := fun U hU hw => am_preU hW hA hen [.ref 0] hU hw
    have hr := va_runI (p := p) (l := l) (e := e) (R := R) (s := s) (m := m) (args := args) (below := below) (meth := meth) (c := c) (H := H) (locs := locs) (cells := cells) (slots := slots) (g := F0 m pc ls (.ref (ad 0) :: rest)) (b := ad 0) (As := []) (rest := rest) ⟨hx, hb, hml, hown, hts⟩ (am_met (am_snd (am_ia l) (fun _ _ _ q => am_ck q) n) hrun hM' (am_ck hf2) hsl hoa D ad sa av ca H.size) (cwI (mc := k) (ms := j) 0 hts (am_wsM_GI hM') hws rfl rfl (hts _ hM'.2.1) (hts _ g1) (hts _ g2) g3 ⟨hM'.2.2.2.1.1, hM'.2.2.2.1.2, hpd⟩ ⟨f1, f2⟩) ⟨am_blind, hpre⟩ rfl rfl hlr rfl (lv_room hlow) hdg ⟨hce, hss⟩
    intro T hT X
    obtain ⟨v, st₀, t, T', L, g0, X', hL, e1, e2, ⟨⟨ad', ca', hv, hag, ⟨w1, w2, w3, w4, w5⟩, hle, hok⟩, hz, hk⟩, st⟩ := hr T hT X
    cases hv
    rw [g0] at hz hk
    have hal : t.vm.Alike s.vm := by
      have : s.vm.Alike t.vm := by rw [← e2]; exact X'.warmed.alike
      exact this.symm
    have hS := hW.2.2.2.2.1
    have hS' : va_S A s.heap T'.heap (locs ++ L) := ⟨Nat.le_trans hS.1 (by rw [e1]; exact hz), fun q h1 h2 => by rw [e1, hk q (Nat.lt_of_lt_of_le h1 hS.1) (fun z => h2 (hA1 q z))]; exact hS.2.1 q h1 h2, fun q hq => by
        rcases List.mem_append.mp hq with h | h
        · exact hS.2.2 q h
        · exact hA1 _ (hL q h)⟩
    have hnot : ∀ (i : Nat) (q : Nat × va_E), fr[i]? = some q → q.1 < H.size ∧ ¬ va_A (am_ws ad sa ca h) H.size q.1 := fun i q hq => by
      have hlt := (hP2 i q hq).lt
      refine ⟨hlt, fun z => ?_⟩
      rcases z with ⟨k9, e9, h9⟩ | z
      · exact hdis k9 i _ q h9 hq rfl
      · omega
    have hP3 : va_P D vwCl fr T'.heap := hP2.kept (fun i q hq => by rw [e1]; exact hk q.1 (hnot i q hq).1 (hnot i q hq).2)
    have hdis' : lw_dis (am_ws ad' sa ca' hf) fr := fun i j9 p9 q9 hp hq hpq => (hnot j9 q9 hq).2 (by rw [← hpq]; exact w4.2 i p9 hp)
    obtain ⟨t2, a1, b1⟩ := kk ad' ca' T'.heap (locs ++ L) (hag 0 h0) ⟨va_K.moved hal w1, fun k ty a q => va_K.moved hal (w2 k ty a q), by rw [e1]; exact w3, w4.weaken (fun _ _ _ q => hA1 _ q), hS', w5⟩ hP3 hdis' T' rfl X'
    exact ⟨t2, st t2 a1, b1⟩
  · cases q
  · cases q
  · cases q
end LawEntry
theorem lw_dis_D {A : Nat → Prop} {a b : va_W} (h : va_D A (a ++ b)) : va_D A a ∧ va_D A b ∧ lw_dis a b := by
  refine ⟨⟨fun i j p q hp hq e => ?_, fun k q hk => ?_⟩, ⟨fun i j p q hp hq e => ?_, fun k q hk => ?_⟩, fun i j p q hp hq e => ?_⟩
  · exact h.1 i j p q (by rw [List.getElem?_append_left (List.getElem?_eq_some_iff.mp hp).1]; exact hp) (by rw [List.getElem?_append_left (List.getElem?_eq_some_iff.mp hq).1]; exact hq) e
  · exact h.2 k q (by rw [List.getElem?_append_left (List.getElem?_eq_some_iff.mp hk).1]; exact hk)
  · have := h.1 (a.length + i) (a.length + j) p q (by rw [List.getElem?_append_right (Nat.le_add_right _ _), Nat.add_sub_cancel_left]; exact hp) (by rw [List.getElem?_append_right (Nat.le_add_right _ _), Nat.add_sub_cancel_left]; exact hq) e
    omega
  · exact h.2 (a.length + k) q (by rw [List.getElem?_append_right (Nat.le_add_right _ _), Nat.add_sub_cancel_left]; exact hk)
  · have hil := (List.getElem?_eq_some_iff.mp hp).1
    have := h.1 i (a.length + j) p q (by rw [List.getElem?_append_left hil]; exact hp) (by rw [List.getElem?_append_right (Nat.le_add_right _ _), Nat.add_sub_cancel_left]; exact hq) e
    omega
/-- a heap of one new object -/
theorem lw_wd1 {D : va_G} {sa : Nat → Nat} {s : State} {A : Nat → Prop} {H0 H : Heap} {locs : List Loc} {q ci : Nat} (hK : va_K D vwCl [] s) (hP : va_P D vwCl [(q, .inr (ci, am_dfl ci))] H) (hD : va_D A [(q, .inr (ci, am_dfl ci))]) (hS : va_S A H0 H locs) : am_wd D (fun _ => q) sa (fun _ => 0) [.inr (ci, am_dfl ci)] s A H0 H locs := by
  have e : am_ws (fun _ => q) sa (fun _ => 0) [.inr (ci, am_dfl ci)] = [(q, .inr (ci, am_dfl ci))] := by
    show [(q, (.inr (ci, (am_dfl ci).map (am_rv (fun _ => q) sa)) : va_E))] = _
    rw [am_dfl_rv]
  refine ⟨hK, fun k ty a hk => ?_, by rw [e]; exact hP, by rw [e]; exact hD, hS, fun k x hk => ?_⟩
  · have hz : k < 1 := (List.getElem?_eq_some_iff.mp hk).1
    rw [show k = 0 by omega] at hk
    cases hk
  · have hz : k < 1 := (List.getElem?_eq_some_iff.mp hk).1
    rw [show k = 0 by omega] at hk
    cases hk
    intro v hv
    rcases am_dfl_v ci v hv with rfl | rfl | rfl
    · exact am_okv_i _ _
    · exact am_okv_l _ _
    · exact am_okv_n _

/-! THE LAW: its calls, over runs of the small machine -/
def lw_dis (a b : va_W) : Prop := ∀ (i j : Nat) (p q : Nat × va_E), a[i]? = some p → b[j]? = some q → p.1 ≠ q.1
def am_pl (v : Value) : Prop := (∃ x, v = .int x) ∨ ∃ x, v = .long x
theorem am_pl_rv {v : Value} (h : am_pl v) (ad sa : Nat → Nat) : am_rv ad sa v = v := by
  rcases h with ⟨x, rfl⟩ | ⟨x, rfl⟩ <;> rfl
theorem am_pl_map {as : List Value} (h : ∀ v ∈ as, am_pl v) (ad sa : Nat → Nat) : as.map (am_rv ad sa) = as := by
  conv => rhs; rw [← List.map_id as]
  exact List.map_congr_left fun v hv => am_pl_rv (h v hv) ad sa
section LawCall
variable {p : Program} {l : Launch} {e : Env} {R : Room} {s : State} {m : MethodId} {args : Array Value} {below : List Frame} {meth : Method} {c : Code} {H : Heap} {locs : List Loc} {cells slots : Nat} {Q : State → Prop}
variable {pc : Nat} {ls : Array Slot} {D : va_G} {ad sa av : Nat → Nat} {ca : Nat → ClassId} {A : Nat → Prop}
/-- many straight steps of the law -/
noncomputable def lw_one (pc : Nat) (L : AmL) (st : List Value) : AmP := match am_at k_L_law pc with
  | some (i, _, v) => am_pure i v pc L st
  | none => none
noncomputable def lw_wk (n : Nat) : Nat → AmL → List Value → AmP := Nat.rec (fun pc L st => some (pc, L, st)) (fun _ ih pc L st => match lw_one pc L st with
  | some (pc', L', st') => ih pc' L' st'
  | none => none) n
theorem lw_W (hx : p.tables.exec = Jvm.exec) (hb : c.code = code) (hown : s.vm.findClass (am_on 16) = some m.cls) (hKs : am_Ks 16 sa args s) : ∀ (n : Nat) {pc pc' : Nat} {L L' : AmL} {st st' : List Value} {ls : Array Slot}, lw_wk n pc L st = some (pc', L', st') → am_lr ad sa ls 7 L →
    (∀ ls', am_lr ad sa ls' 7 L' → W p l e R s m args below meth c H locs cells slots Q (F0 m pc' ls' (st'.map (am_rv ad sa)))) → W p l e R s m args below meth c H locs cells slots Q (F0 m pc ls (st.map (am_rv ad sa)))
  | 0, _, _, _, _, _, _, ls, e, hL, k => by
    cases e
    exact k ls hL
  | n + 1, pc, pc', L, L', st, st', ls, e, hL, k => by
    have e : (match lw_one pc L st with
      | some (pc', L', st') => lw_wk n pc' L' st'
      | none => none) = some (pc', L', st') := e
    split at e
    · rename_i p1 L1 s1 e1
      unfold lw_one at e1
      split at e1
      · rename_i i len v hat
        obtain ⟨hdg, hst⟩ := co_L_law pc i len v hat
        exact am_pure_W hx hb hown hKs hdg hst e1 hL (fun ls' hl' => lw_W hx hb hown hKs n e hl' k)
      · cases e1
    · cases e
set_option maxRecDepth 100000 in
set_option maxHeartbeats 8000000 in
/-- a call of the law: one heap runs, what lies beside stays -/
theorem lw_call (hIA : am_IA l) {M : AmM} {x na rc : Nat} {as rest : List Value} {fs : List Value} {h hf : AmH} {rv : Option Value} {k j : Nat} {fr : va_W} (hx : p.tables.exec = Jvm.exec) (hb : c.code = code) (hml : c.maxLocals = 7) (hlr : ls.size = 7) (hown : s.vm.findClass (am_on 16) = some m.cls) (hts : ∀ w ∈ am_gt, w.before args s = true) (hRf : 200 ≤ R.frames) (hRl : 8000 ≤ R.locals) (hen : am_env sa av A s) (hA : ∀ q, s.heap.size ≤ q → A q)
    (hdg : decode code pc = .ok (.invokevirtual x, 3)) (hf2 : am_look (am_ml 16) x = some (3, M, na, rc)) (hna : as.length = na) (hpl : ∀ v ∈ as, am_pl v) (hsl : (am_sl1 (.ref 0 :: as)).length ≤ M.2.2.2.1) (he : h[0]? = some (.inr (rc, fs))) (hrun : Rn 100 M 0 (am_ent (.ref 0 :: as) M.2.2.2.1) [] h (rv, hf, k, j)) (hrv : ∀ v, rv = some v → am_pl v) (hlow : (rest.map fun v => v.category).sum ≤ 8) (hce : cells + k ≤ R.cells) (hss : slots + j ≤ R.slots)
    (hW : am_wd D ad sa ca h s A s.heap H locs) (hP2 : va_P D vwCl fr H) (hdis : lw_dis (am_ws ad sa ca h) fr)
    (kk : ∀ (ad' : Nat → Nat) (ca' : Nat → ClassId) (H1 : Heap) (locs1 : List Loc), ad' 0 = ad 0 → am_wd D ad' sa ca' hf s A s.heap H1 locs1 → va_P D vwCl fr H1 → lw_dis (am_ws ad' sa ca' hf) fr → W p l e R s m args below meth c H1 locs1 (cells + k) (slots + j) Q (F0 m (pc + 3) ls (rv.toList ++ rest))) : W p l e R s m args below meth c H locs cells slots Q (F0 m pc ls (as.reverse ++ .ref (ad 0) :: rest)) := by
  obtain ⟨n, hrun⟩ := hrun
  obtain ⟨hM', hpd, hkd⟩ := am_ml_ok hf2
  have hA1 := am_A1 hW hA
  have h0 : 0 < h.length := (List.getElem?_eq_some_iff.mp he).1
  have hoa : am_oks h.length (.ref 0 :: as) := am_oks_c (am_okv_r h0) (fun v hv => by rcases hpl v hv with ⟨x, rfl⟩ | ⟨x, rfl⟩ <;> exact fun _ q => nomatch q)
  have f1 : (am_rm 100 k j).frames + 1 ≤ R.frames := by simp only [am_rm]; omega
  have f2 : 8 + (M.2.2.2.1 + 11) + (am_rm 100 k j).locals ≤ R.locals := by
    have := hM'.2.2.2.2.2
    simp only [] at this
    simp only [am_rm]
    omega
  have hmap : (.ref 0 :: as : List Value).map (am_rv ad sa) = .ref (ad 0) :: as := congrArg (Value.ref (ad 0) :: ·) (am_pl_map hpl ad sa)
  rcases hkd with ⟨q, -⟩ | ⟨q, -⟩ | ⟨-, g1, g2, g3, q0, g4, g5⟩ | ⟨q, -⟩
  · cases q
  · cases q
  · have hrcv := va_recv hW.1 hW.2.2.1 g4 (am_ws_at he)
    rw [g5] at hrcv
    have hpre : ∀ U : State, U.heap = H → s.WarmedH U.vm → am_Pre D ad sa av ca h (.ref 0 :: as) H.size (Value.ref (ad 0) :: as).toArray U := fun U hU hw => by
      have := am_preU hW hA hen (.ref 0 :: as) hU hw
      rw [hmap] at this
      exact this
    have hr := va_runV (p := p) (l := l) (e := e) (R := R) (s := s) (m := m) (args := args) (below := below) (meth := meth) (c := c) (H := H) (locs := locs) (cells := cells) (slots := slots) (g := F0 m pc ls (as.reverse ++ .ref (ad 0) :: rest)) (C := M.1.cls) (b := ad 0) (As := as) (rest := rest) ⟨hx, hb, hml, hown, hts⟩ (am_met (am_snd hIA (fun _ _ _ q => am_ck q) n) hrun hM' (am_ck hf2) hsl hoa D ad sa av ca H.size) (cwV na hts (am_ml_GIv g1 g2 g3 hM') rfl rfl rfl ⟨rfl, hM'.2.2.2.1.1, hM'.2.2.2.1.2, hpd⟩ ⟨f1, f2⟩) ⟨am_blind, hrcv, hpre⟩ rfl hna hlr rfl (lv_room hlow) hdg ⟨hce, hss⟩
    intro T hT X
    obtain ⟨v, st₀, t, T', L, g0, X', hL, e1, e2, ⟨⟨ad', ca', hv, hag, ⟨w1, w2, w3, w4, w5⟩, hle, hok⟩, hz, hk⟩, st⟩ := hr T hT X
    cases hv
    rw [g0] at hz hk
    have hal : t.vm.Alike s.vm := by
      have : s.vm.Alike t.vm := by rw [← e2]; exact X'.warmed.alike
      exact this.symm
    have hS := hW.2.2.2.2.1
    have hS' : va_S A s.heap T'.heap (locs ++ L) := ⟨Nat.le_trans hS.1 (by rw [e1]; exact hz), fun q h1 h2 => by rw [e1, hk q (Nat.lt_of_lt_of_le h1 hS.1) (fun z => h2 (hA1 q z))]; exact hS.2.1 q h1 h2, fun q hq => by
        rcases List.mem_append.mp hq with h | h
        · exact hS.2.2 q h
        · exact hA1 _ (hL q h)⟩
    have hnot : ∀ (i : Nat) (q : Nat × va_E), fr[i]? = some q → q.1 < H.size ∧ ¬ va_A (am_ws ad sa ca h) H.size q.1 := fun i q hq => by
      have hlt := (hP2 i q hq).lt
      refine ⟨hlt, fun z => ?_⟩
      rcases z with ⟨k9, e9, h9⟩ | z
      · exact hdis k9 i _ q h9 hq rfl
      · omega
    have e3 : rv.map (am_rv ad' sa) = rv := by
      cases rv with
      | none => rfl
      | some w => exact congrArg some (am_pl_rv (hrv w rfl) ad' sa)
    have hP3 : va_P D vwCl fr T'.heap := hP2.kept (fun i q hq => by rw [e1]; exact hk q.1 (hnot i q hq).1 (hnot i q hq).2)
    have hdis' : lw_dis (am_ws ad' sa ca' hf) fr := fun i j9 p9 q9 hp hq hpq => (hnot j9 q9 hq).2 (by rw [← hpq]; exact w4.2 i p9 hp)
    obtain ⟨t2, a1, b1⟩ := kk ad' ca' T'.heap (locs ++ L) (hag 0 h0) ⟨va_K.moved hal w1, fun k ty a q => va_K.moved hal (w2 k ty a q), by rw [e1]; exact w3, w4.weaken (fun _ _ _ q => hA1 _ q), hS', w5⟩ hP3 hdis' T' rfl X'
    rw [e3] at st
    exact ⟨t2, st t2 a1, b1⟩
  · cases q
end LawCall

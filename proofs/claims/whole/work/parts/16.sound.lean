/-! soundness, the theorem: every run of the small machine is a run of the machine -/
theorem am_GI {ws : List Cond} (h : ∀ w ∈ ws, w ∈ am_gt) : GoodIn am_gt ws := fun w hw => ⟨h w hw, good_of_word (List.mem_filter.mp (h w hw)).2⟩
theorem am_Ks_of {own : Nat} {sa av : Nat → Nat} {A : Nat → Prop} {args : Array Value} {s : State} (hts : ∀ w ∈ am_gt, w.before args s = true) (hen : am_env sa av A s) : am_Ks own sa args s := by
  intro x v hv
  obtain ⟨-, ⟨b1, b2, b3⟩, -⟩ := hen
  rcases am_kl_ok hv with ⟨n, rfl, g⟩ | ⟨n, rfl, g⟩ | ⟨rfl, rfl, rfl⟩ | ⟨rfl, rfl, rfl⟩ | ⟨rfl, rfl, rfl⟩
  · exact hts _ g
  · exact hts _ g
  · exact b1
  · exact b2
  · exact b3
theorem am_take_eq : ∀ (n : Nat) (st acc as r : List Value), am_take n st acc = some (as, r) → ∃ ts, st = ts ++ r ∧ as = ts.reverse ++ acc ∧ ts.length = n
  | 0, st, acc, as, r, h => by
    cases h
    exact ⟨[], rfl, rfl, rfl⟩
  | n + 1, [], acc, as, r, h => nomatch h
  | n + 1, v :: st, acc, as, r, h => by
    obtain ⟨ts, e1, e2, e3⟩ := am_take_eq n st (v :: acc) as r h
    exact ⟨v :: ts, by rw [e1]; rfl, by rw [e2, List.reverse_cons, List.append_assoc]; rfl, by rw [List.length_cons, e3]⟩
theorem am_blind {D : va_G} {ad sa av : Nat → Nat} {ca : Nat → ClassId} {h : AmH} {as : List Value} {sz : Nat} : FrameBlind (am_Pre D ad sa av ca h as sz) := by
  intro a U g mk q
  obtain ⟨q1, q2, q3, q4⟩ := q
  exact ⟨q1, q2, am_wk.moved (u := U) (U := U.calling g mk a) (Vm.Alike.refl U.vm) rfl q3, q4.calling⟩
section AmSnd
variable {p : Program} {l : Launch} {e : Env} {R : Room} {s : State} {m : MethodId} {args : Array Value} {below : List Frame} {meth : Method} {c : Code} {H : Heap} {locs : List Loc} {cells slots : Nat} {Q : State → Prop}
theorem am_A1 {D : va_G} {ad sa : Nat → Nat} {ca : Nat → ClassId} {h : AmH} {A : Nat → Prop} (hW : am_wd D ad sa ca h s A s.heap H locs) (hA : ∀ q, s.heap.size ≤ q → A q) : ∀ q, va_A (am_ws ad sa ca h) H.size q → A q := by
  intro q hq
  rcases hq with ⟨k, e, he⟩ | hq
  · exact hW.2.2.2.1.2 k _ he
  · exact hA q (Nat.le_trans hW.2.2.2.2.1.1 hq)
theorem am_preU {D : va_G} {ad sa av : Nat → Nat} {ca : Nat → ClassId} {h : AmH} {A : Nat → Prop} (hW : am_wd D ad sa ca h s A s.heap H locs) (hA : ∀ q, s.heap.size ≤ q → A q) (hen : am_env sa av A s) (as : List Value) {U : State} (hU : U.heap = H) (hw : s.WarmedH U.vm) : am_Pre D ad sa av ca h as H.size (as.map (am_rv ad sa)).toArray U := by
  have hA1 := am_A1 hW hA
  obtain ⟨k1, k2, k3, k4, k5, k6⟩ := hW
  exact ⟨rfl, by rw [hU], ⟨va_K.moved hw.alike k1, fun k ty a q => va_K.moved hw.alike (k2 k ty a q), by rw [hU]; exact k3, k4.weaken (fun _ _ _ _ => trivial), k6⟩, hen.move k5 hA1 hU hw⟩
set_option maxHeartbeats 4000000 in
theorem am_iaW (hIA : am_IA l) {cc : ByteArray} {nL own : Nat} {pc : Nat} {ls : Array Slot} {ad sa av : Nat → Nat} {A : Nat → Prop} (hx : p.tables.exec = Jvm.exec) (hb : c.code = cc) (hml : c.maxLocals = nL) (hlr : ls.size = nL) (hown : s.vm.findClass (am_on own) = some m.cls) (hts : ∀ w ∈ am_gt, w.before args s = true) (hen : am_env sa av A s) (hS : va_S A s.heap H locs) (hRf : 10 ≤ R.frames) (hRl : 400 ≤ R.locals) (hce : cells ≤ R.cells) (hsl : slots ≤ R.slots)
    (x j : Nat) (t : Int32) (r : List Value) (hf : am_look (am_sl own) x = some 2) (hdg : decode cc pc = .ok (.invokestatic x, 3)) (hj : j < 2) (hlo : am_low r = true)
    (kk : W p l e R s m args below meth c H locs cells slots Q (F0 m (pc + 3) ls ((.int (am_among (am_txt j) t) :: r).map (am_rv ad sa)))) : W p l e R s m args below meth c H locs cells slots Q (F0 m pc ls ((.int t :: .retAddr j :: r).map (am_rv ad sa))) := by
  have hl : Cond.methodLink (am_on own) x yX12_isAmong ∈ am_gt := by
    rcases am_sl_ok hf with ⟨q, -⟩ | ⟨q, -⟩ | ⟨-, g⟩ | q | ⟨q, -⟩ | ⟨q, -⟩ | ⟨q, -⟩ | ⟨q, -⟩
    · cases q
    · cases q
    · exact g
    all_goals cases q
  have hr := va_runS (As := [.ref (sa j), .int t]) (rest := r.map (am_rv ad sa)) (g := F0 m pc ls ((.int t :: .retAddr j :: r).map (am_rv ad sa))) (locs := locs) (cells := cells) (slots := slots) (below := below) (meth := meth) (e := e) ⟨hx, hb, hml, hown, hts⟩ (hIA sa av A j t hj)
    (va_cwS 2 hts (am_GI (fun w hw => by
      rcases List.mem_append.mp hw with h | h
      · rcases List.mem_cons.mp h with rfl | h
        · exact hl
        · rcases List.mem_cons.mp h with rfl | h
          · exact gs_ias
          · rcases List.mem_cons.mp h with rfl | h
            · exact gj_12
            · exact nomatch h
      · rcases List.mem_cons.mp h with rfl | h
        · exact gs_iac
        · exact h)) rfl rfl rfl ⟨by decide +kernel, by decide +kernel, by decide +kernel⟩ ⟨by show 8 + 1 ≤ _; omega, by show 8 + (3 + 11) + 300 ≤ _; omega⟩)
    ⟨fun a U g mk q => ⟨q.1, q.2.calling⟩, fun U hU hw => ⟨rfl, hen.move hS (fun _ h => h) hU hw⟩⟩ rfl rfl hlr rfl (lv_room (am_low_le hlo ad sa)) hdg ⟨hce, hsl⟩
  intro T hT X
  obtain ⟨v, st₀, t', T', L, h0, X', hL, e1, e2, ⟨hv, hh⟩, st⟩ := hr T hT X
  cases hv
  obtain ⟨t2, a1, b1⟩ := kk T' (by rw [e1, hh, h0]) (Stand.forget X' (fun q h => (hL q h).elim))
  exact ⟨t2, st t2 a1, b1⟩
end AmSnd

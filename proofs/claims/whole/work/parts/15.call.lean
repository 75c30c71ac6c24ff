/-! soundness, part 8: contracts of methods out of runs; calls -/
def am_rm (d k j : Nat) : Room := { frames := d + 10, cells := k, slots := j, locals := 40 * d + 400 }
def am_wsM (m : AmM) : List Cond := Cond.code m.1 m.2.1 m.2.2.2.1 m.2.2.2.2.1 :: am_gt
/-- the heap h stands in the state t -/
def am_wk (D : va_G) (ad sa : Nat → Nat) (ca : Nat → ClassId) (h : AmH) (t : State) (A : Nat → Prop) : Prop := va_K D vwCl [] t ∧ (∀ (k : Nat) (ty : FieldType) (a : vp_A), h[k]? = some (.inl (ty, a)) → va_K D vwCl [(ca k, ty)] t) ∧ va_P D vwCl (am_ws ad sa ca h) t.heap ∧ va_D A (am_ws ad sa ca h) ∧ am_okh h.length h
def am_Pre (D : va_G) (ad sa av : Nat → Nat) (ca : Nat → ClassId) (h : AmH) (as : List Value) (sz : Nat) : Array Value → State → Prop := va_Pc (as.map (am_rv ad sa)) (fun U => U.heap.size = sz ∧ am_wk D ad sa ca h U (fun _ => True) ∧ am_env sa av (va_A (am_ws ad sa ca h) sz) U)
def am_Q (D : va_G) (ad sa : Nat → Nat) (n0 : Nat) (hf : AmH) (rv : Option Value) (A : Nat → Prop) : Array Value → State → Outcome → State → Prop := fun _ st o t => (∃ (ad' : Nat → Nat) (ca' : Nat → ClassId), o = .returned (rv.map (am_rv ad' sa)) ∧ (∀ q, q < n0 → ad' q = ad q) ∧ am_wk D ad' sa ca' hf t A ∧ n0 ≤ hf.length ∧ ∀ v, rv = some v → am_okv hf.length v) ∧ va_F A st t
/-- the code of a method is what the tables say -/
def am_cok (m : AmM) : Prop := ∀ pc i len v, am_at m.2.2.2.2.2 pc = some (i, len, v) → decode m.2.1 pc = .ok (i, len) ∧ am_stat m.2.2.1 m.2.2.2.1 i len v = true
theorem am_wk.moved {D : va_G} {ad sa : Nat → Nat} {ca : Nat → ClassId} {h : AmH} {u U : State} {A : Nat → Prop} (hvm : u.vm.Alike U.vm) (hh : U.heap = u.heap) (w : am_wk D ad sa ca h u A) : am_wk D ad sa ca h U A := by
  obtain ⟨a1, a2, a3, a4, a5⟩ := w
  exact ⟨va_K.moved hvm a1, fun k ty a q => va_K.moved hvm (a2 k ty a q), by rw [hh]; exact a3, a4, a5⟩
theorem am_args_sl : ∀ (as : List Value) (ad sa : Nat → Nat), (lg_sl (as.map (am_rv ad sa))).length = (am_sl1 as).length
  | [], _, _ => rfl
  | v :: r, ad, sa => by
    have ih := am_args_sl r ad sa
    show (((if (am_rv ad sa v).category = 2 then [.val (am_rv ad sa v), .second] else [.val (am_rv ad sa v)] : List Slot)) ++ lg_sl (r.map (am_rv ad sa))).length = _
    rw [List.length_append, ih]
    cases v <;> simp [am_sl1, am_rv, Value.category] <;> omega
theorem am_ent_at (ad sa : Nat → Nat) : ∀ (as : List Value) (o k : Nat) (v : Value), am_get (am_sl1 as) k = some v → (o + k, am_rv ad sa v) ∈ lv_args o (as.map (am_rv ad sa))
  | [], o, k, v, h => by
    rw [am_get_eq] at h
    cases h
  | w :: r, o, k, v, h => by
    have ih := am_ent_at ad sa r
    have one : w.category = 1 → am_sl1 (w :: r) = some w :: am_sl1 r → (o + k, am_rv ad sa v) ∈ lv_args o ((w :: r).map (am_rv ad sa)) := by
      intro hc hs
      rw [hs] at h
      show (o + k, am_rv ad sa v) ∈ (o, am_rv ad sa w) :: lv_args (if (am_rv ad sa w).category = 2 then o + 2 else o + 1) (r.map (am_rv ad sa))
      rw [am_rv_cat, hc, if_neg (by decide)]
      cases k with
      | zero =>
        have e : w = v := Option.some.inj h
        rw [e]
        exact List.mem_cons_self
      | succ k =>
        have := ih (o + 1) k v h
        rw [show o + 1 + k = o + (k + 1) by omega] at this
        exact List.mem_cons_of_mem _ this
    have two : w.category = 2 → am_sl1 (w :: r) = some w :: none :: am_sl1 r → (o + k, am_rv ad sa v) ∈ lv_args o ((w :: r).map (am_rv ad sa)) := by
      intro hc hs
      rw [hs] at h
      show (o + k, am_rv ad sa v) ∈ (o, am_rv ad sa w) :: lv_args (if (am_rv ad sa w).category = 2 then o + 2 else o + 1) (r.map (am_rv ad sa))
      rw [am_rv_cat, hc, if_pos rfl]
      match k, h with
      | 0, h =>
        have e : w = v := Option.some.inj h
        rw [e]
        exact List.mem_cons_self
      | 1, h => cases h
      | k + 2, h =>
        have := ih (o + 2) k v h
        rw [show o + 2 + k = o + (k + 2) by omega] at this
        exact List.mem_cons_of_mem _ this
    cases w with
    | long x => exact two rfl rfl
    | double x => exact two rfl rfl
    | int x => exact one rfl rfl
    | float x => exact one rfl rfl
    | null => exact one rfl rfl
    | ref x => exact one rfl rfl
    | retAddr x => exact one rfl rfl
theorem am_ent_get {as : List Value} {n k : Nat} {v : Value} (h : am_get (am_ent as n) k = some v) : am_get (am_sl1 as) k = some v := by
  rw [am_get_eq] at h ⊢
  unfold am_ent at h
  by_cases q : k < (am_sl1 as).length
  · rw [List.getElem?_append_left q] at h
    exact h
  · rw [List.getElem?_append_right (by omega), List.getElem?_replicate] at h
    split at h <;> cases h
theorem am_sl1_mem : ∀ (as : List Value) (k : Nat) (v : Value), am_get (am_sl1 as) k = some v → v ∈ as
  | [], k, v, h => by
    rw [am_get_eq] at h
    cases h
  | w :: r, k, v, h => by
    have ih := am_sl1_mem r
    have one : am_sl1 (w :: r) = some w :: am_sl1 r → v ∈ w :: r := by
      intro hs
      rw [hs] at h
      cases k with
      | zero =>
        have e : w = v := Option.some.inj h
        rw [e]
        exact List.mem_cons_self
      | succ k => exact List.mem_cons_of_mem _ (ih k v h)
    have two : am_sl1 (w :: r) = some w :: none :: am_sl1 r → v ∈ w :: r := by
      intro hs
      rw [hs] at h
      match k, h with
      | 0, h =>
        have e : w = v := Option.some.inj h
        rw [e]
        exact List.mem_cons_self
      | 1, h => cases h
      | k + 2, h => exact List.mem_cons_of_mem _ (ih k v h)
    cases w with
    | long x => exact two rfl
    | double x => exact two rfl
    | int x => exact one rfl
    | float x => exact one rfl
    | null => exact one rfl
    | ref x => exact one rfl
    | retAddr x => exact one rfl
/-- the contract of the model's isAmong (its texts are the machine's own) -/
def am_IA (l : Launch) : Prop := ∀ (sa av : Nat → Nat) (A : Nat → Prop) (j : Nat) (t : Int32), j < 2 → Met l yX12_isAmong (Cond.code yX12_isAmong cX12_isAmong 3 (some .boolean) :: am_gt) { frames := 8, cells := 0, slots := 0, locals := 300 } (va_Pc [.ref (sa j), .int t] (fun U => am_env sa av A U)) (fun _ st o t' => o = .returned (some (.int (am_among (am_txt j) t))) ∧ t'.heap = st.heap) 0 0 (fun _ => False)
/-- a run of the small machine is a run of the machine -/
def am_Snd (l : Launch) (n : Nat) : Prop := ∀ (d : Nat) (M : AmM) (pc : Nat) (L : AmL) (st : List Value) (h : AmH) (rv : Option Value) (hf : AmH) (k j : Nat), am_run n d M pc L st h = some (rv, hf, k, j) → am_MK M → am_cok M →
  ∀ (p : Program) (e : Env) (R : Room) (s : State) (m : MethodId) (args : Array Value) (below : List Frame) (meth : Method) (c : Code), p.tables.exec = Jvm.exec → c.code = M.2.1 → c.maxLocals = M.2.2.2.1 → s.vm.findClass (am_on M.2.2.1) = some m.cls → (∀ w ∈ am_gt, w.before args s = true) → meth.sig.returnType = M.2.2.2.2.1 → meth.locks = false → (am_ini M = true → meth.name = "<init>") →
  ∀ (D : va_G) (sa av : Nat → Nat) (A : Nat → Prop), am_env sa av A s → (∀ q, s.heap.size ≤ q → A q) → d + 10 ≤ R.frames → 40 * d + 400 ≤ R.locals →
  ∀ (ad0 : Nat → Nat) (n0 : Nat) (ad : Nat → Nat) (ca : Nat → ClassId) (H : Heap) (locs : List Loc) (cells slots : Nat) (ls : Array Slot) (mc ms : Nat), (∀ q, q < n0 → ad q = ad0 q) → n0 ≤ h.length → am_wd D ad sa ca h s A s.heap H locs → am_lr ad sa ls M.2.2.2.1 L → am_okl h.length L → am_oks h.length st → cells + k ≤ R.cells → slots + j ≤ R.slots → cells + k ≤ mc → slots + j ≤ ms →
  W p l e R s m args below meth c H locs cells slots (MQ below (am_Q D ad0 sa n0 hf rv A) args s mc ms A) (F0 m pc ls (st.map (am_rv ad sa)))
set_option maxHeartbeats 4000000 in
/-- a method's contract out of its run -/
theorem am_met {l : Launch} {n : Nat} (hS : am_Snd l n) {d : Nat} {M : AmM} {as : List Value} {h hf : AmH} {rv : Option Value} {k j : Nat} (hrun : am_run n d M 0 (am_ent as M.2.2.2.1) [] h = some (rv, hf, k, j)) (hM : am_MK M) (hC : am_cok M) (hlen : (am_sl1 as).length ≤ M.2.2.2.1) (hoa : am_oks h.length as)
    (D : va_G) (ad sa av : Nat → Nat) (ca : Nat → ClassId) (sz : Nat) : Met l M.1 (am_wsM M) (am_rm d k j) (am_Pre D ad sa av ca h as sz) (am_Q D ad sa h.length hf rv (va_A (am_ws ad sa ca h) sz)) k j (va_A (am_ws ad sa ca h) sz) := by
  refine Met.ofW (cc := M.2.1) (maxL := M.2.2.2.1) (ret := M.2.2.2.2.1) hM.2.2.1 rfl ?_
  intro p e s m args below meth c s₁ B hml hv
  obtain ⟨rfl, hsz, ⟨w1, w2, w3, w4, w5⟩, hen⟩ := hv
  have hts := atoms_spec (ws := am_wsM M) B.pre
  have hown : s.vm.findClass M.1.cls = some m.cls := findClass_of_methodNamed B.named
  have hnm : meth.name = M.1.name := (name_of_methodNamed B.named B.method).1
  subst hsz
  have hl := lv_entry (as.map (am_rv ad sa)) (n := M.2.2.2.1) (by rw [am_args_sl]; exact hlen)
  rw [lg_entry_eq]
  generalize (lg_sl (as.map (am_rv ad sa)) ++ List.replicate (M.2.2.2.1 - (lg_sl (as.map (am_rv ad sa))).length) Slot.unset).toArray = ls at hl ⊢
  have hlr : am_lr ad sa ls M.2.2.2.1 (am_ent as M.2.2.2.1) := by
    refine ⟨⟨hl.1, hl.2.1, fun q hq => nomatch hq⟩, fun i v hi => ?_⟩
    have := am_ent_at ad sa as 0 i v (am_ent_get hi)
    rw [Nat.zero_add] at this
    exact hl.2.2 _ this
  refine hS d M 0 _ [] h rv hf k j hrun hM hC p e _ s m _ below meth c B.exec B.bytes hml (by rw [← hM.2.2.2.2.1]; exact hown) (fun w hw => hts w (List.mem_cons_of_mem _ hw)) B.returns B.notSynchronized (fun hi => by rw [hnm]; exact eq_of_beq hi) D sa av _ hen (fun q hq => Or.inr hq) (Nat.le_refl _) (Nat.le_refl _) ad h.length ad ca s.heap [] 0 0 ls k j (fun _ _ => rfl) (Nat.le_refl _) ⟨w1, w2, w3, w4.self, va_S.rf, w5⟩ hlr (fun i v hi => hoa v (am_sl1_mem as i v (am_ent_get hi))) (fun v hv => nomatch hv) ?_ ?_ ?_ ?_
  · exact Nat.le_of_eq (Nat.zero_add k)
  · exact Nat.le_of_eq (Nat.zero_add j)
  · exact Nat.le_of_eq (Nat.zero_add k)
  · exact Nat.le_of_eq (Nat.zero_add j)
section AmCall
variable {p : Program} {l : Launch} {e : Env} {R : Room} {s : State} {m : MethodId} {args a : Array Value} {below : List Frame} {meth : Method} {c : Code} {H : Heap} {locs : List Loc} {cells slots mc ms : Nat} {Q : State → Prop}
variable {pc n0 : Nat} {ls : Array Slot} {rest st0 : List Value} {D : va_G} {ad sa : Nat → Nat} {hf : AmH} {rv : Option Value} {A A1 : Nat → Prop}
/-- behind a call -/
theorem am_callW (hr : va_Run p l e R s m args below meth c H locs cells slots mc ms (F0 m pc ls st0) rest (am_Q D ad sa n0 hf rv A1 a) A1) (hS : va_S A s.heap H locs) (hA1 : ∀ q, A1 q → A q)
    (kk : ∀ (ad' : Nat → Nat) (ca' : Nat → ClassId) (H1 : Heap) (locs1 : List Loc), (∀ q, q < n0 → ad' q = ad q) → n0 ≤ hf.length → (∀ v, rv = some v → am_okv hf.length v) → am_wd D ad' sa ca' hf s A s.heap H1 locs1 → W p l e R s m args below meth c H1 locs1 (cells + mc) (slots + ms) Q (F0 m (pc + 3) ls ((rv.map (am_rv ad' sa)).toList ++ rest))) : W p l e R s m args below meth c H locs cells slots Q (F0 m pc ls st0) := by
  intro T hT X
  obtain ⟨v, st₀, t, T', L, h0, X', hL, e1, e2, ⟨⟨ad', ca', hv, hag, ⟨w1, w2, w3, w4, w5⟩, hle, hok⟩, hz, hk⟩, st⟩ := hr T hT X
  cases hv
  rw [h0] at hz hk
  have hal : t.vm.Alike s.vm := by
    have : s.vm.Alike t.vm := by rw [← e2]; exact X'.warmed.alike
    exact this.symm
  have hS' : va_S A s.heap T'.heap (locs ++ L) := ⟨Nat.le_trans hS.1 (by rw [e1]; exact hz), fun q h1 h2 => by rw [e1, hk q (Nat.lt_of_lt_of_le h1 hS.1) (fun z => h2 (hA1 q z))]; exact hS.2.1 q h1 h2, fun q hq => by
      rcases List.mem_append.mp hq with h | h
      · exact hS.2.2 q h
      · exact hA1 _ (hL q h)⟩
  obtain ⟨t2, a1, b1⟩ := kk ad' ca' T'.heap (locs ++ L) hag hle hok ⟨va_K.moved hal w1, fun k ty a q => va_K.moved hal (w2 k ty a q), by rw [e1]; exact w3, w4.weaken (fun _ _ _ q => hA1 _ q), hS', w5⟩ T' rfl X'
  exact ⟨t2, st t2 a1, b1⟩
end AmCall

/-! the judgement in which methods are walked: the run from here makes nothing and ends with P -/
def Rx (d : Nat) (m : AmM) (pc : Nat) (L : AmL) (st : List Value) (h : AmH) (P : Option Value → AmH → Prop) : Prop := ∃ rv h', Rn d m pc L st h (rv, h', 0, 0) ∧ P rv h'
section RxRows
variable {d : Nat} {m m' : AmM} {pc pc' : Nat} {L L' : AmL} {st st' : List Value} {h h' h1 h2 : AmH} {P P' : Option Value → AmH → Prop} {rv v1 v2 : Option Value} {as rest : List Value} {i : Jvm.ClassFile.Instr} {len : Nat} {v : Value}
theorem Rx.rn {rv : Option Value} {h' : AmH} (k : Rx d m pc L st h (fun a b => a = rv ∧ b = h')) : Rn d m pc L st h (rv, h', 0, 0) := by
  obtain ⟨a, b, k, rfl, rfl⟩ := k
  exact k
theorem Rx.of {rv : Option Value} {h' : AmH} (k : Rn d m pc L st h (rv, h', 0, 0)) (p : P rv h') : Rx d m pc L st h P := ⟨rv, h', k, p⟩
theorem Rx.mono (k : Rx d m pc L st h P) (hp : ∀ a b, P a b → P' a b) : Rx d m pc L st h P' := by
  obtain ⟨a, b, k, p⟩ := k
  exact ⟨a, b, k, hp a b p⟩
theorem Rx.deep {d' : Nat} (hd : d ≤ d') (k : Rx d m pc L st h P) : Rx d' m pc L st h P := by
  obtain ⟨a, b, k, p⟩ := k
  exact ⟨a, b, k.deep hd, p⟩
theorem Rx.walk (n : Nat) (e : am_walk m n pc L st h = some (pc', L', st', h')) (k : Rx d m pc' L' st' h' P) : Rx d m pc L st h P := by
  obtain ⟨a, b, k, p⟩ := k
  exact ⟨a, b, Rn.walk n e k, p⟩
theorem Rx.ret (e : am_isT m pc L st h = some rv) (p : P rv h) : Rx d m pc L st h P := ⟨rv, h, Rn.ret e, p⟩
theorem Rx.rb {x : Int32} (hat : am_at m.2.2.2.2.2 pc = some (.ireturn, len, v)) (hr : m.2.2.2.2.1 = some .boolean) (hb : am_isB x = true) (p : P (some (.int x)) h) : Rx d m pc L [.int x] h P := ⟨_, _, Rn.rb hat hr hb, p⟩
theorem Rx.br {c : Prop} [Decidable c] {t f : Nat} {L1 L2 : AmL} {s1 s2 : List Value} (hat : am_at m.2.2.2.2.2 pc = some (i, len, v)) (hp : am_pure i v pc L st = if c then some (t, L1, s1) else some (f, L2, s2)) (kt : c → Rx d m t L1 s1 h P) (kf : ¬ c → Rx d m f L2 s2 h P) : Rx d m pc L st h P := by
  by_cases hc : c
  · obtain ⟨a, b, k, p⟩ := kt hc
    exact ⟨a, b, Rn.br hat hp (fun _ => k) (fun q => absurd hc q), p⟩
  · obtain ⟨a, b, k, p⟩ := kf hc
    exact ⟨a, b, Rn.br hat hp (fun q => absurd q hc) (fun _ => k), p⟩
theorem Rx.dv {c : Prop} [Decidable c] {L2 : AmL} {s2 : List Value} {f : Nat} (hat : am_at m.2.2.2.2.2 pc = some (i, len, v)) (hp : am_pure i v pc L st = if c then none else some (f, L2, s2)) (hc : ¬ c) (kf : Rx d m f L2 s2 h P) : Rx d m pc L st h P := by
  obtain ⟨a, b, k, p⟩ := kf
  exact ⟨a, b, Rn.dv hat hp hc k, p⟩
theorem Rx.iald {a n : Nat} {f : Nat → Int32} {x : Int32} (j : Nat) (hat : am_at m.2.2.2.2.2 pc = some (.iaload, len, v)) (ha : am_nth h a = some (.inl (.int, n, .inl f))) (hx : x = nI j) (hj : j < n) (hn : n < 2 ^ 31) (k : Rx d m (pc + 1) L (.int (f j) :: rest) h P) : Rx d m pc L (.int x :: .ref a :: rest) h P := by
  obtain ⟨a, b, k, p⟩ := k
  exact ⟨a, b, Rn.iald hat ha hx hj hn k, p⟩
theorem Rx.bald {a n : Nat} {f : Nat → Int32} {x : Int32} (j : Nat) (hat : am_at m.2.2.2.2.2 pc = some (.baload, len, v)) (ha : am_nth h a = some (.inl (.byte, n, .inl f))) (hx : x = nI j) (hj : j < n) (hn : n < 2 ^ 31) (k : Rx d m (pc + 1) L (.int (f j) :: rest) h P) : Rx d m pc L (.int x :: .ref a :: rest) h P := by
  obtain ⟨a, b, k, p⟩ := k
  exact ⟨a, b, Rn.bald hat ha hx hj hn k, p⟩
theorem Rx.lald {a n : Nat} {f : Nat → Int64} {x : Int32} (j : Nat) (hat : am_at m.2.2.2.2.2 pc = some (.laload, len, v)) (ha : am_nth h a = some (.inl (.long, n, .inr (.inl f)))) (hx : x = nI j) (hj : j < n) (hn : n < 2 ^ 31) (k : Rx d m (pc + 1) L (.long (f j) :: rest) h P) : Rx d m pc L (.int x :: .ref a :: rest) h P := by
  obtain ⟨a, b, k, p⟩ := k
  exact ⟨a, b, Rn.lald hat ha hx hj hn k, p⟩
theorem Rx.aald {a n b : Nat} {ty : FieldType} {f : Nat → Option Nat} {x : Int32} (j : Nat) (hat : am_at m.2.2.2.2.2 pc = some (.aaload, len, v)) (ha : am_nth h a = some (.inl (ty, n, .inr (.inr (.inr (.inr f)))))) (ht : am_isRf ty = true) (hx : x = nI j) (hj : j < n) (hn : n < 2 ^ 31) (hf : f j = some b) (k : Rx d m (pc + 1) L (.ref b :: rest) h P) : Rx d m pc L (.int x :: .ref a :: rest) h P := by
  obtain ⟨a, b, k, p⟩ := k
  exact ⟨a, b, Rn.aald hat ha ht hx hj hn hf k, p⟩
theorem Rx.iast {a n : Nat} {f : Nat → Int32} {x y : Int32} (j : Nat) (hat : am_at m.2.2.2.2.2 pc = some (.iastore, len, v)) (ha : am_nth h a = some (.inl (.int, n, .inl f))) (hx : x = nI j) (hj : j < n) (hn : n < 2 ^ 31) (k : Rx d m (pc + 1) L rest (am_put h (.inl (.int, n, .inl (upd f j y))) a) P) : Rx d m pc L (.int y :: .int x :: .ref a :: rest) h P := by
  obtain ⟨a, b, k, p⟩ := k
  exact ⟨a, b, Rn.iast hat ha hx hj hn k, p⟩
theorem Rx.bast {a n : Nat} {f : Nat → Int32} {x y : Int32} (j : Nat) (hat : am_at m.2.2.2.2.2 pc = some (.bastore, len, v)) (ha : am_nth h a = some (.inl (.byte, n, .inl f))) (hx : x = nI j) (hj : j < n) (hn : n < 2 ^ 31) (k : Rx d m (pc + 1) L rest (am_put h (.inl (.byte, n, .inl (upd f j (vp_nar .byte y)))) a) P) : Rx d m pc L (.int y :: .int x :: .ref a :: rest) h P := by
  obtain ⟨a, b, k, p⟩ := k
  exact ⟨a, b, Rn.bast hat ha hx hj hn k, p⟩
theorem Rx.last {a n : Nat} {f : Nat → Int64} {x : Int32} {y : Int64} (j : Nat) (hat : am_at m.2.2.2.2.2 pc = some (.lastore, len, v)) (ha : am_nth h a = some (.inl (.long, n, .inr (.inl f)))) (hx : x = nI j) (hj : j < n) (hn : n < 2 ^ 31) (k : Rx d m (pc + 1) L rest (am_put h (.inl (.long, n, .inr (.inl (vp_updL f j y)))) a) P) : Rx d m pc L (.long y :: .int x :: .ref a :: rest) h P := by
  obtain ⟨a, b, k, p⟩ := k
  exact ⟨a, b, Rn.last hat ha hx hj hn k, p⟩
/-- a call, by a run of the callee -/
theorem Rx.call (e : am_isC m pc L st h = some (m', as, rest)) (kc : Rn d m' 0 (am_ent as m'.2.2.2.1) [] h (v1, h1, 0, 0)) (k : Rx (d + 1) m (pc + 3) L (v1.toList ++ rest) h1 P) : Rx (d + 1) m pc L st h P := by
  obtain ⟨a, b, k, p⟩ := k
  exact ⟨a, b, Rn.call e kc k, p⟩
/-- a call, by a judgement on the callee -/
theorem Rx.callx (e : am_isC m pc L st h = some (m', as, rest)) (kc : Rx d m' 0 (am_ent as m'.2.2.2.1) [] h P') (k : ∀ v1 h1, P' v1 h1 → Rx (d + 1) m (pc + 3) L (v1.toList ++ rest) h1 P) : Rx (d + 1) m pc L st h P := by
  obtain ⟨v1, h1, kc, p1⟩ := kc
  exact Rx.call e kc (k v1 h1 p1)
end RxRows

/-! more rows for runs: branches, arrays, calls under the frame -/
section RnRows2
variable {d : Nat} {m m' : AmM} {pc pc' : Nat} {L L' : AmL} {st st' : List Value} {h h' h1 h2 : AmH} {r : AmR} {rv v1 v2 : Option Value} {k1 k2 j1 j2 : Nat} {as rest : List Value} {i : Jvm.ClassFile.Instr} {len : Nat} {v : Value}
theorem am_one_p (hat : am_at m.2.2.2.2.2 pc = some (i, len, v)) (hp : am_pure i v pc L st = some (pc', L', st')) : am_one m pc L st h = some (pc', L', st', h) := by
  unfold am_one
  rw [hat]
  simp only []
  rw [hp]
theorem am_one_h {n : Nat} (hat : am_at m.2.2.2.2.2 pc = some (i, len, v)) (hn : am_pure i v pc L st = none) (hp : am_heap m.2.2.1 (am_ini m) i st h = some (n, st', h')) : am_one m pc L st h = some (pc + n, L, st', h') := by
  unfold am_one
  rw [hat]
  simp only []
  rw [hn]
  simp only []
  rw [hp]
/-- a branch -/
theorem Rn.br {c : Prop} [Decidable c] {t f : Nat} {L1 L2 : AmL} {s1 s2 : List Value} (hat : am_at m.2.2.2.2.2 pc = some (i, len, v)) (hp : am_pure i v pc L st = if c then some (t, L1, s1) else some (f, L2, s2)) (kt : c → Rn d m t L1 s1 h r) (kf : ¬ c → Rn d m f L2 s2 h r) : Rn d m pc L st h r := by
  by_cases hc : c
  · rw [if_pos hc] at hp
    exact Rn.one (am_one_p hat hp) (kt hc)
  · rw [if_neg hc] at hp
    exact Rn.one (am_one_p hat hp) (kf hc)
/-- a division by what is not 0 -/
theorem Rn.dv {c : Prop} [Decidable c] {L2 : AmL} {s2 : List Value} {f : Nat} (hat : am_at m.2.2.2.2.2 pc = some (i, len, v)) (hp : am_pure i v pc L st = if c then none else some (f, L2, s2)) (hc : ¬ c) (kf : Rn d m f L2 s2 h r) : Rn d m pc L st h r := by
  rw [if_neg hc] at hp
  exact Rn.one (am_one_p hat hp) kf
/-- an array of ints is read -/
theorem Rn.iald {a n : Nat} {f : Nat → Int32} {x : Int32} {j : Nat} (hat : am_at m.2.2.2.2.2 pc = some (.iaload, len, v)) (ha : am_nth h a = some (.inl (.int, n, .inl f))) (hx : x = nI j) (hj : j < n) (hn : n < 2 ^ 31) (k : Rn d m (pc + 1) L (.int (f j) :: rest) h r) : Rn d m pc L (.int x :: .ref a :: rest) h r := by
  subst hx
  have hc : (nI j).toNatClampNeg = j := nI_clamp (by omega)
  refine Rn.one (am_one_h (n := 1) hat rfl ?_) k
  show (match am_nth h a with
    | some (.inl (.int, n, .inl f)) => if nI j < 0 ∨ n ≤ (nI j).toNatClampNeg then none else some (1, Value.int (f (nI j).toNatClampNeg) :: rest, h)
    | _ => (none : AmQ)) = _
  rw [ha]
  simp only []
  rw [if_neg (by rw [hc]; exact fun q => q.elim (nI_pos (by omega)) (by omega)), hc]
theorem Rn.bald {a n : Nat} {f : Nat → Int32} {x : Int32} {j : Nat} (hat : am_at m.2.2.2.2.2 pc = some (.baload, len, v)) (ha : am_nth h a = some (.inl (.byte, n, .inl f))) (hx : x = nI j) (hj : j < n) (hn : n < 2 ^ 31) (k : Rn d m (pc + 1) L (.int (f j) :: rest) h r) : Rn d m pc L (.int x :: .ref a :: rest) h r := by
  subst hx
  have hc : (nI j).toNatClampNeg = j := nI_clamp (by omega)
  refine Rn.one (am_one_h (n := 1) hat rfl ?_) k
  show (match am_nth h a with
    | some (.inl (.byte, n, .inl f)) => if nI j < 0 ∨ n ≤ (nI j).toNatClampNeg then none else some (1, Value.int (f (nI j).toNatClampNeg) :: rest, h)
    | _ => (none : AmQ)) = _
  rw [ha]
  simp only []
  rw [if_neg (by rw [hc]; exact fun q => q.elim (nI_pos (by omega)) (by omega)), hc]
theorem Rn.lald {a n : Nat} {f : Nat → Int64} {x : Int32} {j : Nat} (hat : am_at m.2.2.2.2.2 pc = some (.laload, len, v)) (ha : am_nth h a = some (.inl (.long, n, .inr (.inl f)))) (hx : x = nI j) (hj : j < n) (hn : n < 2 ^ 31) (k : Rn d m (pc + 1) L (.long (f j) :: rest) h r) : Rn d m pc L (.int x :: .ref a :: rest) h r := by
  subst hx
  have hc : (nI j).toNatClampNeg = j := nI_clamp (by omega)
  refine Rn.one (am_one_h (n := 1) hat rfl ?_) k
  show (match am_nth h a with
    | some (.inl (.long, n, .inr (.inl f))) => if nI j < 0 ∨ n ≤ (nI j).toNatClampNeg then none else some (1, Value.long (f (nI j).toNatClampNeg) :: rest, h)
    | _ => (none : AmQ)) = _
  rw [ha]
  simp only []
  rw [if_neg (by rw [hc]; exact fun q => q.elim (nI_pos (by omega)) (by omega)), hc]
theorem Rn.aald {a n b : Nat} {ty : FieldType} {f : Nat → Option Nat} {x : Int32} {j : Nat} (hat : am_at m.2.2.2.2.2 pc = some (.aaload, len, v)) (ha : am_nth h a = some (.inl (ty, n, .inr (.inr (.inr (.inr f)))))) (ht : am_isRf ty = true) (hx : x = nI j) (hj : j < n) (hn : n < 2 ^ 31) (hf : f j = some b) (k : Rn d m (pc + 1) L (.ref b :: rest) h r) : Rn d m pc L (.int x :: .ref a :: rest) h r := by
  subst hx
  have hc : (nI j).toNatClampNeg = j := nI_clamp (by omega)
  refine Rn.one (am_one_h (n := 1) hat rfl ?_) k
  show (match am_nth h a with
    | some (.inl (ty, n, .inr (.inr (.inr (.inr f))))) => bif am_isRf ty then (if nI j < 0 ∨ n ≤ (nI j).toNatClampNeg then none else (match f (nI j).toNatClampNeg with
      | some b => some (1, Value.ref b :: rest, h)
      | none => none)) else none
    | _ => (none : AmQ)) = _
  rw [ha]
  simp only [ht, cond_true]
  rw [if_neg (by rw [hc]; exact fun q => q.elim (nI_pos (by omega)) (by omega)), hc, hf]
theorem Rn.iast {a n : Nat} {f : Nat → Int32} {x y : Int32} {j : Nat} (hat : am_at m.2.2.2.2.2 pc = some (.iastore, len, v)) (ha : am_nth h a = some (.inl (.int, n, .inl f))) (hx : x = nI j) (hj : j < n) (hn : n < 2 ^ 31) (k : Rn d m (pc + 1) L rest (am_put h (.inl (.int, n, .inl (upd f j y))) a) r) : Rn d m pc L (.int y :: .int x :: .ref a :: rest) h r := by
  subst hx
  have hc : (nI j).toNatClampNeg = j := nI_clamp (by omega)
  refine Rn.one (am_one_h (n := 1) hat rfl ?_) k
  show (match am_nth h a with
    | some (.inl (.int, n, .inl f)) => if nI j < 0 ∨ n ≤ (nI j).toNatClampNeg then none else some (1, rest, am_put h (.inl (.int, n, .inl (upd f (nI j).toNatClampNeg y))) a)
    | _ => (none : AmQ)) = _
  rw [ha]
  simp only []
  rw [if_neg (by rw [hc]; exact fun q => q.elim (nI_pos (by omega)) (by omega)), hc]
theorem Rn.bast {a n : Nat} {f : Nat → Int32} {x y : Int32} {j : Nat} (hat : am_at m.2.2.2.2.2 pc = some (.bastore, len, v)) (ha : am_nth h a = some (.inl (.byte, n, .inl f))) (hx : x = nI j) (hj : j < n) (hn : n < 2 ^ 31) (k : Rn d m (pc + 1) L rest (am_put h (.inl (.byte, n, .inl (upd f j (vp_nar .byte y)))) a) r) : Rn d m pc L (.int y :: .int x :: .ref a :: rest) h r := by
  subst hx
  have hc : (nI j).toNatClampNeg = j := nI_clamp (by omega)
  refine Rn.one (am_one_h (n := 1) hat rfl ?_) k
  show (match am_nth h a with
    | some (.inl (.byte, n, .inl f)) => if nI j < 0 ∨ n ≤ (nI j).toNatClampNeg then none else some (1, rest, am_put h (.inl (.byte, n, .inl (upd f (nI j).toNatClampNeg (vp_nar .byte y)))) a)
    | _ => (none : AmQ)) = _
  rw [ha]
  simp only []
  rw [if_neg (by rw [hc]; exact fun q => q.elim (nI_pos (by omega)) (by omega)), hc]
theorem Rn.last {a n : Nat} {f : Nat → Int64} {x : Int32} {y : Int64} {j : Nat} (hat : am_at m.2.2.2.2.2 pc = some (.lastore, len, v)) (ha : am_nth h a = some (.inl (.long, n, .inr (.inl f)))) (hx : x = nI j) (hj : j < n) (hn : n < 2 ^ 31) (k : Rn d m (pc + 1) L rest (am_put h (.inl (.long, n, .inr (.inl (vp_updL f j y)))) a) r) : Rn d m pc L (.long y :: .int x :: .ref a :: rest) h r := by
  subst hx
  have hc : (nI j).toNatClampNeg = j := nI_clamp (by omega)
  refine Rn.one (am_one_h (n := 1) hat rfl ?_) k
  show (match am_nth h a with
    | some (.inl (.long, n, .inr (.inl f))) => if nI j < 0 ∨ n ≤ (nI j).toNatClampNeg then none else some (1, rest, am_put h (.inl (.long, n, .inr (.inl (vp_updL f (nI j).toNatClampNeg y)))) a)
    | _ => (none : AmQ)) = _
  rw [ha]
  simp only []
  rw [if_neg (by rw [hc]; exact fun q => q.elim (nI_pos (by omega)) (by omega)), hc]
theorem am_isT_ret (hat : am_at m.2.2.2.2.2 pc = some (i, len, v)) (hr : am_ret m.2.2.2.2.1 i st = some rv) : am_isT m pc L st h = some rv := by
  unfold am_isT am_one
  rw [hat]
  simp only [(am_ret_no hr).1, (am_ret_no hr).2]
  exact hr
/-- a truth value is returned -/
theorem Rn.rb {x : Int32} (hat : am_at m.2.2.2.2.2 pc = some (.ireturn, len, v)) (hr : m.2.2.2.2.1 = some .boolean) (hb : am_isB x = true) : Rn d m pc L [.int x] h (some (.int x), h, 0, 0) := by
  refine Rn.ret (am_isT_ret hat ?_)
  rw [hr]
  show (bif am_isB x then some (some (Value.int x)) else none) = _
  rw [hb]
  rfl
/-- deeper is no harm -/
theorem am_run_deep : ∀ (n d : Nat) (m : AmM) (pc : Nat) (L : AmL) (st : List Value) (h : AmH) (r : AmR), am_run n d m pc L st h = some r → am_run n (d + 1) m pc L st h = some r
  | 0, _, _, _, _, _, _, _, e => nomatch e
  | n + 1, d, m, pc, L, st, h, r, e => by
    have e : am_stp (am_run n) d m pc L st h = some r := e
    show am_stp (am_run n) (d + 1) m pc L st h = some r
    unfold am_stp at e ⊢
    cases h1 : am_one m pc L st h with
    | some q =>
      obtain ⟨pc', L', st', h'⟩ := q
      rw [h1] at e
      exact am_run_deep n d _ _ _ _ _ _ e
    | none =>
      rw [h1] at e
      have e : am_more (am_run n) d m pc L st h = some r := e
      show am_more (am_run n) (d + 1) m pc L st h = some r
      unfold am_more at e ⊢
      cases h2 : am_at m.2.2.2.2.2 pc with
      | none => rw [h2] at e; cases e
      | some x =>
        obtain ⟨i, len, v⟩ := x
        rw [h2] at e
        simp only [] at e ⊢
        cases h3 : am_ret m.2.2.2.2.1 i st with
        | some q => rw [h3] at e; exact e
        | none =>
          rw [h3] at e
          simp only [] at e ⊢
          cases h4 : am_new m.2.2.1 h.length i st with
          | some q =>
            obtain ⟨n2, cs, st', j⟩ := q
            rw [h4] at e
            simp only [] at e ⊢
            obtain ⟨v2, h2', k2, j2⟩ := r
            obtain ⟨a', b', e1, rfl, rfl⟩ := am_add_eq e
            rw [am_run_deep n d _ _ _ _ _ _ e1]
            rfl
          | none =>
            rw [h4] at e
            simp only [] at e ⊢
            cases h5 : am_call m.2.2.1 i st h with
            | none => rw [h5] at e; cases e
            | some q =>
              obtain ⟨m', as, rs⟩ := q
              rw [h5] at e
              simp only [] at e ⊢
              cases d with
              | zero => exact nomatch e
              | succ d' =>
                simp only [] at e ⊢
                cases h6 : am_run n d' m' 0 (am_ent as m'.2.2.2.1) [] h with
                | none => rw [h6] at e; cases e
                | some q =>
                  obtain ⟨v1, h1', k1, j1⟩ := q
                  rw [h6] at e
                  rw [am_run_deep n d' _ _ _ _ _ _ h6]
                  simp only [] at e ⊢
                  obtain ⟨v2, h2', k2, j2⟩ := r
                  obtain ⟨a', b', e1, rfl, rfl⟩ := am_add_eq e
                  rw [am_run_deep n (d' + 1) _ _ _ _ _ _ e1]
                  rfl
theorem Rn.deep {d' : Nat} (hd : d ≤ d') (k : Rn d m pc L st h r) : Rn d' m pc L st h r := by
  induction hd with
  | refl => exact k
  | step _ ih =>
    obtain ⟨n, hn⟩ := ih
    exact ⟨n, am_run_deep n _ _ _ _ _ _ _ hn⟩
end RnRows2
/-- h laid over G at the places ρ, from place k of h on -/
noncomputable def am_ov (ρ : Nat → Nat) (h : AmH) : Nat → AmH → AmH := List.rec (fun _ G => G) (fun e _ ih k G => ih (k + 1) (am_put G (am_re ρ e) (ρ k))) h
theorem am_ov_len (ρ : Nat → Nat) : ∀ (h : AmH) (k : Nat) (G : AmH), (am_ov ρ h k G).length = G.length
  | [], _, _ => rfl
  | e :: h, k, G => by
    show (am_ov ρ h (k + 1) (am_put G (am_re ρ e) (ρ k))).length = G.length
    rw [am_ov_len ρ h, am_put_eq, List.length_set]
theorem am_ov_out (ρ : Nat → Nat) : ∀ (h : AmH) (k : Nat) (G : AmH) (p : Nat), (∀ i, i < h.length → ρ (k + i) ≠ p) → (am_ov ρ h k G)[p]? = G[p]?
  | [], _, _, _, _ => rfl
  | e :: h, k, G, p, hp => by
    show (am_ov ρ h (k + 1) (am_put G (am_re ρ e) (ρ k)))[p]? = G[p]?
    rw [am_ov_out ρ h (k + 1) _ p (fun i hi => by rw [show k + 1 + i = k + (i + 1) by omega]; exact hp (i + 1) (by rw [List.length_cons]; omega)), am_put_eq, List.getElem?_set, if_neg (show ¬ ρ k = p from hp 0 (Nat.succ_pos _))]
theorem am_ov_in (ρ : Nat → Nat) : ∀ (h : AmH) (k : Nat) (G : AmH) (i : Nat) (e : AmE), (∀ a b, a < h.length → b < h.length → ρ (k + a) = ρ (k + b) → a = b) → h[i]? = some e → ρ (k + i) < G.length → (am_ov ρ h k G)[ρ (k + i)]? = some (am_re ρ e)
  | [], _, _, i, e, _, h, _ => by simp at h
  | x :: h, k, G, 0, e, hi, he, hl => by
    cases he
    show (am_ov ρ h (k + 1) (am_put G (am_re ρ x) (ρ k)))[ρ k]? = some (am_re ρ x)
    rw [am_ov_out ρ h (k + 1) _ (ρ k) (fun i hil q => by
      have := hi 0 (i + 1) (Nat.succ_pos _) (by rw [List.length_cons]; omega) (by rw [show k + 0 = k from rfl, show k + (i + 1) = k + 1 + i by omega]; exact q.symm)
      omega), am_put_eq, List.getElem?_set, if_pos rfl, if_pos (show ρ k < G.length from hl)]
  | x :: h, k, G, i + 1, e, hi, he, hl => by
    show (am_ov ρ h (k + 1) (am_put G (am_re ρ x) (ρ k)))[ρ (k + (i + 1))]? = some (am_re ρ e)
    have e1 : k + (i + 1) = k + 1 + i := by omega
    rw [e1] at hl ⊢
    exact am_ov_in ρ h (k + 1) _ i e (fun a b ha hb q => by
      have := hi (a + 1) (b + 1) (by rw [List.length_cons]; omega) (by rw [List.length_cons]; omega) (by rw [show k + (a + 1) = k + 1 + a by omega, show k + (b + 1) = k + 1 + b by omega]; exact q)
      omega) he (by rw [am_put_eq, List.length_set]; exact hl)
/-- the places of a part of a heap -/
def am_ps (ps : List Nat) : Nat → Nat := fun k => ps.getD k (k - 1000)
/-- THE FRAME for contracts: what was run in a small heap, run where it lies at the places ps of another -/
theorem Rn.fr {d : Nat} {m : AmM} {as : List Value} {h h' : AmH} {rv : Option Value} (hr : Rn d m 0 (am_ent as m.2.2.2.1) [] h (rv, h', 0, 0)) (hC : am_cok m) (ps : List Nat) (G : AmH) (hl : ps.length = h.length) (hnd : va_nd ps = true) (hg : ∀ (k : Nat) (e : AmE), h[k]? = some e → G[ps.getD k (k - 1000)]? = some (am_re (am_ps ps) e)) : Rn d m 0 (am_ent (as.map (am_rn (am_ps ps))) m.2.2.2.1) [] G (rv.map (am_rn (am_ps ps)), am_ov (am_ps ps) h' 0 G, 0, 0) := by
  obtain ⟨n, hn⟩ := hr
  have hat : ∀ i, i < ps.length → ps[i]? = some (am_ps ps i) := fun i hi => by
    unfold am_ps
    simp [List.getD, hi]
  have hinj : ∀ i j, i < h.length → j < h.length → am_ps ps i = am_ps ps j → i = j := fun i j hi hj q => va_nd_inj ps hnd i j (am_ps ps i) (hat i (by omega)) (by rw [q]; exact hat j (by omega))
  obtain ⟨e1, G', e2, e3, e4⟩ := am_frm n d m _ _ _ _ _ _ _ hn hC (am_ps ps) G ⟨hinj, hg⟩
  have hG : G' = am_ov (am_ps ps) h' 0 G := by
    apply List.ext_getElem?
    intro p
    by_cases hp : ∃ k, k < h.length ∧ am_ps ps k = p
    · obtain ⟨k, hk, rfl⟩ := hp
      obtain ⟨x, hx⟩ : ∃ x, h'[k]? = some x := ⟨_, List.getElem?_eq_getElem (by omega)⟩
      have h1 := e3.2 k x hx
      have hlt : am_ps ps k < G.length := by
        rw [← e4.1]
        exact (List.getElem?_eq_some_iff.mp h1).1
      have h2 := am_ov_in (am_ps ps) h' 0 G k x (fun a b ha hb q => hinj a b (by omega) (by omega) (by simpa using q)) hx (by rw [Nat.zero_add]; exact hlt)
      rw [Nat.zero_add] at h2
      rw [h1, h2]
    · rw [e4.2 p (fun k hk q => hp ⟨k, hk, q⟩), am_ov_out (am_ps ps) h' 0 G p (fun i hi q => hp ⟨i, by omega, by simpa using q⟩)]
  refine ⟨n, ?_⟩
  have e2 : am_run n d m 0 (am_rl (am_ps ps) (am_ent as m.2.2.2.1)) [] G = some (rv.map (am_rn (am_ps ps)), G', 0, 0) := e2
  rw [am_ent_rn, e2, hG]

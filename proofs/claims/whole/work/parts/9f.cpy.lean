/-! arraycopy of whole rows -/
def cpI (f g : Int → Int) (k : Nat) : Int → Int := fun i => if 0 ≤ i ∧ i < k then f i else g i
theorem cpI_lt {f g : Int → Int} {k : Nat} {i : Int} (h0 : 0 ≤ i) (h1 : i < k) : cpI f g k i = f i := if_pos ⟨h0, h1⟩
theorem va_cpy_av (f g : Int → Int) (k : Nat) : va_cpy (av f) (av g) 0 0 k = av (cpI f g k) := by
  funext i
  unfold va_cpy av cpI
  by_cases q : i < k
  · rw [if_pos ⟨Nat.zero_le _, by omega⟩, if_pos ⟨by omega, by omega⟩, show 0 + (i - 0) = i by omega]
  · rw [if_neg (fun x => q (by omega)), if_neg (fun x => q (by omega))]
theorem Rx.cpy {d : Nat} {m : AmM} {pc : Nat} {L : AmL} {h h' : AmH} {P : Option Value → AmH → Prop} {rest : List Value} {len x a b n0 n1 : Nat} {v : Value} {f g : Int → Int} (k : Nat) (hat : am_at m.2.2.2.2.2 pc = some (.invokestatic x, len, v)) (hs : am_look (am_sl m.2.2.1) x = some 1) (ha : am_nth h a = some (.inl (.int, n0, .inl (av f)))) (hb : am_nth h b = some (.inl (.int, n1, .inl (av g)))) (hl : am_low rest = true) (h0 : k ≤ n0) (h1 : k ≤ n1) (hk : k < 2147483648) (hh : am_put h (.inl (.int, n1, .inl (av (cpI f g k)))) b = h') (kk : Rx d m (pc + 3) L rest h' P) : Rx d m pc L (.int (iz (k : Int)) :: .int (iz 0) :: .ref b :: .int (iz 0) :: .ref a :: rest) h P := by
  have hc : (iz (k : Int)).toNatClampNeg = k := by rw [iz_nI]; exact nI_clamp (by omega)
  have hz : (iz 0).toNatClampNeg = 0 := by decide
  have hp : ¬ iz (k : Int) < 0 := by rw [iz_nI]; exact nI_pos (by omega)
  refine Rx.one (am_one_h (n := 3) hat rfl ?_) kk
  show (match am_look (am_sl m.2.2.1) x with
    | some kq => am_spc kq (.int (iz (k : Int)) :: .int (iz 0) :: .ref b :: .int (iz 0) :: .ref a :: rest) h
    | none => (none : AmQ)) = _
  rw [hs]
  show (bif !am_low rest then (none : AmQ) else match am_nth h a, am_nth h b with
    | some (.inl (.int, n0, .inl f)), some (.inl (.int, n1, .inl g)) => if iz 0 < 0 ∨ iz 0 < 0 ∨ iz (k : Int) < 0 ∨ n0 < (iz 0).toNatClampNeg + (iz (k : Int)).toNatClampNeg ∨ n1 < (iz 0).toNatClampNeg + (iz (k : Int)).toNatClampNeg then none else some (3, rest, am_put h (.inl (.int, n1, .inl (va_cpy f g (iz 0).toNatClampNeg (iz 0).toNatClampNeg (iz (k : Int)).toNatClampNeg))) b)
    | _, _ => none) = _
  rw [hl, ha, hb]
  simp only [Bool.not_true, cond_false]
  rw [hc, hz, va_cpy_av, hh, if_neg (by
    rintro (q | q | q | q | q)
    · exact absurd q (by decide)
    · exact absurd q (by decide)
    · exact hp q
    · omega
    · omega)]

/-! rules as texts: what is read (told or not, where, code, value) -/
abbrev RsT : Type := Bool × Int × List Int × ((Int → Int) → Int)
def rsF (p : Int) : RsT := (false, p, [], fun _ => 0)
def ltr (c : Int) : Int := if c = 118 then 0 else if c = 116 then 1 else if c = 110 then 2 else if c = 105 then 3 else if c = 115 then 4 else if c = 111 then 5 else -1
def wtn (x : Int) : Int := max (-1000000) (min 1000000 x)
/-- a sign of reckoning -/
def rk (op x y : Int) : Int := if op = -1 then wtn (x + y) else if op = -2 then wtn (x - y) else if op = -3 then wtn (x * y) else if op = -4 then (if y = 0 then 0 else x.tdiv y) else if op = -5 then (if x = y then 1 else 0) else if op = -6 then (if x < y then 1 else 0) else if op = -7 then (if y < x then 1 else 0) else if op = -8 then (if x = 1 ∧ y = 1 then 1 else 0) else (if x = 1 ∨ y = 1 then 1 else 0)
def cmpS (c : Int) : Int := if c = 61 then -5 else if c = 60 then -6 else if c = 62 then -7 else 0
section Rd
variable (n : Int) (b : Int → Int)
/-- goes on at the next sign -/
def rsK (r : RsT) (k : Int → RsT) : RsT := if r.1 = true then k r.2.1 else rsF r.2.1
def atomG (S : Option (Int → RsT)) (a : Int) : RsT :=
  if sg n b (sks n b a) = 91 then
    (match S with
    | none => rsF (sks n b a)
    | some f => if (f (sks n b a + 1)).1 = true then (if sg n b (sks n b (f (sks n b a + 1)).2.1) = 93 then (true, sks n b (f (sks n b a + 1)).2.1 + 1, (f (sks n b a + 1)).2.2) else rsF (sks n b (f (sks n b a + 1)).2.1)) else rsF (f (sks n b a + 1)).2.1)
  else if ltr (sg n b (sks n b a)) ≠ -1 then (true, sks n b a + 1, [-13 - ltr (sg n b (sks n b a))], fun L => L (ltr (sg n b (sks n b a))))
  else if isD n b (sks n b a) = true then (if isD n b (dg n b 4 (sks n b a) 0).1 = true then rsF (dg n b 4 (sks n b a) 0).1 else (true, (dg n b 4 (sks n b a) 0).1, [(dg n b 4 (sks n b a) 0).2], fun _ => (dg n b 4 (sks n b a) 0).2))
  else rsF (sks n b a)
/-- operands with signs of one rank between: o1, o2 the bytes, e1, e2 the signs -/
def opL (o1 o2 e1 e2 : Int) (A : Int → RsT) : Nat → RsT → RsT
  | 0, r => r
  | k + 1, r => if r.1 = true then (if sg n b (sks n b r.2.1) = o1 ∨ sg n b (sks n b r.2.1) = o2 then (if (A (sks n b r.2.1 + 1)).1 = true then opL o1 o2 e1 e2 A k (true, (A (sks n b r.2.1 + 1)).2.1, r.2.2.1 ++ (A (sks n b r.2.1 + 1)).2.2.1 ++ [if sg n b (sks n b r.2.1) = o1 then e1 else e2], fun L => rk (if sg n b (sks n b r.2.1) = o1 then e1 else e2) (r.2.2.2 L) ((A (sks n b r.2.1 + 1)).2.2.2 L)) else rsF (A (sks n b r.2.1 + 1)).2.1) else (true, sks n b r.2.1, r.2.2)) else r
def opG (o1 o2 e1 e2 : Int) (A : Int → RsT) (a : Int) : RsT := opL n b o1 o2 e1 e2 A 161 (A a)
def termG (A : Int → RsT) : Int → RsT := opG n b 42 47 (-3) (-4) A
def sumG (A : Int → RsT) : Int → RsT := opG n b 43 45 (-1) (-2) (termG n b A)
def sumR : Nat → Int → RsT
  | 0 => sumG n b (atomG n b none)
  | r + 1 => sumG n b (atomG n b (some (sumR r)))
def atomR : Nat → Int → RsT
  | 0 => atomG n b none
  | r + 1 => atomG n b (some (sumR n b r))
theorem sumR_eq (r : Nat) : sumR n b r = sumG n b (atomR n b r) := by cases r <;> rfl
/-- what a reader may say: it goes forward, and no more signs than bytes -/
def rdOK (R : Int → RsT) : Prop := ∀ a : Int, 0 ≤ a → a ≤ n → a ≤ (R a).2.1 ∧ (R a).2.1 ≤ n ∧ ((R a).1 = true → ((R a).2.2.1.length : Int) + a ≤ (R a).2.1 ∧ a < (R a).2.1)
end Rd
section RdL
variable {n : Int} {b : Int → Int}
theorem sk_lt {a c : Int} (ha : a ≤ n) (h : sg n b (sks n b a) = c) (hc : c ≠ -1) : sks n b a < n := by
  rcases Int.lt_or_le (sks n b a) n with q | q
  · exact q
  · rw [sg_ge q] at h; omega
theorem rsF_1 (p : Int) : (rsF p).1 = false ∧ (rsF p).2.1 = p := ⟨rfl, rfl⟩
theorem atomG_ok {S : Option (Int → RsT)} (hS : ∀ f, S = some f → rdOK n f) : rdOK n (atomG n b S) := fun a a0 a1 => by
  have s1 := sks_le n b a
  have s2 := sks_n b a1
  unfold atomG
  split
  · rename_i h
    have hlt := sk_lt a1 h (by decide)
    cases S with
    | none => exact ⟨s1, s2, fun q => absurd q (by simp [rsF])⟩
    | some f =>
      obtain ⟨f1, f2, f3⟩ := hS f rfl (sks n b a + 1) (by omega) (by omega)
      have t1 := sks_le n b (f (sks n b a + 1)).2.1
      have t2 := sks_n b f2
      simp only []
      split
      · rename_i hf
        split
        · rename_i hc
          have := sk_lt f2 hc (by decide)
          have := f3 hf
          refine ⟨?_, ?_, fun _ => ⟨?_, ?_⟩⟩
          · show a ≤ sks n b (f (sks n b a + 1)).2.1 + 1; omega
          · show sks n b (f (sks n b a + 1)).2.1 + 1 ≤ n; omega
          · show ((f (sks n b a + 1)).2.2.1.length : Int) + a ≤ sks n b (f (sks n b a + 1)).2.1 + 1; omega
          · show a < sks n b (f (sks n b a + 1)).2.1 + 1; omega
        · exact ⟨by show a ≤ sks n b (f (sks n b a + 1)).2.1; omega, t2, fun q => absurd q (by simp [rsF])⟩
      · exact ⟨by show a ≤ (f (sks n b a + 1)).2.1; omega, f2, fun q => absurd q (by simp [rsF])⟩
  · split
    · rename_i h
      have hlt : sks n b a < n := by
        rcases Int.lt_or_le (sks n b a) n with q | q
        · exact q
        · rw [sg_ge q] at h; exact absurd rfl h
      refine ⟨?_, ?_, fun _ => ⟨?_, ?_⟩⟩
      · show a ≤ sks n b a + 1; omega
      · show sks n b a + 1 ≤ n; omega
      · show ((1 : Nat) : Int) + a ≤ sks n b a + 1; omega
      · show a < sks n b a + 1; omega
    · split
      · rename_i h
        have hp := dg_props (n := n) (b := b) 3 (sks n b a + 1) (10 * 0 + b (sks n b a) - 48) (by have := (isD_t.mp h).1; omega) (by have := (isD_t.mp h).2; omega)
        rw [← dg_t h] at hp
        have hp : sks n b a + 1 ≤ (dg n b 4 (sks n b a) 0).1 ∧ (dg n b 4 (sks n b a) 0).1 ≤ n := ⟨hp.1, hp.2.1⟩
        split
        · exact ⟨by show a ≤ (dg n b 4 (sks n b a) 0).1; omega, hp.2, fun q => absurd q (by simp [rsF])⟩
        · refine ⟨?_, hp.2, fun _ => ⟨?_, ?_⟩⟩
          · show a ≤ (dg n b 4 (sks n b a) 0).1; omega
          · show ((1 : Nat) : Int) + a ≤ (dg n b 4 (sks n b a) 0).1; omega
          · show a < (dg n b 4 (sks n b a) 0).1; omega
      · exact ⟨s1, s2, fun q => absurd q (by simp [rsF])⟩
theorem opL_ok {o1 o2 e1 e2 : Int} {A : Int → RsT} (hA : rdOK n A) (h1 : o1 ≠ -1) (h2 : o2 ≠ -1) : ∀ (k : Nat) (r : RsT) (a : Int), 0 ≤ a → a ≤ r.2.1 → r.2.1 ≤ n → (r.1 = true → (r.2.2.1.length : Int) + a ≤ r.2.1 ∧ a < r.2.1) → a ≤ (opL n b o1 o2 e1 e2 A k r).2.1 ∧ (opL n b o1 o2 e1 e2 A k r).2.1 ≤ n ∧ ((opL n b o1 o2 e1 e2 A k r).1 = true → ((opL n b o1 o2 e1 e2 A k r).2.2.1.length : Int) + a ≤ (opL n b o1 o2 e1 e2 A k r).2.1 ∧ a < (opL n b o1 o2 e1 e2 A k r).2.1)
  | 0, r, a, a0, ar, rn, hr => ⟨ar, rn, hr⟩
  | k + 1, r, a, a0, ar, rn, hr => by
    have s1 := sks_le n b r.2.1
    have s2 := sks_n b rn
    unfold opL
    split
    · rename_i hok
      have hr := hr hok
      split
      · rename_i ho
        have hlt : sks n b r.2.1 < n := by
          rcases ho with ho | ho
          · exact sk_lt rn ho h1
          · exact sk_lt rn ho h2
        obtain ⟨q1, q2, q3⟩ := hA (sks n b r.2.1 + 1) (by omega) (by omega)
        split
        · rename_i hq
          have q3 := q3 hq
          refine opL_ok hA h1 h2 k _ a a0 ?_ ?_ (fun _ => ⟨?_, ?_⟩)
          · show a ≤ (A (sks n b r.2.1 + 1)).2.1; omega
          · exact q2
          · show ((r.2.2.1 ++ (A (sks n b r.2.1 + 1)).2.2.1 ++ [_]).length : Int) + a ≤ (A (sks n b r.2.1 + 1)).2.1
            rw [List.length_append, List.length_append]
            show ((r.2.2.1.length + (A (sks n b r.2.1 + 1)).2.2.1.length + 1 : Nat) : Int) + a ≤ _
            omega
          · show a < (A (sks n b r.2.1 + 1)).2.1; omega
        · exact ⟨by show a ≤ (A (sks n b r.2.1 + 1)).2.1; omega, q2, fun q => absurd q (by simp [rsF])⟩
      · refine ⟨?_, s2, fun _ => ⟨?_, ?_⟩⟩
        · show a ≤ sks n b r.2.1; omega
        · show (r.2.2.1.length : Int) + a ≤ sks n b r.2.1; omega
        · show a < sks n b r.2.1; omega
    · exact ⟨ar, rn, hr⟩
theorem opG_ok {o1 o2 e1 e2 : Int} {A : Int → RsT} (hA : rdOK n A) (h1 : o1 ≠ -1) (h2 : o2 ≠ -1) : rdOK n (opG n b o1 o2 e1 e2 A) := fun a a0 a1 => by
  obtain ⟨q1, q2, q3⟩ := hA a a0 a1
  exact opL_ok hA h1 h2 161 (A a) a a0 q1 q2 q3
theorem sumG_ok {A : Int → RsT} (hA : rdOK n A) : rdOK n (sumG n b A) := opG_ok (opG_ok hA (by decide) (by decide)) (by decide) (by decide)
theorem sumR_ok : ∀ r : Nat, rdOK n (sumR n b r)
  | 0 => sumG_ok (atomG_ok (fun f h => by cases h))
  | r + 1 => sumG_ok (atomG_ok (fun f h => by cases h; exact sumR_ok r))
theorem atomR_ok : ∀ r : Nat, rdOK n (atomR n b r)
  | 0 => atomG_ok (fun f h => by cases h)
  | r + 1 => atomG_ok (fun f h => by cases h; exact sumR_ok r)
/-- more fuel than bytes changes nothing -/
theorem opL_s {o1 o2 e1 e2 : Int} {A : Int → RsT} (k : Nat) (r : RsT) : opL n b o1 o2 e1 e2 A (k + 1) r = if r.1 = true then (if sg n b (sks n b r.2.1) = o1 ∨ sg n b (sks n b r.2.1) = o2 then (if (A (sks n b r.2.1 + 1)).1 = true then opL n b o1 o2 e1 e2 A k (true, (A (sks n b r.2.1 + 1)).2.1, r.2.2.1 ++ (A (sks n b r.2.1 + 1)).2.2.1 ++ [if sg n b (sks n b r.2.1) = o1 then e1 else e2], fun L => rk (if sg n b (sks n b r.2.1) = o1 then e1 else e2) (r.2.2.2 L) ((A (sks n b r.2.1 + 1)).2.2.2 L)) else rsF (A (sks n b r.2.1 + 1)).2.1) else (true, sks n b r.2.1, r.2.2)) else r := rfl
end RdL
/-- what the class's reading leaves: r, the place, the code -/
def rdR (n : Int) (b : Int → Int) (R : RsT) (sz : Int) (cd : Int → Int) (r a' sz' : Int) (cd' : Int → Int) : Prop := (R.1 = true ∧ r = 1 ∧ a' = R.2.1 ∧ sz' = sz + R.2.2.1.length ∧ lsI sz'.toNat cd' = lsI sz.toNat cd ++ R.2.2.1) ∨ (R.1 = false ∧ a' = R.2.1 ∧ (0 ≤ sz' ∧ sz' ≤ 161) ∧ (r = 0 ∨ (r = 1 ∧ isD n b a' = true)))
section RdS
variable {n : Int} {b : Int → Int} {o1 o2 e1 e2 : Int} {A : Int → RsT}
/-- one more operand -/
def opN (acc q : RsT) (op : Int) : RsT := if q.1 = true then (true, q.2.1, acc.2.2.1 ++ q.2.2.1 ++ [op], fun L => rk op (acc.2.2.2 L) (q.2.2.2 L)) else rsF q.2.1
theorem opL_f {k : Nat} {r : RsT} (h : r.1 = false) : opL n b o1 o2 e1 e2 A k r = r := by
  cases k with
  | zero => rfl
  | succ k => rw [opL_s, if_neg (by rw [h]; decide)]
theorem opL_e {k : Nat} {r : RsT} (h : r.1 = true) (h1 : sg n b (sks n b r.2.1) ≠ o1) (h2 : sg n b (sks n b r.2.1) ≠ o2) : opL n b o1 o2 e1 e2 A (k + 1) r = (true, sks n b r.2.1, r.2.2) := by
  rw [opL_s, if_pos h, if_neg (fun q => q.elim h1 h2)]
theorem opL_n {k : Nat} {r : RsT} (h : r.1 = true) (h1 : sg n b (sks n b r.2.1) = o1 ∨ sg n b (sks n b r.2.1) = o2) : opL n b o1 o2 e1 e2 A (k + 1) r = opL n b o1 o2 e1 e2 A k (opN r (A (sks n b r.2.1 + 1)) (if sg n b (sks n b r.2.1) = o1 then e1 else e2)) := by
  rw [opL_s, if_pos h, if_pos h1]
  unfold opN
  split
  · rfl
  · exact (opL_f rfl).symm
theorem rdR_op {acc q : RsT} {op sz0 sz sz1 sz2 a' : Int} {cd0 cd cd1 cd2 : Int → Int} (z0 : 0 ≤ sz0) (hsz : sz = sz0 + acc.2.2.1.length) (hl : lsI sz.toNat cd = lsI sz0.toNat cd0 ++ acc.2.2.1) (hA : rdR n b q sz cd 1 a' sz1 cd1) (hem : (sz1 < 161 ∧ sz2 = sz1 + 1 ∧ lsI sz2.toNat cd2 = lsI sz1.toNat cd1 ++ [op]) ∨ (sz1 = 161 ∧ sz2 = 161)) (hb : q.1 = true → sz1 < 161) : rdR n b (opN acc q op) sz0 cd0 1 a' sz2 cd2 := by
  rcases hA with ⟨h1, h2, h3, h4, h5⟩ | ⟨h1, h2, h3, h4⟩
  · have hb := hb h1
    rcases hem with ⟨m1, m2, m3⟩ | ⟨m1, m2⟩
    · refine Or.inl ?_
      unfold opN
      rw [if_pos h1]
      refine ⟨rfl, rfl, h3, ?_, ?_⟩
      · show sz2 = sz0 + ((acc.2.2.1 ++ q.2.2.1 ++ [op]).length : Int)
        rw [List.length_append, List.length_append]
        show sz2 = sz0 + ((acc.2.2.1.length + q.2.2.1.length + 1 : Nat) : Int)
        omega
      · show lsI sz2.toNat cd2 = lsI sz0.toNat cd0 ++ (acc.2.2.1 ++ q.2.2.1 ++ [op])
        rw [m3, h5, hl, List.append_assoc, List.append_assoc, List.append_assoc]
    · omega
  · refine Or.inr ?_
    unfold opN
    rw [if_neg (by rw [h1]; decide)]
    exact ⟨rfl, h2, by omega, h4⟩
end RdS
section Atom
variable {n : Int} {b : Int → Int} {f : Int → RsT} {S : Option (Int → RsT)} {a : Int}
theorem atomG_n (h : sg n b (sks n b a) = 91) : atomG n b none a = rsF (sks n b a) := by unfold atomG; rw [if_pos h]
theorem atomG_f (h : sg n b (sks n b a) = 91) (hf : (f (sks n b a + 1)).1 = false) : atomG n b (some f) a = rsF (f (sks n b a + 1)).2.1 := by
  unfold atomG
  rw [if_pos h]
  simp only []
  rw [if_neg (by rw [hf]; decide)]
theorem atomG_c (h : sg n b (sks n b a) = 91) (hf : (f (sks n b a + 1)).1 = true) (hc : sg n b (sks n b (f (sks n b a + 1)).2.1) ≠ 93) : atomG n b (some f) a = rsF (sks n b (f (sks n b a + 1)).2.1) := by
  unfold atomG
  rw [if_pos h]
  simp only []
  rw [if_pos hf, if_neg hc]
theorem atomG_o (h : sg n b (sks n b a) = 91) (hf : (f (sks n b a + 1)).1 = true) (hc : sg n b (sks n b (f (sks n b a + 1)).2.1) = 93) : atomG n b (some f) a = (true, sks n b (f (sks n b a + 1)).2.1 + 1, (f (sks n b a + 1)).2.2) := by
  unfold atomG
  rw [if_pos h]
  simp only []
  rw [if_pos hf, if_pos hc]
theorem atomG_l (h : sg n b (sks n b a) ≠ 91) (hl : ltr (sg n b (sks n b a)) ≠ -1) : atomG n b S a = (true, sks n b a + 1, [-13 - ltr (sg n b (sks n b a))], fun L => L (ltr (sg n b (sks n b a)))) := by
  unfold atomG
  rw [if_neg h, if_pos hl]
theorem atomG_d (h : sg n b (sks n b a) ≠ 91) (hl : ltr (sg n b (sks n b a)) = -1) (hd : isD n b (sks n b a) = true) (hn : isD n b (dg n b 4 (sks n b a) 0).1 = false) : atomG n b S a = (true, (dg n b 4 (sks n b a) 0).1, [(dg n b 4 (sks n b a) 0).2], fun _ => (dg n b 4 (sks n b a) 0).2) := by
  unfold atomG
  rw [if_neg h, if_neg (fun q => q hl), if_pos hd, if_neg (by rw [hn]; decide)]
theorem atomG_e (h : sg n b (sks n b a) ≠ 91) (hl : ltr (sg n b (sks n b a)) = -1) (hd : isD n b (sks n b a) = true) (hn : isD n b (dg n b 4 (sks n b a) 0).1 = true) : atomG n b S a = rsF (dg n b 4 (sks n b a) 0).1 := by
  unfold atomG
  rw [if_neg h, if_neg (fun q => q hl), if_pos hd, if_pos hn]
theorem atomG_z (h : sg n b (sks n b a) ≠ 91) (hl : ltr (sg n b (sks n b a)) = -1) (hd : isD n b (sks n b a) = false) : atomG n b S a = rsF (sks n b a) := by
  unfold atomG
  rw [if_neg h, if_neg (fun q => q hl), if_neg (by rw [hd]; decide)]
end Atom
theorem ltr_b (c : Int) : -1 ≤ ltr c ∧ ltr c ≤ 5 := by
  unfold ltr
  split
  · omega
  · split
    · omega
    · split
      · omega
      · split
        · omega
        · split
          · omega
          · split <;> omega

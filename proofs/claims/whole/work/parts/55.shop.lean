/-! a shop's text -/
def shI (g : Int → Int) : Prop := g 0 = 0 ∧ ∀ i, 0 ≤ i → i ≤ 4 → 0 ≤ g i ∧ g i ≤ 99
def lst (g : Int → Int) : Int → List Int → Prop
  | _, [] => True
  | i, x :: l => g i = x ∧ lst g (i + 1) l
theorem lst_iu {g : Int → Int} {j y : Int} : ∀ {l : List Int} {i : Int}, j < i → lst g i l → lst (iu g j y) i l
  | [], _, _, _ => trivial
  | x :: l, i, h, q => ⟨by rw [iu_ne _ _ (by omega)]; exact q.1, lst_iu (by omega) q.2⟩
theorem lst_at {g : Int → Int} : ∀ {l : List Int} {i : Int}, lst g i l → ∀ (k : Nat) (x : Int), l[k]? = some x → g (i + k) = x
  | [], _, _, k, x, h => by simp at h
  | y :: l, i, q, 0, x, h => by cases h; rw [show i + ((0 : Nat) : Int) = i by omega]; exact q.1
  | y :: l, i, q, k + 1, x, h => by
    have := lst_at q.2 k x h
    rw [show i + ((k + 1 : Nat) : Int) = i + 1 + (k : Int) by omega]
    exact this
theorem lst_cg {g g' : Int → Int} : ∀ {l : List Int} {i : Int}, (∀ j, i ≤ j → j < i + l.length → g' j = g j) → lst g i l → lst g' i l
  | [], _, _, _ => trivial
  | x :: l, i, h, q => ⟨by rw [h i (by omega) (by simp only [List.length_cons]; omega)]; exact q.1, lst_cg (fun j h1 h2 => h j (by omega) (by simp only [List.length_cons]; omega)) q.2⟩
theorem nmP_props {n : Int} {b : Int → Int} {lo hi a : Int} (h0 : 0 ≤ a) (h1 : a ≤ n) : 0 ≤ (nmP n b lo hi a).1 ∧ (nmP n b lo hi a).1 ≤ n ∧ ∀ v, (nmP n b lo hi a).2 = some v → lo ≤ v ∧ v ≤ hi ∧ a < (nmP n b lo hi a).1 := by
  have s1 := sks_le n b a
  have s2 := sks_n b h1
  have hd := dg_props (n := n) (b := b) 2 (sks n b a) 0 s2 (Int.le_refl _)
  unfold nmP
  by_cases c1 : isD n b (sks n b a) = true
  · rw [if_pos c1]
    have e : dg n b 2 (sks n b a) 0 = dg n b 1 (sks n b a + 1) (10 * 0 + b (sks n b a) - 48) := dg_t c1
    have c1' := isD_t.mp c1
    have hd2 := dg_props (n := n) (b := b) 1 (sks n b a + 1) (10 * 0 + b (sks n b a) - 48) (by omega) (by omega)
    rw [← e] at hd2
    by_cases c2 : isD n b (dg n b 2 (sks n b a) 0).1 = true
    · rw [if_pos c2]
      exact ⟨by show 0 ≤ (dg n b 2 (sks n b a) 0).1; omega, by show (dg n b 2 (sks n b a) 0).1 ≤ n; omega, fun v hv => by cases hv⟩
    · rw [if_neg c2]
      split
      · exact ⟨by show 0 ≤ (dg n b 2 (sks n b a) 0).1; omega, by show (dg n b 2 (sks n b a) 0).1 ≤ n; omega, fun v hv => by cases hv; exact ⟨by omega, by omega, by show a < (dg n b 2 (sks n b a) 0).1; omega⟩⟩
      · exact ⟨by show 0 ≤ (dg n b 2 (sks n b a) 0).1 - 1; omega, by show (dg n b 2 (sks n b a) 0).1 - 1 ≤ n; omega, fun v hv => by cases hv⟩
  · rw [if_neg c1]
    exact ⟨by show 0 ≤ sks n b a; omega, by show sks n b a ≤ n; omega, fun v hv => by cases hv⟩
/-- values, k at most, each above the last -/
def vlP (n : Int) (b : Int → Int) : Nat → Int → Int → Int × Option (List Int)
  | 0, _, a => (a, some [])
  | k + 1, la, a => match (nmP n b (la + 1) 99 a).2 with
    | none => ((nmP n b (la + 1) 99 a).1, none)
    | some v => if k = 0 then ((nmP n b (la + 1) 99 a).1, some [v]) else if sg n b (sks n b (nmP n b (la + 1) 99 a).1) = 44 then ((vlP n b k v (sks n b (nmP n b (la + 1) 99 a).1 + 1)).1, ((vlP n b k v (sks n b (nmP n b (la + 1) 99 a).1 + 1)).2).map (fun l => v :: l)) else (sks n b (nmP n b (la + 1) 99 a).1, some [v])
section VlP
variable {n : Int} {b : Int → Int} {k : Nat} {la a v : Int}
theorem vlP_n (h : (nmP n b (la + 1) 99 a).2 = none) : vlP n b (k + 1) la a = ((nmP n b (la + 1) 99 a).1, none) := by
  unfold vlP
  rw [h]
theorem vlP_4 (h : (nmP n b (la + 1) 99 a).2 = some v) : vlP n b 1 la a = ((nmP n b (la + 1) 99 a).1, some [v]) := by
  unfold vlP
  rw [h]
  exact if_pos rfl
theorem vlP_c (h : (nmP n b (la + 1) 99 a).2 = some v) (hk : k ≠ 0) (h2 : sg n b (sks n b (nmP n b (la + 1) 99 a).1) = 44) : vlP n b (k + 1) la a = ((vlP n b k v (sks n b (nmP n b (la + 1) 99 a).1 + 1)).1, ((vlP n b k v (sks n b (nmP n b (la + 1) 99 a).1 + 1)).2).map (fun l => v :: l)) := by
  rw [vlP, h]
  simp only []
  rw [if_neg hk, if_pos h2]
theorem vlP_e (h : (nmP n b (la + 1) 99 a).2 = some v) (hk : k ≠ 0) (h2 : sg n b (sks n b (nmP n b (la + 1) 99 a).1) ≠ 44) : vlP n b (k + 1) la a = (sks n b (nmP n b (la + 1) 99 a).1, some [v]) := by
  rw [vlP, h]
  simp only []
  rw [if_neg hk, if_neg h2]
end VlP
/-- which part a letter names -/
def wd (e : Int) : Int := if e = 112 then 0 else if e = 108 then 1 else if e = 116 then 2 else -1
def ptS (s : Int × Int × Int) (w v : Int) : Int × Int × Int := if w = 0 then (v, s.2.1, s.2.2) else if w = 1 then (s.1, v, s.2.2) else (s.1, s.2.1, v)
def ptLo (w : Int) : Int := if w = 2 then 0 else 1
def ptHi (w : Int) : Int := if w = 0 then 2 else if w = 1 then 5 else 1
/-- the parts behind the values; where they end no blank stands -/
def ptP (n : Int) (b : Int → Int) : Nat → Int → Int × Int × Int → Int → Int × Option (Int × Int × Int)
  | 0, _, s, a => (sks n b a, some s)
  | k + 1, t, s, a => if t < 3 ∧ sg n b (sks n b a) = 59 then
      (if wd (sg n b (sks n b (sks n b a + 1))) < t then (sks n b (sks n b a + 1), none)
      else match (nmP n b (ptLo (wd (sg n b (sks n b (sks n b a + 1))))) (ptHi (wd (sg n b (sks n b (sks n b a + 1))))) (sks n b (sks n b a + 1) + 1)).2 with
        | none => ((nmP n b (ptLo (wd (sg n b (sks n b (sks n b a + 1))))) (ptHi (wd (sg n b (sks n b (sks n b a + 1))))) (sks n b (sks n b a + 1) + 1)).1, none)
        | some v => ptP n b k (wd (sg n b (sks n b (sks n b a + 1))) + 1) (ptS s (wd (sg n b (sks n b (sks n b a + 1)))) v) (nmP n b (ptLo (wd (sg n b (sks n b (sks n b a + 1))))) (ptHi (wd (sg n b (sks n b (sks n b a + 1))))) (sks n b (sks n b a + 1) + 1)).1)
    else (sks n b a, some s)
section PtP
variable {n : Int} {b : Int → Int} {k : Nat} {t a v w : Int} {s : Int × Int × Int}
theorem ptP_e (h : ¬ (t < 3 ∧ sg n b (sks n b a) = 59)) : ptP n b k t s a = (sks n b a, some s) := by
  cases k with
  | zero => rfl
  | succ k => rw [ptP, if_neg h]
theorem ptP_w (h : t < 3 ∧ sg n b (sks n b a) = 59) (h2 : wd (sg n b (sks n b (sks n b a + 1))) < t) : ptP n b (k + 1) t s a = (sks n b (sks n b a + 1), none) := by
  rw [ptP, if_pos h, if_pos h2]
theorem ptP_n (h : t < 3 ∧ sg n b (sks n b a) = 59) (hw : wd (sg n b (sks n b (sks n b a + 1))) = w) (h2 : ¬ w < t) (h3 : (nmP n b (ptLo w) (ptHi w) (sks n b (sks n b a + 1) + 1)).2 = none) : ptP n b (k + 1) t s a = ((nmP n b (ptLo w) (ptHi w) (sks n b (sks n b a + 1) + 1)).1, none) := by
  rw [ptP, if_pos h, hw, if_neg h2, h3]
theorem ptP_s (h : t < 3 ∧ sg n b (sks n b a) = 59) (hw : wd (sg n b (sks n b (sks n b a + 1))) = w) (h2 : ¬ w < t) (h3 : (nmP n b (ptLo w) (ptHi w) (sks n b (sks n b a + 1) + 1)).2 = some v) : ptP n b (k + 1) t s a = ptP n b k (w + 1) (ptS s w v) (nmP n b (ptLo w) (ptHi w) (sks n b (sks n b a + 1) + 1)).1 := by
  rw [ptP, if_pos h, hw, if_neg h2, h3]
end PtP
theorem wd_cases (e : Int) : (e = 112 ∧ wd e = 0) ∨ (e = 108 ∧ wd e = 1) ∨ (e = 116 ∧ wd e = 2) ∨ (e ≠ 112 ∧ e ≠ 108 ∧ e ≠ 116 ∧ wd e = -1) := by
  unfold wd
  split
  · exact Or.inl ⟨by assumption, rfl⟩
  · split
    · exact Or.inr (Or.inl ⟨by assumption, rfl⟩)
    · split
      · exact Or.inr (Or.inr (Or.inl ⟨by assumption, rfl⟩))
      · exact Or.inr (Or.inr (Or.inr ⟨by assumption, by assumption, by assumption, rfl⟩))
/-- a shop's text: its fault, or what it tells -/
def shP (n : Int) (b : Int → Int) : Int × Option (List Int × Int × Int × Int) :=
  if sg n b (sks n b 0) = 99 then
    (match (vlP n b 4 0 (sks n b 0 + 1)).2 with
    | none => ((vlP n b 4 0 (sks n b 0 + 1)).1, none)
    | some l => match (ptP n b 3 0 (1, 5, 1) (vlP n b 4 0 (sks n b 0 + 1)).1).2 with
      | none => ((ptP n b 3 0 (1, 5, 1) (vlP n b 4 0 (sks n b 0 + 1)).1).1, none)
      | some s => if sg n b (ptP n b 3 0 (1, 5, 1) (vlP n b 4 0 (sks n b 0 + 1)).1).1 = -1 then (-1, some (l, s)) else ((ptP n b 3 0 (1, 5, 1) (vlP n b 4 0 (sks n b 0 + 1)).1).1, none))
  else (sks n b 0, none)
section ShP
variable {n : Int} {b : Int → Int} {l : List Int} {s : Int × Int × Int}
theorem shP_1 (h : sg n b (sks n b 0) ≠ 99) : shP n b = (sks n b 0, none) := by
  unfold shP
  rw [if_neg h]
theorem shP_2 (h : sg n b (sks n b 0) = 99) (h2 : (vlP n b 4 0 (sks n b 0 + 1)).2 = none) : shP n b = ((vlP n b 4 0 (sks n b 0 + 1)).1, none) := by
  unfold shP
  rw [if_pos h, h2]
theorem shP_3 (h : sg n b (sks n b 0) = 99) (h2 : (vlP n b 4 0 (sks n b 0 + 1)).2 = some l) (h3 : (ptP n b 3 0 (1, 5, 1) (vlP n b 4 0 (sks n b 0 + 1)).1).2 = none) : shP n b = ((ptP n b 3 0 (1, 5, 1) (vlP n b 4 0 (sks n b 0 + 1)).1).1, none) := by
  unfold shP
  rw [if_pos h, h2]
  simp only []
  rw [h3]
theorem shP_4 (h : sg n b (sks n b 0) = 99) (h2 : (vlP n b 4 0 (sks n b 0 + 1)).2 = some l) (h3 : (ptP n b 3 0 (1, 5, 1) (vlP n b 4 0 (sks n b 0 + 1)).1).2 = some s) (h4 : sg n b (ptP n b 3 0 (1, 5, 1) (vlP n b 4 0 (sks n b 0 + 1)).1).1 = -1) : shP n b = (-1, some (l, s)) := by
  unfold shP
  rw [if_pos h, h2]
  simp only []
  rw [h3]
  simp only []
  rw [if_pos h4]
theorem shP_5 (h : sg n b (sks n b 0) = 99) (h2 : (vlP n b 4 0 (sks n b 0 + 1)).2 = some l) (h3 : (ptP n b 3 0 (1, 5, 1) (vlP n b 4 0 (sks n b 0 + 1)).1).2 = some s) (h4 : sg n b (ptP n b 3 0 (1, 5, 1) (vlP n b 4 0 (sks n b 0 + 1)).1).1 ≠ -1) : shP n b = ((ptP n b 3 0 (1, 5, 1) (vlP n b 4 0 (sks n b 0 + 1)).1).1, none) := by
  unfold shP
  rw [if_pos h, h2]
  simp only []
  rw [h3]
  simp only []
  rw [if_neg h4]
end ShP
theorem vlP_props {n : Int} {b : Int → Int} : ∀ (k : Nat) (la a : Int), 0 ≤ la → 0 ≤ a → a ≤ n → 0 ≤ (vlP n b k la a).1 ∧ (vlP n b k la a).1 ≤ n
  | 0, la, a, hl, h0, h1 => ⟨h0, h1⟩
  | k + 1, la, a, hl, h0, h1 => by
    have hp := nmP_props (n := n) (b := b) (lo := la + 1) (hi := 99) h0 h1
    cases e : (nmP n b (la + 1) 99 a).2 with
    | none => rw [vlP_n e]; exact ⟨hp.1, hp.2.1⟩
    | some v =>
      have hv := hp.2.2 v e
      have s1 := sks_le n b (nmP n b (la + 1) 99 a).1
      have s2 := sks_n b hp.2.1
      by_cases hk : k = 0
      · subst hk
        rw [vlP_4 e]; exact ⟨hp.1, hp.2.1⟩
      · by_cases hc : sg n b (sks n b (nmP n b (la + 1) 99 a).1) = 44
        · rw [vlP_c e hk hc]
          refine vlP_props k v _ (by omega) (by omega) ?_
          rcases Int.lt_or_le (sks n b (nmP n b (la + 1) 99 a).1) n with x | x
          · omega
          · rw [sg_ge x] at hc; omega
        · rw [vlP_e e hk hc]
          exact ⟨by show 0 ≤ sks n b (nmP n b (la + 1) 99 a).1; omega, s2⟩
theorem ptP_props {n : Int} {b : Int → Int} : ∀ (k : Nat) (t : Int) (s : Int × Int × Int) (a : Int), 0 ≤ t → 0 ≤ a → a ≤ n → 0 ≤ (ptP n b k t s a).1 ∧ (ptP n b k t s a).1 ≤ n
  | 0, t, s, a, _, h0, h1 => ⟨Int.le_trans h0 (sks_le n b a), sks_n b h1⟩
  | k + 1, t, s, a, ht, h0, h1 => by
    have s1 := sks_le n b a
    have s2 := sks_n b h1
    by_cases hc : t < 3 ∧ sg n b (sks n b a) = 59
    · have hlt : sks n b a < n := by
        rcases Int.lt_or_le (sks n b a) n with x | x
        · exact x
        · have := hc.2; rw [sg_ge x] at this; omega
      have s3 := sks_le n b (sks n b a + 1)
      have s4 := sks_n b (show sks n b a + 1 ≤ n by omega)
      by_cases hw : wd (sg n b (sks n b (sks n b a + 1))) < t
      · rw [ptP_w hc hw]
        exact ⟨by show 0 ≤ sks n b (sks n b a + 1); omega, s4⟩
      · rcases Int.lt_or_le (sks n b (sks n b a + 1)) n with x | x
        · have hp := nmP_props (n := n) (b := b) (lo := ptLo (wd (sg n b (sks n b (sks n b a + 1))))) (hi := ptHi (wd (sg n b (sks n b (sks n b a + 1))))) (a := sks n b (sks n b a + 1) + 1) (by omega) (by omega)
          cases e : (nmP n b (ptLo (wd (sg n b (sks n b (sks n b a + 1))))) (ptHi (wd (sg n b (sks n b (sks n b a + 1))))) (sks n b (sks n b a + 1) + 1)).2 with
          | none => rw [ptP_n hc rfl hw e]; exact ⟨hp.1, hp.2.1⟩
          | some v => rw [ptP_s hc rfl hw e]; exact ptP_props k _ _ _ (by omega) hp.1 hp.2.1
        · have q1 := sg_ge (b := b) x
          rw [q1] at hw
          have q2 : wd (-1) = -1 := by decide
          rw [q2] at hw
          omega
    · rw [ptP_e hc]
      exact ⟨by show 0 ≤ sks n b a; omega, s2⟩
theorem ptP_sk {n : Int} {b : Int → Int} (k : Nat) (t : Int) (s : Int × Int × Int) (a : Int) : ptP n b k t s (sks n b a) = ptP n b k t s a := by
  cases k with
  | zero => show (sks n b (sks n b a), some s) = (sks n b a, some s); rw [sks_sks]
  | succ k => simp only [ptP, sks_sks]

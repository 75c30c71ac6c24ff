/-! a customer's text -/
def cnP (n : Int) (b : Int → Int) (K : Int) : Nat → Int → Int × List Int
  | 0, a => (sks n b a, [])
  | k + 1, a => if 97 ≤ sg n b (sks n b a) ∧ sg n b (sks n b a) - 97 < K then ((cnP n b K k (sks n b a + 1)).1, (sg n b (sks n b a) - 97) :: (cnP n b K k (sks n b a + 1)).2) else (sks n b a, [])
section CnP
variable {n : Int} {b : Int → Int} {K : Int} {k : Nat} {a : Int}
theorem cnP_t (h : 97 ≤ sg n b (sks n b a) ∧ sg n b (sks n b a) - 97 < K) : cnP n b K (k + 1) a = ((cnP n b K k (sks n b a + 1)).1, (sg n b (sks n b a) - 97) :: (cnP n b K k (sks n b a + 1)).2) := by
  rw [cnP, if_pos h]
theorem cnP_f (h : ¬ (97 ≤ sg n b (sks n b a) ∧ sg n b (sks n b a) - 97 < K)) : cnP n b K k a = (sks n b a, []) := by
  cases k with
  | zero => rfl
  | succ k => rw [cnP, if_neg h]
theorem cnP_sk (k : Nat) (a : Int) : cnP n b K k (sks n b a) = cnP n b K k a := by
  cases k with
  | zero => show (sks n b (sks n b a), _) = _; rw [sks_sks]; rfl
  | succ k => simp only [cnP, sks_sks]
end CnP
theorem cnP_props {n : Int} {b : Int → Int} {K : Int} : ∀ (k : Nat) (a : Int), 0 ≤ a → a ≤ n → 0 ≤ (cnP n b K k a).1 ∧ (cnP n b K k a).1 ≤ n ∧ (cnP n b K k a).2.length ≤ k ∧ ∀ x ∈ (cnP n b K k a).2, 0 ≤ x ∧ x < K
  | 0, a, h0, h1 => ⟨Int.le_trans h0 (sks_le n b a), sks_n b h1, Nat.le_refl _, fun x hx => by cases hx⟩
  | k + 1, a, h0, h1 => by
    have s1 := sks_le n b a
    have s2 := sks_n b h1
    by_cases h : 97 ≤ sg n b (sks n b a) ∧ sg n b (sks n b a) - 97 < K
    · rw [cnP_t h]
      have hlt : sks n b a < n := by
        rcases Int.lt_or_le (sks n b a) n with x | x
        · exact x
        · have := h.1; rw [sg_ge x] at this; omega
      have := cnP_props (n := n) (b := b) (K := K) k (sks n b a + 1) (by omega) (by omega)
      refine ⟨this.1, this.2.1, by show (_ :: _).length ≤ _; rw [List.length_cons]; omega, fun x hx => ?_⟩
      rcases List.mem_cons.mp hx with q | q
      · omega
      · exact this.2.2.2 x q
    · rw [cnP_f h]
      exact ⟨by show 0 ≤ sks n b a; omega, s2, Nat.zero_le _, fun x hx => by cases hx⟩
/-- a customer's text: its fault, or price and kinds -/
def cuP (n : Int) (b : Int → Int) (K : Int) : Int × Option (Int × List Int) :=
  match (nmP n b 1 99 0).2 with
  | none => ((nmP n b 1 99 0).1, none)
  | some v => if sg n b (sks n b (nmP n b 1 99 0).1) = 58 then
      (if (cnP n b K 4 (sks n b (nmP n b 1 99 0).1 + 1)).2 = [] then ((cnP n b K 4 (sks n b (nmP n b 1 99 0).1 + 1)).1, none)
      else if sg n b (cnP n b K 4 (sks n b (nmP n b 1 99 0).1 + 1)).1 = -1 then (-1, some (v, (cnP n b K 4 (sks n b (nmP n b 1 99 0).1 + 1)).2))
      else ((cnP n b K 4 (sks n b (nmP n b 1 99 0).1 + 1)).1, none))
    else (sks n b (nmP n b 1 99 0).1, none)
section CuP
variable {n : Int} {b : Int → Int} {K v : Int}
theorem cuP_1 (h : (nmP n b 1 99 0).2 = none) : cuP n b K = ((nmP n b 1 99 0).1, none) := by
  unfold cuP
  rw [h]
theorem cuP_2 (h : (nmP n b 1 99 0).2 = some v) (h2 : sg n b (sks n b (nmP n b 1 99 0).1) ≠ 58) : cuP n b K = (sks n b (nmP n b 1 99 0).1, none) := by
  unfold cuP
  rw [h]
  simp only []
  rw [if_neg h2]
theorem cuP_3 (h : (nmP n b 1 99 0).2 = some v) (h2 : sg n b (sks n b (nmP n b 1 99 0).1) = 58) (h3 : (cnP n b K 4 (sks n b (nmP n b 1 99 0).1 + 1)).2 = []) : cuP n b K = ((cnP n b K 4 (sks n b (nmP n b 1 99 0).1 + 1)).1, none) := by
  unfold cuP
  rw [h]
  simp only []
  rw [if_pos h2, if_pos h3]
theorem cuP_4 (h : (nmP n b 1 99 0).2 = some v) (h2 : sg n b (sks n b (nmP n b 1 99 0).1) = 58) (h3 : (cnP n b K 4 (sks n b (nmP n b 1 99 0).1 + 1)).2 ≠ []) (h4 : sg n b (cnP n b K 4 (sks n b (nmP n b 1 99 0).1 + 1)).1 = -1) : cuP n b K = (-1, some (v, (cnP n b K 4 (sks n b (nmP n b 1 99 0).1 + 1)).2)) := by
  unfold cuP
  rw [h]
  simp only []
  rw [if_pos h2, if_neg h3, if_pos h4]
theorem cuP_5 (h : (nmP n b 1 99 0).2 = some v) (h2 : sg n b (sks n b (nmP n b 1 99 0).1) = 58) (h3 : (cnP n b K 4 (sks n b (nmP n b 1 99 0).1 + 1)).2 ≠ []) (h4 : sg n b (cnP n b K 4 (sks n b (nmP n b 1 99 0).1 + 1)).1 ≠ -1) : cuP n b K = ((cnP n b K 4 (sks n b (nmP n b 1 99 0).1 + 1)).1, none) := by
  unfold cuP
  rw [h]
  simp only []
  rw [if_pos h2, if_neg h3, if_neg h4]
end CuP
/-- a digit comes into a row that falls -/
def insD (d : Int) : List Int → List Int
  | [] => [d]
  | x :: l => if x < d then d :: x :: l else x :: insD d l
def insL (l : List Int) (p : List Int) : List Int := l.foldl (fun p k => insD (k + 1) p) p
theorem insD_len (d : Int) : ∀ l, (insD d l).length = l.length + 1
  | [] => rfl
  | x :: l => by
    unfold insD
    split
    · rfl
    · simp only [List.length_cons, insD_len d l]
theorem insD_mem {d y : Int} : ∀ {l : List Int}, y ∈ insD d l ↔ y = d ∨ y ∈ l
  | [] => by simp [insD]
  | x :: l => by
    unfold insD
    split
    · simp
    · rw [List.mem_cons, insD_mem, List.mem_cons]
      constructor
      · rintro (h | h | h)
        · exact Or.inr (Or.inl h)
        · exact Or.inl h
        · exact Or.inr (Or.inr h)
      · rintro (h | h | h)
        · exact Or.inr (Or.inl h)
        · exact Or.inl h
        · exact Or.inr (Or.inr h)
theorem insD_pw {d : Int} : ∀ {l : List Int}, l.Pairwise (fun x y => y ≤ x) → (insD d l).Pairwise (fun x y => y ≤ x)
  | [], _ => by simp [insD]
  | x :: l, h => by
    obtain ⟨h1, h2⟩ := List.pairwise_cons.mp h
    unfold insD
    split
    · refine List.pairwise_cons.mpr ⟨fun y hy => ?_, h⟩
      rcases List.mem_cons.mp hy with q | q
      · omega
      · have := h1 y q; omega
    · refine List.pairwise_cons.mpr ⟨fun y hy => ?_, insD_pw h2⟩
      rcases insD_mem.mp hy with q | q
      · omega
      · exact h1 y q
theorem insD_cnt {d y : Int} : ∀ {l : List Int}, (insD d l).count y = l.count y + (if d = y then 1 else 0)
  | [] => by simp [insD, List.count_cons]
  | x :: l => by
    unfold insD
    split
    · simp only [List.count_cons, beq_iff_eq]
    · simp only [List.count_cons, insD_cnt, beq_iff_eq]; omega

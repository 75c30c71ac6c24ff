/-! rules: conditions -/
section Cn
variable (n : Int) (b : Int → Int)
/-- behind a first sum: a comparison -/
def cmpG (S : Int → RsT) (q : RsT) : RsT := if q.1 = true then (if cmpS (sg n b (sks n b q.2.1)) = 0 then rsF (sks n b q.2.1) else opN q (S (sks n b q.2.1 + 1)) (cmpS (sg n b (sks n b q.2.1)))) else rsF q.2.1
def notN (q : RsT) : RsT := if q.1 = true then (true, q.2.1, q.2.2.1 ++ [-10], fun L => 1 - q.2.2.2 L) else rsF q.2.1
def clsN (q : RsT) (k : Int) : RsT := if q.1 = true then (if sg n b (sks n b q.2.1) = k then (true, sks n b q.2.1 + 1, q.2.2) else rsF (sks n b q.2.1)) else rsF q.2.1
def unitG (U : Option (Int → RsT)) (C : Int → RsT) (S : Int → RsT) (a : Int) : RsT :=
  if sg n b (sks n b a) = 33 then
    (match U with
    | none => rsF (sks n b a)
    | some u => notN (u (sks n b a + 1)))
  else if sg n b (sks n b a) = 40 then
    (match U with
    | none => rsF (sks n b a)
    | some _ => clsN n b (C (sks n b a + 1)) 41)
  else cmpG n b S (S (sks n b a))
def truthG (U : Int → RsT) : Int → RsT := opG n b 38 38 (-8) (-8) U
def condG (U : Int → RsT) : Int → RsT := opG n b 124 124 (-9) (-9) (truthG n b U)
def unitR : Nat → Int → RsT
  | 0 => unitG n b none (fun a => rsF a) (sumR n b 0)
  | r + 1 => unitG n b (some (unitR r)) (condG n b (unitR r)) (sumR n b (r + 1))
end Cn
section CnL
variable {n : Int} {b : Int → Int}
theorem cmpS_0 {c : Int} (h : cmpS c ≠ 0) : c = 61 ∨ c = 60 ∨ c = 62 := by
  unfold cmpS at h
  split at h
  · exact Or.inl (by assumption)
  · split at h
    · exact Or.inr (Or.inl (by assumption))
    · split at h
      · exact Or.inr (Or.inr (by assumption))
      · exact absurd rfl h
theorem opN_ok {acc q : RsT} {op a p : Int} (hp : a ≤ p) (hacc : (acc.2.2.1.length : Int) + a < p) (hq : p ≤ q.2.1 ∧ q.2.1 ≤ n ∧ (q.1 = true → (q.2.2.1.length : Int) + p ≤ q.2.1 ∧ p < q.2.1)) : a ≤ (opN acc q op).2.1 ∧ (opN acc q op).2.1 ≤ n ∧ ((opN acc q op).1 = true → ((opN acc q op).2.2.1.length : Int) + a ≤ (opN acc q op).2.1 ∧ a < (opN acc q op).2.1) := by
  unfold opN
  split
  · rename_i h
    have := hq.2.2 h
    refine ⟨?_, hq.2.1, fun _ => ⟨?_, ?_⟩⟩
    · show a ≤ q.2.1; omega
    · show ((acc.2.2.1 ++ q.2.2.1 ++ [op]).length : Int) + a ≤ q.2.1
      rw [List.length_append, List.length_append]
      show ((acc.2.2.1.length + q.2.2.1.length + 1 : Nat) : Int) + a ≤ _
      omega
    · show a < q.2.1; omega
  · exact ⟨by show a ≤ q.2.1; omega, hq.2.1, fun q => absurd q (by simp [rsF])⟩
theorem cmpG_ok {S : Int → RsT} (hS : rdOK n S) {q : RsT} {a : Int} (a0 : 0 ≤ a) (hq : a ≤ q.2.1 ∧ q.2.1 ≤ n ∧ (q.1 = true → (q.2.2.1.length : Int) + a ≤ q.2.1 ∧ a < q.2.1)) : a ≤ (cmpG n b S q).2.1 ∧ (cmpG n b S q).2.1 ≤ n ∧ ((cmpG n b S q).1 = true → ((cmpG n b S q).2.2.1.length : Int) + a ≤ (cmpG n b S q).2.1 ∧ a < (cmpG n b S q).2.1) := by
  have s1 := sks_le n b q.2.1
  have s2 := sks_n b hq.2.1
  unfold cmpG
  split
  · rename_i h
    have hq3 := hq.2.2 h
    split
    · exact ⟨by show a ≤ sks n b q.2.1; omega, s2, fun q => absurd q (by simp [rsF])⟩
    · rename_i hc
      have hlt : sks n b q.2.1 < n := by
        rcases cmpS_0 hc with z | z | z <;> exact sk_lt hq.2.1 z (by decide)
      exact opN_ok (p := sks n b q.2.1 + 1) (by omega) (by omega) (hS (sks n b q.2.1 + 1) (by omega) (by omega))
  · exact ⟨hq.1, hq.2.1, fun q => absurd q (by simp [rsF])⟩
theorem unitG_ok {U : Option (Int → RsT)} {C S : Int → RsT} (hU : ∀ u, U = some u → rdOK n u ∧ rdOK n C) (hS : rdOK n S) : rdOK n (unitG n b U C S) := fun a a0 a1 => by
  have s1 := sks_le n b a
  have s2 := sks_n b a1
  unfold unitG
  split
  · rename_i h
    have hlt := sk_lt a1 h (by decide)
    cases U with
    | none => exact ⟨s1, s2, fun q => absurd q (by simp [rsF])⟩
    | some u =>
      obtain ⟨q1, q2, q3⟩ := (hU u rfl).1 (sks n b a + 1) (by omega) (by omega)
      simp only []
      unfold notN
      split
      · rename_i hq
        have := q3 hq
        refine ⟨?_, q2, fun _ => ⟨?_, ?_⟩⟩
        · show a ≤ (u (sks n b a + 1)).2.1; omega
        · show (((u (sks n b a + 1)).2.2.1 ++ [-10]).length : Int) + a ≤ (u (sks n b a + 1)).2.1
          rw [List.length_append]
          show (((u (sks n b a + 1)).2.2.1.length + 1 : Nat) : Int) + a ≤ _
          omega
        · show a < (u (sks n b a + 1)).2.1; omega
      · exact ⟨by show a ≤ (u (sks n b a + 1)).2.1; omega, q2, fun q => absurd q (by simp [rsF])⟩
  · split
    · rename_i h
      have hlt := sk_lt a1 h (by decide)
      cases U with
      | none => exact ⟨s1, s2, fun q => absurd q (by simp [rsF])⟩
      | some u =>
        obtain ⟨q1, q2, q3⟩ := (hU u rfl).2 (sks n b a + 1) (by omega) (by omega)
        have t1 := sks_le n b (C (sks n b a + 1)).2.1
        have t2 := sks_n b q2
        simp only []
        unfold clsN
        split
        · rename_i hq
          have := q3 hq
          split
          · rename_i hc
            have := sk_lt q2 hc (by decide)
            refine ⟨?_, ?_, fun _ => ⟨?_, ?_⟩⟩
            · show a ≤ sks n b (C (sks n b a + 1)).2.1 + 1; omega
            · show sks n b (C (sks n b a + 1)).2.1 + 1 ≤ n; omega
            · show ((C (sks n b a + 1)).2.2.1.length : Int) + a ≤ sks n b (C (sks n b a + 1)).2.1 + 1; omega
            · show a < sks n b (C (sks n b a + 1)).2.1 + 1; omega
          · exact ⟨by show a ≤ sks n b (C (sks n b a + 1)).2.1; omega, t2, fun q => absurd q (by simp [rsF])⟩
        · exact ⟨by show a ≤ (C (sks n b a + 1)).2.1; omega, q2, fun q => absurd q (by simp [rsF])⟩
    · obtain ⟨q1, q2, q3⟩ := hS (sks n b a) (by omega) s2
      have := cmpG_ok (b := b) (q := S (sks n b a)) hS a0 ⟨by omega, q2, fun z => by have := q3 z; omega⟩
      exact this
theorem condG_ok {U : Int → RsT} (hU : rdOK n U) : rdOK n (condG n b U) := opG_ok (opG_ok hU (by decide) (by decide)) (by decide) (by decide)
theorem unitR_ok : ∀ r : Nat, rdOK n (unitR n b r)
  | 0 => unitG_ok (fun u h => by cases h) (sumR_ok 0)
  | r + 1 => unitG_ok (fun u h => by cases h; exact ⟨unitR_ok r, condG_ok (unitR_ok r)⟩) (sumR_ok (r + 1))
end CnL

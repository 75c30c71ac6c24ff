/-! payings as states: what is in the pipes, on the tray, left to give -/
abbrev SS : Type := Int × Int × Int × Int
def stp (w : Int → Int) (tr : Int) (s s' : SS) : Prop := s.2.2.2 ≠ 0 ∧ ((0 < s.2.2.1 ∧ w s.2.2.1 ≤ s.2.2.2 ∧ s' = (s.1, s.2.1, 0, s.2.2.2 - w s.2.2.1)) ∨ (0 < s.1 % 5 ∧ w (s.1 % 5) ≤ s.2.2.2 ∧ s' = (s.1 / 5, s.2.1, s.2.2.1, s.2.2.2 - w (s.1 % 5))) ∨ (0 < s.1 % 5 ∧ s.2.2.1 = 0 ∧ 0 < tr ∧ s' = (s.1 / 5, s.2.1, s.1 % 5, s.2.2.2)) ∨ (0 < s.2.1 % 5 ∧ w (s.2.1 % 5) ≤ s.2.2.2 ∧ s' = (s.1, s.2.1 / 5, s.2.2.1, s.2.2.2 - w (s.2.1 % 5))) ∨ (0 < s.2.1 % 5 ∧ s.2.2.1 = 0 ∧ 0 < tr ∧ s' = (s.1, s.2.1 / 5, s.2.1 % 5, s.2.2.2)))
def rch (w : Int → Int) (tr : Int) : Nat → SS → SS → Prop
  | 0, s, s' => s' = s
  | n + 1, s, s' => ∃ m, rch w tr n s m ∧ stp w tr m s'
def cst (w R0 R1 K0 K1 : Int → Int) (b c : Int) : SS := (R0 (c / 30), R1 (c / 5 % 6), c % 5, lfC w K0 K1 b c)
section Cst
variable {w R0 R1 K0 K1 : Int → Int} {b tr c c' : Int}
theorem stc_stp (hw : wOK w) (h0 : pyI w R0 K0) (h1 : pyI w R1 K1) (c0 : 0 ≤ c) (c1 : c < 180) (h : stc w R0 R1 K0 K1 b tr c c') : stp w tr (cst w R0 R1 K0 K1 b c) (cst w R0 R1 K0 K1 b c') := by
  have p0 := pyI_b hw h0 (i := c / 30) (by omega) (by omega)
  have p1 := pyI_b hw h1 (i := c / 5 % 6) (by omega) (by omega)
  have e0 := h0.2.2.2 (c / 30)
  have e1 := h1.2.2.2 (c / 5 % 6)
  obtain ⟨hl, h⟩ := h
  refine ⟨hl, ?_⟩
  rcases h with ⟨a1, a2, rfl⟩ | ⟨a1, a2, rfl⟩ | ⟨a1, a2, a3, rfl⟩ | ⟨a1, a2, rfl⟩ | ⟨a1, a2, a3, rfl⟩
  · refine Or.inl ⟨a1, a2, ?_⟩
    simp only [cst, lfC]
    rw [show (c - c % 5) / 30 = c / 30 by omega, show (c - c % 5) / 5 % 6 = c / 5 % 6 by omega, show (c - c % 5) % 5 = 0 by omega, hw.1, show b + w (c % 5) - K0 (c / 30) - K1 (c / 5 % 6) - w (c % 5) = b + 0 - K0 (c / 30) - K1 (c / 5 % 6) by omega]
  · obtain ⟨x1, x2⟩ := e0 (by omega) (by omega)
    refine Or.inr (Or.inl ⟨a1, a2, ?_⟩)
    simp only [cst, lfC]
    rw [show (c + 30) / 30 = c / 30 + 1 by omega, show (c + 30) / 5 % 6 = c / 5 % 6 by omega, show (c + 30) % 5 = c % 5 by omega, x1, x2, show b + w (c % 5) - K0 (c / 30) - K1 (c / 5 % 6) - w (R0 (c / 30) % 5) = b + w (c % 5) - (K0 (c / 30) + w (R0 (c / 30) % 5)) - K1 (c / 5 % 6) by omega]
  · obtain ⟨x1, x2⟩ := e0 (by omega) (by omega)
    refine Or.inr (Or.inr (Or.inl ⟨a1, a2, a3, ?_⟩))
    simp only [cst, lfC]
    rw [show (c + 30 + R0 (c / 30) % 5) / 30 = c / 30 + 1 by omega, show (c + 30 + R0 (c / 30) % 5) / 5 % 6 = c / 5 % 6 by omega, show (c + 30 + R0 (c / 30) % 5) % 5 = R0 (c / 30) % 5 by omega, x1, x2, a2, hw.1, show b + w (R0 (c / 30) % 5) - (K0 (c / 30) + w (R0 (c / 30) % 5)) - K1 (c / 5 % 6) = b + 0 - K0 (c / 30) - K1 (c / 5 % 6) by omega]
  · obtain ⟨x1, x2⟩ := e1 (by omega) (by omega)
    refine Or.inr (Or.inr (Or.inr (Or.inl ⟨a1, a2, ?_⟩)))
    simp only [cst, lfC]
    rw [show (c + 5) / 30 = c / 30 by omega, show (c + 5) / 5 % 6 = c / 5 % 6 + 1 by omega, show (c + 5) % 5 = c % 5 by omega, x1, x2, show b + w (c % 5) - K0 (c / 30) - K1 (c / 5 % 6) - w (R1 (c / 5 % 6) % 5) = b + w (c % 5) - K0 (c / 30) - (K1 (c / 5 % 6) + w (R1 (c / 5 % 6) % 5)) by omega]
  · obtain ⟨x1, x2⟩ := e1 (by omega) (by omega)
    refine Or.inr (Or.inr (Or.inr (Or.inr ⟨a1, a2, a3, ?_⟩)))
    simp only [cst, lfC]
    rw [show (c + 5 + R1 (c / 5 % 6) % 5) / 30 = c / 30 by omega, show (c + 5 + R1 (c / 5 % 6) % 5) / 5 % 6 = c / 5 % 6 + 1 by omega, show (c + 5 + R1 (c / 5 % 6) % 5) % 5 = R1 (c / 5 % 6) % 5 by omega, x1, x2, a2, hw.1, show b + w (R1 (c / 5 % 6) % 5) - K0 (c / 30) - (K1 (c / 5 % 6) + w (R1 (c / 5 % 6) % 5)) = b + 0 - K0 (c / 30) - K1 (c / 5 % 6) by omega]
theorem stp_stc (hw : wOK w) (h0 : pyI w R0 K0) (h1 : pyI w R1 K1) (c0 : 0 ≤ c) (c1 : c < 180) {s' : SS} (h : stp w tr (cst w R0 R1 K0 K1 b c) s') : ∃ c', stc w R0 R1 K0 K1 b tr c c' ∧ s' = cst w R0 R1 K0 K1 b c' := by
  have key : ∀ c', stc w R0 R1 K0 K1 b tr c c' → stp w tr (cst w R0 R1 K0 K1 b c) (cst w R0 R1 K0 K1 b c') := fun c' hc => stc_stp hw h0 h1 c0 c1 hc
  obtain ⟨hl, h⟩ := h
  have p0 := pyI_b hw h0 (i := c / 30) (by omega) (by omega)
  have p1 := pyI_b hw h1 (i := c / 5 % 6) (by omega) (by omega)
  have e0 := h0.2.2.2 (c / 30)
  have e1 := h1.2.2.2 (c / 5 % 6)
  rcases h with ⟨a1, a2, rfl⟩ | ⟨a1, a2, rfl⟩ | ⟨a1, a2, a3, rfl⟩ | ⟨a1, a2, rfl⟩ | ⟨a1, a2, a3, rfl⟩
  · refine ⟨c - c % 5, ⟨hl, Or.inl ⟨a1, a2, rfl⟩⟩, ?_⟩
    simp only [cst, lfC]
    rw [show (c - c % 5) / 30 = c / 30 by omega, show (c - c % 5) / 5 % 6 = c / 5 % 6 by omega, show (c - c % 5) % 5 = 0 by omega, hw.1, show b + w (c % 5) - K0 (c / 30) - K1 (c / 5 % 6) - w (c % 5) = b + 0 - K0 (c / 30) - K1 (c / 5 % 6) by omega]
  · have a1 : 0 < R0 (c / 30) % 5 := a1
    obtain ⟨x1, x2⟩ := e0 (by omega) (by omega)
    refine ⟨c + 30, ⟨hl, Or.inr (Or.inl ⟨a1, a2, rfl⟩)⟩, ?_⟩
    simp only [cst, lfC]
    rw [show (c + 30) / 30 = c / 30 + 1 by omega, show (c + 30) / 5 % 6 = c / 5 % 6 by omega, show (c + 30) % 5 = c % 5 by omega, x1, x2, show b + w (c % 5) - K0 (c / 30) - K1 (c / 5 % 6) - w (R0 (c / 30) % 5) = b + w (c % 5) - (K0 (c / 30) + w (R0 (c / 30) % 5)) - K1 (c / 5 % 6) by omega]
  · have a1 : 0 < R0 (c / 30) % 5 := a1
    have a2 : c % 5 = 0 := a2
    obtain ⟨x1, x2⟩ := e0 (by omega) (by omega)
    refine ⟨c + 30 + R0 (c / 30) % 5, ⟨hl, Or.inr (Or.inr (Or.inl ⟨a1, a2, a3, rfl⟩))⟩, ?_⟩
    simp only [cst, lfC]
    rw [show (c + 30 + R0 (c / 30) % 5) / 30 = c / 30 + 1 by omega, show (c + 30 + R0 (c / 30) % 5) / 5 % 6 = c / 5 % 6 by omega, show (c + 30 + R0 (c / 30) % 5) % 5 = R0 (c / 30) % 5 by omega, x1, x2, a2, hw.1, show b + w (R0 (c / 30) % 5) - (K0 (c / 30) + w (R0 (c / 30) % 5)) - K1 (c / 5 % 6) = b + 0 - K0 (c / 30) - K1 (c / 5 % 6) by omega]
  · have a1 : 0 < R1 (c / 5 % 6) % 5 := a1
    obtain ⟨x1, x2⟩ := e1 (by omega) (by omega)
    refine ⟨c + 5, ⟨hl, Or.inr (Or.inr (Or.inr (Or.inl ⟨a1, a2, rfl⟩)))⟩, ?_⟩
    simp only [cst, lfC]
    rw [show (c + 5) / 30 = c / 30 by omega, show (c + 5) / 5 % 6 = c / 5 % 6 + 1 by omega, show (c + 5) % 5 = c % 5 by omega, x1, x2, show b + w (c % 5) - K0 (c / 30) - K1 (c / 5 % 6) - w (R1 (c / 5 % 6) % 5) = b + w (c % 5) - K0 (c / 30) - (K1 (c / 5 % 6) + w (R1 (c / 5 % 6) % 5)) by omega]
  · have a1 : 0 < R1 (c / 5 % 6) % 5 := a1
    have a2 : c % 5 = 0 := a2
    obtain ⟨x1, x2⟩ := e1 (by omega) (by omega)
    refine ⟨c + 5 + R1 (c / 5 % 6) % 5, ⟨hl, Or.inr (Or.inr (Or.inr (Or.inr ⟨a1, a2, a3, rfl⟩)))⟩, ?_⟩
    simp only [cst, lfC]
    rw [show (c + 5 + R1 (c / 5 % 6) % 5) / 30 = c / 30 by omega, show (c + 5 + R1 (c / 5 % 6) % 5) / 5 % 6 = c / 5 % 6 + 1 by omega, show (c + 5 + R1 (c / 5 % 6) % 5) % 5 = R1 (c / 5 % 6) % 5 by omega, x1, x2, a2, hw.1, show b + w (R1 (c / 5 % 6) % 5) - K0 (c / 30) - (K1 (c / 5 % 6) + w (R1 (c / 5 % 6) % 5)) = b + 0 - K0 (c / 30) - K1 (c / 5 % 6) by omega]
theorem rcc_rch (hw : wOK w) (h0 : pyI w R0 K0) (h1 : pyI w R1 K1) (c0 : 0 ≤ c) (c1 : c < 5) : ∀ (n : Nat) (c' : Int), rcc (stc w R0 R1 K0 K1 b tr) n c c' → rch w tr n (cst w R0 R1 K0 K1 b c) (cst w R0 R1 K0 K1 b c')
  | 0, c', h => by
    have h : c' = c := h
    rw [h]
    exact rfl
  | n + 1, c', ⟨m, h2, h3⟩ => by
    have hm := rcc_21 hw h0 h1 c0 c1 h2
    exact ⟨_, rcc_rch hw h0 h1 c0 c1 n m h2, stc_stp hw h0 h1 hm.1 hm.2.1 h3⟩
theorem rch_rcc (hw : wOK w) (h0 : pyI w R0 K0) (h1 : pyI w R1 K1) (c0 : 0 ≤ c) (c1 : c < 5) : ∀ (n : Nat) (s' : SS), rch w tr n (cst w R0 R1 K0 K1 b c) s' → ∃ c', rcc (stc w R0 R1 K0 K1 b tr) n c c' ∧ s' = cst w R0 R1 K0 K1 b c'
  | 0, s', h => ⟨c, rfl, h⟩
  | n + 1, s', ⟨m, h2, h3⟩ => by
    obtain ⟨u, hu, rfl⟩ := rch_rcc hw h0 h1 c0 c1 n m h2
    have hm := rcc_21 hw h0 h1 c0 c1 hu
    obtain ⟨c', k1, k2⟩ := stp_stc hw h0 h1 hm.1 hm.2.1 h3
    exact ⟨c', ⟨u, hu, k1⟩, k2⟩
theorem cst_0 (hw : wOK w) (h0 : pyI w R0 K0) (h1 : pyI w R1 K1) (c0 : 0 ≤ c) (c1 : c < 5) (much : Int) : cst w R0 R1 K0 K1 (much - w c) c = (R0 0, R1 0, c, much) := by
  simp only [cst, lfC]
  rw [show c / 30 = 0 by omega, show c / 5 % 6 = 0 by omega, show c % 5 = c by omega, h0.2.2.1, h1.2.2.1, show much - w c + w c - 0 - 0 = much by omega]
end Cst
/-- the tills that coins, put in one by one, can leave -/
def ptv (len pi tl : Int) : List Int → Int → Int → List Int
  | [], a, b => [(a * 3125 + b) * 16 + tl]
  | e :: l, a, b => (if ht a < len then ptv len pi tl l (a * 5 + e) b else []) ++ (if 2 ≤ pi ∧ ht b < len then ptv len pi tl l a (b * 5 + e) else [])
/-- more values come to a set that takes lim -/
def adS (lim : Int) (S S' : List Int) (V : Int → Prop) (r : Int) : Prop := (∀ v ∈ S, v ∈ S') ∧ (∀ v ∈ S', v ∈ S ∨ V v) ∧ ((r = 1 ∧ ∀ v, V v → v ∈ S') ∨ (r = 0 ∧ (S'.length : Int) = lim ∧ ∃ v, V v ∧ v ∉ S'))
section AdS
variable {lim r : Int} {S S1 S2 : List Int} {V V1 V2 : Int → Prop}
theorem adS_nil (h : ∀ v, ¬ V v) : adS lim S S V 1 := ⟨fun _ h => h, fun _ h => Or.inl h, Or.inl ⟨rfl, fun v hv => absurd hv (h v)⟩⟩
theorem adS_1 (h1 : adS lim S S1 V1 1) (h2 : adS lim S1 S2 V2 r) (hV : ∀ v, V v ↔ V1 v ∨ V2 v) : adS lim S S2 V r := by
  obtain ⟨a1, a2, a3⟩ := h1
  obtain ⟨b1, b2, b3⟩ := h2
  have a3 : ∀ v, V1 v → v ∈ S1 := by
    rcases a3 with a | a
    · exact a.2
    · exact absurd a.1 (by decide)
  refine ⟨fun v h => b1 v (a1 v h), fun v h => ?_, ?_⟩
  · rcases b2 v h with x | x
    · rcases a2 v x with y | y
      · exact Or.inl y
      · exact Or.inr ((hV v).mpr (Or.inl y))
    · exact Or.inr ((hV v).mpr (Or.inr x))
  · rcases b3 with ⟨x, y⟩ | ⟨x, y, v, y1, y2⟩
    · exact Or.inl ⟨x, fun v hv => ((hV v).mp hv).elim (fun k => b1 v (a3 v k)) (y v)⟩
    · exact Or.inr ⟨x, y, v, (hV v).mpr (Or.inr y1), y2⟩
theorem adS_0 (h1 : adS lim S S1 V1 0) (hV : ∀ v, V1 v → V v) : adS lim S S1 V 0 := by
  obtain ⟨a1, a2, a3⟩ := h1
  refine ⟨a1, fun v h => (a2 v h).imp id (hV v), Or.inr ?_⟩
  rcases a3 with a | ⟨x, y, v, y1, y2⟩
  · exact absurd a.1 (by decide)
  · exact ⟨rfl, y, v, hV v y1, y2⟩
theorem adS_c (h : adS lim S S1 V1 r) (hV : ∀ v, V v ↔ V1 v) : adS lim S S1 V r := by
  obtain ⟨a1, a2, a3⟩ := h
  refine ⟨a1, fun v h => (a2 v h).imp id (hV v).mpr, ?_⟩
  rcases a3 with ⟨x, y⟩ | ⟨x, y, v, y1, y2⟩
  · exact Or.inl ⟨x, fun v hv => y v ((hV v).mp hv)⟩
  · exact Or.inr ⟨x, y, v, (hV v).mpr y1, y2⟩
end AdS
theorem lsI_cons (n : Nat) (g : Int → Int) : lsI (n + 1) g = g 0 :: lsI n (fun i => g (i + 1)) := by
  unfold lsI
  rw [List.range_succ_eq_map, List.map_cons, List.map_map]
  rfl
/-- one value added -/
theorem adS_add {t : Nat} {r sz sz' till : Int} {ti ti' : Int → Int} (h0 : 0 ≤ sz) (h : (r = -1 ∧ sz = tlm t ∧ sz' = sz ∧ ti' = ti ∧ ∀ j : Int, 0 ≤ j → j < sz → ti j ≠ till) ∨ (0 ≤ r ∧ r < sz ∧ ti r = till ∧ sz' = sz ∧ ti' = ti) ∨ (r = sz ∧ sz < tlm t ∧ sz' = sz + 1 ∧ ti' = iu ti sz till ∧ ∀ j : Int, 0 ≤ j → j < sz → ti j ≠ till)) : adS (tlm t) (lsI sz.toNat ti) (lsI sz'.toNat ti') (fun v => v = till) (if r = -1 then 0 else 1) := by
  rcases h with ⟨h1, h2, h3, h4, h5⟩ | ⟨h1, h2, h3, h4, h5⟩ | ⟨h1, h2, h3, h4, h5⟩
  · subst h3; subst h4
    rw [if_pos h1]
    refine ⟨fun _ h => h, fun _ h => Or.inl h, Or.inr ⟨rfl, by rw [lsI_len]; omega, till, rfl, fun h => ?_⟩⟩
    obtain ⟨i, i0, i1, i2⟩ := mem_lsI.mp h
    exact h5 i i0 (by omega) i2
  · subst h4; subst h5
    rw [if_neg (by omega)]
    exact ⟨fun _ h => h, fun _ h => Or.inl h, Or.inl ⟨rfl, fun v hv => by rw [hv]; exact mem_lsI.mpr ⟨r, h1, by omega, h3⟩⟩⟩
  · subst h3; subst h4
    rw [if_neg (by omega), show (sz + 1).toNat = sz.toNat + 1 by omega, lsI_succ, Int.toNat_of_nonneg h0, iu_at, lsI_congr (g := iu ti sz till) (h := ti) (fun i _ h => iu_ne _ _ (by omega))]
    refine ⟨fun v h => List.mem_append_left _ h, fun v h => ?_, Or.inl ⟨rfl, fun v hv => List.mem_append_right _ (by rw [hv]; simp)⟩⟩
    rcases List.mem_append.mp h with x | x
    · exact Or.inl x
    · exact Or.inr (by simpa using x)
/-- a customer's record: its sets -/
def hnd (X : CuR) (s k : Int) : List Int := lsI (X.2.2.2.2.2.1 s - k).toNat (fun i => X.2.2.2.2.1 (s * 4 + (k + i)))
def cuI (X : CuR) : Prop := 0 ≤ X.2.2.2.1 ∧ X.2.2.2.1 ≤ 15 ∧ ∀ s : Int, 0 ≤ s → s < X.2.2.2.1 → 1 ≤ X.2.2.2.2.2.1 s ∧ X.2.2.2.2.2.1 s ≤ 4 ∧ 0 ≤ X.2.2.2.2.2.2.1 s ∧ X.2.2.2.2.2.2.1 s < 400 ∧ ∀ i : Int, 0 ≤ i → i < X.2.2.2.2.2.1 s → 1 ≤ X.2.2.2.2.1 (s * 4 + i) ∧ X.2.2.2.2.1 (s * 4 + i) ≤ 4
theorem hnd_s {X : CuR} {s k : Int} (h : k < X.2.2.2.2.2.1 s) : hnd X s k = X.2.2.2.2.1 (s * 4 + k) :: hnd X s (k + 1) := by
  unfold hnd
  rw [show (X.2.2.2.2.2.1 s - k).toNat = (X.2.2.2.2.2.1 s - (k + 1)).toNat + 1 by omega, lsI_cons, Int.add_zero]
  refine congrArg (_ :: ·) (congrArg (lsI _) ?_)
  funext i
  rw [show k + (i + 1) = k + 1 + i by omega]
theorem hnd_e {X : CuR} {s k : Int} (h : X.2.2.2.2.2.1 s ≤ k) : hnd X s k = [] := by
  unfold hnd
  rw [show (X.2.2.2.2.2.1 s - k).toNat = 0 by omega]
  rfl
/-- RESULTS of a customer, as the class has it -/
def resP (w : Int → Int) (tr len pi p0 p1 t : Int) (X : CuR) (v : Int) : Prop := ∃ s : Int, 0 ≤ s ∧ s < X.2.2.2.1 ∧ ∃ (n : Nat) (q0 q1 t' : Int), rch w tr n (p0, p1, t, X.2.2.2.2.2.2.1 s) (q0, q1, t', 0) ∧ v ∈ ptv len pi (tw t') (hnd X s 0) q0 q1
def resS (w : Int → Int) (tr len pi p0 p1 t : Int) (X : CuR) (s v : Int) : Prop := ∃ (n : Nat) (q0 q1 t' : Int), rch w tr n (p0, p1, t, X.2.2.2.2.2.2.1 s) (q0, q1, t', 0) ∧ v ∈ ptv len pi (tw t') (hnd X s 0) q0 q1
def pyS (st : Int) (sm : Int → Int) : Prop := 0 ≤ st ∧ ∀ c : Int, 0 ≤ c → c < 180 → 0 ≤ sm c ∧ sm c ≤ st
theorem resS_iff {w R0 R1 K0 K1 : Int → Int} {tr len pi p0 p1 t ed s : Int} {en : Int → Int} {X : CuR} (hw : wOK w) (h0 : pyI w R0 K0) (h1 : pyI w R1 K1) (e0 : R0 0 = p0) (e1 : R1 0 = p1) (t0 : 0 ≤ t) (t4 : t ≤ 4) (hE : ∀ c : Int, (∃ e : Int, 0 ≤ e ∧ e < ed ∧ en e = c) ↔ (∃ n, rcc (stc w R0 R1 K0 K1 (X.2.2.2.2.2.2.1 s - w t) tr) n t c) ∧ lfC w K0 K1 (X.2.2.2.2.2.2.1 s - w t) c = 0) (v : Int) : resS w tr len pi p0 p1 t X s v ↔ ∃ e : Int, 0 ≤ e ∧ e < ed ∧ v ∈ ptv len pi (tw (en e % 5)) (hnd X s 0) (R0 (en e / 30)) (R1 (en e / 5 % 6)) := by
  have hs := cst_0 hw h0 h1 t0 (by omega) (X.2.2.2.2.2.2.1 s)
  rw [e0, e1] at hs
  constructor
  · rintro ⟨n, q0, q1, t', hr, hv⟩
    rw [← hs] at hr
    obtain ⟨c, hc, hc2⟩ := rch_rcc hw h0 h1 t0 (by omega) n _ hr
    simp only [cst, Prod.mk.injEq] at hc2
    obtain ⟨a1, a2, a3, a4⟩ := hc2
    obtain ⟨e, x0, x1, x2⟩ := (hE c).mpr ⟨⟨n, hc⟩, a4.symm⟩
    refine ⟨e, x0, x1, ?_⟩
    rw [x2, ← a1, ← a2, ← a3]
    exact hv
  · rintro ⟨e, x0, x1, hv⟩
    obtain ⟨⟨n, hn⟩, hl⟩ := (hE (en e)).mp ⟨e, x0, x1, rfl⟩
    have := rcc_rch hw h0 h1 t0 (by omega) n _ hn
    rw [hs] at this
    refine ⟨n, _, _, _, ?_, hv⟩
    have h2 : cst w R0 R1 K0 K1 (X.2.2.2.2.2.2.1 s - w t) (en e) = (R0 (en e / 30), R1 (en e / 5 % 6), en e % 5, 0) := by
      simp only [cst]
      rw [hl]
    rw [← h2]
    exact this
theorem ex_lt {i : Int} {V : Int → Prop} : (∃ e : Int, 0 ≤ e ∧ e < i + 1 ∧ V e) ↔ (∃ e : Int, 0 ≤ e ∧ e < i ∧ V e) ∨ (0 ≤ i ∧ V i) := by
  constructor
  · rintro ⟨e, e0, e1, e2⟩
    by_cases h : e = i
    · rw [h] at e0 e2; exact Or.inr ⟨e0, e2⟩
    · exact Or.inl ⟨e, e0, by omega, e2⟩
  · rintro (⟨e, e0, e1, e2⟩ | ⟨e0, e2⟩)
    · exact ⟨e, e0, by omega, e2⟩
    · exact ⟨i, e0, by omega, e2⟩

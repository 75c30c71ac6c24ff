/-! dawn: class and model (printed by wip/whole/gendawn.py) -/
/-- the pipes of c coins in the order of their numbers -/
def pwF (K : Int) : Nat → Int → Int
  | 0, _ => 0
  | c + 1, t => (t % K + 1) + 5 * pwF K c (t / K)
def kp (K : Int) : Nat → Int
  | 0 => 1
  | c + 1 => kp K c * K
theorem kp_b {K : Int} (h1 : 1 ≤ K) (h4 : K ≤ 4) : kp K 0 = 1 ∧ (1 ≤ kp K 1 ∧ kp K 1 ≤ 4) ∧ (1 ≤ kp K 2 ∧ kp K 2 ≤ 16) ∧ (1 ≤ kp K 3 ∧ kp K 3 ≤ 64) ∧ (1 ≤ kp K 4 ∧ kp K 4 ≤ 256) := by
  rcases (show K = 1 ∨ K = 2 ∨ K = 3 ∨ K = 4 by omega) with rfl | rfl | rfl | rfl <;> decide
theorem kp_div {K : Int} (h1 : 1 ≤ K) (h4 : K ≤ 4) {c : Nat} {t : Int} (h : t < kp K (c + 1)) : t / K < kp K c := by
  have h : t < kp K c * K := h
  exact Int.ediv_lt_of_lt_mul (by omega) h
theorem pwF_ok {K : Int} (h1 : 1 ≤ K) (h4 : K ≤ 4) : ∀ {c : Nat} {t : Int}, 0 ≤ t → okN K c (pwF K c t) ∧ 0 ≤ pwF K c t
  | 0, t, _ => ⟨rfl, Int.le_refl _⟩
  | c + 1, t, h => by
    have a1 := Int.emod_nonneg t (show K ≠ 0 by omega)
    have a2 := Int.emod_lt_of_pos t (show 0 < K by omega)
    obtain ⟨i1, i2⟩ := pwF_ok h1 h4 (c := c) (t := t / K) (Int.ediv_nonneg h (by omega))
    show (1 ≤ ((t % K + 1) + 5 * pwF K c (t / K)) % 5 ∧ ((t % K + 1) + 5 * pwF K c (t / K)) % 5 ≤ K ∧ okN K c (((t % K + 1) + 5 * pwF K c (t / K)) / 5)) ∧ 0 ≤ (t % K + 1) + 5 * pwF K c (t / K)
    rw [show ((t % K + 1) + 5 * pwF K c (t / K)) / 5 = pwF K c (t / K) by omega]
    exact ⟨⟨by omega, by omega, i1⟩, by omega⟩
theorem pwF_ex {K : Int} (h1 : 1 ≤ K) (h4 : K ≤ 4) : ∀ {c : Nat} {p : Int}, okN K c p → ∃ t : Int, 0 ≤ t ∧ t < kp K c ∧ p = pwF K c t
  | 0, p, h => ⟨0, Int.le_refl _, show (0 : Int) < 1 by decide, h⟩
  | c + 1, p, h => by
    obtain ⟨a1, a2, a3⟩ := h
    obtain ⟨t, t0, t1, e⟩ := pwF_ex h1 h4 a3
    have b1 : (p % 5 - 1 + t * K) % K = p % 5 - 1 := by
      rw [Int.add_mul_emod_self_right, Int.emod_eq_of_lt (by omega) (by omega)]
    have b2 : (p % 5 - 1 + t * K) / K = t := by
      rw [Int.add_mul_ediv_right _ _ (by omega), Int.ediv_eq_zero_of_lt (by omega) (by omega)]
      omega
    have b3 : 0 ≤ t * K := Int.mul_nonneg t0 (by omega)
    refine ⟨p % 5 - 1 + t * K, by omega, ?_, ?_⟩
    · show _ < kp K c * K
      have : (t + 1) * K ≤ kp K c * K := Int.mul_le_mul_of_nonneg_right (by omega) (by omega)
      rw [Int.add_mul] at this
      omega
    · show p = ((p % 5 - 1 + t * K) % K + 1) + 5 * pwF K c ((p % 5 - 1 + t * K) / K)
      rw [b1, b2, ← e]
      omega
theorem pwF_lt {K : Int} (h1 : 1 ≤ K) (h4 : K ≤ 4) : ∀ {c : Nat} {s t : Int}, 0 ≤ s → s < t → t < kp K c → pwF K c s < pwF K c t
  | 0, s, t, a, b, h => by have h : t < 1 := h; omega
  | c + 1, s, t, a, b, h => by
    have hd := kp_div h1 h4 h
    show (s % K + 1) + 5 * pwF K c (s / K) < (t % K + 1) + 5 * pwF K c (t / K)
    have a1 := Int.emod_nonneg s (show K ≠ 0 by omega)
    have a2 := Int.emod_lt_of_pos s (show 0 < K by omega)
    have b1 := Int.emod_nonneg t (show K ≠ 0 by omega)
    have b2 := Int.emod_lt_of_pos t (show 0 < K by omega)
    have hs := Int.ediv_nonneg a (show 0 ≤ K by omega)
    rcases (show s / K < t / K ∨ (s / K = t / K ∧ s % K < t % K) by
      rcases (show K = 1 ∨ K = 2 ∨ K = 3 ∨ K = 4 by omega) with rfl | rfl | rfl | rfl <;> omega) with q | q
    · have := pwF_lt h1 h4 hs q hd
      omega
    · rw [q.1]; omega
/-- what to lay in: r coins, q the till -/
def dwP (K : Int) (c : Nat) (p : Int) : Prop := 0 ≤ p ∧ okN K c p
def dwR (FA : Int → Int → Prop) (K last r q : Int) : Prop := (r = -1 ∧ q = -1 ∧ ∀ (c : Nat) (p : Int), (c : Int) ≤ last → dwP K c p → FA (p * 50000) 0) ∨ (∃ (c : Nat) (p : Int), (c : Int) ≤ last ∧ dwP K c p ∧ (∀ (c' : Nat) (p' : Int), (c' : Int) ≤ last → dwP K c' p' → (c' < c ∨ (c' = c ∧ p' < p)) → FA (p' * 50000) 0) ∧ ((FA (p * 50000) 1 ∧ r = c ∧ q = p * 50000) ∨ (FA (p * 50000) (-2) ∧ r = -2 ∧ q = -2)))
theorem dwR_uq {FA : Int → Int → Prop} {K last r r' q q' : Int} (hT : ∀ l a b, FA l a → FA l b → a = b) (h : dwR FA K last r q) (h' : dwR FA K last r' q') : r = r' ∧ q = q' := by
  rcases h with ⟨a, b, c⟩ | ⟨t, p, a, a2, b, c⟩ <;> rcases h' with ⟨a', b', c'⟩ | ⟨t', p', a', a2', b', c'⟩
  · omega
  · exfalso
    rcases c' with ⟨c1, -⟩ | ⟨c1, -⟩
    · exact absurd (hT _ _ _ c1 (c t' p' a' a2')) (by decide)
    · exact absurd (hT _ _ _ c1 (c t' p' a' a2')) (by decide)
  · exfalso
    rcases c with ⟨c1, -⟩ | ⟨c1, -⟩
    · exact absurd (hT _ _ _ c1 (c' t p a a2)) (by decide)
    · exact absurd (hT _ _ _ c1 (c' t p a a2)) (by decide)
  · rcases (show (t < t' ∨ (t = t' ∧ p < p')) ∨ (t = t' ∧ p = p') ∨ (t' < t ∨ (t' = t ∧ p' < p)) by omega) with k | k | k
    · exfalso
      have z := b' t p a a2 k
      rcases c with ⟨c1, -⟩ | ⟨c1, -⟩
      · exact absurd (hT _ _ _ c1 z) (by decide)
      · exact absurd (hT _ _ _ c1 z) (by decide)
    · obtain ⟨rfl, rfl⟩ := k
      rcases c with ⟨c1, c2, c3⟩ | ⟨c1, c2, c3⟩ <;> rcases c' with ⟨c1', c2', c3'⟩ | ⟨c1', c2', c3'⟩
      · omega
      · exact absurd (hT _ _ _ c1 c1') (by decide)
      · exact absurd (hT _ _ _ c1 c1') (by decide)
      · omega
    · exfalso
      have z := b t' p' a' a2' k
      rcases c' with ⟨c1, -⟩ | ⟨c1, -⟩
      · exact absurd (hT _ _ _ c1 z) (by decide)
      · exact absurd (hT _ _ _ c1 z) (by decide)
theorem fuR_faR {Th : List Int → Int → Prop} {m : Nat} {r : Int} (h : fuR Th m r) (hm : m ≤ 4) : (r = -1 ∧ faR Th m 1) ∨ (r = -2 ∧ faR Th m (-2)) ∨ ((0 ≤ r ∧ r < 10000) ∧ faR Th m 0) := by
  rcases h with ⟨a, b⟩ | ⟨t, a, b, ⟨c, e⟩ | ⟨c, e⟩⟩
  · exact Or.inl ⟨a, Or.inl ⟨rfl, b⟩⟩
  · exact Or.inr (Or.inr ⟨by have := (pm_b m hm _ (pm_mem a)).2.2; omega, Or.inr ⟨t, a, b, c, by decide⟩⟩)
  · exact Or.inr (Or.inl ⟨e, Or.inr ⟨t, a, b, c, by decide⟩⟩)
theorem faR_uq {Th : List Int → Int → Prop} {m : Nat} {r r' : Int} (hT : ∀ l a b, Th l a → Th l b → a = b) (h : faR Th m r) (h' : faR Th m r') : r = r' := by
  rcases h with ⟨a, b⟩ | ⟨t, a, b, c, e⟩ <;> rcases h' with ⟨a', b'⟩ | ⟨t', a', b', c', e'⟩
  · omega
  · exact absurd (hT _ _ _ c' (b t' a')) e'
  · exact absurd (hT _ _ _ c (b' t a)) e
  · rcases Nat.lt_trichotomy t t' with q | q | q
    · exact absurd (hT _ _ _ c (b' t q)) e
    · subst q; exact hT _ _ _ c c'
    · exact absurd (hT _ _ _ c' (b t' q)) e'
/-- all before were not enough -/
def dwI (FA : Int → Int → Prop) (K last : Int) (c : Nat) (n : Int) : Prop := ∀ (c' : Nat) (p' : Int), (c' : Int) ≤ last → dwP K c' p' → (c' < c ∨ (c' = c ∧ p' < n)) → FA (p' * 50000) 0
theorem dwP_vT {K len pi p : Int} {c : Nat} (h : dwP K c p) (hc : c ≤ 5) (hl : (c : Int) ≤ len) (hK : 0 ≤ K) : vT K len pi (p * 50000) := ⟨p, 0, 0, by unfold tn tw; rw [if_pos rfl]; omega, ⟨h.1, c, hc, h.2, hl⟩, okP_0 (by omega), Int.le_refl _, hK, fun _ => rfl⟩
set_option maxRecDepth 100000 in
set_option maxHeartbeats 4000000 in
theorem x_pipeWith0_1 (d : Nat) (z : Nat → Nat → Int) (f : Nat → Int → Int) (C : Nat → CuR) (T : Nat → TsR) (rc : Nat → Nat) (tl : AmH)  (which : Int) (h0_ : 0 ≤ which) (h1_ : which < 1000) : Rx (d) m_X5_pipeWith 0 (am_ent [.ref 61, .int (iz 0), .int (iz which)] 7) [] (cxW (u2 z 3 1 1) f C T rc tl) (fun rv h => ∃ r : Int, rv = some (.int (iz r)) ∧ h = cxW (u2 z 3 1 1) f C T rc tl ∧ r = pwF 1 0 which) := by
  refine Rx.walk 0 (pc' := 0) (L' := [some (.ref 61), some (.int (iz 0)), some (.int (iz which)), none, none, none, none]) (st' := []) (h' := cxW (u2 z 3 1 1) f C T rc tl) rfl ?_
  refine Rx.walk 10 (pc' := 14) (L' := [some (.ref 61), some (.int (iz 0)), some (.int (iz which)), some (.int (iz which)), some (.int (iz 0)), some (.int (iz 1)), some (.int (iz 0))]) (st' := [.int (iz 0), .int (iz 0)]) (h' := cxW (u2 z 3 1 1) f C T rc tl) rfl ?_
  refine Rx.ge2 rfl rfl ⟨by omega, by omega⟩ ⟨by omega, by omega⟩ (fun b1 => ?_) (fun b1 => by omega)
  refine Rx.walk 1 (pc' := 70) (L' := [some (.ref 61), some (.int (iz 0)), some (.int (iz which)), some (.int (iz which)), some (.int (iz 0)), some (.int (iz 1)), some (.int (iz 0))]) (st' := [.int (iz 0)]) (h' := cxW (u2 z 3 1 1) f C T rc tl) rfl ?_
  refine Rx.ret rfl ?_
  exact ⟨_, rfl, rfl, (by simp only [pwF] <;> omega)⟩
set_option maxRecDepth 100000 in
set_option maxHeartbeats 4000000 in
theorem x_pipeWith1_1 (d : Nat) (z : Nat → Nat → Int) (f : Nat → Int → Int) (C : Nat → CuR) (T : Nat → TsR) (rc : Nat → Nat) (tl : AmH)  (which : Int) (h0_ : 0 ≤ which) (h1_ : which < 1000) : Rx (d) m_X5_pipeWith 0 (am_ent [.ref 61, .int (iz 1), .int (iz which)] 7) [] (cxW (u2 z 3 1 1) f C T rc tl) (fun rv h => ∃ r : Int, rv = some (.int (iz r)) ∧ h = cxW (u2 z 3 1 1) f C T rc tl ∧ r = pwF 1 1 which) := by
  refine Rx.walk 0 (pc' := 0) (L' := [some (.ref 61), some (.int (iz 1)), some (.int (iz which)), none, none, none, none]) (st' := []) (h' := cxW (u2 z 3 1 1) f C T rc tl) rfl ?_
  refine Rx.walk 10 (pc' := 14) (L' := [some (.ref 61), some (.int (iz 1)), some (.int (iz which)), some (.int (iz which)), some (.int (iz 0)), some (.int (iz 1)), some (.int (iz 0))]) (st' := [.int (iz 1), .int (iz 0)]) (h' := cxW (u2 z 3 1 1) f C T rc tl) rfl ?_
  refine Rx.ge2 rfl rfl ⟨by omega, by omega⟩ ⟨by omega, by omega⟩ (fun b1 => by omega) (fun b1 => ?_)
  refine Rx.walk 3 (pc' := 24) (L' := [some (.ref 61), some (.int (iz 1)), some (.int (iz which)), some (.int (iz which)), some (.int (iz 0)), some (.int (iz 1)), some (.int (iz 0))]) (st' := [.int (iz 1)]) (h' := cxW (u2 z 3 1 1) f C T rc tl) rfl ?_
  refine Rx.le1 rfl rfl ⟨by omega, by omega⟩ (fun b2 => by omega) (fun b2 => ?_)
  refine Rx.walk 6 (pc' := 39) (L' := [some (.ref 61), some (.int (iz 1)), some (.int (iz which)), some (.int (iz which)), some (.int (iz 0)), some (.int (iz 1)), some (.int (iz 0))]) (st' := [.int (iz 1), .int (iz which), .int (iz 1), .int (iz 0)]) (h' := cxW (u2 z 3 1 1) f C T rc tl) rfl ?_
  refine Rx.irem rfl ⟨by omega, by omega⟩ ⟨by omega, by omega⟩ (by omega) (by omega) ?_
  refine Rx.walk 1 (pc' := 41) (L' := [some (.ref 61), some (.int (iz 1)), some (.int (iz which)), some (.int (iz which)), some (.int (iz 0)), some (.int (iz 1)), some (.int (iz 0))]) (st' := [.int (iz 1), .int (iz (which % 1)), .int (iz 1), .int (iz 0)]) (h' := cxW (u2 z 3 1 1) f C T rc tl) rfl ?_
  refine Rx.iadd rfl ?_
  refine Rx.imul rfl ?_
  refine Rx.iadd rfl ?_
  refine Rx.walk 5 (pc' := 54) (L' := [some (.ref 61), some (.int (iz 1)), some (.int (iz which)), some (.int (iz which)), some (.int (iz (0 + (1 * ((which % 1) + 1))))), some (.int (iz 1)), some (.int (iz 0))]) (st' := [.int (iz 1), .int (iz which)]) (h' := cxW (u2 z 3 1 1) f C T rc tl) rfl ?_
  refine Rx.idiv rfl ⟨by omega, by omega⟩ ⟨by omega, by omega⟩ (by omega) (by omega) ?_
  refine Rx.walk 3 (pc' := 59) (L' := [some (.ref 61), some (.int (iz 1)), some (.int (iz which)), some (.int (iz (which / 1))), some (.int (iz (0 + (1 * ((which % 1) + 1))))), some (.int (iz 1)), some (.int (iz 0))]) (st' := [.int (iz 5), .int (iz 1)]) (h' := cxW (u2 z 3 1 1) f C T rc tl) rfl ?_
  refine Rx.imul rfl ?_
  refine Rx.walk 0 (pc' := 60) (L' := [some (.ref 61), some (.int (iz 1)), some (.int (iz which)), some (.int (iz (which / 1))), some (.int (iz (0 + (1 * ((which % 1) + 1))))), some (.int (iz 1)), some (.int (iz 0))]) (st' := [.int (iz 5)]) (h' := cxW (u2 z 3 1 1) f C T rc tl) rfl ?_
  refine Rx.walk 1 (pc' := 62) (L' := [some (.ref 61), some (.int (iz 1)), some (.int (iz which)), some (.int (iz (which / 1))), some (.int (iz (0 + (1 * ((which % 1) + 1))))), some (.int (iz 5)), some (.int (iz 0))]) (st' := []) (h' := cxW (u2 z 3 1 1) f C T rc tl) rfl ?_
  refine Rx.iinc (b := 1) rfl rfl rfl ?_
  refine Rx.walk 0 (pc' := 65) (L' := [some (.ref 61), some (.int (iz 1)), some (.int (iz which)), some (.int (iz (which / 1))), some (.int (iz (0 + (1 * ((which % 1) + 1))))), some (.int (iz 5)), some (.int (iz 1))]) (st' := []) (h' := cxW (u2 z 3 1 1) f C T rc tl) rfl ?_
  refine Rx.walk 3 (pc' := 14) (L' := [some (.ref 61), some (.int (iz 1)), some (.int (iz which)), some (.int (iz (which / 1))), some (.int (iz (0 + (1 * ((which % 1) + 1))))), some (.int (iz 5)), some (.int (iz 1))]) (st' := [.int (iz 1), .int (iz 1)]) (h' := cxW (u2 z 3 1 1) f C T rc tl) rfl ?_
  refine Rx.ge2 rfl rfl ⟨by omega, by omega⟩ ⟨by omega, by omega⟩ (fun b3 => ?_) (fun b3 => by omega)
  refine Rx.walk 1 (pc' := 70) (L' := [some (.ref 61), some (.int (iz 1)), some (.int (iz which)), some (.int (iz (which / 1))), some (.int (iz (0 + (1 * ((which % 1) + 1))))), some (.int (iz 5)), some (.int (iz 1))]) (st' := [.int (iz (0 + (1 * ((which % 1) + 1))))]) (h' := cxW (u2 z 3 1 1) f C T rc tl) rfl ?_
  refine Rx.ret rfl ?_
  exact ⟨_, rfl, rfl, (by simp only [pwF] <;> omega)⟩
set_option maxRecDepth 100000 in
set_option maxHeartbeats 4000000 in
theorem x_pipeWith2_1 (d : Nat) (z : Nat → Nat → Int) (f : Nat → Int → Int) (C : Nat → CuR) (T : Nat → TsR) (rc : Nat → Nat) (tl : AmH)  (which : Int) (h0_ : 0 ≤ which) (h1_ : which < 1000) : Rx (d) m_X5_pipeWith 0 (am_ent [.ref 61, .int (iz 2), .int (iz which)] 7) [] (cxW (u2 z 3 1 1) f C T rc tl) (fun rv h => ∃ r : Int, rv = some (.int (iz r)) ∧ h = cxW (u2 z 3 1 1) f C T rc tl ∧ r = pwF 1 2 which) := by
  refine Rx.walk 0 (pc' := 0) (L' := [some (.ref 61), some (.int (iz 2)), some (.int (iz which)), none, none, none, none]) (st' := []) (h' := cxW (u2 z 3 1 1) f C T rc tl) rfl ?_
  refine Rx.walk 10 (pc' := 14) (L' := [some (.ref 61), some (.int (iz 2)), some (.int (iz which)), some (.int (iz which)), some (.int (iz 0)), some (.int (iz 1)), some (.int (iz 0))]) (st' := [.int (iz 2), .int (iz 0)]) (h' := cxW (u2 z 3 1 1) f C T rc tl) rfl ?_
  refine Rx.ge2 rfl rfl ⟨by omega, by omega⟩ ⟨by omega, by omega⟩ (fun b1 => by omega) (fun b1 => ?_)
  refine Rx.walk 3 (pc' := 24) (L' := [some (.ref 61), some (.int (iz 2)), some (.int (iz which)), some (.int (iz which)), some (.int (iz 0)), some (.int (iz 1)), some (.int (iz 0))]) (st' := [.int (iz 1)]) (h' := cxW (u2 z 3 1 1) f C T rc tl) rfl ?_
  refine Rx.le1 rfl rfl ⟨by omega, by omega⟩ (fun b2 => by omega) (fun b2 => ?_)
  refine Rx.walk 6 (pc' := 39) (L' := [some (.ref 61), some (.int (iz 2)), some (.int (iz which)), some (.int (iz which)), some (.int (iz 0)), some (.int (iz 1)), some (.int (iz 0))]) (st' := [.int (iz 1), .int (iz which), .int (iz 1), .int (iz 0)]) (h' := cxW (u2 z 3 1 1) f C T rc tl) rfl ?_
  refine Rx.irem rfl ⟨by omega, by omega⟩ ⟨by omega, by omega⟩ (by omega) (by omega) ?_
  refine Rx.walk 1 (pc' := 41) (L' := [some (.ref 61), some (.int (iz 2)), some (.int (iz which)), some (.int (iz which)), some (.int (iz 0)), some (.int (iz 1)), some (.int (iz 0))]) (st' := [.int (iz 1), .int (iz (which % 1)), .int (iz 1), .int (iz 0)]) (h' := cxW (u2 z 3 1 1) f C T rc tl) rfl ?_
  refine Rx.iadd rfl ?_
  refine Rx.imul rfl ?_
  refine Rx.iadd rfl ?_
  refine Rx.walk 5 (pc' := 54) (L' := [some (.ref 61), some (.int (iz 2)), some (.int (iz which)), some (.int (iz which)), some (.int (iz (0 + (1 * ((which % 1) + 1))))), some (.int (iz 1)), some (.int (iz 0))]) (st' := [.int (iz 1), .int (iz which)]) (h' := cxW (u2 z 3 1 1) f C T rc tl) rfl ?_
  refine Rx.idiv rfl ⟨by omega, by omega⟩ ⟨by omega, by omega⟩ (by omega) (by omega) ?_
  refine Rx.walk 3 (pc' := 59) (L' := [some (.ref 61), some (.int (iz 2)), some (.int (iz which)), some (.int (iz (which / 1))), some (.int (iz (0 + (1 * ((which % 1) + 1))))), some (.int (iz 1)), some (.int (iz 0))]) (st' := [.int (iz 5), .int (iz 1)]) (h' := cxW (u2 z 3 1 1) f C T rc tl) rfl ?_
  refine Rx.imul rfl ?_
  refine Rx.walk 0 (pc' := 60) (L' := [some (.ref 61), some (.int (iz 2)), some (.int (iz which)), some (.int (iz (which / 1))), some (.int (iz (0 + (1 * ((which % 1) + 1))))), some (.int (iz 1)), some (.int (iz 0))]) (st' := [.int (iz 5)]) (h' := cxW (u2 z 3 1 1) f C T rc tl) rfl ?_
  refine Rx.walk 1 (pc' := 62) (L' := [some (.ref 61), some (.int (iz 2)), some (.int (iz which)), some (.int (iz (which / 1))), some (.int (iz (0 + (1 * ((which % 1) + 1))))), some (.int (iz 5)), some (.int (iz 0))]) (st' := []) (h' := cxW (u2 z 3 1 1) f C T rc tl) rfl ?_
  refine Rx.iinc (b := 1) rfl rfl rfl ?_
  refine Rx.walk 0 (pc' := 65) (L' := [some (.ref 61), some (.int (iz 2)), some (.int (iz which)), some (.int (iz (which / 1))), some (.int (iz (0 + (1 * ((which % 1) + 1))))), some (.int (iz 5)), some (.int (iz 1))]) (st' := []) (h' := cxW (u2 z 3 1 1) f C T rc tl) rfl ?_
  refine Rx.walk 3 (pc' := 14) (L' := [some (.ref 61), some (.int (iz 2)), some (.int (iz which)), some (.int (iz (which / 1))), some (.int (iz (0 + (1 * ((which % 1) + 1))))), some (.int (iz 5)), some (.int (iz 1))]) (st' := [.int (iz 2), .int (iz 1)]) (h' := cxW (u2 z 3 1 1) f C T rc tl) rfl ?_
  refine Rx.ge2 rfl rfl ⟨by omega, by omega⟩ ⟨by omega, by omega⟩ (fun b3 => by omega) (fun b3 => ?_)
  refine Rx.walk 3 (pc' := 24) (L' := [some (.ref 61), some (.int (iz 2)), some (.int (iz which)), some (.int (iz (which / 1))), some (.int (iz (0 + (1 * ((which % 1) + 1))))), some (.int (iz 5)), some (.int (iz 1))]) (st' := [.int (iz 1)]) (h' := cxW (u2 z 3 1 1) f C T rc tl) rfl ?_
  refine Rx.le1 rfl rfl ⟨by omega, by omega⟩ (fun b4 => by omega) (fun b4 => ?_)
  refine Rx.walk 6 (pc' := 39) (L' := [some (.ref 61), some (.int (iz 2)), some (.int (iz which)), some (.int (iz (which / 1))), some (.int (iz (0 + (1 * ((which % 1) + 1))))), some (.int (iz 5)), some (.int (iz 1))]) (st' := [.int (iz 1), .int (iz (which / 1)), .int (iz 5), .int (iz (0 + (1 * ((which % 1) + 1))))]) (h' := cxW (u2 z 3 1 1) f C T rc tl) rfl ?_
  refine Rx.irem rfl ⟨by omega, by omega⟩ ⟨by omega, by omega⟩ (by omega) (by omega) ?_
  refine Rx.walk 1 (pc' := 41) (L' := [some (.ref 61), some (.int (iz 2)), some (.int (iz which)), some (.int (iz (which / 1))), some (.int (iz (0 + (1 * ((which % 1) + 1))))), some (.int (iz 5)), some (.int (iz 1))]) (st' := [.int (iz 1), .int (iz ((which / 1) % 1)), .int (iz 5), .int (iz (0 + (1 * ((which % 1) + 1))))]) (h' := cxW (u2 z 3 1 1) f C T rc tl) rfl ?_
  refine Rx.iadd rfl ?_
  refine Rx.imul rfl ?_
  refine Rx.iadd rfl ?_
  refine Rx.walk 5 (pc' := 54) (L' := [some (.ref 61), some (.int (iz 2)), some (.int (iz which)), some (.int (iz (which / 1))), some (.int (iz ((0 + (1 * ((which % 1) + 1))) + (5 * (((which / 1) % 1) + 1))))), some (.int (iz 5)), some (.int (iz 1))]) (st' := [.int (iz 1), .int (iz (which / 1))]) (h' := cxW (u2 z 3 1 1) f C T rc tl) rfl ?_
  refine Rx.idiv rfl ⟨by omega, by omega⟩ ⟨by omega, by omega⟩ (by omega) (by omega) ?_
  refine Rx.walk 3 (pc' := 59) (L' := [some (.ref 61), some (.int (iz 2)), some (.int (iz which)), some (.int (iz ((which / 1) / 1))), some (.int (iz ((0 + (1 * ((which % 1) + 1))) + (5 * (((which / 1) % 1) + 1))))), some (.int (iz 5)), some (.int (iz 1))]) (st' := [.int (iz 5), .int (iz 5)]) (h' := cxW (u2 z 3 1 1) f C T rc tl) rfl ?_
  refine Rx.imul rfl ?_
  refine Rx.walk 0 (pc' := 60) (L' := [some (.ref 61), some (.int (iz 2)), some (.int (iz which)), some (.int (iz ((which / 1) / 1))), some (.int (iz ((0 + (1 * ((which % 1) + 1))) + (5 * (((which / 1) % 1) + 1))))), some (.int (iz 5)), some (.int (iz 1))]) (st' := [.int (iz 25)]) (h' := cxW (u2 z 3 1 1) f C T rc tl) rfl ?_
  refine Rx.walk 1 (pc' := 62) (L' := [some (.ref 61), some (.int (iz 2)), some (.int (iz which)), some (.int (iz ((which / 1) / 1))), some (.int (iz ((0 + (1 * ((which % 1) + 1))) + (5 * (((which / 1) % 1) + 1))))), some (.int (iz 25)), some (.int (iz 1))]) (st' := []) (h' := cxW (u2 z 3 1 1) f C T rc tl) rfl ?_
  refine Rx.iinc (b := 1) rfl rfl rfl ?_
  refine Rx.walk 0 (pc' := 65) (L' := [some (.ref 61), some (.int (iz 2)), some (.int (iz which)), some (.int (iz ((which / 1) / 1))), some (.int (iz ((0 + (1 * ((which % 1) + 1))) + (5 * (((which / 1) % 1) + 1))))), some (.int (iz 25)), some (.int (iz 2))]) (st' := []) (h' := cxW (u2 z 3 1 1) f C T rc tl) rfl ?_
  refine Rx.walk 3 (pc' := 14) (L' := [some (.ref 61), some (.int (iz 2)), some (.int (iz which)), some (.int (iz ((which / 1) / 1))), some (.int (iz ((0 + (1 * ((which % 1) + 1))) + (5 * (((which / 1) % 1) + 1))))), some (.int (iz 25)), some (.int (iz 2))]) (st' := [.int (iz 2), .int (iz 2)]) (h' := cxW (u2 z 3 1 1) f C T rc tl) rfl ?_
  refine Rx.ge2 rfl rfl ⟨by omega, by omega⟩ ⟨by omega, by omega⟩ (fun b5 => ?_) (fun b5 => by omega)
  refine Rx.walk 1 (pc' := 70) (L' := [some (.ref 61), some (.int (iz 2)), some (.int (iz which)), some (.int (iz ((which / 1) / 1))), some (.int (iz ((0 + (1 * ((which % 1) + 1))) + (5 * (((which / 1) % 1) + 1))))), some (.int (iz 25)), some (.int (iz 2))]) (st' := [.int (iz ((0 + (1 * ((which % 1) + 1))) + (5 * (((which / 1) % 1) + 1))))]) (h' := cxW (u2 z 3 1 1) f C T rc tl) rfl ?_
  refine Rx.ret rfl ?_
  exact ⟨_, rfl, rfl, (by simp only [pwF] <;> omega)⟩
set_option maxRecDepth 100000 in
set_option maxHeartbeats 4000000 in
theorem x_pipeWith3_1 (d : Nat) (z : Nat → Nat → Int) (f : Nat → Int → Int) (C : Nat → CuR) (T : Nat → TsR) (rc : Nat → Nat) (tl : AmH)  (which : Int) (h0_ : 0 ≤ which) (h1_ : which < 1000) : Rx (d) m_X5_pipeWith 0 (am_ent [.ref 61, .int (iz 3), .int (iz which)] 7) [] (cxW (u2 z 3 1 1) f C T rc tl) (fun rv h => ∃ r : Int, rv = some (.int (iz r)) ∧ h = cxW (u2 z 3 1 1) f C T rc tl ∧ r = pwF 1 3 which) := by
  refine Rx.walk 0 (pc' := 0) (L' := [some (.ref 61), some (.int (iz 3)), some (.int (iz which)), none, none, none, none]) (st' := []) (h' := cxW (u2 z 3 1 1) f C T rc tl) rfl ?_
  refine Rx.walk 10 (pc' := 14) (L' := [some (.ref 61), some (.int (iz 3)), some (.int (iz which)), some (.int (iz which)), some (.int (iz 0)), some (.int (iz 1)), some (.int (iz 0))]) (st' := [.int (iz 3), .int (iz 0)]) (h' := cxW (u2 z 3 1 1) f C T rc tl) rfl ?_
  refine Rx.ge2 rfl rfl ⟨by omega, by omega⟩ ⟨by omega, by omega⟩ (fun b1 => by omega) (fun b1 => ?_)
  refine Rx.walk 3 (pc' := 24) (L' := [some (.ref 61), some (.int (iz 3)), some (.int (iz which)), some (.int (iz which)), some (.int (iz 0)), some (.int (iz 1)), some (.int (iz 0))]) (st' := [.int (iz 1)]) (h' := cxW (u2 z 3 1 1) f C T rc tl) rfl ?_
  refine Rx.le1 rfl rfl ⟨by omega, by omega⟩ (fun b2 => by omega) (fun b2 => ?_)
  refine Rx.walk 6 (pc' := 39) (L' := [some (.ref 61), some (.int (iz 3)), some (.int (iz which)), some (.int (iz which)), some (.int (iz 0)), some (.int (iz 1)), some (.int (iz 0))]) (st' := [.int (iz 1), .int (iz which), .int (iz 1), .int (iz 0)]) (h' := cxW (u2 z 3 1 1) f C T rc tl) rfl ?_
  refine Rx.irem rfl ⟨by omega, by omega⟩ ⟨by omega, by omega⟩ (by omega) (by omega) ?_
  refine Rx.walk 1 (pc' := 41) (L' := [some (.ref 61), some (.int (iz 3)), some (.int (iz which)), some (.int (iz which)), some (.int (iz 0)), some (.int (iz 1)), some (.int (iz 0))]) (st' := [.int (iz 1), .int (iz (which % 1)), .int (iz 1), .int (iz 0)]) (h' := cxW (u2 z 3 1 1) f C T rc tl) rfl ?_
  refine Rx.iadd rfl ?_
  refine Rx.imul rfl ?_
  refine Rx.iadd rfl ?_
  refine Rx.walk 5 (pc' := 54) (L' := [some (.ref 61), some (.int (iz 3)), some (.int (iz which)), some (.int (iz which)), some (.int (iz (0 + (1 * ((which % 1) + 1))))), some (.int (iz 1)), some (.int (iz 0))]) (st' := [.int (iz 1), .int (iz which)]) (h' := cxW (u2 z 3 1 1) f C T rc tl) rfl ?_
  refine Rx.idiv rfl ⟨by omega, by omega⟩ ⟨by omega, by omega⟩ (by omega) (by omega) ?_
  refine Rx.walk 3 (pc' := 59) (L' := [some (.ref 61), some (.int (iz 3)), some (.int (iz which)), some (.int (iz (which / 1))), some (.int (iz (0 + (1 * ((which % 1) + 1))))), some (.int (iz 1)), some (.int (iz 0))]) (st' := [.int (iz 5), .int (iz 1)]) (h' := cxW (u2 z 3 1 1) f C T rc tl) rfl ?_
  refine Rx.imul rfl ?_
  refine Rx.walk 0 (pc' := 60) (L' := [some (.ref 61), some (.int (iz 3)), some (.int (iz which)), some (.int (iz (which / 1))), some (.int (iz (0 + (1 * ((which % 1) + 1))))), some (.int (iz 1)), some (.int (iz 0))]) (st' := [.int (iz 5)]) (h' := cxW (u2 z 3 1 1) f C T rc tl) rfl ?_
  refine Rx.walk 1 (pc' := 62) (L' := [some (.ref 61), some (.int (iz 3)), some (.int (iz which)), some (.int (iz (which / 1))), some (.int (iz (0 + (1 * ((which % 1) + 1))))), some (.int (iz 5)), some (.int (iz 0))]) (st' := []) (h' := cxW (u2 z 3 1 1) f C T rc tl) rfl ?_
  refine Rx.iinc (b := 1) rfl rfl rfl ?_
  refine Rx.walk 0 (pc' := 65) (L' := [some (.ref 61), some (.int (iz 3)), some (.int (iz which)), some (.int (iz (which / 1))), some (.int (iz (0 + (1 * ((which % 1) + 1))))), some (.int (iz 5)), some (.int (iz 1))]) (st' := []) (h' := cxW (u2 z 3 1 1) f C T rc tl) rfl ?_
  refine Rx.walk 3 (pc' := 14) (L' := [some (.ref 61), some (.int (iz 3)), some (.int (iz which)), some (.int (iz (which / 1))), some (.int (iz (0 + (1 * ((which % 1) + 1))))), some (.int (iz 5)), some (.int (iz 1))]) (st' := [.int (iz 3), .int (iz 1)]) (h' := cxW (u2 z 3 1 1) f C T rc tl) rfl ?_
  refine Rx.ge2 rfl rfl ⟨by omega, by omega⟩ ⟨by omega, by omega⟩ (fun b3 => by omega) (fun b3 => ?_)
  refine Rx.walk 3 (pc' := 24) (L' := [some (.ref 61), some (.int (iz 3)), some (.int (iz which)), some (.int (iz (which / 1))), some (.int (iz (0 + (1 * ((which % 1) + 1))))), some (.int (iz 5)), some (.int (iz 1))]) (st' := [.int (iz 1)]) (h' := cxW (u2 z 3 1 1) f C T rc tl) rfl ?_
  refine Rx.le1 rfl rfl ⟨by omega, by omega⟩ (fun b4 => by omega) (fun b4 => ?_)
  refine Rx.walk 6 (pc' := 39) (L' := [some (.ref 61), some (.int (iz 3)), some (.int (iz which)), some (.int (iz (which / 1))), some (.int (iz (0 + (1 * ((which % 1) + 1))))), some (.int (iz 5)), some (.int (iz 1))]) (st' := [.int (iz 1), .int (iz (which / 1)), .int (iz 5), .int (iz (0 + (1 * ((which % 1) + 1))))]) (h' := cxW (u2 z 3 1 1) f C T rc tl) rfl ?_
  refine Rx.irem rfl ⟨by omega, by omega⟩ ⟨by omega, by omega⟩ (by omega) (by omega) ?_
  refine Rx.walk 1 (pc' := 41) (L' := [some (.ref 61), some (.int (iz 3)), some (.int (iz which)), some (.int (iz (which / 1))), some (.int (iz (0 + (1 * ((which % 1) + 1))))), some (.int (iz 5)), some (.int (iz 1))]) (st' := [.int (iz 1), .int (iz ((which / 1) % 1)), .int (iz 5), .int (iz (0 + (1 * ((which % 1) + 1))))]) (h' := cxW (u2 z 3 1 1) f C T rc tl) rfl ?_
  refine Rx.iadd rfl ?_
  refine Rx.imul rfl ?_
  refine Rx.iadd rfl ?_
  refine Rx.walk 5 (pc' := 54) (L' := [some (.ref 61), some (.int (iz 3)), some (.int (iz which)), some (.int (iz (which / 1))), some (.int (iz ((0 + (1 * ((which % 1) + 1))) + (5 * (((which / 1) % 1) + 1))))), some (.int (iz 5)), some (.int (iz 1))]) (st' := [.int (iz 1), .int (iz (which / 1))]) (h' := cxW (u2 z 3 1 1) f C T rc tl) rfl ?_
  refine Rx.idiv rfl ⟨by omega, by omega⟩ ⟨by omega, by omega⟩ (by omega) (by omega) ?_
  refine Rx.walk 3 (pc' := 59) (L' := [some (.ref 61), some (.int (iz 3)), some (.int (iz which)), some (.int (iz ((which / 1) / 1))), some (.int (iz ((0 + (1 * ((which % 1) + 1))) + (5 * (((which / 1) % 1) + 1))))), some (.int (iz 5)), some (.int (iz 1))]) (st' := [.int (iz 5), .int (iz 5)]) (h' := cxW (u2 z 3 1 1) f C T rc tl) rfl ?_
  refine Rx.imul rfl ?_
  refine Rx.walk 0 (pc' := 60) (L' := [some (.ref 61), some (.int (iz 3)), some (.int (iz which)), some (.int (iz ((which / 1) / 1))), some (.int (iz ((0 + (1 * ((which % 1) + 1))) + (5 * (((which / 1) % 1) + 1))))), some (.int (iz 5)), some (.int (iz 1))]) (st' := [.int (iz 25)]) (h' := cxW (u2 z 3 1 1) f C T rc tl) rfl ?_
  refine Rx.walk 1 (pc' := 62) (L' := [some (.ref 61), some (.int (iz 3)), some (.int (iz which)), some (.int (iz ((which / 1) / 1))), some (.int (iz ((0 + (1 * ((which % 1) + 1))) + (5 * (((which / 1) % 1) + 1))))), some (.int (iz 25)), some (.int (iz 1))]) (st' := []) (h' := cxW (u2 z 3 1 1) f C T rc tl) rfl ?_
  refine Rx.iinc (b := 1) rfl rfl rfl ?_
  refine Rx.walk 0 (pc' := 65) (L' := [some (.ref 61), some (.int (iz 3)), some (.int (iz which)), some (.int (iz ((which / 1) / 1))), some (.int (iz ((0 + (1 * ((which % 1) + 1))) + (5 * (((which / 1) % 1) + 1))))), some (.int (iz 25)), some (.int (iz 2))]) (st' := []) (h' := cxW (u2 z 3 1 1) f C T rc tl) rfl ?_
  refine Rx.walk 3 (pc' := 14) (L' := [some (.ref 61), some (.int (iz 3)), some (.int (iz which)), some (.int (iz ((which / 1) / 1))), some (.int (iz ((0 + (1 * ((which % 1) + 1))) + (5 * (((which / 1) % 1) + 1))))), some (.int (iz 25)), some (.int (iz 2))]) (st' := [.int (iz 3), .int (iz 2)]) (h' := cxW (u2 z 3 1 1) f C T rc tl) rfl ?_
  refine Rx.ge2 rfl rfl ⟨by omega, by omega⟩ ⟨by omega, by omega⟩ (fun b5 => by omega) (fun b5 => ?_)
  refine Rx.walk 3 (pc' := 24) (L' := [some (.ref 61), some (.int (iz 3)), some (.int (iz which)), some (.int (iz ((which / 1) / 1))), some (.int (iz ((0 + (1 * ((which % 1) + 1))) + (5 * (((which / 1) % 1) + 1))))), some (.int (iz 25)), some (.int (iz 2))]) (st' := [.int (iz 1)]) (h' := cxW (u2 z 3 1 1) f C T rc tl) rfl ?_
  refine Rx.le1 rfl rfl ⟨by omega, by omega⟩ (fun b6 => by omega) (fun b6 => ?_)
  refine Rx.walk 6 (pc' := 39) (L' := [some (.ref 61), some (.int (iz 3)), some (.int (iz which)), some (.int (iz ((which / 1) / 1))), some (.int (iz ((0 + (1 * ((which % 1) + 1))) + (5 * (((which / 1) % 1) + 1))))), some (.int (iz 25)), some (.int (iz 2))]) (st' := [.int (iz 1), .int (iz ((which / 1) / 1)), .int (iz 25), .int (iz ((0 + (1 * ((which % 1) + 1))) + (5 * (((which / 1) % 1) + 1))))]) (h' := cxW (u2 z 3 1 1) f C T rc tl) rfl ?_
  refine Rx.irem rfl ⟨by omega, by omega⟩ ⟨by omega, by omega⟩ (by omega) (by omega) ?_
  refine Rx.walk 1 (pc' := 41) (L' := [some (.ref 61), some (.int (iz 3)), some (.int (iz which)), some (.int (iz ((which / 1) / 1))), some (.int (iz ((0 + (1 * ((which % 1) + 1))) + (5 * (((which / 1) % 1) + 1))))), some (.int (iz 25)), some (.int (iz 2))]) (st' := [.int (iz 1), .int (iz (((which / 1) / 1) % 1)), .int (iz 25), .int (iz ((0 + (1 * ((which % 1) + 1))) + (5 * (((which / 1) % 1) + 1))))]) (h' := cxW (u2 z 3 1 1) f C T rc tl) rfl ?_
  refine Rx.iadd rfl ?_
  refine Rx.imul rfl ?_
  refine Rx.iadd rfl ?_
  refine Rx.walk 5 (pc' := 54) (L' := [some (.ref 61), some (.int (iz 3)), some (.int (iz which)), some (.int (iz ((which / 1) / 1))), some (.int (iz (((0 + (1 * ((which % 1) + 1))) + (5 * (((which / 1) % 1) + 1))) + (25 * ((((which / 1) / 1) % 1) + 1))))), some (.int (iz 25)), some (.int (iz 2))]) (st' := [.int (iz 1), .int (iz ((which / 1) / 1))]) (h' := cxW (u2 z 3 1 1) f C T rc tl) rfl ?_
  refine Rx.idiv rfl ⟨by omega, by omega⟩ ⟨by omega, by omega⟩ (by omega) (by omega) ?_
  refine Rx.walk 3 (pc' := 59) (L' := [some (.ref 61), some (.int (iz 3)), some (.int (iz which)), some (.int (iz (((which / 1) / 1) / 1))), some (.int (iz (((0 + (1 * ((which % 1) + 1))) + (5 * (((which / 1) % 1) + 1))) + (25 * ((((which / 1) / 1) % 1) + 1))))), some (.int (iz 25)), some (.int (iz 2))]) (st' := [.int (iz 5), .int (iz 25)]) (h' := cxW (u2 z 3 1 1) f C T rc tl) rfl ?_
  refine Rx.imul rfl ?_
  refine Rx.walk 0 (pc' := 60) (L' := [some (.ref 61), some (.int (iz 3)), some (.int (iz which)), some (.int (iz (((which / 1) / 1) / 1))), some (.int (iz (((0 + (1 * ((which % 1) + 1))) + (5 * (((which / 1) % 1) + 1))) + (25 * ((((which / 1) / 1) % 1) + 1))))), some (.int (iz 25)), some (.int (iz 2))]) (st' := [.int (iz 125)]) (h' := cxW (u2 z 3 1 1) f C T rc tl) rfl ?_
  refine Rx.walk 1 (pc' := 62) (L' := [some (.ref 61), some (.int (iz 3)), some (.int (iz which)), some (.int (iz (((which / 1) / 1) / 1))), some (.int (iz (((0 + (1 * ((which % 1) + 1))) + (5 * (((which / 1) % 1) + 1))) + (25 * ((((which / 1) / 1) % 1) + 1))))), some (.int (iz 125)), some (.int (iz 2))]) (st' := []) (h' := cxW (u2 z 3 1 1) f C T rc tl) rfl ?_
  refine Rx.iinc (b := 1) rfl rfl rfl ?_
  refine Rx.walk 0 (pc' := 65) (L' := [some (.ref 61), some (.int (iz 3)), some (.int (iz which)), some (.int (iz (((which / 1) / 1) / 1))), some (.int (iz (((0 + (1 * ((which % 1) + 1))) + (5 * (((which / 1) % 1) + 1))) + (25 * ((((which / 1) / 1) % 1) + 1))))), some (.int (iz 125)), some (.int (iz 3))]) (st' := []) (h' := cxW (u2 z 3 1 1) f C T rc tl) rfl ?_
  refine Rx.walk 3 (pc' := 14) (L' := [some (.ref 61), some (.int (iz 3)), some (.int (iz which)), some (.int (iz (((which / 1) / 1) / 1))), some (.int (iz (((0 + (1 * ((which % 1) + 1))) + (5 * (((which / 1) % 1) + 1))) + (25 * ((((which / 1) / 1) % 1) + 1))))), some (.int (iz 125)), some (.int (iz 3))]) (st' := [.int (iz 3), .int (iz 3)]) (h' := cxW (u2 z 3 1 1) f C T rc tl) rfl ?_
  refine Rx.ge2 rfl rfl ⟨by omega, by omega⟩ ⟨by omega, by omega⟩ (fun b7 => ?_) (fun b7 => by omega)
  refine Rx.walk 1 (pc' := 70) (L' := [some (.ref 61), some (.int (iz 3)), some (.int (iz which)), some (.int (iz (((which / 1) / 1) / 1))), some (.int (iz (((0 + (1 * ((which % 1) + 1))) + (5 * (((which / 1) % 1) + 1))) + (25 * ((((which / 1) / 1) % 1) + 1))))), some (.int (iz 125)), some (.int (iz 3))]) (st' := [.int (iz (((0 + (1 * ((which % 1) + 1))) + (5 * (((which / 1) % 1) + 1))) + (25 * ((((which / 1) / 1) % 1) + 1))))]) (h' := cxW (u2 z 3 1 1) f C T rc tl) rfl ?_
  refine Rx.ret rfl ?_
  exact ⟨_, rfl, rfl, (by simp only [pwF] <;> omega)⟩
set_option maxRecDepth 100000 in
set_option maxHeartbeats 4000000 in
theorem x_pipeWith0_2 (d : Nat) (z : Nat → Nat → Int) (f : Nat → Int → Int) (C : Nat → CuR) (T : Nat → TsR) (rc : Nat → Nat) (tl : AmH)  (which : Int) (h0_ : 0 ≤ which) (h1_ : which < 1000) : Rx (d) m_X5_pipeWith 0 (am_ent [.ref 61, .int (iz 0), .int (iz which)] 7) [] (cxW (u2 z 3 1 2) f C T rc tl) (fun rv h => ∃ r : Int, rv = some (.int (iz r)) ∧ h = cxW (u2 z 3 1 2) f C T rc tl ∧ r = pwF 2 0 which) := by
  refine Rx.walk 0 (pc' := 0) (L' := [some (.ref 61), some (.int (iz 0)), some (.int (iz which)), none, none, none, none]) (st' := []) (h' := cxW (u2 z 3 1 2) f C T rc tl) rfl ?_
  refine Rx.walk 10 (pc' := 14) (L' := [some (.ref 61), some (.int (iz 0)), some (.int (iz which)), some (.int (iz which)), some (.int (iz 0)), some (.int (iz 1)), some (.int (iz 0))]) (st' := [.int (iz 0), .int (iz 0)]) (h' := cxW (u2 z 3 1 2) f C T rc tl) rfl ?_
  refine Rx.ge2 rfl rfl ⟨by omega, by omega⟩ ⟨by omega, by omega⟩ (fun b1 => ?_) (fun b1 => by omega)
  refine Rx.walk 1 (pc' := 70) (L' := [some (.ref 61), some (.int (iz 0)), some (.int (iz which)), some (.int (iz which)), some (.int (iz 0)), some (.int (iz 1)), some (.int (iz 0))]) (st' := [.int (iz 0)]) (h' := cxW (u2 z 3 1 2) f C T rc tl) rfl ?_
  refine Rx.ret rfl ?_
  exact ⟨_, rfl, rfl, (by simp only [pwF] <;> omega)⟩
set_option maxRecDepth 100000 in
set_option maxHeartbeats 4000000 in
theorem x_pipeWith1_2 (d : Nat) (z : Nat → Nat → Int) (f : Nat → Int → Int) (C : Nat → CuR) (T : Nat → TsR) (rc : Nat → Nat) (tl : AmH)  (which : Int) (h0_ : 0 ≤ which) (h1_ : which < 1000) : Rx (d) m_X5_pipeWith 0 (am_ent [.ref 61, .int (iz 1), .int (iz which)] 7) [] (cxW (u2 z 3 1 2) f C T rc tl) (fun rv h => ∃ r : Int, rv = some (.int (iz r)) ∧ h = cxW (u2 z 3 1 2) f C T rc tl ∧ r = pwF 2 1 which) := by
  refine Rx.walk 0 (pc' := 0) (L' := [some (.ref 61), some (.int (iz 1)), some (.int (iz which)), none, none, none, none]) (st' := []) (h' := cxW (u2 z 3 1 2) f C T rc tl) rfl ?_
  refine Rx.walk 10 (pc' := 14) (L' := [some (.ref 61), some (.int (iz 1)), some (.int (iz which)), some (.int (iz which)), some (.int (iz 0)), some (.int (iz 1)), some (.int (iz 0))]) (st' := [.int (iz 1), .int (iz 0)]) (h' := cxW (u2 z 3 1 2) f C T rc tl) rfl ?_
  refine Rx.ge2 rfl rfl ⟨by omega, by omega⟩ ⟨by omega, by omega⟩ (fun b1 => by omega) (fun b1 => ?_)
  refine Rx.walk 3 (pc' := 24) (L' := [some (.ref 61), some (.int (iz 1)), some (.int (iz which)), some (.int (iz which)), some (.int (iz 0)), some (.int (iz 1)), some (.int (iz 0))]) (st' := [.int (iz 2)]) (h' := cxW (u2 z 3 1 2) f C T rc tl) rfl ?_
  refine Rx.le1 rfl rfl ⟨by omega, by omega⟩ (fun b2 => by omega) (fun b2 => ?_)
  refine Rx.walk 6 (pc' := 39) (L' := [some (.ref 61), some (.int (iz 1)), some (.int (iz which)), some (.int (iz which)), some (.int (iz 0)), some (.int (iz 1)), some (.int (iz 0))]) (st' := [.int (iz 2), .int (iz which), .int (iz 1), .int (iz 0)]) (h' := cxW (u2 z 3 1 2) f C T rc tl) rfl ?_
  refine Rx.irem rfl ⟨by omega, by omega⟩ ⟨by omega, by omega⟩ (by omega) (by omega) ?_
  refine Rx.walk 1 (pc' := 41) (L' := [some (.ref 61), some (.int (iz 1)), some (.int (iz which)), some (.int (iz which)), some (.int (iz 0)), some (.int (iz 1)), some (.int (iz 0))]) (st' := [.int (iz 1), .int (iz (which % 2)), .int (iz 1), .int (iz 0)]) (h' := cxW (u2 z 3 1 2) f C T rc tl) rfl ?_
  refine Rx.iadd rfl ?_
  refine Rx.imul rfl ?_
  refine Rx.iadd rfl ?_
  refine Rx.walk 5 (pc' := 54) (L' := [some (.ref 61), some (.int (iz 1)), some (.int (iz which)), some (.int (iz which)), some (.int (iz (0 + (1 * ((which % 2) + 1))))), some (.int (iz 1)), some (.int (iz 0))]) (st' := [.int (iz 2), .int (iz which)]) (h' := cxW (u2 z 3 1 2) f C T rc tl) rfl ?_
  refine Rx.idiv rfl ⟨by omega, by omega⟩ ⟨by omega, by omega⟩ (by omega) (by omega) ?_
  refine Rx.walk 3 (pc' := 59) (L' := [some (.ref 61), some (.int (iz 1)), some (.int (iz which)), some (.int (iz (which / 2))), some (.int (iz (0 + (1 * ((which % 2) + 1))))), some (.int (iz 1)), some (.int (iz 0))]) (st' := [.int (iz 5), .int (iz 1)]) (h' := cxW (u2 z 3 1 2) f C T rc tl) rfl ?_
  refine Rx.imul rfl ?_
  refine Rx.walk 0 (pc' := 60) (L' := [some (.ref 61), some (.int (iz 1)), some (.int (iz which)), some (.int (iz (which / 2))), some (.int (iz (0 + (1 * ((which % 2) + 1))))), some (.int (iz 1)), some (.int (iz 0))]) (st' := [.int (iz 5)]) (h' := cxW (u2 z 3 1 2) f C T rc tl) rfl ?_
  refine Rx.walk 1 (pc' := 62) (L' := [some (.ref 61), some (.int (iz 1)), some (.int (iz which)), some (.int (iz (which / 2))), some (.int (iz (0 + (1 * ((which % 2) + 1))))), some (.int (iz 5)), some (.int (iz 0))]) (st' := []) (h' := cxW (u2 z 3 1 2) f C T rc tl) rfl ?_
  refine Rx.iinc (b := 1) rfl rfl rfl ?_
  refine Rx.walk 0 (pc' := 65) (L' := [some (.ref 61), some (.int (iz 1)), some (.int (iz which)), some (.int (iz (which / 2))), some (.int (iz (0 + (1 * ((which % 2) + 1))))), some (.int (iz 5)), some (.int (iz 1))]) (st' := []) (h' := cxW (u2 z 3 1 2) f C T rc tl) rfl ?_
  refine Rx.walk 3 (pc' := 14) (L' := [some (.ref 61), some (.int (iz 1)), some (.int (iz which)), some (.int (iz (which / 2))), some (.int (iz (0 + (1 * ((which % 2) + 1))))), some (.int (iz 5)), some (.int (iz 1))]) (st' := [.int (iz 1), .int (iz 1)]) (h' := cxW (u2 z 3 1 2) f C T rc tl) rfl ?_
  refine Rx.ge2 rfl rfl ⟨by omega, by omega⟩ ⟨by omega, by omega⟩ (fun b3 => ?_) (fun b3 => by omega)
  refine Rx.walk 1 (pc' := 70) (L' := [some (.ref 61), some (.int (iz 1)), some (.int (iz which)), some (.int (iz (which / 2))), some (.int (iz (0 + (1 * ((which % 2) + 1))))), some (.int (iz 5)), some (.int (iz 1))]) (st' := [.int (iz (0 + (1 * ((which % 2) + 1))))]) (h' := cxW (u2 z 3 1 2) f C T rc tl) rfl ?_
  refine Rx.ret rfl ?_
  exact ⟨_, rfl, rfl, (by simp only [pwF] <;> omega)⟩
set_option maxRecDepth 100000 in
set_option maxHeartbeats 4000000 in
theorem x_pipeWith2_2 (d : Nat) (z : Nat → Nat → Int) (f : Nat → Int → Int) (C : Nat → CuR) (T : Nat → TsR) (rc : Nat → Nat) (tl : AmH)  (which : Int) (h0_ : 0 ≤ which) (h1_ : which < 1000) : Rx (d) m_X5_pipeWith 0 (am_ent [.ref 61, .int (iz 2), .int (iz which)] 7) [] (cxW (u2 z 3 1 2) f C T rc tl) (fun rv h => ∃ r : Int, rv = some (.int (iz r)) ∧ h = cxW (u2 z 3 1 2) f C T rc tl ∧ r = pwF 2 2 which) := by
  refine Rx.walk 0 (pc' := 0) (L' := [some (.ref 61), some (.int (iz 2)), some (.int (iz which)), none, none, none, none]) (st' := []) (h' := cxW (u2 z 3 1 2) f C T rc tl) rfl ?_
  refine Rx.walk 10 (pc' := 14) (L' := [some (.ref 61), some (.int (iz 2)), some (.int (iz which)), some (.int (iz which)), some (.int (iz 0)), some (.int (iz 1)), some (.int (iz 0))]) (st' := [.int (iz 2), .int (iz 0)]) (h' := cxW (u2 z 3 1 2) f C T rc tl) rfl ?_
  refine Rx.ge2 rfl rfl ⟨by omega, by omega⟩ ⟨by omega, by omega⟩ (fun b1 => by omega) (fun b1 => ?_)
  refine Rx.walk 3 (pc' := 24) (L' := [some (.ref 61), some (.int (iz 2)), some (.int (iz which)), some (.int (iz which)), some (.int (iz 0)), some (.int (iz 1)), some (.int (iz 0))]) (st' := [.int (iz 2)]) (h' := cxW (u2 z 3 1 2) f C T rc tl) rfl ?_
  refine Rx.le1 rfl rfl ⟨by omega, by omega⟩ (fun b2 => by omega) (fun b2 => ?_)
  refine Rx.walk 6 (pc' := 39) (L' := [some (.ref 61), some (.int (iz 2)), some (.int (iz which)), some (.int (iz which)), some (.int (iz 0)), some (.int (iz 1)), some (.int (iz 0))]) (st' := [.int (iz 2), .int (iz which), .int (iz 1), .int (iz 0)]) (h' := cxW (u2 z 3 1 2) f C T rc tl) rfl ?_
  refine Rx.irem rfl ⟨by omega, by omega⟩ ⟨by omega, by omega⟩ (by omega) (by omega) ?_
  refine Rx.walk 1 (pc' := 41) (L' := [some (.ref 61), some (.int (iz 2)), some (.int (iz which)), some (.int (iz which)), some (.int (iz 0)), some (.int (iz 1)), some (.int (iz 0))]) (st' := [.int (iz 1), .int (iz (which % 2)), .int (iz 1), .int (iz 0)]) (h' := cxW (u2 z 3 1 2) f C T rc tl) rfl ?_
  refine Rx.iadd rfl ?_
  refine Rx.imul rfl ?_
  refine Rx.iadd rfl ?_
  refine Rx.walk 5 (pc' := 54) (L' := [some (.ref 61), some (.int (iz 2)), some (.int (iz which)), some (.int (iz which)), some (.int (iz (0 + (1 * ((which % 2) + 1))))), some (.int (iz 1)), some (.int (iz 0))]) (st' := [.int (iz 2), .int (iz which)]) (h' := cxW (u2 z 3 1 2) f C T rc tl) rfl ?_
  refine Rx.idiv rfl ⟨by omega, by omega⟩ ⟨by omega, by omega⟩ (by omega) (by omega) ?_
  refine Rx.walk 3 (pc' := 59) (L' := [some (.ref 61), some (.int (iz 2)), some (.int (iz which)), some (.int (iz (which / 2))), some (.int (iz (0 + (1 * ((which % 2) + 1))))), some (.int (iz 1)), some (.int (iz 0))]) (st' := [.int (iz 5), .int (iz 1)]) (h' := cxW (u2 z 3 1 2) f C T rc tl) rfl ?_
  refine Rx.imul rfl ?_
  refine Rx.walk 0 (pc' := 60) (L' := [some (.ref 61), some (.int (iz 2)), some (.int (iz which)), some (.int (iz (which / 2))), some (.int (iz (0 + (1 * ((which % 2) + 1))))), some (.int (iz 1)), some (.int (iz 0))]) (st' := [.int (iz 5)]) (h' := cxW (u2 z 3 1 2) f C T rc tl) rfl ?_
  refine Rx.walk 1 (pc' := 62) (L' := [some (.ref 61), some (.int (iz 2)), some (.int (iz which)), some (.int (iz (which / 2))), some (.int (iz (0 + (1 * ((which % 2) + 1))))), some (.int (iz 5)), some (.int (iz 0))]) (st' := []) (h' := cxW (u2 z 3 1 2) f C T rc tl) rfl ?_
  refine Rx.iinc (b := 1) rfl rfl rfl ?_
  refine Rx.walk 0 (pc' := 65) (L' := [some (.ref 61), some (.int (iz 2)), some (.int (iz which)), some (.int (iz (which / 2))), some (.int (iz (0 + (1 * ((which % 2) + 1))))), some (.int (iz 5)), some (.int (iz 1))]) (st' := []) (h' := cxW (u2 z 3 1 2) f C T rc tl) rfl ?_
  refine Rx.walk 3 (pc' := 14) (L' := [some (.ref 61), some (.int (iz 2)), some (.int (iz which)), some (.int (iz (which / 2))), some (.int (iz (0 + (1 * ((which % 2) + 1))))), some (.int (iz 5)), some (.int (iz 1))]) (st' := [.int (iz 2), .int (iz 1)]) (h' := cxW (u2 z 3 1 2) f C T rc tl) rfl ?_
  refine Rx.ge2 rfl rfl ⟨by omega, by omega⟩ ⟨by omega, by omega⟩ (fun b3 => by omega) (fun b3 => ?_)
  refine Rx.walk 3 (pc' := 24) (L' := [some (.ref 61), some (.int (iz 2)), some (.int (iz which)), some (.int (iz (which / 2))), some (.int (iz (0 + (1 * ((which % 2) + 1))))), some (.int (iz 5)), some (.int (iz 1))]) (st' := [.int (iz 2)]) (h' := cxW (u2 z 3 1 2) f C T rc tl) rfl ?_
  refine Rx.le1 rfl rfl ⟨by omega, by omega⟩ (fun b4 => by omega) (fun b4 => ?_)
  refine Rx.walk 6 (pc' := 39) (L' := [some (.ref 61), some (.int (iz 2)), some (.int (iz which)), some (.int (iz (which / 2))), some (.int (iz (0 + (1 * ((which % 2) + 1))))), some (.int (iz 5)), some (.int (iz 1))]) (st' := [.int (iz 2), .int (iz (which / 2)), .int (iz 5), .int (iz (0 + (1 * ((which % 2) + 1))))]) (h' := cxW (u2 z 3 1 2) f C T rc tl) rfl ?_
  refine Rx.irem rfl ⟨by omega, by omega⟩ ⟨by omega, by omega⟩ (by omega) (by omega) ?_
  refine Rx.walk 1 (pc' := 41) (L' := [some (.ref 61), some (.int (iz 2)), some (.int (iz which)), some (.int (iz (which / 2))), some (.int (iz (0 + (1 * ((which % 2) + 1))))), some (.int (iz 5)), some (.int (iz 1))]) (st' := [.int (iz 1), .int (iz ((which / 2) % 2)), .int (iz 5), .int (iz (0 + (1 * ((which % 2) + 1))))]) (h' := cxW (u2 z 3 1 2) f C T rc tl) rfl ?_
  refine Rx.iadd rfl ?_
  refine Rx.imul rfl ?_
  refine Rx.iadd rfl ?_
  refine Rx.walk 5 (pc' := 54) (L' := [some (.ref 61), some (.int (iz 2)), some (.int (iz which)), some (.int (iz (which / 2))), some (.int (iz ((0 + (1 * ((which % 2) + 1))) + (5 * (((which / 2) % 2) + 1))))), some (.int (iz 5)), some (.int (iz 1))]) (st' := [.int (iz 2), .int (iz (which / 2))]) (h' := cxW (u2 z 3 1 2) f C T rc tl) rfl ?_
  refine Rx.idiv rfl ⟨by omega, by omega⟩ ⟨by omega, by omega⟩ (by omega) (by omega) ?_
  refine Rx.walk 3 (pc' := 59) (L' := [some (.ref 61), some (.int (iz 2)), some (.int (iz which)), some (.int (iz ((which / 2) / 2))), some (.int (iz ((0 + (1 * ((which % 2) + 1))) + (5 * (((which / 2) % 2) + 1))))), some (.int (iz 5)), some (.int (iz 1))]) (st' := [.int (iz 5), .int (iz 5)]) (h' := cxW (u2 z 3 1 2) f C T rc tl) rfl ?_
  refine Rx.imul rfl ?_
  refine Rx.walk 0 (pc' := 60) (L' := [some (.ref 61), some (.int (iz 2)), some (.int (iz which)), some (.int (iz ((which / 2) / 2))), some (.int (iz ((0 + (1 * ((which % 2) + 1))) + (5 * (((which / 2) % 2) + 1))))), some (.int (iz 5)), some (.int (iz 1))]) (st' := [.int (iz 25)]) (h' := cxW (u2 z 3 1 2) f C T rc tl) rfl ?_
  refine Rx.walk 1 (pc' := 62) (L' := [some (.ref 61), some (.int (iz 2)), some (.int (iz which)), some (.int (iz ((which / 2) / 2))), some (.int (iz ((0 + (1 * ((which % 2) + 1))) + (5 * (((which / 2) % 2) + 1))))), some (.int (iz 25)), some (.int (iz 1))]) (st' := []) (h' := cxW (u2 z 3 1 2) f C T rc tl) rfl ?_
  refine Rx.iinc (b := 1) rfl rfl rfl ?_
  refine Rx.walk 0 (pc' := 65) (L' := [some (.ref 61), some (.int (iz 2)), some (.int (iz which)), some (.int (iz ((which / 2) / 2))), some (.int (iz ((0 + (1 * ((which % 2) + 1))) + (5 * (((which / 2) % 2) + 1))))), some (.int (iz 25)), some (.int (iz 2))]) (st' := []) (h' := cxW (u2 z 3 1 2) f C T rc tl) rfl ?_
  refine Rx.walk 3 (pc' := 14) (L' := [some (.ref 61), some (.int (iz 2)), some (.int (iz which)), some (.int (iz ((which / 2) / 2))), some (.int (iz ((0 + (1 * ((which % 2) + 1))) + (5 * (((which / 2) % 2) + 1))))), some (.int (iz 25)), some (.int (iz 2))]) (st' := [.int (iz 2), .int (iz 2)]) (h' := cxW (u2 z 3 1 2) f C T rc tl) rfl ?_
  refine Rx.ge2 rfl rfl ⟨by omega, by omega⟩ ⟨by omega, by omega⟩ (fun b5 => ?_) (fun b5 => by omega)
  refine Rx.walk 1 (pc' := 70) (L' := [some (.ref 61), some (.int (iz 2)), some (.int (iz which)), some (.int (iz ((which / 2) / 2))), some (.int (iz ((0 + (1 * ((which % 2) + 1))) + (5 * (((which / 2) % 2) + 1))))), some (.int (iz 25)), some (.int (iz 2))]) (st' := [.int (iz ((0 + (1 * ((which % 2) + 1))) + (5 * (((which / 2) % 2) + 1))))]) (h' := cxW (u2 z 3 1 2) f C T rc tl) rfl ?_
  refine Rx.ret rfl ?_
  exact ⟨_, rfl, rfl, (by simp only [pwF] <;> omega)⟩
set_option maxRecDepth 100000 in
set_option maxHeartbeats 4000000 in
theorem x_pipeWith3_2 (d : Nat) (z : Nat → Nat → Int) (f : Nat → Int → Int) (C : Nat → CuR) (T : Nat → TsR) (rc : Nat → Nat) (tl : AmH)  (which : Int) (h0_ : 0 ≤ which) (h1_ : which < 1000) : Rx (d) m_X5_pipeWith 0 (am_ent [.ref 61, .int (iz 3), .int (iz which)] 7) [] (cxW (u2 z 3 1 2) f C T rc tl) (fun rv h => ∃ r : Int, rv = some (.int (iz r)) ∧ h = cxW (u2 z 3 1 2) f C T rc tl ∧ r = pwF 2 3 which) := by
  refine Rx.walk 0 (pc' := 0) (L' := [some (.ref 61), some (.int (iz 3)), some (.int (iz which)), none, none, none, none]) (st' := []) (h' := cxW (u2 z 3 1 2) f C T rc tl) rfl ?_
  refine Rx.walk 10 (pc' := 14) (L' := [some (.ref 61), some (.int (iz 3)), some (.int (iz which)), some (.int (iz which)), some (.int (iz 0)), some (.int (iz 1)), some (.int (iz 0))]) (st' := [.int (iz 3), .int (iz 0)]) (h' := cxW (u2 z 3 1 2) f C T rc tl) rfl ?_
  refine Rx.ge2 rfl rfl ⟨by omega, by omega⟩ ⟨by omega, by omega⟩ (fun b1 => by omega) (fun b1 => ?_)
  refine Rx.walk 3 (pc' := 24) (L' := [some (.ref 61), some (.int (iz 3)), some (.int (iz which)), some (.int (iz which)), some (.int (iz 0)), some (.int (iz 1)), some (.int (iz 0))]) (st' := [.int (iz 2)]) (h' := cxW (u2 z 3 1 2) f C T rc tl) rfl ?_
  refine Rx.le1 rfl rfl ⟨by omega, by omega⟩ (fun b2 => by omega) (fun b2 => ?_)
  refine Rx.walk 6 (pc' := 39) (L' := [some (.ref 61), some (.int (iz 3)), some (.int (iz which)), some (.int (iz which)), some (.int (iz 0)), some (.int (iz 1)), some (.int (iz 0))]) (st' := [.int (iz 2), .int (iz which), .int (iz 1), .int (iz 0)]) (h' := cxW (u2 z 3 1 2) f C T rc tl) rfl ?_
  refine Rx.irem rfl ⟨by omega, by omega⟩ ⟨by omega, by omega⟩ (by omega) (by omega) ?_
  refine Rx.walk 1 (pc' := 41) (L' := [some (.ref 61), some (.int (iz 3)), some (.int (iz which)), some (.int (iz which)), some (.int (iz 0)), some (.int (iz 1)), some (.int (iz 0))]) (st' := [.int (iz 1), .int (iz (which % 2)), .int (iz 1), .int (iz 0)]) (h' := cxW (u2 z 3 1 2) f C T rc tl) rfl ?_
  refine Rx.iadd rfl ?_
  refine Rx.imul rfl ?_
  refine Rx.iadd rfl ?_
  refine Rx.walk 5 (pc' := 54) (L' := [some (.ref 61), some (.int (iz 3)), some (.int (iz which)), some (.int (iz which)), some (.int (iz (0 + (1 * ((which % 2) + 1))))), some (.int (iz 1)), some (.int (iz 0))]) (st' := [.int (iz 2), .int (iz which)]) (h' := cxW (u2 z 3 1 2) f C T rc tl) rfl ?_
  refine Rx.idiv rfl ⟨by omega, by omega⟩ ⟨by omega, by omega⟩ (by omega) (by omega) ?_
  refine Rx.walk 3 (pc' := 59) (L' := [some (.ref 61), some (.int (iz 3)), some (.int (iz which)), some (.int (iz (which / 2))), some (.int (iz (0 + (1 * ((which % 2) + 1))))), some (.int (iz 1)), some (.int (iz 0))]) (st' := [.int (iz 5), .int (iz 1)]) (h' := cxW (u2 z 3 1 2) f C T rc tl) rfl ?_
  refine Rx.imul rfl ?_
  refine Rx.walk 0 (pc' := 60) (L' := [some (.ref 61), some (.int (iz 3)), some (.int (iz which)), some (.int (iz (which / 2))), some (.int (iz (0 + (1 * ((which % 2) + 1))))), some (.int (iz 1)), some (.int (iz 0))]) (st' := [.int (iz 5)]) (h' := cxW (u2 z 3 1 2) f C T rc tl) rfl ?_
  refine Rx.walk 1 (pc' := 62) (L' := [some (.ref 61), some (.int (iz 3)), some (.int (iz which)), some (.int (iz (which / 2))), some (.int (iz (0 + (1 * ((which % 2) + 1))))), some (.int (iz 5)), some (.int (iz 0))]) (st' := []) (h' := cxW (u2 z 3 1 2) f C T rc tl) rfl ?_
  refine Rx.iinc (b := 1) rfl rfl rfl ?_
  refine Rx.walk 0 (pc' := 65) (L' := [some (.ref 61), some (.int (iz 3)), some (.int (iz which)), some (.int (iz (which / 2))), some (.int (iz (0 + (1 * ((which % 2) + 1))))), some (.int (iz 5)), some (.int (iz 1))]) (st' := []) (h' := cxW (u2 z 3 1 2) f C T rc tl) rfl ?_
  refine Rx.walk 3 (pc' := 14) (L' := [some (.ref 61), some (.int (iz 3)), some (.int (iz which)), some (.int (iz (which / 2))), some (.int (iz (0 + (1 * ((which % 2) + 1))))), some (.int (iz 5)), some (.int (iz 1))]) (st' := [.int (iz 3), .int (iz 1)]) (h' := cxW (u2 z 3 1 2) f C T rc tl) rfl ?_
  refine Rx.ge2 rfl rfl ⟨by omega, by omega⟩ ⟨by omega, by omega⟩ (fun b3 => by omega) (fun b3 => ?_)
  refine Rx.walk 3 (pc' := 24) (L' := [some (.ref 61), some (.int (iz 3)), some (.int (iz which)), some (.int (iz (which / 2))), some (.int (iz (0 + (1 * ((which % 2) + 1))))), some (.int (iz 5)), some (.int (iz 1))]) (st' := [.int (iz 2)]) (h' := cxW (u2 z 3 1 2) f C T rc tl) rfl ?_
  refine Rx.le1 rfl rfl ⟨by omega, by omega⟩ (fun b4 => by omega) (fun b4 => ?_)
  refine Rx.walk 6 (pc' := 39) (L' := [some (.ref 61), some (.int (iz 3)), some (.int (iz which)), some (.int (iz (which / 2))), some (.int (iz (0 + (1 * ((which % 2) + 1))))), some (.int (iz 5)), some (.int (iz 1))]) (st' := [.int (iz 2), .int (iz (which / 2)), .int (iz 5), .int (iz (0 + (1 * ((which % 2) + 1))))]) (h' := cxW (u2 z 3 1 2) f C T rc tl) rfl ?_
  refine Rx.irem rfl ⟨by omega, by omega⟩ ⟨by omega, by omega⟩ (by omega) (by omega) ?_
  refine Rx.walk 1 (pc' := 41) (L' := [some (.ref 61), some (.int (iz 3)), some (.int (iz which)), some (.int (iz (which / 2))), some (.int (iz (0 + (1 * ((which % 2) + 1))))), some (.int (iz 5)), some (.int (iz 1))]) (st' := [.int (iz 1), .int (iz ((which / 2) % 2)), .int (iz 5), .int (iz (0 + (1 * ((which % 2) + 1))))]) (h' := cxW (u2 z 3 1 2) f C T rc tl) rfl ?_
  refine Rx.iadd rfl ?_
  refine Rx.imul rfl ?_
  refine Rx.iadd rfl ?_
  refine Rx.walk 5 (pc' := 54) (L' := [some (.ref 61), some (.int (iz 3)), some (.int (iz which)), some (.int (iz (which / 2))), some (.int (iz ((0 + (1 * ((which % 2) + 1))) + (5 * (((which / 2) % 2) + 1))))), some (.int (iz 5)), some (.int (iz 1))]) (st' := [.int (iz 2), .int (iz (which / 2))]) (h' := cxW (u2 z 3 1 2) f C T rc tl) rfl ?_
  refine Rx.idiv rfl ⟨by omega, by omega⟩ ⟨by omega, by omega⟩ (by omega) (by omega) ?_
  refine Rx.walk 3 (pc' := 59) (L' := [some (.ref 61), some (.int (iz 3)), some (.int (iz which)), some (.int (iz ((which / 2) / 2))), some (.int (iz ((0 + (1 * ((which % 2) + 1))) + (5 * (((which / 2) % 2) + 1))))), some (.int (iz 5)), some (.int (iz 1))]) (st' := [.int (iz 5), .int (iz 5)]) (h' := cxW (u2 z 3 1 2) f C T rc tl) rfl ?_
  refine Rx.imul rfl ?_
  refine Rx.walk 0 (pc' := 60) (L' := [some (.ref 61), some (.int (iz 3)), some (.int (iz which)), some (.int (iz ((which / 2) / 2))), some (.int (iz ((0 + (1 * ((which % 2) + 1))) + (5 * (((which / 2) % 2) + 1))))), some (.int (iz 5)), some (.int (iz 1))]) (st' := [.int (iz 25)]) (h' := cxW (u2 z 3 1 2) f C T rc tl) rfl ?_
  refine Rx.walk 1 (pc' := 62) (L' := [some (.ref 61), some (.int (iz 3)), some (.int (iz which)), some (.int (iz ((which / 2) / 2))), some (.int (iz ((0 + (1 * ((which % 2) + 1))) + (5 * (((which / 2) % 2) + 1))))), some (.int (iz 25)), some (.int (iz 1))]) (st' := []) (h' := cxW (u2 z 3 1 2) f C T rc tl) rfl ?_
  refine Rx.iinc (b := 1) rfl rfl rfl ?_
  refine Rx.walk 0 (pc' := 65) (L' := [some (.ref 61), some (.int (iz 3)), some (.int (iz which)), some (.int (iz ((which / 2) / 2))), some (.int (iz ((0 + (1 * ((which % 2) + 1))) + (5 * (((which / 2) % 2) + 1))))), some (.int (iz 25)), some (.int (iz 2))]) (st' := []) (h' := cxW (u2 z 3 1 2) f C T rc tl) rfl ?_
  refine Rx.walk 3 (pc' := 14) (L' := [some (.ref 61), some (.int (iz 3)), some (.int (iz which)), some (.int (iz ((which / 2) / 2))), some (.int (iz ((0 + (1 * ((which % 2) + 1))) + (5 * (((which / 2) % 2) + 1))))), some (.int (iz 25)), some (.int (iz 2))]) (st' := [.int (iz 3), .int (iz 2)]) (h' := cxW (u2 z 3 1 2) f C T rc tl) rfl ?_
  refine Rx.ge2 rfl rfl ⟨by omega, by omega⟩ ⟨by omega, by omega⟩ (fun b5 => by omega) (fun b5 => ?_)
  refine Rx.walk 3 (pc' := 24) (L' := [some (.ref 61), some (.int (iz 3)), some (.int (iz which)), some (.int (iz ((which / 2) / 2))), some (.int (iz ((0 + (1 * ((which % 2) + 1))) + (5 * (((which / 2) % 2) + 1))))), some (.int (iz 25)), some (.int (iz 2))]) (st' := [.int (iz 2)]) (h' := cxW (u2 z 3 1 2) f C T rc tl) rfl ?_
  refine Rx.le1 rfl rfl ⟨by omega, by omega⟩ (fun b6 => by omega) (fun b6 => ?_)
  refine Rx.walk 6 (pc' := 39) (L' := [some (.ref 61), some (.int (iz 3)), some (.int (iz which)), some (.int (iz ((which / 2) / 2))), some (.int (iz ((0 + (1 * ((which % 2) + 1))) + (5 * (((which / 2) % 2) + 1))))), some (.int (iz 25)), some (.int (iz 2))]) (st' := [.int (iz 2), .int (iz ((which / 2) / 2)), .int (iz 25), .int (iz ((0 + (1 * ((which % 2) + 1))) + (5 * (((which / 2) % 2) + 1))))]) (h' := cxW (u2 z 3 1 2) f C T rc tl) rfl ?_
  refine Rx.irem rfl ⟨by omega, by omega⟩ ⟨by omega, by omega⟩ (by omega) (by omega) ?_
  refine Rx.walk 1 (pc' := 41) (L' := [some (.ref 61), some (.int (iz 3)), some (.int (iz which)), some (.int (iz ((which / 2) / 2))), some (.int (iz ((0 + (1 * ((which % 2) + 1))) + (5 * (((which / 2) % 2) + 1))))), some (.int (iz 25)), some (.int (iz 2))]) (st' := [.int (iz 1), .int (iz (((which / 2) / 2) % 2)), .int (iz 25), .int (iz ((0 + (1 * ((which % 2) + 1))) + (5 * (((which / 2) % 2) + 1))))]) (h' := cxW (u2 z 3 1 2) f C T rc tl) rfl ?_
  refine Rx.iadd rfl ?_
  refine Rx.imul rfl ?_
  refine Rx.iadd rfl ?_
  refine Rx.walk 5 (pc' := 54) (L' := [some (.ref 61), some (.int (iz 3)), some (.int (iz which)), some (.int (iz ((which / 2) / 2))), some (.int (iz (((0 + (1 * ((which % 2) + 1))) + (5 * (((which / 2) % 2) + 1))) + (25 * ((((which / 2) / 2) % 2) + 1))))), some (.int (iz 25)), some (.int (iz 2))]) (st' := [.int (iz 2), .int (iz ((which / 2) / 2))]) (h' := cxW (u2 z 3 1 2) f C T rc tl) rfl ?_
  refine Rx.idiv rfl ⟨by omega, by omega⟩ ⟨by omega, by omega⟩ (by omega) (by omega) ?_
  refine Rx.walk 3 (pc' := 59) (L' := [some (.ref 61), some (.int (iz 3)), some (.int (iz which)), some (.int (iz (((which / 2) / 2) / 2))), some (.int (iz (((0 + (1 * ((which % 2) + 1))) + (5 * (((which / 2) % 2) + 1))) + (25 * ((((which / 2) / 2) % 2) + 1))))), some (.int (iz 25)), some (.int (iz 2))]) (st' := [.int (iz 5), .int (iz 25)]) (h' := cxW (u2 z 3 1 2) f C T rc tl) rfl ?_
  refine Rx.imul rfl ?_
  refine Rx.walk 0 (pc' := 60) (L' := [some (.ref 61), some (.int (iz 3)), some (.int (iz which)), some (.int (iz (((which / 2) / 2) / 2))), some (.int (iz (((0 + (1 * ((which % 2) + 1))) + (5 * (((which / 2) % 2) + 1))) + (25 * ((((which / 2) / 2) % 2) + 1))))), some (.int (iz 25)), some (.int (iz 2))]) (st' := [.int (iz 125)]) (h' := cxW (u2 z 3 1 2) f C T rc tl) rfl ?_
  refine Rx.walk 1 (pc' := 62) (L' := [some (.ref 61), some (.int (iz 3)), some (.int (iz which)), some (.int (iz (((which / 2) / 2) / 2))), some (.int (iz (((0 + (1 * ((which % 2) + 1))) + (5 * (((which / 2) % 2) + 1))) + (25 * ((((which / 2) / 2) % 2) + 1))))), some (.int (iz 125)), some (.int (iz 2))]) (st' := []) (h' := cxW (u2 z 3 1 2) f C T rc tl) rfl ?_
  refine Rx.iinc (b := 1) rfl rfl rfl ?_
  refine Rx.walk 0 (pc' := 65) (L' := [some (.ref 61), some (.int (iz 3)), some (.int (iz which)), some (.int (iz (((which / 2) / 2) / 2))), some (.int (iz (((0 + (1 * ((which % 2) + 1))) + (5 * (((which / 2) % 2) + 1))) + (25 * ((((which / 2) / 2) % 2) + 1))))), some (.int (iz 125)), some (.int (iz 3))]) (st' := []) (h' := cxW (u2 z 3 1 2) f C T rc tl) rfl ?_
  refine Rx.walk 3 (pc' := 14) (L' := [some (.ref 61), some (.int (iz 3)), some (.int (iz which)), some (.int (iz (((which / 2) / 2) / 2))), some (.int (iz (((0 + (1 * ((which % 2) + 1))) + (5 * (((which / 2) % 2) + 1))) + (25 * ((((which / 2) / 2) % 2) + 1))))), some (.int (iz 125)), some (.int (iz 3))]) (st' := [.int (iz 3), .int (iz 3)]) (h' := cxW (u2 z 3 1 2) f C T rc tl) rfl ?_
  refine Rx.ge2 rfl rfl ⟨by omega, by omega⟩ ⟨by omega, by omega⟩ (fun b7 => ?_) (fun b7 => by omega)
  refine Rx.walk 1 (pc' := 70) (L' := [some (.ref 61), some (.int (iz 3)), some (.int (iz which)), some (.int (iz (((which / 2) / 2) / 2))), some (.int (iz (((0 + (1 * ((which % 2) + 1))) + (5 * (((which / 2) % 2) + 1))) + (25 * ((((which / 2) / 2) % 2) + 1))))), some (.int (iz 125)), some (.int (iz 3))]) (st' := [.int (iz (((0 + (1 * ((which % 2) + 1))) + (5 * (((which / 2) % 2) + 1))) + (25 * ((((which / 2) / 2) % 2) + 1))))]) (h' := cxW (u2 z 3 1 2) f C T rc tl) rfl ?_
  refine Rx.ret rfl ?_
  exact ⟨_, rfl, rfl, (by simp only [pwF] <;> omega)⟩
set_option maxRecDepth 100000 in
set_option maxHeartbeats 4000000 in
theorem x_pipeWith0_3 (d : Nat) (z : Nat → Nat → Int) (f : Nat → Int → Int) (C : Nat → CuR) (T : Nat → TsR) (rc : Nat → Nat) (tl : AmH)  (which : Int) (h0_ : 0 ≤ which) (h1_ : which < 1000) : Rx (d) m_X5_pipeWith 0 (am_ent [.ref 61, .int (iz 0), .int (iz which)] 7) [] (cxW (u2 z 3 1 3) f C T rc tl) (fun rv h => ∃ r : Int, rv = some (.int (iz r)) ∧ h = cxW (u2 z 3 1 3) f C T rc tl ∧ r = pwF 3 0 which) := by
  refine Rx.walk 0 (pc' := 0) (L' := [some (.ref 61), some (.int (iz 0)), some (.int (iz which)), none, none, none, none]) (st' := []) (h' := cxW (u2 z 3 1 3) f C T rc tl) rfl ?_
  refine Rx.walk 10 (pc' := 14) (L' := [some (.ref 61), some (.int (iz 0)), some (.int (iz which)), some (.int (iz which)), some (.int (iz 0)), some (.int (iz 1)), some (.int (iz 0))]) (st' := [.int (iz 0), .int (iz 0)]) (h' := cxW (u2 z 3 1 3) f C T rc tl) rfl ?_
  refine Rx.ge2 rfl rfl ⟨by omega, by omega⟩ ⟨by omega, by omega⟩ (fun b1 => ?_) (fun b1 => by omega)
  refine Rx.walk 1 (pc' := 70) (L' := [some (.ref 61), some (.int (iz 0)), some (.int (iz which)), some (.int (iz which)), some (.int (iz 0)), some (.int (iz 1)), some (.int (iz 0))]) (st' := [.int (iz 0)]) (h' := cxW (u2 z 3 1 3) f C T rc tl) rfl ?_
  refine Rx.ret rfl ?_
  exact ⟨_, rfl, rfl, (by simp only [pwF] <;> omega)⟩
set_option maxRecDepth 100000 in
set_option maxHeartbeats 4000000 in
theorem x_pipeWith1_3 (d : Nat) (z : Nat → Nat → Int) (f : Nat → Int → Int) (C : Nat → CuR) (T : Nat → TsR) (rc : Nat → Nat) (tl : AmH)  (which : Int) (h0_ : 0 ≤ which) (h1_ : which < 1000) : Rx (d) m_X5_pipeWith 0 (am_ent [.ref 61, .int (iz 1), .int (iz which)] 7) [] (cxW (u2 z 3 1 3) f C T rc tl) (fun rv h => ∃ r : Int, rv = some (.int (iz r)) ∧ h = cxW (u2 z 3 1 3) f C T rc tl ∧ r = pwF 3 1 which) := by
  refine Rx.walk 0 (pc' := 0) (L' := [some (.ref 61), some (.int (iz 1)), some (.int (iz which)), none, none, none, none]) (st' := []) (h' := cxW (u2 z 3 1 3) f C T rc tl) rfl ?_
  refine Rx.walk 10 (pc' := 14) (L' := [some (.ref 61), some (.int (iz 1)), some (.int (iz which)), some (.int (iz which)), some (.int (iz 0)), some (.int (iz 1)), some (.int (iz 0))]) (st' := [.int (iz 1), .int (iz 0)]) (h' := cxW (u2 z 3 1 3) f C T rc tl) rfl ?_
  refine Rx.ge2 rfl rfl ⟨by omega, by omega⟩ ⟨by omega, by omega⟩ (fun b1 => by omega) (fun b1 => ?_)
  refine Rx.walk 3 (pc' := 24) (L' := [some (.ref 61), some (.int (iz 1)), some (.int (iz which)), some (.int (iz which)), some (.int (iz 0)), some (.int (iz 1)), some (.int (iz 0))]) (st' := [.int (iz 3)]) (h' := cxW (u2 z 3 1 3) f C T rc tl) rfl ?_
  refine Rx.le1 rfl rfl ⟨by omega, by omega⟩ (fun b2 => by omega) (fun b2 => ?_)
  refine Rx.walk 6 (pc' := 39) (L' := [some (.ref 61), some (.int (iz 1)), some (.int (iz which)), some (.int (iz which)), some (.int (iz 0)), some (.int (iz 1)), some (.int (iz 0))]) (st' := [.int (iz 3), .int (iz which), .int (iz 1), .int (iz 0)]) (h' := cxW (u2 z 3 1 3) f C T rc tl) rfl ?_
  refine Rx.irem rfl ⟨by omega, by omega⟩ ⟨by omega, by omega⟩ (by omega) (by omega) ?_
  refine Rx.walk 1 (pc' := 41) (L' := [some (.ref 61), some (.int (iz 1)), some (.int (iz which)), some (.int (iz which)), some (.int (iz 0)), some (.int (iz 1)), some (.int (iz 0))]) (st' := [.int (iz 1), .int (iz (which % 3)), .int (iz 1), .int (iz 0)]) (h' := cxW (u2 z 3 1 3) f C T rc tl) rfl ?_
  refine Rx.iadd rfl ?_
  refine Rx.imul rfl ?_
  refine Rx.iadd rfl ?_
  refine Rx.walk 5 (pc' := 54) (L' := [some (.ref 61), some (.int (iz 1)), some (.int (iz which)), some (.int (iz which)), some (.int (iz (0 + (1 * ((which % 3) + 1))))), some (.int (iz 1)), some (.int (iz 0))]) (st' := [.int (iz 3), .int (iz which)]) (h' := cxW (u2 z 3 1 3) f C T rc tl) rfl ?_
  refine Rx.idiv rfl ⟨by omega, by omega⟩ ⟨by omega, by omega⟩ (by omega) (by omega) ?_
  refine Rx.walk 3 (pc' := 59) (L' := [some (.ref 61), some (.int (iz 1)), some (.int (iz which)), some (.int (iz (which / 3))), some (.int (iz (0 + (1 * ((which % 3) + 1))))), some (.int (iz 1)), some (.int (iz 0))]) (st' := [.int (iz 5), .int (iz 1)]) (h' := cxW (u2 z 3 1 3) f C T rc tl) rfl ?_
  refine Rx.imul rfl ?_
  refine Rx.walk 0 (pc' := 60) (L' := [some (.ref 61), some (.int (iz 1)), some (.int (iz which)), some (.int (iz (which / 3))), some (.int (iz (0 + (1 * ((which % 3) + 1))))), some (.int (iz 1)), some (.int (iz 0))]) (st' := [.int (iz 5)]) (h' := cxW (u2 z 3 1 3) f C T rc tl) rfl ?_
  refine Rx.walk 1 (pc' := 62) (L' := [some (.ref 61), some (.int (iz 1)), some (.int (iz which)), some (.int (iz (which / 3))), some (.int (iz (0 + (1 * ((which % 3) + 1))))), some (.int (iz 5)), some (.int (iz 0))]) (st' := []) (h' := cxW (u2 z 3 1 3) f C T rc tl) rfl ?_
  refine Rx.iinc (b := 1) rfl rfl rfl ?_
  refine Rx.walk 0 (pc' := 65) (L' := [some (.ref 61), some (.int (iz 1)), some (.int (iz which)), some (.int (iz (which / 3))), some (.int (iz (0 + (1 * ((which % 3) + 1))))), some (.int (iz 5)), some (.int (iz 1))]) (st' := []) (h' := cxW (u2 z 3 1 3) f C T rc tl) rfl ?_
  refine Rx.walk 3 (pc' := 14) (L' := [some (.ref 61), some (.int (iz 1)), some (.int (iz which)), some (.int (iz (which / 3))), some (.int (iz (0 + (1 * ((which % 3) + 1))))), some (.int (iz 5)), some (.int (iz 1))]) (st' := [.int (iz 1), .int (iz 1)]) (h' := cxW (u2 z 3 1 3) f C T rc tl) rfl ?_
  refine Rx.ge2 rfl rfl ⟨by omega, by omega⟩ ⟨by omega, by omega⟩ (fun b3 => ?_) (fun b3 => by omega)
  refine Rx.walk 1 (pc' := 70) (L' := [some (.ref 61), some (.int (iz 1)), some (.int (iz which)), some (.int (iz (which / 3))), some (.int (iz (0 + (1 * ((which % 3) + 1))))), some (.int (iz 5)), some (.int (iz 1))]) (st' := [.int (iz (0 + (1 * ((which % 3) + 1))))]) (h' := cxW (u2 z 3 1 3) f C T rc tl) rfl ?_
  refine Rx.ret rfl ?_
  exact ⟨_, rfl, rfl, (by simp only [pwF] <;> omega)⟩
set_option maxRecDepth 100000 in
set_option maxHeartbeats 4000000 in
theorem x_pipeWith2_3 (d : Nat) (z : Nat → Nat → Int) (f : Nat → Int → Int) (C : Nat → CuR) (T : Nat → TsR) (rc : Nat → Nat) (tl : AmH)  (which : Int) (h0_ : 0 ≤ which) (h1_ : which < 1000) : Rx (d) m_X5_pipeWith 0 (am_ent [.ref 61, .int (iz 2), .int (iz which)] 7) [] (cxW (u2 z 3 1 3) f C T rc tl) (fun rv h => ∃ r : Int, rv = some (.int (iz r)) ∧ h = cxW (u2 z 3 1 3) f C T rc tl ∧ r = pwF 3 2 which) := by
  refine Rx.walk 0 (pc' := 0) (L' := [some (.ref 61), some (.int (iz 2)), some (.int (iz which)), none, none, none, none]) (st' := []) (h' := cxW (u2 z 3 1 3) f C T rc tl) rfl ?_
  refine Rx.walk 10 (pc' := 14) (L' := [some (.ref 61), some (.int (iz 2)), some (.int (iz which)), some (.int (iz which)), some (.int (iz 0)), some (.int (iz 1)), some (.int (iz 0))]) (st' := [.int (iz 2), .int (iz 0)]) (h' := cxW (u2 z 3 1 3) f C T rc tl) rfl ?_
  refine Rx.ge2 rfl rfl ⟨by omega, by omega⟩ ⟨by omega, by omega⟩ (fun b1 => by omega) (fun b1 => ?_)
  refine Rx.walk 3 (pc' := 24) (L' := [some (.ref 61), some (.int (iz 2)), some (.int (iz which)), some (.int (iz which)), some (.int (iz 0)), some (.int (iz 1)), some (.int (iz 0))]) (st' := [.int (iz 3)]) (h' := cxW (u2 z 3 1 3) f C T rc tl) rfl ?_
  refine Rx.le1 rfl rfl ⟨by omega, by omega⟩ (fun b2 => by omega) (fun b2 => ?_)
  refine Rx.walk 6 (pc' := 39) (L' := [some (.ref 61), some (.int (iz 2)), some (.int (iz which)), some (.int (iz which)), some (.int (iz 0)), some (.int (iz 1)), some (.int (iz 0))]) (st' := [.int (iz 3), .int (iz which), .int (iz 1), .int (iz 0)]) (h' := cxW (u2 z 3 1 3) f C T rc tl) rfl ?_
  refine Rx.irem rfl ⟨by omega, by omega⟩ ⟨by omega, by omega⟩ (by omega) (by omega) ?_
  refine Rx.walk 1 (pc' := 41) (L' := [some (.ref 61), some (.int (iz 2)), some (.int (iz which)), some (.int (iz which)), some (.int (iz 0)), some (.int (iz 1)), some (.int (iz 0))]) (st' := [.int (iz 1), .int (iz (which % 3)), .int (iz 1), .int (iz 0)]) (h' := cxW (u2 z 3 1 3) f C T rc tl) rfl ?_
  refine Rx.iadd rfl ?_
  refine Rx.imul rfl ?_
  refine Rx.iadd rfl ?_
  refine Rx.walk 5 (pc' := 54) (L' := [some (.ref 61), some (.int (iz 2)), some (.int (iz which)), some (.int (iz which)), some (.int (iz (0 + (1 * ((which % 3) + 1))))), some (.int (iz 1)), some (.int (iz 0))]) (st' := [.int (iz 3), .int (iz which)]) (h' := cxW (u2 z 3 1 3) f C T rc tl) rfl ?_
  refine Rx.idiv rfl ⟨by omega, by omega⟩ ⟨by omega, by omega⟩ (by omega) (by omega) ?_
  refine Rx.walk 3 (pc' := 59) (L' := [some (.ref 61), some (.int (iz 2)), some (.int (iz which)), some (.int (iz (which / 3))), some (.int (iz (0 + (1 * ((which % 3) + 1))))), some (.int (iz 1)), some (.int (iz 0))]) (st' := [.int (iz 5), .int (iz 1)]) (h' := cxW (u2 z 3 1 3) f C T rc tl) rfl ?_
  refine Rx.imul rfl ?_
  refine Rx.walk 0 (pc' := 60) (L' := [some (.ref 61), some (.int (iz 2)), some (.int (iz which)), some (.int (iz (which / 3))), some (.int (iz (0 + (1 * ((which % 3) + 1))))), some (.int (iz 1)), some (.int (iz 0))]) (st' := [.int (iz 5)]) (h' := cxW (u2 z 3 1 3) f C T rc tl) rfl ?_
  refine Rx.walk 1 (pc' := 62) (L' := [some (.ref 61), some (.int (iz 2)), some (.int (iz which)), some (.int (iz (which / 3))), some (.int (iz (0 + (1 * ((which % 3) + 1))))), some (.int (iz 5)), some (.int (iz 0))]) (st' := []) (h' := cxW (u2 z 3 1 3) f C T rc tl) rfl ?_
  refine Rx.iinc (b := 1) rfl rfl rfl ?_
  refine Rx.walk 0 (pc' := 65) (L' := [some (.ref 61), some (.int (iz 2)), some (.int (iz which)), some (.int (iz (which / 3))), some (.int (iz (0 + (1 * ((which % 3) + 1))))), some (.int (iz 5)), some (.int (iz 1))]) (st' := []) (h' := cxW (u2 z 3 1 3) f C T rc tl) rfl ?_
  refine Rx.walk 3 (pc' := 14) (L' := [some (.ref 61), some (.int (iz 2)), some (.int (iz which)), some (.int (iz (which / 3))), some (.int (iz (0 + (1 * ((which % 3) + 1))))), some (.int (iz 5)), some (.int (iz 1))]) (st' := [.int (iz 2), .int (iz 1)]) (h' := cxW (u2 z 3 1 3) f C T rc tl) rfl ?_
  refine Rx.ge2 rfl rfl ⟨by omega, by omega⟩ ⟨by omega, by omega⟩ (fun b3 => by omega) (fun b3 => ?_)
  refine Rx.walk 3 (pc' := 24) (L' := [some (.ref 61), some (.int (iz 2)), some (.int (iz which)), some (.int (iz (which / 3))), some (.int (iz (0 + (1 * ((which % 3) + 1))))), some (.int (iz 5)), some (.int (iz 1))]) (st' := [.int (iz 3)]) (h' := cxW (u2 z 3 1 3) f C T rc tl) rfl ?_
  refine Rx.le1 rfl rfl ⟨by omega, by omega⟩ (fun b4 => by omega) (fun b4 => ?_)
  refine Rx.walk 6 (pc' := 39) (L' := [some (.ref 61), some (.int (iz 2)), some (.int (iz which)), some (.int (iz (which / 3))), some (.int (iz (0 + (1 * ((which % 3) + 1))))), some (.int (iz 5)), some (.int (iz 1))]) (st' := [.int (iz 3), .int (iz (which / 3)), .int (iz 5), .int (iz (0 + (1 * ((which % 3) + 1))))]) (h' := cxW (u2 z 3 1 3) f C T rc tl) rfl ?_
  refine Rx.irem rfl ⟨by omega, by omega⟩ ⟨by omega, by omega⟩ (by omega) (by omega) ?_
  refine Rx.walk 1 (pc' := 41) (L' := [some (.ref 61), some (.int (iz 2)), some (.int (iz which)), some (.int (iz (which / 3))), some (.int (iz (0 + (1 * ((which % 3) + 1))))), some (.int (iz 5)), some (.int (iz 1))]) (st' := [.int (iz 1), .int (iz ((which / 3) % 3)), .int (iz 5), .int (iz (0 + (1 * ((which % 3) + 1))))]) (h' := cxW (u2 z 3 1 3) f C T rc tl) rfl ?_
  refine Rx.iadd rfl ?_
  refine Rx.imul rfl ?_
  refine Rx.iadd rfl ?_
  refine Rx.walk 5 (pc' := 54) (L' := [some (.ref 61), some (.int (iz 2)), some (.int (iz which)), some (.int (iz (which / 3))), some (.int (iz ((0 + (1 * ((which % 3) + 1))) + (5 * (((which / 3) % 3) + 1))))), some (.int (iz 5)), some (.int (iz 1))]) (st' := [.int (iz 3), .int (iz (which / 3))]) (h' := cxW (u2 z 3 1 3) f C T rc tl) rfl ?_
  refine Rx.idiv rfl ⟨by omega, by omega⟩ ⟨by omega, by omega⟩ (by omega) (by omega) ?_
  refine Rx.walk 3 (pc' := 59) (L' := [some (.ref 61), some (.int (iz 2)), some (.int (iz which)), some (.int (iz ((which / 3) / 3))), some (.int (iz ((0 + (1 * ((which % 3) + 1))) + (5 * (((which / 3) % 3) + 1))))), some (.int (iz 5)), some (.int (iz 1))]) (st' := [.int (iz 5), .int (iz 5)]) (h' := cxW (u2 z 3 1 3) f C T rc tl) rfl ?_
  refine Rx.imul rfl ?_
  refine Rx.walk 0 (pc' := 60) (L' := [some (.ref 61), some (.int (iz 2)), some (.int (iz which)), some (.int (iz ((which / 3) / 3))), some (.int (iz ((0 + (1 * ((which % 3) + 1))) + (5 * (((which / 3) % 3) + 1))))), some (.int (iz 5)), some (.int (iz 1))]) (st' := [.int (iz 25)]) (h' := cxW (u2 z 3 1 3) f C T rc tl) rfl ?_
  refine Rx.walk 1 (pc' := 62) (L' := [some (.ref 61), some (.int (iz 2)), some (.int (iz which)), some (.int (iz ((which / 3) / 3))), some (.int (iz ((0 + (1 * ((which % 3) + 1))) + (5 * (((which / 3) % 3) + 1))))), some (.int (iz 25)), some (.int (iz 1))]) (st' := []) (h' := cxW (u2 z 3 1 3) f C T rc tl) rfl ?_
  refine Rx.iinc (b := 1) rfl rfl rfl ?_
  refine Rx.walk 0 (pc' := 65) (L' := [some (.ref 61), some (.int (iz 2)), some (.int (iz which)), some (.int (iz ((which / 3) / 3))), some (.int (iz ((0 + (1 * ((which % 3) + 1))) + (5 * (((which / 3) % 3) + 1))))), some (.int (iz 25)), some (.int (iz 2))]) (st' := []) (h' := cxW (u2 z 3 1 3) f C T rc tl) rfl ?_
  refine Rx.walk 3 (pc' := 14) (L' := [some (.ref 61), some (.int (iz 2)), some (.int (iz which)), some (.int (iz ((which / 3) / 3))), some (.int (iz ((0 + (1 * ((which % 3) + 1))) + (5 * (((which / 3) % 3) + 1))))), some (.int (iz 25)), some (.int (iz 2))]) (st' := [.int (iz 2), .int (iz 2)]) (h' := cxW (u2 z 3 1 3) f C T rc tl) rfl ?_
  refine Rx.ge2 rfl rfl ⟨by omega, by omega⟩ ⟨by omega, by omega⟩ (fun b5 => ?_) (fun b5 => by omega)
  refine Rx.walk 1 (pc' := 70) (L' := [some (.ref 61), some (.int (iz 2)), some (.int (iz which)), some (.int (iz ((which / 3) / 3))), some (.int (iz ((0 + (1 * ((which % 3) + 1))) + (5 * (((which / 3) % 3) + 1))))), some (.int (iz 25)), some (.int (iz 2))]) (st' := [.int (iz ((0 + (1 * ((which % 3) + 1))) + (5 * (((which / 3) % 3) + 1))))]) (h' := cxW (u2 z 3 1 3) f C T rc tl) rfl ?_
  refine Rx.ret rfl ?_
  exact ⟨_, rfl, rfl, (by simp only [pwF] <;> omega)⟩
set_option maxRecDepth 100000 in
set_option maxHeartbeats 4000000 in
theorem x_pipeWith3_3 (d : Nat) (z : Nat → Nat → Int) (f : Nat → Int → Int) (C : Nat → CuR) (T : Nat → TsR) (rc : Nat → Nat) (tl : AmH)  (which : Int) (h0_ : 0 ≤ which) (h1_ : which < 1000) : Rx (d) m_X5_pipeWith 0 (am_ent [.ref 61, .int (iz 3), .int (iz which)] 7) [] (cxW (u2 z 3 1 3) f C T rc tl) (fun rv h => ∃ r : Int, rv = some (.int (iz r)) ∧ h = cxW (u2 z 3 1 3) f C T rc tl ∧ r = pwF 3 3 which) := by
  refine Rx.walk 0 (pc' := 0) (L' := [some (.ref 61), some (.int (iz 3)), some (.int (iz which)), none, none, none, none]) (st' := []) (h' := cxW (u2 z 3 1 3) f C T rc tl) rfl ?_
  refine Rx.walk 10 (pc' := 14) (L' := [some (.ref 61), some (.int (iz 3)), some (.int (iz which)), some (.int (iz which)), some (.int (iz 0)), some (.int (iz 1)), some (.int (iz 0))]) (st' := [.int (iz 3), .int (iz 0)]) (h' := cxW (u2 z 3 1 3) f C T rc tl) rfl ?_
  refine Rx.ge2 rfl rfl ⟨by omega, by omega⟩ ⟨by omega, by omega⟩ (fun b1 => by omega) (fun b1 => ?_)
  refine Rx.walk 3 (pc' := 24) (L' := [some (.ref 61), some (.int (iz 3)), some (.int (iz which)), some (.int (iz which)), some (.int (iz 0)), some (.int (iz 1)), some (.int (iz 0))]) (st' := [.int (iz 3)]) (h' := cxW (u2 z 3 1 3) f C T rc tl) rfl ?_
  refine Rx.le1 rfl rfl ⟨by omega, by omega⟩ (fun b2 => by omega) (fun b2 => ?_)
  refine Rx.walk 6 (pc' := 39) (L' := [some (.ref 61), some (.int (iz 3)), some (.int (iz which)), some (.int (iz which)), some (.int (iz 0)), some (.int (iz 1)), some (.int (iz 0))]) (st' := [.int (iz 3), .int (iz which), .int (iz 1), .int (iz 0)]) (h' := cxW (u2 z 3 1 3) f C T rc tl) rfl ?_
  refine Rx.irem rfl ⟨by omega, by omega⟩ ⟨by omega, by omega⟩ (by omega) (by omega) ?_
  refine Rx.walk 1 (pc' := 41) (L' := [some (.ref 61), some (.int (iz 3)), some (.int (iz which)), some (.int (iz which)), some (.int (iz 0)), some (.int (iz 1)), some (.int (iz 0))]) (st' := [.int (iz 1), .int (iz (which % 3)), .int (iz 1), .int (iz 0)]) (h' := cxW (u2 z 3 1 3) f C T rc tl) rfl ?_
  refine Rx.iadd rfl ?_
  refine Rx.imul rfl ?_
  refine Rx.iadd rfl ?_
  refine Rx.walk 5 (pc' := 54) (L' := [some (.ref 61), some (.int (iz 3)), some (.int (iz which)), some (.int (iz which)), some (.int (iz (0 + (1 * ((which % 3) + 1))))), some (.int (iz 1)), some (.int (iz 0))]) (st' := [.int (iz 3), .int (iz which)]) (h' := cxW (u2 z 3 1 3) f C T rc tl) rfl ?_
  refine Rx.idiv rfl ⟨by omega, by omega⟩ ⟨by omega, by omega⟩ (by omega) (by omega) ?_
  refine Rx.walk 3 (pc' := 59) (L' := [some (.ref 61), some (.int (iz 3)), some (.int (iz which)), some (.int (iz (which / 3))), some (.int (iz (0 + (1 * ((which % 3) + 1))))), some (.int (iz 1)), some (.int (iz 0))]) (st' := [.int (iz 5), .int (iz 1)]) (h' := cxW (u2 z 3 1 3) f C T rc tl) rfl ?_
  refine Rx.imul rfl ?_
  refine Rx.walk 0 (pc' := 60) (L' := [some (.ref 61), some (.int (iz 3)), some (.int (iz which)), some (.int (iz (which / 3))), some (.int (iz (0 + (1 * ((which % 3) + 1))))), some (.int (iz 1)), some (.int (iz 0))]) (st' := [.int (iz 5)]) (h' := cxW (u2 z 3 1 3) f C T rc tl) rfl ?_
  refine Rx.walk 1 (pc' := 62) (L' := [some (.ref 61), some (.int (iz 3)), some (.int (iz which)), some (.int (iz (which / 3))), some (.int (iz (0 + (1 * ((which % 3) + 1))))), some (.int (iz 5)), some (.int (iz 0))]) (st' := []) (h' := cxW (u2 z 3 1 3) f C T rc tl) rfl ?_
  refine Rx.iinc (b := 1) rfl rfl rfl ?_
  refine Rx.walk 0 (pc' := 65) (L' := [some (.ref 61), some (.int (iz 3)), some (.int (iz which)), some (.int (iz (which / 3))), some (.int (iz (0 + (1 * ((which % 3) + 1))))), some (.int (iz 5)), some (.int (iz 1))]) (st' := []) (h' := cxW (u2 z 3 1 3) f C T rc tl) rfl ?_
  refine Rx.walk 3 (pc' := 14) (L' := [some (.ref 61), some (.int (iz 3)), some (.int (iz which)), some (.int (iz (which / 3))), some (.int (iz (0 + (1 * ((which % 3) + 1))))), some (.int (iz 5)), some (.int (iz 1))]) (st' := [.int (iz 3), .int (iz 1)]) (h' := cxW (u2 z 3 1 3) f C T rc tl) rfl ?_
  refine Rx.ge2 rfl rfl ⟨by omega, by omega⟩ ⟨by omega, by omega⟩ (fun b3 => by omega) (fun b3 => ?_)
  refine Rx.walk 3 (pc' := 24) (L' := [some (.ref 61), some (.int (iz 3)), some (.int (iz which)), some (.int (iz (which / 3))), some (.int (iz (0 + (1 * ((which % 3) + 1))))), some (.int (iz 5)), some (.int (iz 1))]) (st' := [.int (iz 3)]) (h' := cxW (u2 z 3 1 3) f C T rc tl) rfl ?_
  refine Rx.le1 rfl rfl ⟨by omega, by omega⟩ (fun b4 => by omega) (fun b4 => ?_)
  refine Rx.walk 6 (pc' := 39) (L' := [some (.ref 61), some (.int (iz 3)), some (.int (iz which)), some (.int (iz (which / 3))), some (.int (iz (0 + (1 * ((which % 3) + 1))))), some (.int (iz 5)), some (.int (iz 1))]) (st' := [.int (iz 3), .int (iz (which / 3)), .int (iz 5), .int (iz (0 + (1 * ((which % 3) + 1))))]) (h' := cxW (u2 z 3 1 3) f C T rc tl) rfl ?_
  refine Rx.irem rfl ⟨by omega, by omega⟩ ⟨by omega, by omega⟩ (by omega) (by omega) ?_
  refine Rx.walk 1 (pc' := 41) (L' := [some (.ref 61), some (.int (iz 3)), some (.int (iz which)), some (.int (iz (which / 3))), some (.int (iz (0 + (1 * ((which % 3) + 1))))), some (.int (iz 5)), some (.int (iz 1))]) (st' := [.int (iz 1), .int (iz ((which / 3) % 3)), .int (iz 5), .int (iz (0 + (1 * ((which % 3) + 1))))]) (h' := cxW (u2 z 3 1 3) f C T rc tl) rfl ?_
  refine Rx.iadd rfl ?_
  refine Rx.imul rfl ?_
  refine Rx.iadd rfl ?_
  refine Rx.walk 5 (pc' := 54) (L' := [some (.ref 61), some (.int (iz 3)), some (.int (iz which)), some (.int (iz (which / 3))), some (.int (iz ((0 + (1 * ((which % 3) + 1))) + (5 * (((which / 3) % 3) + 1))))), some (.int (iz 5)), some (.int (iz 1))]) (st' := [.int (iz 3), .int (iz (which / 3))]) (h' := cxW (u2 z 3 1 3) f C T rc tl) rfl ?_
  refine Rx.idiv rfl ⟨by omega, by omega⟩ ⟨by omega, by omega⟩ (by omega) (by omega) ?_
  refine Rx.walk 3 (pc' := 59) (L' := [some (.ref 61), some (.int (iz 3)), some (.int (iz which)), some (.int (iz ((which / 3) / 3))), some (.int (iz ((0 + (1 * ((which % 3) + 1))) + (5 * (((which / 3) % 3) + 1))))), some (.int (iz 5)), some (.int (iz 1))]) (st' := [.int (iz 5), .int (iz 5)]) (h' := cxW (u2 z 3 1 3) f C T rc tl) rfl ?_
  refine Rx.imul rfl ?_
  refine Rx.walk 0 (pc' := 60) (L' := [some (.ref 61), some (.int (iz 3)), some (.int (iz which)), some (.int (iz ((which / 3) / 3))), some (.int (iz ((0 + (1 * ((which % 3) + 1))) + (5 * (((which / 3) % 3) + 1))))), some (.int (iz 5)), some (.int (iz 1))]) (st' := [.int (iz 25)]) (h' := cxW (u2 z 3 1 3) f C T rc tl) rfl ?_
  refine Rx.walk 1 (pc' := 62) (L' := [some (.ref 61), some (.int (iz 3)), some (.int (iz which)), some (.int (iz ((which / 3) / 3))), some (.int (iz ((0 + (1 * ((which % 3) + 1))) + (5 * (((which / 3) % 3) + 1))))), some (.int (iz 25)), some (.int (iz 1))]) (st' := []) (h' := cxW (u2 z 3 1 3) f C T rc tl) rfl ?_
  refine Rx.iinc (b := 1) rfl rfl rfl ?_
  refine Rx.walk 0 (pc' := 65) (L' := [some (.ref 61), some (.int (iz 3)), some (.int (iz which)), some (.int (iz ((which / 3) / 3))), some (.int (iz ((0 + (1 * ((which % 3) + 1))) + (5 * (((which / 3) % 3) + 1))))), some (.int (iz 25)), some (.int (iz 2))]) (st' := []) (h' := cxW (u2 z 3 1 3) f C T rc tl) rfl ?_
  refine Rx.walk 3 (pc' := 14) (L' := [some (.ref 61), some (.int (iz 3)), some (.int (iz which)), some (.int (iz ((which / 3) / 3))), some (.int (iz ((0 + (1 * ((which % 3) + 1))) + (5 * (((which / 3) % 3) + 1))))), some (.int (iz 25)), some (.int (iz 2))]) (st' := [.int (iz 3), .int (iz 2)]) (h' := cxW (u2 z 3 1 3) f C T rc tl) rfl ?_
  refine Rx.ge2 rfl rfl ⟨by omega, by omega⟩ ⟨by omega, by omega⟩ (fun b5 => by omega) (fun b5 => ?_)
  refine Rx.walk 3 (pc' := 24) (L' := [some (.ref 61), some (.int (iz 3)), some (.int (iz which)), some (.int (iz ((which / 3) / 3))), some (.int (iz ((0 + (1 * ((which % 3) + 1))) + (5 * (((which / 3) % 3) + 1))))), some (.int (iz 25)), some (.int (iz 2))]) (st' := [.int (iz 3)]) (h' := cxW (u2 z 3 1 3) f C T rc tl) rfl ?_
  refine Rx.le1 rfl rfl ⟨by omega, by omega⟩ (fun b6 => by omega) (fun b6 => ?_)
  refine Rx.walk 6 (pc' := 39) (L' := [some (.ref 61), some (.int (iz 3)), some (.int (iz which)), some (.int (iz ((which / 3) / 3))), some (.int (iz ((0 + (1 * ((which % 3) + 1))) + (5 * (((which / 3) % 3) + 1))))), some (.int (iz 25)), some (.int (iz 2))]) (st' := [.int (iz 3), .int (iz ((which / 3) / 3)), .int (iz 25), .int (iz ((0 + (1 * ((which % 3) + 1))) + (5 * (((which / 3) % 3) + 1))))]) (h' := cxW (u2 z 3 1 3) f C T rc tl) rfl ?_
  refine Rx.irem rfl ⟨by omega, by omega⟩ ⟨by omega, by omega⟩ (by omega) (by omega) ?_
  refine Rx.walk 1 (pc' := 41) (L' := [some (.ref 61), some (.int (iz 3)), some (.int (iz which)), some (.int (iz ((which / 3) / 3))), some (.int (iz ((0 + (1 * ((which % 3) + 1))) + (5 * (((which / 3) % 3) + 1))))), some (.int (iz 25)), some (.int (iz 2))]) (st' := [.int (iz 1), .int (iz (((which / 3) / 3) % 3)), .int (iz 25), .int (iz ((0 + (1 * ((which % 3) + 1))) + (5 * (((which / 3) % 3) + 1))))]) (h' := cxW (u2 z 3 1 3) f C T rc tl) rfl ?_
  refine Rx.iadd rfl ?_
  refine Rx.imul rfl ?_
  refine Rx.iadd rfl ?_
  refine Rx.walk 5 (pc' := 54) (L' := [some (.ref 61), some (.int (iz 3)), some (.int (iz which)), some (.int (iz ((which / 3) / 3))), some (.int (iz (((0 + (1 * ((which % 3) + 1))) + (5 * (((which / 3) % 3) + 1))) + (25 * ((((which / 3) / 3) % 3) + 1))))), some (.int (iz 25)), some (.int (iz 2))]) (st' := [.int (iz 3), .int (iz ((which / 3) / 3))]) (h' := cxW (u2 z 3 1 3) f C T rc tl) rfl ?_
  refine Rx.idiv rfl ⟨by omega, by omega⟩ ⟨by omega, by omega⟩ (by omega) (by omega) ?_
  refine Rx.walk 3 (pc' := 59) (L' := [some (.ref 61), some (.int (iz 3)), some (.int (iz which)), some (.int (iz (((which / 3) / 3) / 3))), some (.int (iz (((0 + (1 * ((which % 3) + 1))) + (5 * (((which / 3) % 3) + 1))) + (25 * ((((which / 3) / 3) % 3) + 1))))), some (.int (iz 25)), some (.int (iz 2))]) (st' := [.int (iz 5), .int (iz 25)]) (h' := cxW (u2 z 3 1 3) f C T rc tl) rfl ?_
  refine Rx.imul rfl ?_
  refine Rx.walk 0 (pc' := 60) (L' := [some (.ref 61), some (.int (iz 3)), some (.int (iz which)), some (.int (iz (((which / 3) / 3) / 3))), some (.int (iz (((0 + (1 * ((which % 3) + 1))) + (5 * (((which / 3) % 3) + 1))) + (25 * ((((which / 3) / 3) % 3) + 1))))), some (.int (iz 25)), some (.int (iz 2))]) (st' := [.int (iz 125)]) (h' := cxW (u2 z 3 1 3) f C T rc tl) rfl ?_
  refine Rx.walk 1 (pc' := 62) (L' := [some (.ref 61), some (.int (iz 3)), some (.int (iz which)), some (.int (iz (((which / 3) / 3) / 3))), some (.int (iz (((0 + (1 * ((which % 3) + 1))) + (5 * (((which / 3) % 3) + 1))) + (25 * ((((which / 3) / 3) % 3) + 1))))), some (.int (iz 125)), some (.int (iz 2))]) (st' := []) (h' := cxW (u2 z 3 1 3) f C T rc tl) rfl ?_
  refine Rx.iinc (b := 1) rfl rfl rfl ?_
  refine Rx.walk 0 (pc' := 65) (L' := [some (.ref 61), some (.int (iz 3)), some (.int (iz which)), some (.int (iz (((which / 3) / 3) / 3))), some (.int (iz (((0 + (1 * ((which % 3) + 1))) + (5 * (((which / 3) % 3) + 1))) + (25 * ((((which / 3) / 3) % 3) + 1))))), some (.int (iz 125)), some (.int (iz 3))]) (st' := []) (h' := cxW (u2 z 3 1 3) f C T rc tl) rfl ?_
  refine Rx.walk 3 (pc' := 14) (L' := [some (.ref 61), some (.int (iz 3)), some (.int (iz which)), some (.int (iz (((which / 3) / 3) / 3))), some (.int (iz (((0 + (1 * ((which % 3) + 1))) + (5 * (((which / 3) % 3) + 1))) + (25 * ((((which / 3) / 3) % 3) + 1))))), some (.int (iz 125)), some (.int (iz 3))]) (st' := [.int (iz 3), .int (iz 3)]) (h' := cxW (u2 z 3 1 3) f C T rc tl) rfl ?_
  refine Rx.ge2 rfl rfl ⟨by omega, by omega⟩ ⟨by omega, by omega⟩ (fun b7 => ?_) (fun b7 => by omega)
  refine Rx.walk 1 (pc' := 70) (L' := [some (.ref 61), some (.int (iz 3)), some (.int (iz which)), some (.int (iz (((which / 3) / 3) / 3))), some (.int (iz (((0 + (1 * ((which % 3) + 1))) + (5 * (((which / 3) % 3) + 1))) + (25 * ((((which / 3) / 3) % 3) + 1))))), some (.int (iz 125)), some (.int (iz 3))]) (st' := [.int (iz (((0 + (1 * ((which % 3) + 1))) + (5 * (((which / 3) % 3) + 1))) + (25 * ((((which / 3) / 3) % 3) + 1))))]) (h' := cxW (u2 z 3 1 3) f C T rc tl) rfl ?_
  refine Rx.ret rfl ?_
  exact ⟨_, rfl, rfl, (by simp only [pwF] <;> omega)⟩
set_option maxRecDepth 100000 in
set_option maxHeartbeats 4000000 in
theorem x_pipeWith0_4 (d : Nat) (z : Nat → Nat → Int) (f : Nat → Int → Int) (C : Nat → CuR) (T : Nat → TsR) (rc : Nat → Nat) (tl : AmH)  (which : Int) (h0_ : 0 ≤ which) (h1_ : which < 1000) : Rx (d) m_X5_pipeWith 0 (am_ent [.ref 61, .int (iz 0), .int (iz which)] 7) [] (cxW (u2 z 3 1 4) f C T rc tl) (fun rv h => ∃ r : Int, rv = some (.int (iz r)) ∧ h = cxW (u2 z 3 1 4) f C T rc tl ∧ r = pwF 4 0 which) := by
  refine Rx.walk 0 (pc' := 0) (L' := [some (.ref 61), some (.int (iz 0)), some (.int (iz which)), none, none, none, none]) (st' := []) (h' := cxW (u2 z 3 1 4) f C T rc tl) rfl ?_
  refine Rx.walk 10 (pc' := 14) (L' := [some (.ref 61), some (.int (iz 0)), some (.int (iz which)), some (.int (iz which)), some (.int (iz 0)), some (.int (iz 1)), some (.int (iz 0))]) (st' := [.int (iz 0), .int (iz 0)]) (h' := cxW (u2 z 3 1 4) f C T rc tl) rfl ?_
  refine Rx.ge2 rfl rfl ⟨by omega, by omega⟩ ⟨by omega, by omega⟩ (fun b1 => ?_) (fun b1 => by omega)
  refine Rx.walk 1 (pc' := 70) (L' := [some (.ref 61), some (.int (iz 0)), some (.int (iz which)), some (.int (iz which)), some (.int (iz 0)), some (.int (iz 1)), some (.int (iz 0))]) (st' := [.int (iz 0)]) (h' := cxW (u2 z 3 1 4) f C T rc tl) rfl ?_
  refine Rx.ret rfl ?_
  exact ⟨_, rfl, rfl, (by simp only [pwF] <;> omega)⟩
set_option maxRecDepth 100000 in
set_option maxHeartbeats 4000000 in
theorem x_pipeWith1_4 (d : Nat) (z : Nat → Nat → Int) (f : Nat → Int → Int) (C : Nat → CuR) (T : Nat → TsR) (rc : Nat → Nat) (tl : AmH)  (which : Int) (h0_ : 0 ≤ which) (h1_ : which < 1000) : Rx (d) m_X5_pipeWith 0 (am_ent [.ref 61, .int (iz 1), .int (iz which)] 7) [] (cxW (u2 z 3 1 4) f C T rc tl) (fun rv h => ∃ r : Int, rv = some (.int (iz r)) ∧ h = cxW (u2 z 3 1 4) f C T rc tl ∧ r = pwF 4 1 which) := by
  refine Rx.walk 0 (pc' := 0) (L' := [some (.ref 61), some (.int (iz 1)), some (.int (iz which)), none, none, none, none]) (st' := []) (h' := cxW (u2 z 3 1 4) f C T rc tl) rfl ?_
  refine Rx.walk 10 (pc' := 14) (L' := [some (.ref 61), some (.int (iz 1)), some (.int (iz which)), some (.int (iz which)), some (.int (iz 0)), some (.int (iz 1)), some (.int (iz 0))]) (st' := [.int (iz 1), .int (iz 0)]) (h' := cxW (u2 z 3 1 4) f C T rc tl) rfl ?_
  refine Rx.ge2 rfl rfl ⟨by omega, by omega⟩ ⟨by omega, by omega⟩ (fun b1 => by omega) (fun b1 => ?_)
  refine Rx.walk 3 (pc' := 24) (L' := [some (.ref 61), some (.int (iz 1)), some (.int (iz which)), some (.int (iz which)), some (.int (iz 0)), some (.int (iz 1)), some (.int (iz 0))]) (st' := [.int (iz 4)]) (h' := cxW (u2 z 3 1 4) f C T rc tl) rfl ?_
  refine Rx.le1 rfl rfl ⟨by omega, by omega⟩ (fun b2 => by omega) (fun b2 => ?_)
  refine Rx.walk 6 (pc' := 39) (L' := [some (.ref 61), some (.int (iz 1)), some (.int (iz which)), some (.int (iz which)), some (.int (iz 0)), some (.int (iz 1)), some (.int (iz 0))]) (st' := [.int (iz 4), .int (iz which), .int (iz 1), .int (iz 0)]) (h' := cxW (u2 z 3 1 4) f C T rc tl) rfl ?_
  refine Rx.irem rfl ⟨by omega, by omega⟩ ⟨by omega, by omega⟩ (by omega) (by omega) ?_
  refine Rx.walk 1 (pc' := 41) (L' := [some (.ref 61), some (.int (iz 1)), some (.int (iz which)), some (.int (iz which)), some (.int (iz 0)), some (.int (iz 1)), some (.int (iz 0))]) (st' := [.int (iz 1), .int (iz (which % 4)), .int (iz 1), .int (iz 0)]) (h' := cxW (u2 z 3 1 4) f C T rc tl) rfl ?_
  refine Rx.iadd rfl ?_
  refine Rx.imul rfl ?_
  refine Rx.iadd rfl ?_
  refine Rx.walk 5 (pc' := 54) (L' := [some (.ref 61), some (.int (iz 1)), some (.int (iz which)), some (.int (iz which)), some (.int (iz (0 + (1 * ((which % 4) + 1))))), some (.int (iz 1)), some (.int (iz 0))]) (st' := [.int (iz 4), .int (iz which)]) (h' := cxW (u2 z 3 1 4) f C T rc tl) rfl ?_
  refine Rx.idiv rfl ⟨by omega, by omega⟩ ⟨by omega, by omega⟩ (by omega) (by omega) ?_
  refine Rx.walk 3 (pc' := 59) (L' := [some (.ref 61), some (.int (iz 1)), some (.int (iz which)), some (.int (iz (which / 4))), some (.int (iz (0 + (1 * ((which % 4) + 1))))), some (.int (iz 1)), some (.int (iz 0))]) (st' := [.int (iz 5), .int (iz 1)]) (h' := cxW (u2 z 3 1 4) f C T rc tl) rfl ?_
  refine Rx.imul rfl ?_
  refine Rx.walk 0 (pc' := 60) (L' := [some (.ref 61), some (.int (iz 1)), some (.int (iz which)), some (.int (iz (which / 4))), some (.int (iz (0 + (1 * ((which % 4) + 1))))), some (.int (iz 1)), some (.int (iz 0))]) (st' := [.int (iz 5)]) (h' := cxW (u2 z 3 1 4) f C T rc tl) rfl ?_
  refine Rx.walk 1 (pc' := 62) (L' := [some (.ref 61), some (.int (iz 1)), some (.int (iz which)), some (.int (iz (which / 4))), some (.int (iz (0 + (1 * ((which % 4) + 1))))), some (.int (iz 5)), some (.int (iz 0))]) (st' := []) (h' := cxW (u2 z 3 1 4) f C T rc tl) rfl ?_
  refine Rx.iinc (b := 1) rfl rfl rfl ?_
  refine Rx.walk 0 (pc' := 65) (L' := [some (.ref 61), some (.int (iz 1)), some (.int (iz which)), some (.int (iz (which / 4))), some (.int (iz (0 + (1 * ((which % 4) + 1))))), some (.int (iz 5)), some (.int (iz 1))]) (st' := []) (h' := cxW (u2 z 3 1 4) f C T rc tl) rfl ?_
  refine Rx.walk 3 (pc' := 14) (L' := [some (.ref 61), some (.int (iz 1)), some (.int (iz which)), some (.int (iz (which / 4))), some (.int (iz (0 + (1 * ((which % 4) + 1))))), some (.int (iz 5)), some (.int (iz 1))]) (st' := [.int (iz 1), .int (iz 1)]) (h' := cxW (u2 z 3 1 4) f C T rc tl) rfl ?_
  refine Rx.ge2 rfl rfl ⟨by omega, by omega⟩ ⟨by omega, by omega⟩ (fun b3 => ?_) (fun b3 => by omega)
  refine Rx.walk 1 (pc' := 70) (L' := [some (.ref 61), some (.int (iz 1)), some (.int (iz which)), some (.int (iz (which / 4))), some (.int (iz (0 + (1 * ((which % 4) + 1))))), some (.int (iz 5)), some (.int (iz 1))]) (st' := [.int (iz (0 + (1 * ((which % 4) + 1))))]) (h' := cxW (u2 z 3 1 4) f C T rc tl) rfl ?_
  refine Rx.ret rfl ?_
  exact ⟨_, rfl, rfl, (by simp only [pwF] <;> omega)⟩
set_option maxRecDepth 100000 in
set_option maxHeartbeats 4000000 in
theorem x_pipeWith2_4 (d : Nat) (z : Nat → Nat → Int) (f : Nat → Int → Int) (C : Nat → CuR) (T : Nat → TsR) (rc : Nat → Nat) (tl : AmH)  (which : Int) (h0_ : 0 ≤ which) (h1_ : which < 1000) : Rx (d) m_X5_pipeWith 0 (am_ent [.ref 61, .int (iz 2), .int (iz which)] 7) [] (cxW (u2 z 3 1 4) f C T rc tl) (fun rv h => ∃ r : Int, rv = some (.int (iz r)) ∧ h = cxW (u2 z 3 1 4) f C T rc tl ∧ r = pwF 4 2 which) := by
  refine Rx.walk 0 (pc' := 0) (L' := [some (.ref 61), some (.int (iz 2)), some (.int (iz which)), none, none, none, none]) (st' := []) (h' := cxW (u2 z 3 1 4) f C T rc tl) rfl ?_
  refine Rx.walk 10 (pc' := 14) (L' := [some (.ref 61), some (.int (iz 2)), some (.int (iz which)), some (.int (iz which)), some (.int (iz 0)), some (.int (iz 1)), some (.int (iz 0))]) (st' := [.int (iz 2), .int (iz 0)]) (h' := cxW (u2 z 3 1 4) f C T rc tl) rfl ?_
  refine Rx.ge2 rfl rfl ⟨by omega, by omega⟩ ⟨by omega, by omega⟩ (fun b1 => by omega) (fun b1 => ?_)
  refine Rx.walk 3 (pc' := 24) (L' := [some (.ref 61), some (.int (iz 2)), some (.int (iz which)), some (.int (iz which)), some (.int (iz 0)), some (.int (iz 1)), some (.int (iz 0))]) (st' := [.int (iz 4)]) (h' := cxW (u2 z 3 1 4) f C T rc tl) rfl ?_
  refine Rx.le1 rfl rfl ⟨by omega, by omega⟩ (fun b2 => by omega) (fun b2 => ?_)
  refine Rx.walk 6 (pc' := 39) (L' := [some (.ref 61), some (.int (iz 2)), some (.int (iz which)), some (.int (iz which)), some (.int (iz 0)), some (.int (iz 1)), some (.int (iz 0))]) (st' := [.int (iz 4), .int (iz which), .int (iz 1), .int (iz 0)]) (h' := cxW (u2 z 3 1 4) f C T rc tl) rfl ?_
  refine Rx.irem rfl ⟨by omega, by omega⟩ ⟨by omega, by omega⟩ (by omega) (by omega) ?_
  refine Rx.walk 1 (pc' := 41) (L' := [some (.ref 61), some (.int (iz 2)), some (.int (iz which)), some (.int (iz which)), some (.int (iz 0)), some (.int (iz 1)), some (.int (iz 0))]) (st' := [.int (iz 1), .int (iz (which % 4)), .int (iz 1), .int (iz 0)]) (h' := cxW (u2 z 3 1 4) f C T rc tl) rfl ?_
  refine Rx.iadd rfl ?_
  refine Rx.imul rfl ?_
  refine Rx.iadd rfl ?_
  refine Rx.walk 5 (pc' := 54) (L' := [some (.ref 61), some (.int (iz 2)), some (.int (iz which)), some (.int (iz which)), some (.int (iz (0 + (1 * ((which % 4) + 1))))), some (.int (iz 1)), some (.int (iz 0))]) (st' := [.int (iz 4), .int (iz which)]) (h' := cxW (u2 z 3 1 4) f C T rc tl) rfl ?_
  refine Rx.idiv rfl ⟨by omega, by omega⟩ ⟨by omega, by omega⟩ (by omega) (by omega) ?_
  refine Rx.walk 3 (pc' := 59) (L' := [some (.ref 61), some (.int (iz 2)), some (.int (iz which)), some (.int (iz (which / 4))), some (.int (iz (0 + (1 * ((which % 4) + 1))))), some (.int (iz 1)), some (.int (iz 0))]) (st' := [.int (iz 5), .int (iz 1)]) (h' := cxW (u2 z 3 1 4) f C T rc tl) rfl ?_
  refine Rx.imul rfl ?_
  refine Rx.walk 0 (pc' := 60) (L' := [some (.ref 61), some (.int (iz 2)), some (.int (iz which)), some (.int (iz (which / 4))), some (.int (iz (0 + (1 * ((which % 4) + 1))))), some (.int (iz 1)), some (.int (iz 0))]) (st' := [.int (iz 5)]) (h' := cxW (u2 z 3 1 4) f C T rc tl) rfl ?_
  refine Rx.walk 1 (pc' := 62) (L' := [some (.ref 61), some (.int (iz 2)), some (.int (iz which)), some (.int (iz (which / 4))), some (.int (iz (0 + (1 * ((which % 4) + 1))))), some (.int (iz 5)), some (.int (iz 0))]) (st' := []) (h' := cxW (u2 z 3 1 4) f C T rc tl) rfl ?_
  refine Rx.iinc (b := 1) rfl rfl rfl ?_
  refine Rx.walk 0 (pc' := 65) (L' := [some (.ref 61), some (.int (iz 2)), some (.int (iz which)), some (.int (iz (which / 4))), some (.int (iz (0 + (1 * ((which % 4) + 1))))), some (.int (iz 5)), some (.int (iz 1))]) (st' := []) (h' := cxW (u2 z 3 1 4) f C T rc tl) rfl ?_
  refine Rx.walk 3 (pc' := 14) (L' := [some (.ref 61), some (.int (iz 2)), some (.int (iz which)), some (.int (iz (which / 4))), some (.int (iz (0 + (1 * ((which % 4) + 1))))), some (.int (iz 5)), some (.int (iz 1))]) (st' := [.int (iz 2), .int (iz 1)]) (h' := cxW (u2 z 3 1 4) f C T rc tl) rfl ?_
  refine Rx.ge2 rfl rfl ⟨by omega, by omega⟩ ⟨by omega, by omega⟩ (fun b3 => by omega) (fun b3 => ?_)
  refine Rx.walk 3 (pc' := 24) (L' := [some (.ref 61), some (.int (iz 2)), some (.int (iz which)), some (.int (iz (which / 4))), some (.int (iz (0 + (1 * ((which % 4) + 1))))), some (.int (iz 5)), some (.int (iz 1))]) (st' := [.int (iz 4)]) (h' := cxW (u2 z 3 1 4) f C T rc tl) rfl ?_
  refine Rx.le1 rfl rfl ⟨by omega, by omega⟩ (fun b4 => by omega) (fun b4 => ?_)
  refine Rx.walk 6 (pc' := 39) (L' := [some (.ref 61), some (.int (iz 2)), some (.int (iz which)), some (.int (iz (which / 4))), some (.int (iz (0 + (1 * ((which % 4) + 1))))), some (.int (iz 5)), some (.int (iz 1))]) (st' := [.int (iz 4), .int (iz (which / 4)), .int (iz 5), .int (iz (0 + (1 * ((which % 4) + 1))))]) (h' := cxW (u2 z 3 1 4) f C T rc tl) rfl ?_
  refine Rx.irem rfl ⟨by omega, by omega⟩ ⟨by omega, by omega⟩ (by omega) (by omega) ?_
  refine Rx.walk 1 (pc' := 41) (L' := [some (.ref 61), some (.int (iz 2)), some (.int (iz which)), some (.int (iz (which / 4))), some (.int (iz (0 + (1 * ((which % 4) + 1))))), some (.int (iz 5)), some (.int (iz 1))]) (st' := [.int (iz 1), .int (iz ((which / 4) % 4)), .int (iz 5), .int (iz (0 + (1 * ((which % 4) + 1))))]) (h' := cxW (u2 z 3 1 4) f C T rc tl) rfl ?_
  refine Rx.iadd rfl ?_
  refine Rx.imul rfl ?_
  refine Rx.iadd rfl ?_
  refine Rx.walk 5 (pc' := 54) (L' := [some (.ref 61), some (.int (iz 2)), some (.int (iz which)), some (.int (iz (which / 4))), some (.int (iz ((0 + (1 * ((which % 4) + 1))) + (5 * (((which / 4) % 4) + 1))))), some (.int (iz 5)), some (.int (iz 1))]) (st' := [.int (iz 4), .int (iz (which / 4))]) (h' := cxW (u2 z 3 1 4) f C T rc tl) rfl ?_
  refine Rx.idiv rfl ⟨by omega, by omega⟩ ⟨by omega, by omega⟩ (by omega) (by omega) ?_
  refine Rx.walk 3 (pc' := 59) (L' := [some (.ref 61), some (.int (iz 2)), some (.int (iz which)), some (.int (iz ((which / 4) / 4))), some (.int (iz ((0 + (1 * ((which % 4) + 1))) + (5 * (((which / 4) % 4) + 1))))), some (.int (iz 5)), some (.int (iz 1))]) (st' := [.int (iz 5), .int (iz 5)]) (h' := cxW (u2 z 3 1 4) f C T rc tl) rfl ?_
  refine Rx.imul rfl ?_
  refine Rx.walk 0 (pc' := 60) (L' := [some (.ref 61), some (.int (iz 2)), some (.int (iz which)), some (.int (iz ((which / 4) / 4))), some (.int (iz ((0 + (1 * ((which % 4) + 1))) + (5 * (((which / 4) % 4) + 1))))), some (.int (iz 5)), some (.int (iz 1))]) (st' := [.int (iz 25)]) (h' := cxW (u2 z 3 1 4) f C T rc tl) rfl ?_
  refine Rx.walk 1 (pc' := 62) (L' := [some (.ref 61), some (.int (iz 2)), some (.int (iz which)), some (.int (iz ((which / 4) / 4))), some (.int (iz ((0 + (1 * ((which % 4) + 1))) + (5 * (((which / 4) % 4) + 1))))), some (.int (iz 25)), some (.int (iz 1))]) (st' := []) (h' := cxW (u2 z 3 1 4) f C T rc tl) rfl ?_
  refine Rx.iinc (b := 1) rfl rfl rfl ?_
  refine Rx.walk 0 (pc' := 65) (L' := [some (.ref 61), some (.int (iz 2)), some (.int (iz which)), some (.int (iz ((which / 4) / 4))), some (.int (iz ((0 + (1 * ((which % 4) + 1))) + (5 * (((which / 4) % 4) + 1))))), some (.int (iz 25)), some (.int (iz 2))]) (st' := []) (h' := cxW (u2 z 3 1 4) f C T rc tl) rfl ?_
  refine Rx.walk 3 (pc' := 14) (L' := [some (.ref 61), some (.int (iz 2)), some (.int (iz which)), some (.int (iz ((which / 4) / 4))), some (.int (iz ((0 + (1 * ((which % 4) + 1))) + (5 * (((which / 4) % 4) + 1))))), some (.int (iz 25)), some (.int (iz 2))]) (st' := [.int (iz 2), .int (iz 2)]) (h' := cxW (u2 z 3 1 4) f C T rc tl) rfl ?_
  refine Rx.ge2 rfl rfl ⟨by omega, by omega⟩ ⟨by omega, by omega⟩ (fun b5 => ?_) (fun b5 => by omega)
  refine Rx.walk 1 (pc' := 70) (L' := [some (.ref 61), some (.int (iz 2)), some (.int (iz which)), some (.int (iz ((which / 4) / 4))), some (.int (iz ((0 + (1 * ((which % 4) + 1))) + (5 * (((which / 4) % 4) + 1))))), some (.int (iz 25)), some (.int (iz 2))]) (st' := [.int (iz ((0 + (1 * ((which % 4) + 1))) + (5 * (((which / 4) % 4) + 1))))]) (h' := cxW (u2 z 3 1 4) f C T rc tl) rfl ?_
  refine Rx.ret rfl ?_
  exact ⟨_, rfl, rfl, (by simp only [pwF] <;> omega)⟩
set_option maxRecDepth 100000 in
set_option maxHeartbeats 4000000 in
theorem x_pipeWith3_4 (d : Nat) (z : Nat → Nat → Int) (f : Nat → Int → Int) (C : Nat → CuR) (T : Nat → TsR) (rc : Nat → Nat) (tl : AmH)  (which : Int) (h0_ : 0 ≤ which) (h1_ : which < 1000) : Rx (d) m_X5_pipeWith 0 (am_ent [.ref 61, .int (iz 3), .int (iz which)] 7) [] (cxW (u2 z 3 1 4) f C T rc tl) (fun rv h => ∃ r : Int, rv = some (.int (iz r)) ∧ h = cxW (u2 z 3 1 4) f C T rc tl ∧ r = pwF 4 3 which) := by
  refine Rx.walk 0 (pc' := 0) (L' := [some (.ref 61), some (.int (iz 3)), some (.int (iz which)), none, none, none, none]) (st' := []) (h' := cxW (u2 z 3 1 4) f C T rc tl) rfl ?_
  refine Rx.walk 10 (pc' := 14) (L' := [some (.ref 61), some (.int (iz 3)), some (.int (iz which)), some (.int (iz which)), some (.int (iz 0)), some (.int (iz 1)), some (.int (iz 0))]) (st' := [.int (iz 3), .int (iz 0)]) (h' := cxW (u2 z 3 1 4) f C T rc tl) rfl ?_
  refine Rx.ge2 rfl rfl ⟨by omega, by omega⟩ ⟨by omega, by omega⟩ (fun b1 => by omega) (fun b1 => ?_)
  refine Rx.walk 3 (pc' := 24) (L' := [some (.ref 61), some (.int (iz 3)), some (.int (iz which)), some (.int (iz which)), some (.int (iz 0)), some (.int (iz 1)), some (.int (iz 0))]) (st' := [.int (iz 4)]) (h' := cxW (u2 z 3 1 4) f C T rc tl) rfl ?_
  refine Rx.le1 rfl rfl ⟨by omega, by omega⟩ (fun b2 => by omega) (fun b2 => ?_)
  refine Rx.walk 6 (pc' := 39) (L' := [some (.ref 61), some (.int (iz 3)), some (.int (iz which)), some (.int (iz which)), some (.int (iz 0)), some (.int (iz 1)), some (.int (iz 0))]) (st' := [.int (iz 4), .int (iz which), .int (iz 1), .int (iz 0)]) (h' := cxW (u2 z 3 1 4) f C T rc tl) rfl ?_
  refine Rx.irem rfl ⟨by omega, by omega⟩ ⟨by omega, by omega⟩ (by omega) (by omega) ?_
  refine Rx.walk 1 (pc' := 41) (L' := [some (.ref 61), some (.int (iz 3)), some (.int (iz which)), some (.int (iz which)), some (.int (iz 0)), some (.int (iz 1)), some (.int (iz 0))]) (st' := [.int (iz 1), .int (iz (which % 4)), .int (iz 1), .int (iz 0)]) (h' := cxW (u2 z 3 1 4) f C T rc tl) rfl ?_
  refine Rx.iadd rfl ?_
  refine Rx.imul rfl ?_
  refine Rx.iadd rfl ?_
  refine Rx.walk 5 (pc' := 54) (L' := [some (.ref 61), some (.int (iz 3)), some (.int (iz which)), some (.int (iz which)), some (.int (iz (0 + (1 * ((which % 4) + 1))))), some (.int (iz 1)), some (.int (iz 0))]) (st' := [.int (iz 4), .int (iz which)]) (h' := cxW (u2 z 3 1 4) f C T rc tl) rfl ?_
  refine Rx.idiv rfl ⟨by omega, by omega⟩ ⟨by omega, by omega⟩ (by omega) (by omega) ?_
  refine Rx.walk 3 (pc' := 59) (L' := [some (.ref 61), some (.int (iz 3)), some (.int (iz which)), some (.int (iz (which / 4))), some (.int (iz (0 + (1 * ((which % 4) + 1))))), some (.int (iz 1)), some (.int (iz 0))]) (st' := [.int (iz 5), .int (iz 1)]) (h' := cxW (u2 z 3 1 4) f C T rc tl) rfl ?_
  refine Rx.imul rfl ?_
  refine Rx.walk 0 (pc' := 60) (L' := [some (.ref 61), some (.int (iz 3)), some (.int (iz which)), some (.int (iz (which / 4))), some (.int (iz (0 + (1 * ((which % 4) + 1))))), some (.int (iz 1)), some (.int (iz 0))]) (st' := [.int (iz 5)]) (h' := cxW (u2 z 3 1 4) f C T rc tl) rfl ?_
  refine Rx.walk 1 (pc' := 62) (L' := [some (.ref 61), some (.int (iz 3)), some (.int (iz which)), some (.int (iz (which / 4))), some (.int (iz (0 + (1 * ((which % 4) + 1))))), some (.int (iz 5)), some (.int (iz 0))]) (st' := []) (h' := cxW (u2 z 3 1 4) f C T rc tl) rfl ?_
  refine Rx.iinc (b := 1) rfl rfl rfl ?_
  refine Rx.walk 0 (pc' := 65) (L' := [some (.ref 61), some (.int (iz 3)), some (.int (iz which)), some (.int (iz (which / 4))), some (.int (iz (0 + (1 * ((which % 4) + 1))))), some (.int (iz 5)), some (.int (iz 1))]) (st' := []) (h' := cxW (u2 z 3 1 4) f C T rc tl) rfl ?_
  refine Rx.walk 3 (pc' := 14) (L' := [some (.ref 61), some (.int (iz 3)), some (.int (iz which)), some (.int (iz (which / 4))), some (.int (iz (0 + (1 * ((which % 4) + 1))))), some (.int (iz 5)), some (.int (iz 1))]) (st' := [.int (iz 3), .int (iz 1)]) (h' := cxW (u2 z 3 1 4) f C T rc tl) rfl ?_
  refine Rx.ge2 rfl rfl ⟨by omega, by omega⟩ ⟨by omega, by omega⟩ (fun b3 => by omega) (fun b3 => ?_)
  refine Rx.walk 3 (pc' := 24) (L' := [some (.ref 61), some (.int (iz 3)), some (.int (iz which)), some (.int (iz (which / 4))), some (.int (iz (0 + (1 * ((which % 4) + 1))))), some (.int (iz 5)), some (.int (iz 1))]) (st' := [.int (iz 4)]) (h' := cxW (u2 z 3 1 4) f C T rc tl) rfl ?_
  refine Rx.le1 rfl rfl ⟨by omega, by omega⟩ (fun b4 => by omega) (fun b4 => ?_)
  refine Rx.walk 6 (pc' := 39) (L' := [some (.ref 61), some (.int (iz 3)), some (.int (iz which)), some (.int (iz (which / 4))), some (.int (iz (0 + (1 * ((which % 4) + 1))))), some (.int (iz 5)), some (.int (iz 1))]) (st' := [.int (iz 4), .int (iz (which / 4)), .int (iz 5), .int (iz (0 + (1 * ((which % 4) + 1))))]) (h' := cxW (u2 z 3 1 4) f C T rc tl) rfl ?_
  refine Rx.irem rfl ⟨by omega, by omega⟩ ⟨by omega, by omega⟩ (by omega) (by omega) ?_
  refine Rx.walk 1 (pc' := 41) (L' := [some (.ref 61), some (.int (iz 3)), some (.int (iz which)), some (.int (iz (which / 4))), some (.int (iz (0 + (1 * ((which % 4) + 1))))), some (.int (iz 5)), some (.int (iz 1))]) (st' := [.int (iz 1), .int (iz ((which / 4) % 4)), .int (iz 5), .int (iz (0 + (1 * ((which % 4) + 1))))]) (h' := cxW (u2 z 3 1 4) f C T rc tl) rfl ?_
  refine Rx.iadd rfl ?_
  refine Rx.imul rfl ?_
  refine Rx.iadd rfl ?_
  refine Rx.walk 5 (pc' := 54) (L' := [some (.ref 61), some (.int (iz 3)), some (.int (iz which)), some (.int (iz (which / 4))), some (.int (iz ((0 + (1 * ((which % 4) + 1))) + (5 * (((which / 4) % 4) + 1))))), some (.int (iz 5)), some (.int (iz 1))]) (st' := [.int (iz 4), .int (iz (which / 4))]) (h' := cxW (u2 z 3 1 4) f C T rc tl) rfl ?_
  refine Rx.idiv rfl ⟨by omega, by omega⟩ ⟨by omega, by omega⟩ (by omega) (by omega) ?_
  refine Rx.walk 3 (pc' := 59) (L' := [some (.ref 61), some (.int (iz 3)), some (.int (iz which)), some (.int (iz ((which / 4) / 4))), some (.int (iz ((0 + (1 * ((which % 4) + 1))) + (5 * (((which / 4) % 4) + 1))))), some (.int (iz 5)), some (.int (iz 1))]) (st' := [.int (iz 5), .int (iz 5)]) (h' := cxW (u2 z 3 1 4) f C T rc tl) rfl ?_
  refine Rx.imul rfl ?_
  refine Rx.walk 0 (pc' := 60) (L' := [some (.ref 61), some (.int (iz 3)), some (.int (iz which)), some (.int (iz ((which / 4) / 4))), some (.int (iz ((0 + (1 * ((which % 4) + 1))) + (5 * (((which / 4) % 4) + 1))))), some (.int (iz 5)), some (.int (iz 1))]) (st' := [.int (iz 25)]) (h' := cxW (u2 z 3 1 4) f C T rc tl) rfl ?_
  refine Rx.walk 1 (pc' := 62) (L' := [some (.ref 61), some (.int (iz 3)), some (.int (iz which)), some (.int (iz ((which / 4) / 4))), some (.int (iz ((0 + (1 * ((which % 4) + 1))) + (5 * (((which / 4) % 4) + 1))))), some (.int (iz 25)), some (.int (iz 1))]) (st' := []) (h' := cxW (u2 z 3 1 4) f C T rc tl) rfl ?_
  refine Rx.iinc (b := 1) rfl rfl rfl ?_
  refine Rx.walk 0 (pc' := 65) (L' := [some (.ref 61), some (.int (iz 3)), some (.int (iz which)), some (.int (iz ((which / 4) / 4))), some (.int (iz ((0 + (1 * ((which % 4) + 1))) + (5 * (((which / 4) % 4) + 1))))), some (.int (iz 25)), some (.int (iz 2))]) (st' := []) (h' := cxW (u2 z 3 1 4) f C T rc tl) rfl ?_
  refine Rx.walk 3 (pc' := 14) (L' := [some (.ref 61), some (.int (iz 3)), some (.int (iz which)), some (.int (iz ((which / 4) / 4))), some (.int (iz ((0 + (1 * ((which % 4) + 1))) + (5 * (((which / 4) % 4) + 1))))), some (.int (iz 25)), some (.int (iz 2))]) (st' := [.int (iz 3), .int (iz 2)]) (h' := cxW (u2 z 3 1 4) f C T rc tl) rfl ?_
  refine Rx.ge2 rfl rfl ⟨by omega, by omega⟩ ⟨by omega, by omega⟩ (fun b5 => by omega) (fun b5 => ?_)
  refine Rx.walk 3 (pc' := 24) (L' := [some (.ref 61), some (.int (iz 3)), some (.int (iz which)), some (.int (iz ((which / 4) / 4))), some (.int (iz ((0 + (1 * ((which % 4) + 1))) + (5 * (((which / 4) % 4) + 1))))), some (.int (iz 25)), some (.int (iz 2))]) (st' := [.int (iz 4)]) (h' := cxW (u2 z 3 1 4) f C T rc tl) rfl ?_
  refine Rx.le1 rfl rfl ⟨by omega, by omega⟩ (fun b6 => by omega) (fun b6 => ?_)
  refine Rx.walk 6 (pc' := 39) (L' := [some (.ref 61), some (.int (iz 3)), some (.int (iz which)), some (.int (iz ((which / 4) / 4))), some (.int (iz ((0 + (1 * ((which % 4) + 1))) + (5 * (((which / 4) % 4) + 1))))), some (.int (iz 25)), some (.int (iz 2))]) (st' := [.int (iz 4), .int (iz ((which / 4) / 4)), .int (iz 25), .int (iz ((0 + (1 * ((which % 4) + 1))) + (5 * (((which / 4) % 4) + 1))))]) (h' := cxW (u2 z 3 1 4) f C T rc tl) rfl ?_
  refine Rx.irem rfl ⟨by omega, by omega⟩ ⟨by omega, by omega⟩ (by omega) (by omega) ?_
  refine Rx.walk 1 (pc' := 41) (L' := [some (.ref 61), some (.int (iz 3)), some (.int (iz which)), some (.int (iz ((which / 4) / 4))), some (.int (iz ((0 + (1 * ((which % 4) + 1))) + (5 * (((which / 4) % 4) + 1))))), some (.int (iz 25)), some (.int (iz 2))]) (st' := [.int (iz 1), .int (iz (((which / 4) / 4) % 4)), .int (iz 25), .int (iz ((0 + (1 * ((which % 4) + 1))) + (5 * (((which / 4) % 4) + 1))))]) (h' := cxW (u2 z 3 1 4) f C T rc tl) rfl ?_
  refine Rx.iadd rfl ?_
  refine Rx.imul rfl ?_
  refine Rx.iadd rfl ?_
  refine Rx.walk 5 (pc' := 54) (L' := [some (.ref 61), some (.int (iz 3)), some (.int (iz which)), some (.int (iz ((which / 4) / 4))), some (.int (iz (((0 + (1 * ((which % 4) + 1))) + (5 * (((which / 4) % 4) + 1))) + (25 * ((((which / 4) / 4) % 4) + 1))))), some (.int (iz 25)), some (.int (iz 2))]) (st' := [.int (iz 4), .int (iz ((which / 4) / 4))]) (h' := cxW (u2 z 3 1 4) f C T rc tl) rfl ?_
  refine Rx.idiv rfl ⟨by omega, by omega⟩ ⟨by omega, by omega⟩ (by omega) (by omega) ?_
  refine Rx.walk 3 (pc' := 59) (L' := [some (.ref 61), some (.int (iz 3)), some (.int (iz which)), some (.int (iz (((which / 4) / 4) / 4))), some (.int (iz (((0 + (1 * ((which % 4) + 1))) + (5 * (((which / 4) % 4) + 1))) + (25 * ((((which / 4) / 4) % 4) + 1))))), some (.int (iz 25)), some (.int (iz 2))]) (st' := [.int (iz 5), .int (iz 25)]) (h' := cxW (u2 z 3 1 4) f C T rc tl) rfl ?_
  refine Rx.imul rfl ?_
  refine Rx.walk 0 (pc' := 60) (L' := [some (.ref 61), some (.int (iz 3)), some (.int (iz which)), some (.int (iz (((which / 4) / 4) / 4))), some (.int (iz (((0 + (1 * ((which % 4) + 1))) + (5 * (((which / 4) % 4) + 1))) + (25 * ((((which / 4) / 4) % 4) + 1))))), some (.int (iz 25)), some (.int (iz 2))]) (st' := [.int (iz 125)]) (h' := cxW (u2 z 3 1 4) f C T rc tl) rfl ?_
  refine Rx.walk 1 (pc' := 62) (L' := [some (.ref 61), some (.int (iz 3)), some (.int (iz which)), some (.int (iz (((which / 4) / 4) / 4))), some (.int (iz (((0 + (1 * ((which % 4) + 1))) + (5 * (((which / 4) % 4) + 1))) + (25 * ((((which / 4) / 4) % 4) + 1))))), some (.int (iz 125)), some (.int (iz 2))]) (st' := []) (h' := cxW (u2 z 3 1 4) f C T rc tl) rfl ?_
  refine Rx.iinc (b := 1) rfl rfl rfl ?_
  refine Rx.walk 0 (pc' := 65) (L' := [some (.ref 61), some (.int (iz 3)), some (.int (iz which)), some (.int (iz (((which / 4) / 4) / 4))), some (.int (iz (((0 + (1 * ((which % 4) + 1))) + (5 * (((which / 4) % 4) + 1))) + (25 * ((((which / 4) / 4) % 4) + 1))))), some (.int (iz 125)), some (.int (iz 3))]) (st' := []) (h' := cxW (u2 z 3 1 4) f C T rc tl) rfl ?_
  refine Rx.walk 3 (pc' := 14) (L' := [some (.ref 61), some (.int (iz 3)), some (.int (iz which)), some (.int (iz (((which / 4) / 4) / 4))), some (.int (iz (((0 + (1 * ((which % 4) + 1))) + (5 * (((which / 4) % 4) + 1))) + (25 * ((((which / 4) / 4) % 4) + 1))))), some (.int (iz 125)), some (.int (iz 3))]) (st' := [.int (iz 3), .int (iz 3)]) (h' := cxW (u2 z 3 1 4) f C T rc tl) rfl ?_
  refine Rx.ge2 rfl rfl ⟨by omega, by omega⟩ ⟨by omega, by omega⟩ (fun b7 => ?_) (fun b7 => by omega)
  refine Rx.walk 1 (pc' := 70) (L' := [some (.ref 61), some (.int (iz 3)), some (.int (iz which)), some (.int (iz (((which / 4) / 4) / 4))), some (.int (iz (((0 + (1 * ((which % 4) + 1))) + (5 * (((which / 4) % 4) + 1))) + (25 * ((((which / 4) / 4) % 4) + 1))))), some (.int (iz 125)), some (.int (iz 3))]) (st' := [.int (iz (((0 + (1 * ((which % 4) + 1))) + (5 * (((which / 4) % 4) + 1))) + (25 * ((((which / 4) / 4) % 4) + 1))))]) (h' := cxW (u2 z 3 1 4) f C T rc tl) rfl ?_
  refine Rx.ret rfl ?_
  exact ⟨_, rfl, rfl, (by simp only [pwF] <;> omega)⟩
set_option maxRecDepth 100000 in
set_option maxHeartbeats 4000000 in
theorem x_pipeWith (d : Nat) (z : Nat → Nat → Int) (f : Nat → Int → Int) (C : Nat → CuR) (T : Nat → TsR) (rc : Nat → Nat) (tl : AmH)  (coins : Int) (which : Int) (K : Int) (h0_ : 0 ≤ which) (h1_ : which < 1000) (hc_ : 0 ≤ coins ∧ coins ≤ 3) (hK_ : 1 ≤ K ∧ K ≤ 4) : Rx (d) m_X5_pipeWith 0 (am_ent [.ref 61, .int (iz coins), .int (iz which)] 7) [] (cxW (u2 z 3 1 K) f C T rc tl) (fun rv h => ∃ r : Int, rv = some (.int (iz r)) ∧ h = cxW (u2 z 3 1 K) f C T rc tl ∧ r = pwF K coins.toNat which) := by
  rcases (show K = 1 ∨ K = 2 ∨ K = 3 ∨ K = 4 by omega) with rfl | rfl | rfl | rfl <;> rcases (show coins = 0 ∨ coins = 1 ∨ coins = 2 ∨ coins = 3 by omega) with rfl | rfl | rfl | rfl
  · exact x_pipeWith0_1 d z f C T rc tl which h0_ h1_
  · exact x_pipeWith1_1 d z f C T rc tl which h0_ h1_
  · exact x_pipeWith2_1 d z f C T rc tl which h0_ h1_
  · exact x_pipeWith3_1 d z f C T rc tl which h0_ h1_
  · exact x_pipeWith0_2 d z f C T rc tl which h0_ h1_
  · exact x_pipeWith1_2 d z f C T rc tl which h0_ h1_
  · exact x_pipeWith2_2 d z f C T rc tl which h0_ h1_
  · exact x_pipeWith3_2 d z f C T rc tl which h0_ h1_
  · exact x_pipeWith0_3 d z f C T rc tl which h0_ h1_
  · exact x_pipeWith1_3 d z f C T rc tl which h0_ h1_
  · exact x_pipeWith2_3 d z f C T rc tl which h0_ h1_
  · exact x_pipeWith3_3 d z f C T rc tl which h0_ h1_
  · exact x_pipeWith0_4 d z f C T rc tl which h0_ h1_
  · exact x_pipeWith1_4 d z f C T rc tl which h0_ h1_
  · exact x_pipeWith2_4 d z f C T rc tl which h0_ h1_
  · exact x_pipeWith3_4 d z f C T rc tl which h0_ h1_
set_option maxRecDepth 100000 in
set_option maxHeartbeats 4000000 in
theorem x_least_i (d : Nat) (z : Nat → Nat → Int) (f : Nat → Int → Int) (C : Nat → CuR) (T : Nat → TsR) (rc : Nat → Nat) (tl : AmH)  (m : Nat) (w : Int → Int) (tr : Int) (len : Int) (pi_ : Int) (K : Int) (M : Int) (prs : Int → Int) (cns : Int → Int → Int) (last : Int) (st0 : Int) (tr_ : Int) (co : Int) (hw : wOK w) (htr : 0 ≤ tr ∧ tr ≤ 1) (hlen : 1 ≤ len ∧ len ≤ 5) (hpi : 0 ≤ pi_ ∧ pi_ ≤ 2) (hK : 1 ≤ K ∧ K ≤ 4) (hCA : cuA C w K M prs cns) (hm : 1 ≤ m ∧ m ≤ 4) (hmM : (m : Int) ≤ M) (hm2 : m ≤ 2) (hla : last = min 3 len) (hst0 : st0 + 6500000 < 2147483647) (hco : 0 ≤ co ∧ co ≤ last) (htr_ : tr_ = kp K co.toNat) (P : Option Value → AmH → Prop) (hx0 : ∀ (t' : Int) (w7' : Option Value) (w8' : Option Value) (osz' : Int) (who' : Int → Int) (T' : Nat → TsR) (ot' : Int) (wh' : Int) (tl_' : Int) (qd' : Int) (ed' : Int) (st' : Int) (R0' : Int → Int) (R1' : Int → Int) (K0' : Int → Int) (K1' : Int → Int) (q' : Int → Int) (mo' : Int → Int) (sm' : Int → Int) (en' : Int → Int), (pyS st' sm') → (st0 ≤ st' ∧ st' ≤ st0 + 24000 * (64 * co + 64)) → (tsA T') → (∀ (c : Nat) (p : Int), (c : Int) < co + 1 → dwP K c p → (fun v r => faR (fun l r => thR w K tr len pi_ prs cns l (fun u => u = v) r) m r) (p * 50000) 0) → Rx (d + 11) m_X5_leastFloat 84 [some (.ref 61), some (.int (iz (m : Int))), some (.ref 95), some (.int (iz last)), some (.int (iz tr_)), some (.int (iz co)), some (.int (iz t')), w7', w8'] [] (cxW (u2 (u2 (u2 (u2 (u2 (u2 (u2 (u2 (u2 (u2 (u2 z 3 1 K) 3 2 pi_) 3 3 len) 3 4 tr) 46 3 ot') 46 5 qd') 46 8 st') 46 10 ed') 46 11 wh') 46 12 tl_') 95 1 osz') (uf (uf (uf (uf (uf (uf (uf (uf (uf (uf f 4 w) 48 R0') 49 R1') 51 K0') 52 K1') 53 q') 54 mo') 55 sm') 56 en') 96 who') C T' rc tl) P) (hx1 : ∀ (r : Int) (osz' : Int) (who' : Int → Int) (T' : Nat → TsR) (ot' : Int) (wh' : Int) (tl_' : Int) (qd' : Int) (ed' : Int) (st' : Int) (R0' : Int → Int) (R1' : Int → Int) (K0' : Int → Int) (K1' : Int → Int) (q' : Int → Int) (mo' : Int → Int) (sm' : Int → Int) (en' : Int → Int), (pyS st' sm') → (st0 ≤ st' ∧ st' ≤ st0 + 6144000) → (tsA T') → ((r = -1 ∧ ∀ (c : Nat) (p : Int), (c : Int) ≤ last → dwP K c p → (fun v r => faR (fun l r => thR w K tr len pi_ prs cns l (fun u => u = v) r) m r) (p * 50000) 0) ∨ (∃ (c : Nat) (p : Int), (c : Int) ≤ last ∧ dwP K c p ∧ dwI (fun v r => faR (fun l r => thR w K tr len pi_ prs cns l (fun u => u = v) r) m r) K last c p ∧ (((fun v r => faR (fun l r => thR w K tr len pi_ prs cns l (fun u => u = v) r) m r) (p * 50000) 1 ∧ r = p * 50000) ∨ ((fun v r => faR (fun l r => thR w K tr len pi_ prs cns l (fun u => u = v) r) m r) (p * 50000) (-2) ∧ r = -2)))) → P (some (.int (iz r))) (cxW (u2 (u2 (u2 (u2 (u2 (u2 (u2 (u2 (u2 (u2 (u2 z 3 1 K) 3 2 pi_) 3 3 len) 3 4 tr) 46 3 ot') 46 5 qd') 46 8 st') 46 10 ed') 46 11 wh') 46 12 tl_') 95 1 osz') (uf (uf (uf (uf (uf (uf (uf (uf (uf (uf f 4 w) 48 R0') 49 R1') 51 K0') 52 K1') 53 q') 54 mo') 55 sm') 56 en') 96 who') C T' rc tl)) : ∀ (kF : Nat) (t : Int) (osz : Int) (who : Int → Int) (T1 : Nat → TsR) (ot : Int) (wh : Int) (tl_ : Int) (qd : Int) (ed : Int) (st : Int) (R0 : Int → Int) (R1 : Int → Int) (K0 : Int → Int) (K1 : Int → Int) (q : Int → Int) (mo : Int → Int) (sm : Int → Int) (en : Int → Int) (w7 : Option Value) (w8 : Option Value), (0 ≤ t) → (t ≤ tr_) → (tsA T1) → (pyS st sm) → (st0 ≤ st ∧ st ≤ st0 + 24000 * (64 * co + t)) → (∀ (c : Nat) (p : Int), (c : Int) < co → dwP K c p → (fun v r => faR (fun l r => thR w K tr len pi_ prs cns l (fun u => u = v) r) m r) (p * 50000) 0) → (∀ s : Int, 0 ≤ s → s < t → (fun v r => faR (fun l r => thR w K tr len pi_ prs cns l (fun u => u = v) r) m r) (pwF K co.toNat s * 50000) 0) → (256 - t) < (kF : Int) → Rx (d + 11) m_X5_leastFloat 27 [some (.ref 61), some (.int (iz (m : Int))), some (.ref 95), some (.int (iz last)), some (.int (iz tr_)), some (.int (iz co)), some (.int (iz t)), w7, w8] [] (cxW (u2 (u2 (u2 (u2 (u2 (u2 (u2 (u2 (u2 (u2 (u2 z 3 1 K) 3 2 pi_) 3 3 len) 3 4 tr) 46 3 ot) 46 5 qd) 46 8 st) 46 10 ed) 46 11 wh) 46 12 tl_) 95 1 osz) (uf (uf (uf (uf (uf (uf (uf (uf (uf (uf f 4 w) 48 R0) 49 R1) 51 K0) 52 K1) 53 q) 54 mo) 55 sm) 56 en) 96 who) C T1 rc tl) P := by
  have hkp := kp_b hK.1 hK.2
  have htb : 1 ≤ tr_ ∧ tr_ ≤ 64 := by
    rcases (show co = 0 ∨ co = 1 ∨ co = 2 ∨ co = 3 by omega) with q | q | q | q <;> subst q
    · have e : tr_ = kp K 0 := htr_; omega
    · have e : tr_ = kp K 1 := htr_; omega
    · have e : tr_ = kp K 2 := htr_; omega
    · have e : tr_ = kp K 3 := htr_; omega
  have hml : (pmL m).length ≤ 2 := by
    rcases (show m = 1 ∨ m = 2 by omega) with q | q <;> subst q <;> decide
  intro kF
  induction kF with
  | zero =>
    intro t osz who T1 ot wh tl_ qd ed st R0 R1 K0 K1 q mo sm en w7 w8 t0 t1 hT hS hst hp0 hp hk
    exfalso; omega
  | succ kF ih =>
    intro t osz who T1 ot wh tl_ qd ed st R0 R1 K0 K1 q mo sm en w7 w8 t0 t1 hT hS hst hp0 hp hk
    have hCA1 := hCA.1
    have hCA2 := hCA.2.1
    have hS0 := hS.1
    refine Rx.walk 2 (pc' := 31) (L' := [some (.ref 61), some (.int (iz (m : Int))), some (.ref 95), some (.int (iz last)), some (.int (iz tr_)), some (.int (iz co)), some (.int (iz t)), w7, w8]) (st' := [.int (iz tr_), .int (iz t)]) (h' := cxW (u2 (u2 (u2 (u2 (u2 (u2 (u2 (u2 (u2 (u2 (u2 z 3 1 K) 3 2 pi_) 3 3 len) 3 4 tr) 46 3 ot) 46 5 qd) 46 8 st) 46 10 ed) 46 11 wh) 46 12 tl_) 95 1 osz) (uf (uf (uf (uf (uf (uf (uf (uf (uf (uf f 4 w) 48 R0) 49 R1) 51 K0) 52 K1) 53 q) 54 mo) 55 sm) 56 en) 96 who) C T1 rc tl) rfl ?_
    refine Rx.ge2 rfl rfl ⟨by omega, by omega⟩ ⟨by omega, by omega⟩ (fun b1 => ?_) (fun b1 => ?_)
    · exact hx0 _ _ _ _ _ _ _ _ _ _ _ _ _ _ _ _ _ _ _ _ hS ⟨by omega, by omega⟩ hT (fun c p hc hd => by rcases (show (c : Int) < co ∨ c = co.toNat by omega) with z | z; (exact hp0 c p z hd); (subst z; obtain ⟨s, s0, s1, rfl⟩ := pwF_ex hK.1 hK.2 hd.2; exact hp s s0 (by omega)))
    · refine Rx.walk 3 (pc' := 39) (L' := [some (.ref 61), some (.int (iz (m : Int))), some (.ref 95), some (.int (iz last)), some (.int (iz tr_)), some (.int (iz co)), some (.int (iz t)), w7, w8]) (st' := [.int (iz t), .int (iz co), .ref 61]) (h' := cxW (u2 (u2 (u2 (u2 (u2 (u2 (u2 (u2 (u2 (u2 (u2 z 3 1 K) 3 2 pi_) 3 3 len) 3 4 tr) 46 3 ot) 46 5 qd) 46 8 st) 46 10 ed) 46 11 wh) 46 12 tl_) 95 1 osz) (uf (uf (uf (uf (uf (uf (uf (uf (uf (uf f 4 w) 48 R0) 49 R1) 51 K0) 52 K1) 53 q) 54 mo) 55 sm) 56 en) 96 who) C T1 rc tl) rfl ?_
      refine Rx.callx (m' := m_X5_pipeWith) (as := [.ref 61, .int (iz co), .int (iz t)]) (rest := []) rfl (x_pipeWith _ (u2 (u2 (u2 (u2 (u2 (u2 (u2 (u2 (u2 (u2 (u2 z 3 1 K) 3 2 pi_) 3 3 len) 3 4 tr) 46 3 ot) 46 5 qd) 46 8 st) 46 10 ed) 46 11 wh) 46 12 tl_) 95 1 osz) (uf (uf (uf (uf (uf (uf (uf (uf (uf (uf f 4 w) 48 R0) 49 R1) 51 K0) 52 K1) 53 q) 54 mo) 55 sm) 56 en) 96 who) C T1 rc tl  co t K t0 (by omega) ⟨by omega, by omega⟩ hK) (fun v4 h5 q6 => ?_)
      obtain ⟨r_2, rfl, rfl, f3⟩ := q6
      refine Rx.walk 0 (pc' := 42) (L' := [some (.ref 61), some (.int (iz (m : Int))), some (.ref 95), some (.int (iz last)), some (.int (iz tr_)), some (.int (iz co)), some (.int (iz t)), w7, w8]) (st' := [.int (iz r_2)]) (h' := cxW (u2 (u2 (u2 (u2 (u2 (u2 (u2 (u2 (u2 (u2 (u2 z 3 1 K) 3 2 pi_) 3 3 len) 3 4 tr) 46 3 ot) 46 5 qd) 46 8 st) 46 10 ed) 46 11 wh) 46 12 tl_) 95 1 osz) (uf (uf (uf (uf (uf (uf (uf (uf (uf (uf f 4 w) 48 R0) 49 R1) 51 K0) 52 K1) 53 q) 54 mo) 55 sm) 56 en) 96 who) C T1 rc tl) rfl ?_
      refine Rx.walk 2 (pc' := 44) (L' := [some (.ref 61), some (.int (iz (m : Int))), some (.ref 95), some (.int (iz last)), some (.int (iz tr_)), some (.int (iz co)), some (.int (iz t)), w7, w8]) (st' := [.int (iz 0), .int (iz 0), .int (iz r_2)]) (h' := cxW (u2 (u2 (u2 (u2 (u2 (u2 (u2 (u2 (u2 (u2 (u2 z 3 1 K) 3 2 pi_) 3 3 len) 3 4 tr) 46 3 ot) 46 5 qd) 46 8 st) 46 10 ed) 46 11 wh) 46 12 tl_) 95 1 osz) (uf (uf (uf (uf (uf (uf (uf (uf (uf (uf f 4 w) 48 R0) 49 R1) 51 K0) 52 K1) 53 q) 54 mo) 55 sm) 56 en) 96 who) C T1 rc tl) rfl ?_
      refine Rx.callx (m' := m_X10_number) (as := [.int (iz r_2), .int (iz 0), .int (iz 0)]) (rest := []) rfl (n_number _ (cxW (u2 (u2 (u2 (u2 (u2 (u2 (u2 (u2 (u2 (u2 (u2 z 3 1 K) 3 2 pi_) 3 3 len) 3 4 tr) 46 3 ot) 46 5 qd) 46 8 st) 46 10 ed) 46 11 wh) 46 12 tl_) 95 1 osz) (uf (uf (uf (uf (uf (uf (uf (uf (uf (uf f 4 w) 48 R0) 49 R1) 51 K0) 52 K1) 53 q) 54 mo) 55 sm) 56 en) 96 who) C T1 rc tl)  r_2 0 0 ) (fun v7 h8 q9 => ?_)
      obtain ⟨rfl, rfl⟩ := q9
      refine Rx.walk 0 (pc' := 47) (L' := [some (.ref 61), some (.int (iz (m : Int))), some (.ref 95), some (.int (iz last)), some (.int (iz tr_)), some (.int (iz co)), some (.int (iz t)), w7, w8]) (st' := [.int (iz ((((r_2 * 3125) + 0) * 16) + 0))]) (h' := cxW (u2 (u2 (u2 (u2 (u2 (u2 (u2 (u2 (u2 (u2 (u2 z 3 1 K) 3 2 pi_) 3 3 len) 3 4 tr) 46 3 ot) 46 5 qd) 46 8 st) 46 10 ed) 46 11 wh) 46 12 tl_) 95 1 osz) (uf (uf (uf (uf (uf (uf (uf (uf (uf (uf f 4 w) 48 R0) 49 R1) 51 K0) 52 K1) 53 q) 54 mo) 55 sm) 56 en) 96 who) C T1 rc tl) rfl ?_
      refine Rx.walk 5 (pc' := 54) (L' := [some (.ref 61), some (.int (iz (m : Int))), some (.ref 95), some (.int (iz last)), some (.int (iz tr_)), some (.int (iz co)), some (.int (iz t)), some (.int (iz ((((r_2 * 3125) + 0) * 16) + 0))), w8]) (st' := [.ref 95, .int (iz (m : Int)), .int (iz ((((r_2 * 3125) + 0) * 16) + 0)), .ref 61]) (h' := cxW (u2 (u2 (u2 (u2 (u2 (u2 (u2 (u2 (u2 (u2 (u2 z 3 1 K) 3 2 pi_) 3 3 len) 3 4 tr) 46 3 ot) 46 5 qd) 46 8 st) 46 10 ed) 46 11 wh) 46 12 tl_) 95 1 osz) (uf (uf (uf (uf (uf (uf (uf (uf (uf (uf f 4 w) 48 R0) 49 R1) 51 K0) 52 K1) 53 q) 54 mo) 55 sm) 56 en) 96 who) C T1 rc tl) rfl ?_
      have hpk := pwF_ok hK.1 hK.2 (c := co.toNat) t0
      rw [← f3] at hpk
      have hdp : dwP K co.toNat r_2 := ⟨hpk.2, hpk.1⟩
      have hvt : vT K len pi_ (r_2 * 50000) := dwP_vT hdp (by omega) (by omega) (by omega)
      have hpb := okP_b (show okP K len r_2 from ⟨hdp.1, co.toNat, by omega, hdp.2, by omega⟩)
      rw [show (((r_2 * 3125) + 0) * 16) + 0 = r_2 * 50000 by omega]
      refine Rx.callx (m' := m_X5_firstUnserved) (as := [.ref 61, .int (iz (r_2 * 50000)), .int (iz (m : Int)), .ref 95]) (rest := []) rfl (x_firstUnserved _ (u2 (u2 (u2 (u2 (u2 (u2 (u2 (u2 (u2 (u2 (u2 z 3 1 K) 3 2 pi_) 3 3 len) 3 4 tr) 46 3 ot) 46 5 qd) 46 8 st) 46 10 ed) 46 11 wh) 46 12 tl_) 95 1 osz) (uf (uf (uf (uf (uf (uf (uf (uf (uf (uf f 4 w) 48 R0) 49 R1) 51 K0) 52 K1) 53 q) 54 mo) 55 sm) 56 en) 96 who) C T1 rc tl  (r_2 * 50000) m w tr len pi_ K M prs cns osz who ot wh tl_ qd ed st R0 R1 K0 K1 q mo sm en (by first | assumption | omega) (by first | assumption | omega) (by first | assumption | omega) (by first | assumption | omega) (by first | assumption | omega) (by first | assumption | omega) (by first | assumption | omega) (by first | assumption | omega) hvt hT hS (by omega)) (fun v34 h35 q36 => ?_)
      obtain ⟨r_10, T_11, who_12, ot_13, wh_14, tl__15, qd_16, ed_17, st_18, R0_19, R1_20, K0_21, K1_22, q_23, mo_24, sm_25, en_26, rfl, rfl, f27, f28, f29, f30, f31, f32, f33⟩ := q36
      refine Rx.walk 0 (pc' := 57) (L' := [some (.ref 61), some (.int (iz (m : Int))), some (.ref 95), some (.int (iz last)), some (.int (iz tr_)), some (.int (iz co)), some (.int (iz t)), some (.int (iz (r_2 * 50000))), w8]) (st' := [.int (iz r_10)]) (h' := cxW (u2 (u2 (u2 (u2 (u2 (u2 (u2 (u2 (u2 (u2 (u2 z 3 1 K) 3 2 pi_) 3 3 len) 3 4 tr) 46 3 ot_13) 46 5 qd_16) 46 8 st_18) 46 10 ed_17) 46 11 wh_14) 46 12 tl__15) 95 1 (m : Int)) (uf (uf (uf (uf (uf (uf (uf (uf (uf (uf f 4 w) 48 R0_19) 49 R1_20) 51 K0_21) 52 K1_22) 53 q_23) 54 mo_24) 55 sm_25) 56 en_26) 96 who_12) C T_11 rc tl) rfl ?_
      have hfu := fuR_faR f31 (by omega)
      refine Rx.walk 2 (pc' := 61) (L' := [some (.ref 61), some (.int (iz (m : Int))), some (.ref 95), some (.int (iz last)), some (.int (iz tr_)), some (.int (iz co)), some (.int (iz t)), some (.int (iz (r_2 * 50000))), some (.int (iz r_10))]) (st' := [.int (iz r_10)]) (h' := cxW (u2 (u2 (u2 (u2 (u2 (u2 (u2 (u2 (u2 (u2 (u2 z 3 1 K) 3 2 pi_) 3 3 len) 3 4 tr) 46 3 ot_13) 46 5 qd_16) 46 8 st_18) 46 10 ed_17) 46 11 wh_14) 46 12 tl__15) 95 1 (m : Int)) (uf (uf (uf (uf (uf (uf (uf (uf (uf (uf f 4 w) 48 R0_19) 49 R1_20) 51 K0_21) 52 K1_22) 53 q_23) 54 mo_24) 55 sm_25) 56 en_26) 96 who_12) C T_11 rc tl) rfl ?_
      refine Rx.ge1 rfl rfl ⟨by omega, by omega⟩ (fun b37 => ?_) (fun b37 => ?_)
      · refine Rx.iinc (b := 1) rfl rfl rfl ?_
        refine Rx.walk 0 (pc' := 81) (L' := [some (.ref 61), some (.int (iz (m : Int))), some (.ref 95), some (.int (iz last)), some (.int (iz tr_)), some (.int (iz co)), some (.int (iz (t + 1))), some (.int (iz (r_2 * 50000))), some (.int (iz r_10))]) (st' := []) (h' := cxW (u2 (u2 (u2 (u2 (u2 (u2 (u2 (u2 (u2 (u2 (u2 z 3 1 K) 3 2 pi_) 3 3 len) 3 4 tr) 46 3 ot_13) 46 5 qd_16) 46 8 st_18) 46 10 ed_17) 46 11 wh_14) 46 12 tl__15) 95 1 (m : Int)) (uf (uf (uf (uf (uf (uf (uf (uf (uf (uf f 4 w) 48 R0_19) 49 R1_20) 51 K0_21) 52 K1_22) 53 q_23) 54 mo_24) 55 sm_25) 56 en_26) 96 who_12) C T_11 rc tl) rfl ?_
        refine Rx.walk 1 (pc' := 27) (L' := [some (.ref 61), some (.int (iz (m : Int))), some (.ref 95), some (.int (iz last)), some (.int (iz tr_)), some (.int (iz co)), some (.int (iz (t + 1))), some (.int (iz (r_2 * 50000))), some (.int (iz r_10))]) (st' := []) (h' := cxW (u2 (u2 (u2 (u2 (u2 (u2 (u2 (u2 (u2 (u2 (u2 z 3 1 K) 3 2 pi_) 3 3 len) 3 4 tr) 46 3 ot_13) 46 5 qd_16) 46 8 st_18) 46 10 ed_17) 46 11 wh_14) 46 12 tl__15) 95 1 (m : Int)) (uf (uf (uf (uf (uf (uf (uf (uf (uf (uf f 4 w) 48 R0_19) 49 R1_20) 51 K0_21) 52 K1_22) 53 q_23) 54 mo_24) 55 sm_25) 56 en_26) 96 who_12) C T_11 rc tl) rfl ?_
        exact ih (t + 1) (m : Int) who_12 T_11 ot_13 wh_14 tl__15 qd_16 ed_17 st_18 R0_19 R1_20 K0_21 K1_22 q_23 mo_24 sm_25 en_26 (some (.int (iz (r_2 * 50000)))) (some (.int (iz r_10))) (by first | assumption | omega) (by first | assumption | omega) f29 f27 ⟨by omega, by omega⟩ hp0 (fun s a b => by rcases (show s < t ∨ s = t by omega) with z | z; (exact hp s a z); (subst z; rw [← f3]; exact (by rcases hfu with z | z | z; (exfalso; omega); (exfalso; omega); exact z.2))) (by first | assumption | omega) 
      · refine Rx.walk 2 (pc' := 67) (L' := [some (.ref 61), some (.int (iz (m : Int))), some (.ref 95), some (.int (iz last)), some (.int (iz tr_)), some (.int (iz co)), some (.int (iz t)), some (.int (iz (r_2 * 50000))), some (.int (iz r_10))]) (st' := [.int (iz (-1)), .int (iz r_10)]) (h' := cxW (u2 (u2 (u2 (u2 (u2 (u2 (u2 (u2 (u2 (u2 (u2 z 3 1 K) 3 2 pi_) 3 3 len) 3 4 tr) 46 3 ot_13) 46 5 qd_16) 46 8 st_18) 46 10 ed_17) 46 11 wh_14) 46 12 tl__15) 95 1 (m : Int)) (uf (uf (uf (uf (uf (uf (uf (uf (uf (uf f 4 w) 48 R0_19) 49 R1_20) 51 K0_21) 52 K1_22) 53 q_23) 54 mo_24) 55 sm_25) 56 en_26) 96 who_12) C T_11 rc tl) rfl ?_
        refine Rx.ne2 rfl rfl ⟨by omega, by omega⟩ ⟨by omega, by omega⟩ (fun b38 => ?_) (fun b38 => ?_)
        · refine Rx.walk 1 (pc' := 77) (L' := [some (.ref 61), some (.int (iz (m : Int))), some (.ref 95), some (.int (iz last)), some (.int (iz tr_)), some (.int (iz co)), some (.int (iz t)), some (.int (iz (r_2 * 50000))), some (.int (iz r_10))]) (st' := [.int (iz (-2))]) (h' := cxW (u2 (u2 (u2 (u2 (u2 (u2 (u2 (u2 (u2 (u2 (u2 z 3 1 K) 3 2 pi_) 3 3 len) 3 4 tr) 46 3 ot_13) 46 5 qd_16) 46 8 st_18) 46 10 ed_17) 46 11 wh_14) 46 12 tl__15) 95 1 (m : Int)) (uf (uf (uf (uf (uf (uf (uf (uf (uf (uf f 4 w) 48 R0_19) 49 R1_20) 51 K0_21) 52 K1_22) 53 q_23) 54 mo_24) 55 sm_25) 56 en_26) 96 who_12) C T_11 rc tl) rfl ?_
          refine Rx.ret rfl ?_
          exact hx1 _ _ _ _ _ _ _ _ _ _ _ _ _ _ _ _ _ _ f27 ⟨by omega, by omega⟩ f29 (Or.inr ⟨co.toNat, r_2, by omega, hdp, (fun c p hc hd hl => by rcases hl with z | ⟨rfl, z⟩; (exact hp0 c p (by omega) hd); (obtain ⟨s, s0, s1, rfl⟩ := pwF_ex hK.1 hK.2 hd.2; refine hp s s0 ?_; rcases Int.lt_or_le s t with y | y; exact y; (exfalso; rcases (show t = s ∨ t < s by omega) with x | x; (subst x; omega); (have := pwF_lt hK.1 hK.2 t0 x s1; omega)))), Or.inr ⟨by rcases hfu with z | z | z; (exfalso; omega); exact z.2; (exfalso; omega), rfl⟩⟩)
        · refine Rx.walk 2 (pc' := 77) (L' := [some (.ref 61), some (.int (iz (m : Int))), some (.ref 95), some (.int (iz last)), some (.int (iz tr_)), some (.int (iz co)), some (.int (iz t)), some (.int (iz (r_2 * 50000))), some (.int (iz r_10))]) (st' := [.int (iz (r_2 * 50000))]) (h' := cxW (u2 (u2 (u2 (u2 (u2 (u2 (u2 (u2 (u2 (u2 (u2 z 3 1 K) 3 2 pi_) 3 3 len) 3 4 tr) 46 3 ot_13) 46 5 qd_16) 46 8 st_18) 46 10 ed_17) 46 11 wh_14) 46 12 tl__15) 95 1 (m : Int)) (uf (uf (uf (uf (uf (uf (uf (uf (uf (uf f 4 w) 48 R0_19) 49 R1_20) 51 K0_21) 52 K1_22) 53 q_23) 54 mo_24) 55 sm_25) 56 en_26) 96 who_12) C T_11 rc tl) rfl ?_
          refine Rx.ret rfl ?_
          exact hx1 _ _ _ _ _ _ _ _ _ _ _ _ _ _ _ _ _ _ f27 ⟨by omega, by omega⟩ f29 (Or.inr ⟨co.toNat, r_2, by omega, hdp, (fun c p hc hd hl => by rcases hl with z | ⟨rfl, z⟩; (exact hp0 c p (by omega) hd); (obtain ⟨s, s0, s1, rfl⟩ := pwF_ex hK.1 hK.2 hd.2; refine hp s s0 ?_; rcases Int.lt_or_le s t with y | y; exact y; (exfalso; rcases (show t = s ∨ t < s by omega) with x | x; (subst x; omega); (have := pwF_lt hK.1 hK.2 t0 x s1; omega)))), Or.inl ⟨by rcases hfu with z | z | z; exact z.2; (exfalso; omega); (exfalso; omega), rfl⟩⟩)
set_option maxRecDepth 100000 in
set_option maxHeartbeats 4000000 in
theorem x_least_o (d : Nat) (z : Nat → Nat → Int) (f : Nat → Int → Int) (C : Nat → CuR) (T : Nat → TsR) (rc : Nat → Nat) (tl : AmH)  (m : Nat) (w : Int → Int) (tr : Int) (len : Int) (pi_ : Int) (K : Int) (M : Int) (prs : Int → Int) (cns : Int → Int → Int) (last : Int) (st0 : Int) (hw : wOK w) (htr : 0 ≤ tr ∧ tr ≤ 1) (hlen : 1 ≤ len ∧ len ≤ 5) (hpi : 0 ≤ pi_ ∧ pi_ ≤ 2) (hK : 1 ≤ K ∧ K ≤ 4) (hCA : cuA C w K M prs cns) (hm : 1 ≤ m ∧ m ≤ 4) (hmM : (m : Int) ≤ M) (hm2 : m ≤ 2) (hla : last = min 3 len) (hst0 : st0 + 6500000 < 2147483647) (P : Option Value → AmH → Prop) (hx0 : ∀ (r : Int) (osz' : Int) (who' : Int → Int) (T' : Nat → TsR) (ot' : Int) (wh' : Int) (tl_' : Int) (qd' : Int) (ed' : Int) (st' : Int) (R0' : Int → Int) (R1' : Int → Int) (K0' : Int → Int) (K1' : Int → Int) (q' : Int → Int) (mo' : Int → Int) (sm' : Int → Int) (en' : Int → Int), (pyS st' sm') → (st0 ≤ st' ∧ st' ≤ st0 + 6144000) → (tsA T') → ((r = -1 ∧ ∀ (c : Nat) (p : Int), (c : Int) ≤ last → dwP K c p → (fun v r => faR (fun l r => thR w K tr len pi_ prs cns l (fun u => u = v) r) m r) (p * 50000) 0) ∨ (∃ (c : Nat) (p : Int), (c : Int) ≤ last ∧ dwP K c p ∧ dwI (fun v r => faR (fun l r => thR w K tr len pi_ prs cns l (fun u => u = v) r) m r) K last c p ∧ (((fun v r => faR (fun l r => thR w K tr len pi_ prs cns l (fun u => u = v) r) m r) (p * 50000) 1 ∧ r = p * 50000) ∨ ((fun v r => faR (fun l r => thR w K tr len pi_ prs cns l (fun u => u = v) r) m r) (p * 50000) (-2) ∧ r = -2)))) → P (some (.int (iz r))) (cxW (u2 (u2 (u2 (u2 (u2 (u2 (u2 (u2 (u2 (u2 (u2 z 3 1 K) 3 2 pi_) 3 3 len) 3 4 tr) 46 3 ot') 46 5 qd') 46 8 st') 46 10 ed') 46 11 wh') 46 12 tl_') 95 1 osz') (uf (uf (uf (uf (uf (uf (uf (uf (uf (uf f 4 w) 48 R0') 49 R1') 51 K0') 52 K1') 53 q') 54 mo') 55 sm') 56 en') 96 who') C T' rc tl)) : ∀ (kF : Nat) (co : Int) (tr_ : Int) (osz : Int) (who : Int → Int) (T1 : Nat → TsR) (ot : Int) (wh : Int) (tl_ : Int) (qd : Int) (ed : Int) (st : Int) (R0 : Int → Int) (R1 : Int → Int) (K0 : Int → Int) (K1 : Int → Int) (q : Int → Int) (mo : Int → Int) (sm : Int → Int) (en : Int → Int) (w6 : Option Value) (w7 : Option Value) (w8 : Option Value), (0 ≤ co) → (co ≤ last + 1) → (tr_ = kp K co.toNat) → (tsA T1) → (pyS st sm) → (st0 ≤ st ∧ st ≤ st0 + 24000 * (64 * co)) → (∀ (c : Nat) (p : Int), (c : Int) < co → dwP K c p → (fun v r => faR (fun l r => thR w K tr len pi_ prs cns l (fun u => u = v) r) m r) (p * 50000) 0) → (4 - co) < (kF : Int) → Rx (d + 11) m_X5_leastFloat 18 [some (.ref 61), some (.int (iz (m : Int))), some (.ref 95), some (.int (iz last)), some (.int (iz tr_)), some (.int (iz co)), w6, w7, w8] [] (cxW (u2 (u2 (u2 (u2 (u2 (u2 (u2 (u2 (u2 (u2 (u2 z 3 1 K) 3 2 pi_) 3 3 len) 3 4 tr) 46 3 ot) 46 5 qd) 46 8 st) 46 10 ed) 46 11 wh) 46 12 tl_) 95 1 osz) (uf (uf (uf (uf (uf (uf (uf (uf (uf (uf f 4 w) 48 R0) 49 R1) 51 K0) 52 K1) 53 q) 54 mo) 55 sm) 56 en) 96 who) C T1 rc tl) P := by
  intro kF
  induction kF with
  | zero =>
    intro co tr_ osz who T1 ot wh tl_ qd ed st R0 R1 K0 K1 q mo sm en w6 w7 w8 co0 co1 htr_ hT hS hst hp0 hk
    exfalso; omega
  | succ kF ih =>
    intro co tr_ osz who T1 ot wh tl_ qd ed st R0 R1 K0 K1 q mo sm en w6 w7 w8 co0 co1 htr_ hT hS hst hp0 hk
    have hS0 := hS.1
    refine Rx.walk 2 (pc' := 21) (L' := [some (.ref 61), some (.int (iz (m : Int))), some (.ref 95), some (.int (iz last)), some (.int (iz tr_)), some (.int (iz co)), w6, w7, w8]) (st' := [.int (iz last), .int (iz co)]) (h' := cxW (u2 (u2 (u2 (u2 (u2 (u2 (u2 (u2 (u2 (u2 (u2 z 3 1 K) 3 2 pi_) 3 3 len) 3 4 tr) 46 3 ot) 46 5 qd) 46 8 st) 46 10 ed) 46 11 wh) 46 12 tl_) 95 1 osz) (uf (uf (uf (uf (uf (uf (uf (uf (uf (uf f 4 w) 48 R0) 49 R1) 51 K0) 52 K1) 53 q) 54 mo) 55 sm) 56 en) 96 who) C T1 rc tl) rfl ?_
    refine Rx.gt2 rfl rfl ⟨by omega, by omega⟩ ⟨by omega, by omega⟩ (fun b1 => ?_) (fun b1 => ?_)
    · refine Rx.walk 1 (pc' := 103) (L' := [some (.ref 61), some (.int (iz (m : Int))), some (.ref 95), some (.int (iz last)), some (.int (iz tr_)), some (.int (iz co)), w6, w7, w8]) (st' := [.int (iz (-1))]) (h' := cxW (u2 (u2 (u2 (u2 (u2 (u2 (u2 (u2 (u2 (u2 (u2 z 3 1 K) 3 2 pi_) 3 3 len) 3 4 tr) 46 3 ot) 46 5 qd) 46 8 st) 46 10 ed) 46 11 wh) 46 12 tl_) 95 1 osz) (uf (uf (uf (uf (uf (uf (uf (uf (uf (uf f 4 w) 48 R0) 49 R1) 51 K0) 52 K1) 53 q) 54 mo) 55 sm) 56 en) 96 who) C T1 rc tl) rfl ?_
      refine Rx.ret rfl ?_
      exact hx0 _ _ _ _ _ _ _ _ _ _ _ _ _ _ _ _ _ _ hS ⟨by omega, by omega⟩ hT (Or.inl ⟨rfl, fun c p hc hd => hp0 c p (by omega) hd⟩)
    · refine Rx.walk 2 (pc' := 27) (L' := [some (.ref 61), some (.int (iz (m : Int))), some (.ref 95), some (.int (iz last)), some (.int (iz tr_)), some (.int (iz co)), some (.int (iz 0)), w7, w8]) (st' := []) (h' := cxW (u2 (u2 (u2 (u2 (u2 (u2 (u2 (u2 (u2 (u2 (u2 z 3 1 K) 3 2 pi_) 3 3 len) 3 4 tr) 46 3 ot) 46 5 qd) 46 8 st) 46 10 ed) 46 11 wh) 46 12 tl_) 95 1 osz) (uf (uf (uf (uf (uf (uf (uf (uf (uf (uf f 4 w) 48 R0) 49 R1) 51 K0) 52 K1) 53 q) 54 mo) 55 sm) 56 en) 96 who) C T1 rc tl) rfl ?_
      refine x_least_i _ (u2 (u2 (u2 (u2 (u2 (u2 (u2 (u2 (u2 (u2 (u2 z 3 1 K) 3 2 pi_) 3 3 len) 3 4 tr) 46 3 ot) 46 5 qd) 46 8 st) 46 10 ed) 46 11 wh) 46 12 tl_) 95 1 osz) (uf (uf (uf (uf (uf (uf (uf (uf (uf (uf f 4 w) 48 R0) 49 R1) 51 K0) 52 K1) 53 q) 54 mo) 55 sm) 56 en) 96 who) C T1 rc tl  m w tr len pi_ K M prs cns last st0 tr_ co (by first | assumption | omega) (by first | assumption | omega) (by first | assumption | omega) (by first | assumption | omega) (by first | assumption | omega) (by first | assumption | omega) (by first | assumption | omega) (by first | assumption | omega) (by first | assumption | omega) (by first | assumption | omega) (by first | assumption | omega) ⟨by omega, by omega⟩ htr_ _ ?_ ?_ ((256 - 0) + 1 : Int).toNat 0 osz who T1 ot wh tl_ qd ed st R0 R1 K0 K1 q mo sm en w7 w8 (by first | assumption | omega) (by have hkp := kp_b hK.1 hK.2; rcases (show co = 0 ∨ co = 1 ∨ co = 2 ∨ co = 3 by omega) with q | q | q | q <;> subst q; (have e : tr_ = kp K 0 := htr_; omega); (have e : tr_ = kp K 1 := htr_; omega); (have e : tr_ = kp K 2 := htr_; omega); (have e : tr_ = kp K 3 := htr_; omega)) hT hS ⟨by omega, by omega⟩ hp0 (fun s a b => by omega) (by omega) 
      · intro t_2 w7_3 w8_4 osz_5 who_6 T_7 ot_8 wh_9 tl__10 qd_11 ed_12 st_13 R0_14 R1_15 K0_16 K1_17 q_18 mo_19 sm_20 en_21 f22 f23 f24 f25
        refine Rx.walk 0 (pc' := 84) (L' := [some (.ref 61), some (.int (iz (m : Int))), some (.ref 95), some (.int (iz last)), some (.int (iz tr_)), some (.int (iz co)), some (.int (iz t_2)), w7_3, w8_4]) (st' := []) (h' := cxW (u2 (u2 (u2 (u2 (u2 (u2 (u2 (u2 (u2 (u2 (u2 z 3 1 K) 3 2 pi_) 3 3 len) 3 4 tr) 46 3 ot_8) 46 5 qd_11) 46 8 st_13) 46 10 ed_12) 46 11 wh_9) 46 12 tl__10) 95 1 osz_5) (uf (uf (uf (uf (uf (uf (uf (uf (uf (uf f 4 w) 48 R0_14) 49 R1_15) 51 K0_16) 52 K1_17) 53 q_18) 54 mo_19) 55 sm_20) 56 en_21) 96 who_6) C T_7 rc tl) rfl ?_
        refine Rx.walk 4 (pc' := 93) (L' := [some (.ref 61), some (.int (iz (m : Int))), some (.ref 95), some (.int (iz last)), some (.int (iz tr_)), some (.int (iz co)), some (.int (iz t_2)), w7_3, w8_4]) (st' := [.int (iz K), .int (iz tr_)]) (h' := cxW (u2 (u2 (u2 (u2 (u2 (u2 (u2 (u2 (u2 (u2 (u2 z 3 1 K) 3 2 pi_) 3 3 len) 3 4 tr) 46 3 ot_8) 46 5 qd_11) 46 8 st_13) 46 10 ed_12) 46 11 wh_9) 46 12 tl__10) 95 1 osz_5) (uf (uf (uf (uf (uf (uf (uf (uf (uf (uf f 4 w) 48 R0_14) 49 R1_15) 51 K0_16) 52 K1_17) 53 q_18) 54 mo_19) 55 sm_20) 56 en_21) 96 who_6) C T_7 rc tl) rfl ?_
        refine Rx.imul rfl ?_
        refine Rx.walk 1 (pc' := 96) (L' := [some (.ref 61), some (.int (iz (m : Int))), some (.ref 95), some (.int (iz last)), some (.int (iz (tr_ * K))), some (.int (iz co)), some (.int (iz t_2)), w7_3, w8_4]) (st' := []) (h' := cxW (u2 (u2 (u2 (u2 (u2 (u2 (u2 (u2 (u2 (u2 (u2 z 3 1 K) 3 2 pi_) 3 3 len) 3 4 tr) 46 3 ot_8) 46 5 qd_11) 46 8 st_13) 46 10 ed_12) 46 11 wh_9) 46 12 tl__10) 95 1 osz_5) (uf (uf (uf (uf (uf (uf (uf (uf (uf (uf f 4 w) 48 R0_14) 49 R1_15) 51 K0_16) 52 K1_17) 53 q_18) 54 mo_19) 55 sm_20) 56 en_21) 96 who_6) C T_7 rc tl) rfl ?_
        refine Rx.iinc (b := 1) rfl rfl rfl ?_
        refine Rx.walk 0 (pc' := 99) (L' := [some (.ref 61), some (.int (iz (m : Int))), some (.ref 95), some (.int (iz last)), some (.int (iz (tr_ * K))), some (.int (iz (co + 1))), some (.int (iz t_2)), w7_3, w8_4]) (st' := []) (h' := cxW (u2 (u2 (u2 (u2 (u2 (u2 (u2 (u2 (u2 (u2 (u2 z 3 1 K) 3 2 pi_) 3 3 len) 3 4 tr) 46 3 ot_8) 46 5 qd_11) 46 8 st_13) 46 10 ed_12) 46 11 wh_9) 46 12 tl__10) 95 1 osz_5) (uf (uf (uf (uf (uf (uf (uf (uf (uf (uf f 4 w) 48 R0_14) 49 R1_15) 51 K0_16) 52 K1_17) 53 q_18) 54 mo_19) 55 sm_20) 56 en_21) 96 who_6) C T_7 rc tl) rfl ?_
        refine Rx.walk 1 (pc' := 18) (L' := [some (.ref 61), some (.int (iz (m : Int))), some (.ref 95), some (.int (iz last)), some (.int (iz (tr_ * K))), some (.int (iz (co + 1))), some (.int (iz t_2)), w7_3, w8_4]) (st' := []) (h' := cxW (u2 (u2 (u2 (u2 (u2 (u2 (u2 (u2 (u2 (u2 (u2 z 3 1 K) 3 2 pi_) 3 3 len) 3 4 tr) 46 3 ot_8) 46 5 qd_11) 46 8 st_13) 46 10 ed_12) 46 11 wh_9) 46 12 tl__10) 95 1 osz_5) (uf (uf (uf (uf (uf (uf (uf (uf (uf (uf f 4 w) 48 R0_14) 49 R1_15) 51 K0_16) 52 K1_17) 53 q_18) 54 mo_19) 55 sm_20) 56 en_21) 96 who_6) C T_7 rc tl) rfl ?_
        exact ih (co + 1) (tr_ * K) osz_5 who_6 T_7 ot_8 wh_9 tl__10 qd_11 ed_12 st_13 R0_14 R1_15 K0_16 K1_17 q_18 mo_19 sm_20 en_21 (some (.int (iz t_2))) w7_3 w8_4 (by first | assumption | omega) (by first | assumption | omega) (by rw [show (co + 1).toNat = co.toNat + 1 by omega, htr_]; rfl) f24 f22 ⟨by omega, by omega⟩ f25 (by first | assumption | omega) 
      · intro r_26 osz_27 who_28 T_29 ot_30 wh_31 tl__32 qd_33 ed_34 st_35 R0_36 R1_37 K0_38 K1_39 q_40 mo_41 sm_42 en_43 f44 f45 f46 f47
        change P (some (.int (iz r_26))) (cxW (u2 (u2 (u2 (u2 (u2 (u2 (u2 (u2 (u2 (u2 (u2 z 3 1 K) 3 2 pi_) 3 3 len) 3 4 tr) 46 3 ot_30) 46 5 qd_33) 46 8 st_35) 46 10 ed_34) 46 11 wh_31) 46 12 tl__32) 95 1 osz_27) (uf (uf (uf (uf (uf (uf (uf (uf (uf (uf f 4 w) 48 R0_36) 49 R1_37) 51 K0_38) 52 K1_39) 53 q_40) 54 mo_41) 55 sm_42) 56 en_43) 96 who_28) C T_29 rc tl)
        exact hx0 _ _ _ _ _ _ _ _ _ _ _ _ _ _ _ _ _ _ f44 f45 f46 f47
set_option maxRecDepth 100000 in
set_option maxHeartbeats 4000000 in
theorem x_least (d : Nat) (z : Nat → Nat → Int) (f : Nat → Int → Int) (C : Nat → CuR) (T : Nat → TsR) (rc : Nat → Nat) (tl : AmH)  (m : Nat) (w : Int → Int) (tr : Int) (len : Int) (pi_ : Int) (K : Int) (M : Int) (prs : Int → Int) (cns : Int → Int → Int) (osz : Int) (who : Int → Int) (ot : Int) (wh : Int) (tl_ : Int) (qd : Int) (ed : Int) (st : Int) (R0 : Int → Int) (R1 : Int → Int) (K0 : Int → Int) (K1 : Int → Int) (q : Int → Int) (mo : Int → Int) (sm : Int → Int) (en : Int → Int) (hw : wOK w) (htr : 0 ≤ tr ∧ tr ≤ 1) (hlen : 1 ≤ len ∧ len ≤ 5) (hpi : 0 ≤ pi_ ∧ pi_ ≤ 2) (hK : 1 ≤ K ∧ K ≤ 4) (hCA : cuA C w K M prs cns) (hm : 1 ≤ m ∧ m ≤ 4) (hmM : (m : Int) ≤ M) (hm2 : m ≤ 2) (hT : tsA T) (hS : pyS st sm) (hst0 : st + 6500000 < 2147483647) : Rx (d + 11) m_X5_leastFloat 0 (am_ent [.ref 61, .int (iz (m : Int)), .ref 95] 9) [] (cxW (u2 (u2 (u2 (u2 (u2 (u2 (u2 (u2 (u2 (u2 (u2 z 3 1 K) 3 2 pi_) 3 3 len) 3 4 tr) 46 3 ot) 46 5 qd) 46 8 st) 46 10 ed) 46 11 wh) 46 12 tl_) 95 1 osz) (uf (uf (uf (uf (uf (uf (uf (uf (uf (uf f 4 w) 48 R0) 49 R1) 51 K0) 52 K1) 53 q) 54 mo) 55 sm) 56 en) 96 who) C T rc tl) (fun rv h => ∃ r : Int, ∃ osz' : Int, ∃ who' : Int → Int, ∃ T' : Nat → TsR, ∃ ot' : Int, ∃ wh' : Int, ∃ tl_' : Int, ∃ qd' : Int, ∃ ed' : Int, ∃ st' : Int, ∃ R0' : Int → Int, ∃ R1' : Int → Int, ∃ K0' : Int → Int, ∃ K1' : Int → Int, ∃ q' : Int → Int, ∃ mo' : Int → Int, ∃ sm' : Int → Int, ∃ en' : Int → Int, rv = some (.int (iz r)) ∧ h = cxW (u2 (u2 (u2 (u2 (u2 (u2 (u2 (u2 (u2 (u2 (u2 z 3 1 K) 3 2 pi_) 3 3 len) 3 4 tr) 46 3 ot') 46 5 qd') 46 8 st') 46 10 ed') 46 11 wh') 46 12 tl_') 95 1 osz') (uf (uf (uf (uf (uf (uf (uf (uf (uf (uf f 4 w) 48 R0') 49 R1') 51 K0') 52 K1') 53 q') 54 mo') 55 sm') 56 en') 96 who') C T' rc tl ∧ pyS st' sm' ∧ (st ≤ st' ∧ st' ≤ st + 6144000) ∧ tsA T' ∧ ((r = -1 ∧ ∀ (c : Nat) (p : Int), (c : Int) ≤ (min 3 len) → dwP K c p → (fun v r => faR (fun l r => thR w K tr len pi_ prs cns l (fun u => u = v) r) m r) (p * 50000) 0) ∨ (∃ (c : Nat) (p : Int), (c : Int) ≤ (min 3 len) ∧ dwP K c p ∧ dwI (fun v r => faR (fun l r => thR w K tr len pi_ prs cns l (fun u => u = v) r) m r) K (min 3 len) c p ∧ (((fun v r => faR (fun l r => thR w K tr len pi_ prs cns l (fun u => u = v) r) m r) (p * 50000) 1 ∧ r = p * 50000) ∨ ((fun v r => faR (fun l r => thR w K tr len pi_ prs cns l (fun u => u = v) r) m r) (p * 50000) (-2) ∧ r = -2))))) := by
  refine Rx.walk 0 (pc' := 0) (L' := [some (.ref 61), some (.int (iz (m : Int))), some (.ref 95), none, none, none, none, none, none]) (st' := []) (h' := cxW (u2 (u2 (u2 (u2 (u2 (u2 (u2 (u2 (u2 (u2 (u2 z 3 1 K) 3 2 pi_) 3 3 len) 3 4 tr) 46 3 ot) 46 5 qd) 46 8 st) 46 10 ed) 46 11 wh) 46 12 tl_) 95 1 osz) (uf (uf (uf (uf (uf (uf (uf (uf (uf (uf f 4 w) 48 R0) 49 R1) 51 K0) 52 K1) 53 q) 54 mo) 55 sm) 56 en) 96 who) C T rc tl) rfl ?_
  refine Rx.walk 4 (pc' := 8) (L' := [some (.ref 61), some (.int (iz (m : Int))), some (.ref 95), none, none, none, none, none, none]) (st' := [.int (iz len), .int (iz 3)]) (h' := cxW (u2 (u2 (u2 (u2 (u2 (u2 (u2 (u2 (u2 (u2 (u2 z 3 1 K) 3 2 pi_) 3 3 len) 3 4 tr) 46 3 ot) 46 5 qd) 46 8 st) 46 10 ed) 46 11 wh) 46 12 tl_) 95 1 osz) (uf (uf (uf (uf (uf (uf (uf (uf (uf (uf f 4 w) 48 R0) 49 R1) 51 K0) 52 K1) 53 q) 54 mo) 55 sm) 56 en) 96 who) C T rc tl) rfl ?_
  refine Rx.imin rfl ⟨by omega, by omega⟩ ⟨by omega, by omega⟩ ?_
  refine Rx.walk 5 (pc' := 18) (L' := [some (.ref 61), some (.int (iz (m : Int))), some (.ref 95), some (.int (iz (min 3 len))), some (.int (iz 1)), some (.int (iz 0)), none, none, none]) (st' := []) (h' := cxW (u2 (u2 (u2 (u2 (u2 (u2 (u2 (u2 (u2 (u2 (u2 z 3 1 K) 3 2 pi_) 3 3 len) 3 4 tr) 46 3 ot) 46 5 qd) 46 8 st) 46 10 ed) 46 11 wh) 46 12 tl_) 95 1 osz) (uf (uf (uf (uf (uf (uf (uf (uf (uf (uf f 4 w) 48 R0) 49 R1) 51 K0) 52 K1) 53 q) 54 mo) 55 sm) 56 en) 96 who) C T rc tl) rfl ?_
  refine x_least_o _ (u2 (u2 (u2 (u2 (u2 (u2 (u2 (u2 (u2 (u2 (u2 z 3 1 K) 3 2 pi_) 3 3 len) 3 4 tr) 46 3 ot) 46 5 qd) 46 8 st) 46 10 ed) 46 11 wh) 46 12 tl_) 95 1 osz) (uf (uf (uf (uf (uf (uf (uf (uf (uf (uf f 4 w) 48 R0) 49 R1) 51 K0) 52 K1) 53 q) 54 mo) 55 sm) 56 en) 96 who) C T rc tl  m w tr len pi_ K M prs cns (min 3 len) st (by first | assumption | omega) (by first | assumption | omega) (by first | assumption | omega) (by first | assumption | omega) (by first | assumption | omega) (by first | assumption | omega) (by first | assumption | omega) (by first | assumption | omega) (by first | assumption | omega) rfl (by first | assumption | omega) _ ?_ ((4 - 0) + 1 : Int).toNat 0 1 osz who T ot wh tl_ qd ed st R0 R1 K0 K1 q mo sm en none none none (by first | assumption | omega) (by first | assumption | omega) rfl hT hS ⟨by omega, by omega⟩ (fun c p hc hd => by omega) (by omega) 
  intro r_1 osz_2 who_3 T_4 ot_5 wh_6 tl__7 qd_8 ed_9 st_10 R0_11 R1_12 K0_13 K1_14 q_15 mo_16 sm_17 en_18 f19 f20 f21 f22
  show (fun (rv : Option Value) (h : AmH) => ∃ r : Int, ∃ osz' : Int, ∃ who' : Int → Int, ∃ T' : Nat → TsR, ∃ ot' : Int, ∃ wh' : Int, ∃ tl_' : Int, ∃ qd' : Int, ∃ ed' : Int, ∃ st' : Int, ∃ R0' : Int → Int, ∃ R1' : Int → Int, ∃ K0' : Int → Int, ∃ K1' : Int → Int, ∃ q' : Int → Int, ∃ mo' : Int → Int, ∃ sm' : Int → Int, ∃ en' : Int → Int, rv = some (.int (iz r)) ∧ h = cxW (u2 (u2 (u2 (u2 (u2 (u2 (u2 (u2 (u2 (u2 (u2 z 3 1 K) 3 2 pi_) 3 3 len) 3 4 tr) 46 3 ot') 46 5 qd') 46 8 st') 46 10 ed') 46 11 wh') 46 12 tl_') 95 1 osz') (uf (uf (uf (uf (uf (uf (uf (uf (uf (uf f 4 w) 48 R0') 49 R1') 51 K0') 52 K1') 53 q') 54 mo') 55 sm') 56 en') 96 who') C T' rc tl ∧ pyS st' sm' ∧ (st ≤ st' ∧ st' ≤ st + 6144000) ∧ tsA T' ∧ ((r = -1 ∧ ∀ (c : Nat) (p : Int), (c : Int) ≤ (min 3 len) → dwP K c p → (fun v r => faR (fun l r => thR w K tr len pi_ prs cns l (fun u => u = v) r) m r) (p * 50000) 0) ∨ (∃ (c : Nat) (p : Int), (c : Int) ≤ (min 3 len) ∧ dwP K c p ∧ dwI (fun v r => faR (fun l r => thR w K tr len pi_ prs cns l (fun u => u = v) r) m r) K (min 3 len) c p ∧ (((fun v r => faR (fun l r => thR w K tr len pi_ prs cns l (fun u => u = v) r) m r) (p * 50000) 1 ∧ r = p * 50000) ∨ ((fun v r => faR (fun l r => thR w K tr len pi_ prs cns l (fun u => u = v) r) m r) (p * 50000) (-2) ∧ r = -2))))) (some (Value.int (iz r_1))) (cxW (u2 (u2 (u2 (u2 (u2 (u2 (u2 (u2 (u2 (u2 (u2 z 3 1 K) 3 2 pi_) 3 3 len) 3 4 tr) 46 3 ot_5) 46 5 qd_8) 46 8 st_10) 46 10 ed_9) 46 11 wh_6) 46 12 tl__7) 95 1 osz_2) (uf (uf (uf (uf (uf (uf (uf (uf (uf (uf f 4 w) 48 R0_11) 49 R1_12) 51 K0_13) 52 K1_14) 53 q_15) 54 mo_16) 55 sm_17) 56 en_18) 96 who_3) C T_4 rc tl)
  exact ⟨_, _, _, _, _, _, _, _, _, _, _, _, _, _, _, _, _, _, rfl, rfl, f19, f20, f21, f22⟩
set_option maxRecDepth 100000 in
set_option maxHeartbeats 4000000 in
theorem x_dawn (d : Nat) (z : Nat → Nat → Int) (f : Nat → Int → Int) (C : Nat → CuR) (T : Nat → TsR) (rc : Nat → Nat) (tl : AmH)  (m : Int) (what : Int) (osz : Int) (who : Int → Int) (w : Int → Int) (tr : Int) (len : Int) (pi_ : Int) (K : Int) (M : Int) (prs : Int → Int) (cns : Int → Int → Int) (ot : Int) (wh : Int) (tl_ : Int) (qd : Int) (ed : Int) (st : Int) (R0 : Int → Int) (R1 : Int → Int) (K0 : Int → Int) (K1 : Int → Int) (q : Int → Int) (mo : Int → Int) (sm : Int → Int) (en : Int → Int) (hm : bI m) (hwh : bI what) (hw : wOK w) (htr : 0 ≤ tr ∧ tr ≤ 1) (hpi : 0 ≤ pi_ ∧ pi_ ≤ 2) (hCA : cuA C w K M prs cns) (hT : tsA T) (hS : pyS st sm) (hop : 0 < M → (1 ≤ len ∧ len ≤ 5) ∧ (1 ≤ K ∧ K ≤ 4)) (hst0 : st + 6500000 < 2147483647) : Rx (d + 12) m_X11_dawn 0 (am_ent [.ref 0, .int (iz m), .int (iz what)] 4) [] (cxW (u2 (u2 (u2 (u2 (u2 (u2 (u2 (u2 (u2 (u2 (u2 (u2 z 0 6 M) 3 1 K) 3 2 pi_) 3 3 len) 3 4 tr) 46 3 ot) 46 5 qd) 46 8 st) 46 10 ed) 46 11 wh) 46 12 tl_) 95 1 osz) (uf (uf (uf (uf (uf (uf (uf (uf (uf (uf f 4 w) 48 R0) 49 R1) 51 K0) 52 K1) 53 q) 54 mo) 55 sm) 56 en) 96 who) C T rc tl) (fun rv h => ∃ r : Int, ∃ osz' : Int, ∃ who' : Int → Int, ∃ T' : Nat → TsR, ∃ ot' : Int, ∃ wh' : Int, ∃ tl_' : Int, ∃ qd' : Int, ∃ ed' : Int, ∃ st' : Int, ∃ R0' : Int → Int, ∃ R1' : Int → Int, ∃ K0' : Int → Int, ∃ K1' : Int → Int, ∃ q' : Int → Int, ∃ mo' : Int → Int, ∃ sm' : Int → Int, ∃ en' : Int → Int, rv = some (.long (jz r)) ∧ h = cxW (u2 (u2 (u2 (u2 (u2 (u2 (u2 (u2 (u2 (u2 (u2 (u2 z 0 6 M) 3 1 K) 3 2 pi_) 3 3 len) 3 4 tr) 46 3 ot') 46 5 qd') 46 8 st') 46 10 ed') 46 11 wh') 46 12 tl_') 95 1 osz') (uf (uf (uf (uf (uf (uf (uf (uf (uf (uf f 4 w) 48 R0') 49 R1') 51 K0') 52 K1') 53 q') 54 mo') 55 sm') 56 en') 96 who') C T' rc tl ∧ pyS st' sm' ∧ (st ≤ st' ∧ st' ≤ st + 6144000) ∧ tsA T' ∧ (((what < 0 ∨ 1 < what ∨ m < 1 ∨ 2 < m ∨ M < m) ∧ r = -1) ∨ (0 ≤ what ∧ what ≤ 1 ∧ 1 ≤ m ∧ m ≤ 2 ∧ m ≤ M ∧ ∃ a b, dwR (fun v r => faR (fun l r => thR w K tr len pi_ prs cns l (fun u => u = v) r) m.toNat r) K (min 3 len) a b ∧ r = if what = 0 then a else b))) := by
  obtain ⟨hm1, hm2⟩ := id hm
  obtain ⟨hw1, hw2⟩ := id hwh
  have hCA1 := hCA.1
  have hCA2 := hCA.2.1
  have hS0 := hS.1
  refine Rx.walk 0 (pc' := 0) (L' := [some (.ref 0), some (.int (iz m)), some (.int (iz what)), none]) (st' := []) (h' := cxW (u2 (u2 (u2 (u2 (u2 (u2 (u2 (u2 (u2 (u2 (u2 (u2 z 0 6 M) 3 1 K) 3 2 pi_) 3 3 len) 3 4 tr) 46 3 ot) 46 5 qd) 46 8 st) 46 10 ed) 46 11 wh) 46 12 tl_) 95 1 osz) (uf (uf (uf (uf (uf (uf (uf (uf (uf (uf f 4 w) 48 R0) 49 R1) 51 K0) 52 K1) 53 q) 54 mo) 55 sm) 56 en) 96 who) C T rc tl) rfl ?_
  refine Rx.walk 1 (pc' := 1) (L' := [some (.ref 0), some (.int (iz m)), some (.int (iz what)), none]) (st' := [.int (iz what)]) (h' := cxW (u2 (u2 (u2 (u2 (u2 (u2 (u2 (u2 (u2 (u2 (u2 (u2 z 0 6 M) 3 1 K) 3 2 pi_) 3 3 len) 3 4 tr) 46 3 ot) 46 5 qd) 46 8 st) 46 10 ed) 46 11 wh) 46 12 tl_) 95 1 osz) (uf (uf (uf (uf (uf (uf (uf (uf (uf (uf f 4 w) 48 R0) 49 R1) 51 K0) 52 K1) 53 q) 54 mo) 55 sm) 56 en) 96 who) C T rc tl) rfl ?_
  refine Rx.lt1 rfl rfl ⟨by omega, by omega⟩ (fun b1 => ?_) (fun b1 => ?_)
  · refine Rx.walk 1 (pc' := 30) (L' := [some (.ref 0), some (.int (iz m)), some (.int (iz what)), none]) (st' := [.long (jz (-1))]) (h' := cxW (u2 (u2 (u2 (u2 (u2 (u2 (u2 (u2 (u2 (u2 (u2 (u2 z 0 6 M) 3 1 K) 3 2 pi_) 3 3 len) 3 4 tr) 46 3 ot) 46 5 qd) 46 8 st) 46 10 ed) 46 11 wh) 46 12 tl_) 95 1 osz) (uf (uf (uf (uf (uf (uf (uf (uf (uf (uf f 4 w) 48 R0) 49 R1) 51 K0) 52 K1) 53 q) 54 mo) 55 sm) 56 en) 96 who) C T rc tl) rfl ?_
    refine Rx.ret rfl ?_
    exact ⟨_, _, _, _, _, _, _, _, _, _, _, _, _, _, _, _, _, _, rfl, rfl, hS, ⟨by omega, by omega⟩, hT, Or.inl ⟨by omega, rfl⟩⟩
  · refine Rx.walk 2 (pc' := 6) (L' := [some (.ref 0), some (.int (iz m)), some (.int (iz what)), none]) (st' := [.int (iz 1), .int (iz what)]) (h' := cxW (u2 (u2 (u2 (u2 (u2 (u2 (u2 (u2 (u2 (u2 (u2 (u2 z 0 6 M) 3 1 K) 3 2 pi_) 3 3 len) 3 4 tr) 46 3 ot) 46 5 qd) 46 8 st) 46 10 ed) 46 11 wh) 46 12 tl_) 95 1 osz) (uf (uf (uf (uf (uf (uf (uf (uf (uf (uf f 4 w) 48 R0) 49 R1) 51 K0) 52 K1) 53 q) 54 mo) 55 sm) 56 en) 96 who) C T rc tl) rfl ?_
    refine Rx.gt2 rfl rfl ⟨by omega, by omega⟩ ⟨by omega, by omega⟩ (fun b2 => ?_) (fun b2 => ?_)
    · refine Rx.walk 1 (pc' := 30) (L' := [some (.ref 0), some (.int (iz m)), some (.int (iz what)), none]) (st' := [.long (jz (-1))]) (h' := cxW (u2 (u2 (u2 (u2 (u2 (u2 (u2 (u2 (u2 (u2 (u2 (u2 z 0 6 M) 3 1 K) 3 2 pi_) 3 3 len) 3 4 tr) 46 3 ot) 46 5 qd) 46 8 st) 46 10 ed) 46 11 wh) 46 12 tl_) 95 1 osz) (uf (uf (uf (uf (uf (uf (uf (uf (uf (uf f 4 w) 48 R0) 49 R1) 51 K0) 52 K1) 53 q) 54 mo) 55 sm) 56 en) 96 who) C T rc tl) rfl ?_
      refine Rx.ret rfl ?_
      exact ⟨_, _, _, _, _, _, _, _, _, _, _, _, _, _, _, _, _, _, rfl, rfl, hS, ⟨by omega, by omega⟩, hT, Or.inl ⟨by omega, rfl⟩⟩
    · refine Rx.walk 2 (pc' := 11) (L' := [some (.ref 0), some (.int (iz m)), some (.int (iz what)), none]) (st' := [.int (iz 1), .int (iz m)]) (h' := cxW (u2 (u2 (u2 (u2 (u2 (u2 (u2 (u2 (u2 (u2 (u2 (u2 z 0 6 M) 3 1 K) 3 2 pi_) 3 3 len) 3 4 tr) 46 3 ot) 46 5 qd) 46 8 st) 46 10 ed) 46 11 wh) 46 12 tl_) 95 1 osz) (uf (uf (uf (uf (uf (uf (uf (uf (uf (uf f 4 w) 48 R0) 49 R1) 51 K0) 52 K1) 53 q) 54 mo) 55 sm) 56 en) 96 who) C T rc tl) rfl ?_
      refine Rx.lt2 rfl rfl ⟨by omega, by omega⟩ ⟨by omega, by omega⟩ (fun b3 => ?_) (fun b3 => ?_)
      · refine Rx.walk 1 (pc' := 30) (L' := [some (.ref 0), some (.int (iz m)), some (.int (iz what)), none]) (st' := [.long (jz (-1))]) (h' := cxW (u2 (u2 (u2 (u2 (u2 (u2 (u2 (u2 (u2 (u2 (u2 (u2 z 0 6 M) 3 1 K) 3 2 pi_) 3 3 len) 3 4 tr) 46 3 ot) 46 5 qd) 46 8 st) 46 10 ed) 46 11 wh) 46 12 tl_) 95 1 osz) (uf (uf (uf (uf (uf (uf (uf (uf (uf (uf f 4 w) 48 R0) 49 R1) 51 K0) 52 K1) 53 q) 54 mo) 55 sm) 56 en) 96 who) C T rc tl) rfl ?_
        refine Rx.ret rfl ?_
        exact ⟨_, _, _, _, _, _, _, _, _, _, _, _, _, _, _, _, _, _, rfl, rfl, hS, ⟨by omega, by omega⟩, hT, Or.inl ⟨by omega, rfl⟩⟩
      · refine Rx.walk 2 (pc' := 16) (L' := [some (.ref 0), some (.int (iz m)), some (.int (iz what)), none]) (st' := [.int (iz 2), .int (iz m)]) (h' := cxW (u2 (u2 (u2 (u2 (u2 (u2 (u2 (u2 (u2 (u2 (u2 (u2 z 0 6 M) 3 1 K) 3 2 pi_) 3 3 len) 3 4 tr) 46 3 ot) 46 5 qd) 46 8 st) 46 10 ed) 46 11 wh) 46 12 tl_) 95 1 osz) (uf (uf (uf (uf (uf (uf (uf (uf (uf (uf f 4 w) 48 R0) 49 R1) 51 K0) 52 K1) 53 q) 54 mo) 55 sm) 56 en) 96 who) C T rc tl) rfl ?_
        refine Rx.gt2 rfl rfl ⟨by omega, by omega⟩ ⟨by omega, by omega⟩ (fun b4 => ?_) (fun b4 => ?_)
        · refine Rx.walk 1 (pc' := 30) (L' := [some (.ref 0), some (.int (iz m)), some (.int (iz what)), none]) (st' := [.long (jz (-1))]) (h' := cxW (u2 (u2 (u2 (u2 (u2 (u2 (u2 (u2 (u2 (u2 (u2 (u2 z 0 6 M) 3 1 K) 3 2 pi_) 3 3 len) 3 4 tr) 46 3 ot) 46 5 qd) 46 8 st) 46 10 ed) 46 11 wh) 46 12 tl_) 95 1 osz) (uf (uf (uf (uf (uf (uf (uf (uf (uf (uf f 4 w) 48 R0) 49 R1) 51 K0) 52 K1) 53 q) 54 mo) 55 sm) 56 en) 96 who) C T rc tl) rfl ?_
          refine Rx.ret rfl ?_
          exact ⟨_, _, _, _, _, _, _, _, _, _, _, _, _, _, _, _, _, _, rfl, rfl, hS, ⟨by omega, by omega⟩, hT, Or.inl ⟨by omega, rfl⟩⟩
        · refine Rx.walk 3 (pc' := 24) (L' := [some (.ref 0), some (.int (iz m)), some (.int (iz what)), none]) (st' := [.int (iz M), .int (iz m)]) (h' := cxW (u2 (u2 (u2 (u2 (u2 (u2 (u2 (u2 (u2 (u2 (u2 (u2 z 0 6 M) 3 1 K) 3 2 pi_) 3 3 len) 3 4 tr) 46 3 ot) 46 5 qd) 46 8 st) 46 10 ed) 46 11 wh) 46 12 tl_) 95 1 osz) (uf (uf (uf (uf (uf (uf (uf (uf (uf (uf f 4 w) 48 R0) 49 R1) 51 K0) 52 K1) 53 q) 54 mo) 55 sm) 56 en) 96 who) C T rc tl) rfl ?_
          refine Rx.le2 rfl rfl ⟨by omega, by omega⟩ ⟨by omega, by omega⟩ (fun b5 => ?_) (fun b5 => ?_)
          · refine Rx.walk 5 (pc' := 40) (L' := [some (.ref 0), some (.int (iz m)), some (.int (iz what)), none]) (st' := [.ref 95, .int (iz m), .ref 61]) (h' := cxW (u2 (u2 (u2 (u2 (u2 (u2 (u2 (u2 (u2 (u2 (u2 (u2 z 0 6 M) 3 1 K) 3 2 pi_) 3 3 len) 3 4 tr) 46 3 ot) 46 5 qd) 46 8 st) 46 10 ed) 46 11 wh) 46 12 tl_) 95 1 osz) (uf (uf (uf (uf (uf (uf (uf (uf (uf (uf f 4 w) 48 R0) 49 R1) 51 K0) 52 K1) 53 q) 54 mo) 55 sm) 56 en) 96 who) C T rc tl) rfl ?_
            obtain ⟨ho1, ho2⟩ := hop (by omega)
            obtain ⟨mn, rfl⟩ := Int.eq_ofNat_of_zero_le (show 0 ≤ m by omega)
            refine Rx.callx (m' := m_X5_leastFloat) (as := [.ref 61, .int (iz (mn : Int)), .ref 95]) (rest := []) rfl (x_least _ (u2 (u2 (u2 (u2 (u2 (u2 (u2 (u2 (u2 (u2 (u2 (u2 z 0 6 M) 3 1 K) 3 2 pi_) 3 3 len) 3 4 tr) 46 3 ot) 46 5 qd) 46 8 st) 46 10 ed) 46 11 wh) 46 12 tl_) 95 1 osz) (uf (uf (uf (uf (uf (uf (uf (uf (uf (uf f 4 w) 48 R0) 49 R1) 51 K0) 52 K1) 53 q) 54 mo) 55 sm) 56 en) 96 who) C T rc tl  mn w tr len pi_ K M prs cns osz who ot wh tl_ qd ed st R0 R1 K0 K1 q mo sm en hw htr ho1 hpi ho2 hCA ⟨by omega, by omega⟩ (by omega) (by omega) hT hS (by omega)) (fun v28 h29 q30 => ?_)
            obtain ⟨r_6, osz_7, who_8, T_9, ot_10, wh_11, tl__12, qd_13, ed_14, st_15, R0_16, R1_17, K0_18, K1_19, q_20, mo_21, sm_22, en_23, rfl, rfl, f24, f25, f26, f27⟩ := q30
            refine Rx.walk 0 (pc' := 43) (L' := [some (.ref 0), some (.int (iz (mn : Int))), some (.int (iz what)), none]) (st' := [.int (iz r_6)]) (h' := cxW (u2 (u2 (u2 (u2 (u2 (u2 (u2 (u2 (u2 (u2 (u2 (u2 z 0 6 M) 3 1 K) 3 2 pi_) 3 3 len) 3 4 tr) 46 3 ot_10) 46 5 qd_13) 46 8 st_15) 46 10 ed_14) 46 11 wh_11) 46 12 tl__12) 95 1 osz_7) (uf (uf (uf (uf (uf (uf (uf (uf (uf (uf f 4 w) 48 R0_16) 49 R1_17) 51 K0_18) 52 K1_19) 53 q_20) 54 mo_21) 55 sm_22) 56 en_23) 96 who_8) C T_9 rc tl) rfl ?_
            have hrr : r_6 = -1 ∨ r_6 = -2 ∨ ∃ (c : Nat) (p : Int), c ≤ 3 ∧ (c : Int) ≤ min 3 len ∧ dwP K c p ∧ r_6 = p * 50000 ∧ p < 3125 ∧ ht p = c := by
              rcases f27 with ⟨q, -⟩ | ⟨c, p, h1, h2, -, ⟨-, h3⟩ | ⟨-, h3⟩⟩
              · exact Or.inl q
              · have := okN_ht h2.1 h2.2 (by omega)
                exact Or.inr (Or.inr ⟨c, p, by omega, h1, h2, h3, this.2, this.1⟩)
              · exact Or.inr (Or.inl h3)
            have hrb : -2 ≤ r_6 ∧ r_6 < 2147483648 := by rcases hrr with q | q | ⟨c, p, -, -, q, q1, q2, -⟩; omega; omega; (have := q.1; omega)
            refine Rx.walk 2 (pc' := 45) (L' := [some (.ref 0), some (.int (iz (mn : Int))), some (.int (iz what)), some (.int (iz r_6))]) (st' := [.int (iz r_6)]) (h' := cxW (u2 (u2 (u2 (u2 (u2 (u2 (u2 (u2 (u2 (u2 (u2 (u2 z 0 6 M) 3 1 K) 3 2 pi_) 3 3 len) 3 4 tr) 46 3 ot_10) 46 5 qd_13) 46 8 st_15) 46 10 ed_14) 46 11 wh_11) 46 12 tl__12) 95 1 osz_7) (uf (uf (uf (uf (uf (uf (uf (uf (uf (uf f 4 w) 48 R0_16) 49 R1_17) 51 K0_18) 52 K1_19) 53 q_20) 54 mo_21) 55 sm_22) 56 en_23) 96 who_8) C T_9 rc tl) rfl ?_
            refine Rx.lt1 rfl rfl ⟨by omega, by omega⟩ (fun b31 => ?_) (fun b31 => ?_)
            · refine Rx.walk 1 (pc' := 54) (L' := [some (.ref 0), some (.int (iz (mn : Int))), some (.int (iz what)), some (.int (iz r_6))]) (st' := [.int (iz r_6)]) (h' := cxW (u2 (u2 (u2 (u2 (u2 (u2 (u2 (u2 (u2 (u2 (u2 (u2 z 0 6 M) 3 1 K) 3 2 pi_) 3 3 len) 3 4 tr) 46 3 ot_10) 46 5 qd_13) 46 8 st_15) 46 10 ed_14) 46 11 wh_11) 46 12 tl__12) 95 1 osz_7) (uf (uf (uf (uf (uf (uf (uf (uf (uf (uf f 4 w) 48 R0_16) 49 R1_17) 51 K0_18) 52 K1_19) 53 q_20) 54 mo_21) 55 sm_22) 56 en_23) 96 who_8) C T_9 rc tl) rfl ?_
              refine Rx.i2l rfl ⟨by omega, by omega⟩ ?_
              refine Rx.walk 1 (pc' := 63) (L' := [some (.ref 0), some (.int (iz (mn : Int))), some (.int (iz what)), some (.int (iz r_6))]) (st' := [.long (jz r_6)]) (h' := cxW (u2 (u2 (u2 (u2 (u2 (u2 (u2 (u2 (u2 (u2 (u2 (u2 z 0 6 M) 3 1 K) 3 2 pi_) 3 3 len) 3 4 tr) 46 3 ot_10) 46 5 qd_13) 46 8 st_15) 46 10 ed_14) 46 11 wh_11) 46 12 tl__12) 95 1 osz_7) (uf (uf (uf (uf (uf (uf (uf (uf (uf (uf f 4 w) 48 R0_16) 49 R1_17) 51 K0_18) 52 K1_19) 53 q_20) 54 mo_21) 55 sm_22) 56 en_23) 96 who_8) C T_9 rc tl) rfl ?_
              refine Rx.ret rfl ?_
              refine ⟨_, _, _, _, _, _, _, _, _, _, _, _, _, _, _, _, _, _, rfl, rfl, f24, f25, f26, Or.inr ⟨by omega, by omega, by omega, by omega, by omega, ?_⟩⟩
              rcases f27 with ⟨q1, q2⟩ | ⟨c, p, u1, u2, u3, ⟨u4, u5⟩ | ⟨u4, u5⟩⟩
              · exact ⟨_, _, Or.inl ⟨rfl, rfl, q2⟩, by split <;> omega⟩
              · have := u2.1; exfalso; omega
              · exact ⟨_, _, Or.inr ⟨c, p, u1, u2, u3, Or.inr ⟨u4, rfl, rfl⟩⟩, by split <;> omega⟩
            · refine Rx.walk 2 (pc' := 50) (L' := [some (.ref 0), some (.int (iz (mn : Int))), some (.int (iz what)), some (.int (iz r_6))]) (st' := [.int (iz 1), .int (iz what)]) (h' := cxW (u2 (u2 (u2 (u2 (u2 (u2 (u2 (u2 (u2 (u2 (u2 (u2 z 0 6 M) 3 1 K) 3 2 pi_) 3 3 len) 3 4 tr) 46 3 ot_10) 46 5 qd_13) 46 8 st_15) 46 10 ed_14) 46 11 wh_11) 46 12 tl__12) 95 1 osz_7) (uf (uf (uf (uf (uf (uf (uf (uf (uf (uf f 4 w) 48 R0_16) 49 R1_17) 51 K0_18) 52 K1_19) 53 q_20) 54 mo_21) 55 sm_22) 56 en_23) 96 who_8) C T_9 rc tl) rfl ?_
              refine Rx.ne2 rfl rfl ⟨by omega, by omega⟩ ⟨by omega, by omega⟩ (fun b32 => ?_) (fun b32 => ?_)
              · refine Rx.walk 1 (pc' := 59) (L' := [some (.ref 0), some (.int (iz (mn : Int))), some (.int (iz what)), some (.int (iz r_6))]) (st' := [.int (iz r_6)]) (h' := cxW (u2 (u2 (u2 (u2 (u2 (u2 (u2 (u2 (u2 (u2 (u2 (u2 z 0 6 M) 3 1 K) 3 2 pi_) 3 3 len) 3 4 tr) 46 3 ot_10) 46 5 qd_13) 46 8 st_15) 46 10 ed_14) 46 11 wh_11) 46 12 tl__12) 95 1 osz_7) (uf (uf (uf (uf (uf (uf (uf (uf (uf (uf f 4 w) 48 R0_16) 49 R1_17) 51 K0_18) 52 K1_19) 53 q_20) 54 mo_21) 55 sm_22) 56 en_23) 96 who_8) C T_9 rc tl) rfl ?_
                refine Rx.callx (m' := m_X10_coinsIn) (as := [.int (iz r_6)]) (rest := []) rfl (n_coinsIn _ (cxW (u2 (u2 (u2 (u2 (u2 (u2 (u2 (u2 (u2 (u2 (u2 (u2 z 0 6 M) 3 1 K) 3 2 pi_) 3 3 len) 3 4 tr) 46 3 ot_10) 46 5 qd_13) 46 8 st_15) 46 10 ed_14) 46 11 wh_11) 46 12 tl__12) 95 1 osz_7) (uf (uf (uf (uf (uf (uf (uf (uf (uf (uf f 4 w) 48 R0_16) 49 R1_17) 51 K0_18) 52 K1_19) 53 q_20) 54 mo_21) 55 sm_22) 56 en_23) 96 who_8) C T_9 rc tl)  r_6 (by omega) (by omega)) (fun v35 h36 q37 => ?_)
                obtain ⟨r_33, rfl, rfl, f34⟩ := q37
                refine Rx.walk 0 (pc' := 62) (L' := [some (.ref 0), some (.int (iz (mn : Int))), some (.int (iz what)), some (.int (iz r_6))]) (st' := [.int (iz r_33)]) (h' := cxW (u2 (u2 (u2 (u2 (u2 (u2 (u2 (u2 (u2 (u2 (u2 (u2 z 0 6 M) 3 1 K) 3 2 pi_) 3 3 len) 3 4 tr) 46 3 ot_10) 46 5 qd_13) 46 8 st_15) 46 10 ed_14) 46 11 wh_11) 46 12 tl__12) 95 1 osz_7) (uf (uf (uf (uf (uf (uf (uf (uf (uf (uf f 4 w) 48 R0_16) 49 R1_17) 51 K0_18) 52 K1_19) 53 q_20) 54 mo_21) 55 sm_22) 56 en_23) 96 who_8) C T_9 rc tl) rfl ?_
                have q1 := ht_c (r_6 / 16 / 3125)
                have q2 := ht_c (r_6 / 16 % 3125)
                have q3 := bc_b (x := r_6 % 16)
                refine Rx.i2l rfl ⟨by omega, by omega⟩ ?_
                refine Rx.ret rfl ?_
                refine ⟨_, _, _, _, _, _, _, _, _, _, _, _, _, _, _, _, _, _, rfl, rfl, f24, f25, f26, Or.inr ⟨by omega, by omega, by omega, by omega, by omega, ?_⟩⟩
                rcases f27 with ⟨q1, q2⟩ | ⟨c, p, u1, u2, u3, ⟨u4, u5⟩ | ⟨u4, u5⟩⟩
                · exfalso; omega
                · refine ⟨_, _, Or.inr ⟨c, p, u1, u2, u3, Or.inl ⟨u4, rfl, rfl⟩⟩, ?_⟩
                  have hh := okN_ht u2.1 u2.2 (by omega)
                  have hp0 := u2.1
                  rw [if_pos (by omega), f34, u5, show p * 50000 / 16 / 3125 = p by omega, show p * 50000 / 16 % 3125 = 0 by omega, show p * 50000 % 16 = 0 by omega, hh.1]
                  show (c : Int) + 0 + 0 = c
                  omega
                · exfalso; omega
              · refine Rx.walk 1 (pc' := 54) (L' := [some (.ref 0), some (.int (iz (mn : Int))), some (.int (iz what)), some (.int (iz r_6))]) (st' := [.int (iz r_6)]) (h' := cxW (u2 (u2 (u2 (u2 (u2 (u2 (u2 (u2 (u2 (u2 (u2 (u2 z 0 6 M) 3 1 K) 3 2 pi_) 3 3 len) 3 4 tr) 46 3 ot_10) 46 5 qd_13) 46 8 st_15) 46 10 ed_14) 46 11 wh_11) 46 12 tl__12) 95 1 osz_7) (uf (uf (uf (uf (uf (uf (uf (uf (uf (uf f 4 w) 48 R0_16) 49 R1_17) 51 K0_18) 52 K1_19) 53 q_20) 54 mo_21) 55 sm_22) 56 en_23) 96 who_8) C T_9 rc tl) rfl ?_
                refine Rx.i2l rfl ⟨by omega, by omega⟩ ?_
                refine Rx.walk 1 (pc' := 63) (L' := [some (.ref 0), some (.int (iz (mn : Int))), some (.int (iz what)), some (.int (iz r_6))]) (st' := [.long (jz r_6)]) (h' := cxW (u2 (u2 (u2 (u2 (u2 (u2 (u2 (u2 (u2 (u2 (u2 (u2 z 0 6 M) 3 1 K) 3 2 pi_) 3 3 len) 3 4 tr) 46 3 ot_10) 46 5 qd_13) 46 8 st_15) 46 10 ed_14) 46 11 wh_11) 46 12 tl__12) 95 1 osz_7) (uf (uf (uf (uf (uf (uf (uf (uf (uf (uf f 4 w) 48 R0_16) 49 R1_17) 51 K0_18) 52 K1_19) 53 q_20) 54 mo_21) 55 sm_22) 56 en_23) 96 who_8) C T_9 rc tl) rfl ?_
                refine Rx.ret rfl ?_
                refine ⟨_, _, _, _, _, _, _, _, _, _, _, _, _, _, _, _, _, _, rfl, rfl, f24, f25, f26, Or.inr ⟨by omega, by omega, by omega, by omega, by omega, ?_⟩⟩
                rcases f27 with ⟨q1, q2⟩ | ⟨c, p, u1, u2, u3, ⟨u4, u5⟩ | ⟨u4, u5⟩⟩
                · exfalso; omega
                · exact ⟨_, _, Or.inr ⟨c, p, u1, u2, u3, Or.inl ⟨u4, rfl, rfl⟩⟩, by rw [if_neg (by omega)]; exact u5⟩
                · exfalso; omega
          · refine Rx.walk 1 (pc' := 30) (L' := [some (.ref 0), some (.int (iz m)), some (.int (iz what)), none]) (st' := [.long (jz (-1))]) (h' := cxW (u2 (u2 (u2 (u2 (u2 (u2 (u2 (u2 (u2 (u2 (u2 (u2 z 0 6 M) 3 1 K) 3 2 pi_) 3 3 len) 3 4 tr) 46 3 ot) 46 5 qd) 46 8 st) 46 10 ed) 46 11 wh) 46 12 tl_) 95 1 osz) (uf (uf (uf (uf (uf (uf (uf (uf (uf (uf f 4 w) 48 R0) 49 R1) 51 K0) 52 K1) 53 q) 54 mo) 55 sm) 56 en) 96 who) C T rc tl) rfl ?_
            refine Rx.ret rfl ?_
            exact ⟨_, _, _, _, _, _, _, _, _, _, _, _, _, _, _, _, _, _, rfl, rfl, hS, ⟨by omega, by omega⟩, hT, Or.inl ⟨by omega, rfl⟩⟩
set_option maxRecDepth 100000 in
set_option maxHeartbeats 4000000 in
theorem n_isLaid0 (d : Nat) (h0 : AmH)  (n : Int) (K : Int) (h0_ : 0 ≤ n ∧ n < 125) (h1_ : 1 ≤ K ∧ K ≤ 4) : Rx (d) m_X12_isLaid 0 (am_ent [.int (iz n), .int (iz 0), .int (iz K)] 5) [] (h0) (fun rv h => ∃ r : Int, rv = some (.int (iz r)) ∧ h0 = h ∧ ((r = 1 ∧ okN K 0 n) ∨ (r = 0 ∧ ¬ okN K 0 n))) := by
  have eL : okN K 0 n ↔ (n = 0) := Iff.rfl
  refine Rx.walk 0 (pc' := 0) (L' := [some (.int (iz n)), some (.int (iz 0)), some (.int (iz K)), none, none]) (st' := []) (h' := h0) rfl ?_
  refine Rx.walk 6 (pc' := 8) (L' := [some (.int (iz n)), some (.int (iz 0)), some (.int (iz K)), some (.int (iz n)), some (.int (iz 0))]) (st' := [.int (iz 0), .int (iz 0)]) (h' := h0) rfl ?_
  refine Rx.ge2 rfl rfl ⟨by omega, by omega⟩ ⟨by omega, by omega⟩ (fun b1 => ?_) (fun b1 => by omega)
  refine Rx.walk 1 (pc' := 37) (L' := [some (.int (iz n)), some (.int (iz 0)), some (.int (iz K)), some (.int (iz n)), some (.int (iz 0))]) (st' := [.int (iz n)]) (h' := h0) rfl ?_
  refine Rx.ne1 rfl rfl ⟨by omega, by omega⟩ (fun b2 => ?_) (fun b2 => ?_)
  · refine Rx.walk 1 (pc' := 45) (L' := [some (.int (iz n)), some (.int (iz 0)), some (.int (iz K)), some (.int (iz n)), some (.int (iz 0))]) (st' := [.int (iz 0)]) (h' := h0) rfl ?_
    refine Rx.ret rfl ?_
    exact ⟨_, rfl, rfl, (by rw [eL]; omega)⟩
  · refine Rx.walk 2 (pc' := 45) (L' := [some (.int (iz n)), some (.int (iz 0)), some (.int (iz K)), some (.int (iz n)), some (.int (iz 0))]) (st' := [.int (iz 1)]) (h' := h0) rfl ?_
    refine Rx.ret rfl ?_
    exact ⟨_, rfl, rfl, (by rw [eL]; omega)⟩
set_option maxRecDepth 100000 in
set_option maxHeartbeats 4000000 in
theorem n_isLaid1 (d : Nat) (h0 : AmH)  (n : Int) (K : Int) (h0_ : 0 ≤ n ∧ n < 125) (h1_ : 1 ≤ K ∧ K ≤ 4) : Rx (d) m_X12_isLaid 0 (am_ent [.int (iz n), .int (iz 1), .int (iz K)] 5) [] (h0) (fun rv h => ∃ r : Int, rv = some (.int (iz r)) ∧ h0 = h ∧ ((r = 1 ∧ okN K 1 n) ∨ (r = 0 ∧ ¬ okN K 1 n))) := by
  have eL : okN K 1 n ↔ (1 ≤ n % 5 ∧ n % 5 ≤ K ∧ (n / 5) = 0) := Iff.rfl
  refine Rx.walk 0 (pc' := 0) (L' := [some (.int (iz n)), some (.int (iz 1)), some (.int (iz K)), none, none]) (st' := []) (h' := h0) rfl ?_
  refine Rx.walk 6 (pc' := 8) (L' := [some (.int (iz n)), some (.int (iz 1)), some (.int (iz K)), some (.int (iz n)), some (.int (iz 0))]) (st' := [.int (iz 1), .int (iz 0)]) (h' := h0) rfl ?_
  refine Rx.ge2 rfl rfl ⟨by omega, by omega⟩ ⟨by omega, by omega⟩ (fun b1 => by omega) (fun b1 => ?_)
  refine Rx.walk 2 (pc' := 13) (L' := [some (.int (iz n)), some (.int (iz 1)), some (.int (iz K)), some (.int (iz n)), some (.int (iz 0))]) (st' := [.int (iz 5), .int (iz n)]) (h' := h0) rfl ?_
  refine Rx.irem rfl ⟨by omega, by omega⟩ ⟨by omega, by omega⟩ (by omega) (by omega) ?_
  refine Rx.eq1 rfl rfl ⟨by omega, by omega⟩ (fun b2 => ?_) (fun b2 => ?_)
  · refine Rx.walk 1 (pc' := 25) (L' := [some (.int (iz n)), some (.int (iz 1)), some (.int (iz K)), some (.int (iz n)), some (.int (iz 0))]) (st' := [.int (iz 0)]) (h' := h0) rfl ?_
    refine Rx.ret rfl ?_
    exact ⟨_, rfl, rfl, (by rw [eL]; omega)⟩
  · refine Rx.walk 2 (pc' := 19) (L' := [some (.int (iz n)), some (.int (iz 1)), some (.int (iz K)), some (.int (iz n)), some (.int (iz 0))]) (st' := [.int (iz 5), .int (iz n)]) (h' := h0) rfl ?_
    refine Rx.irem rfl ⟨by omega, by omega⟩ ⟨by omega, by omega⟩ (by omega) (by omega) ?_
    refine Rx.walk 1 (pc' := 21) (L' := [some (.int (iz n)), some (.int (iz 1)), some (.int (iz K)), some (.int (iz n)), some (.int (iz 0))]) (st' := [.int (iz K), .int (iz (n % 5))]) (h' := h0) rfl ?_
    refine Rx.le2 rfl rfl ⟨by omega, by omega⟩ ⟨by omega, by omega⟩ (fun b3 => ?_) (fun b3 => ?_)
    · refine Rx.walk 2 (pc' := 28) (L' := [some (.int (iz n)), some (.int (iz 1)), some (.int (iz K)), some (.int (iz n)), some (.int (iz 0))]) (st' := [.int (iz 5), .int (iz n)]) (h' := h0) rfl ?_
      refine Rx.idiv rfl ⟨by omega, by omega⟩ ⟨by omega, by omega⟩ (by omega) (by omega) ?_
      refine Rx.walk 1 (pc' := 30) (L' := [some (.int (iz n)), some (.int (iz 1)), some (.int (iz K)), some (.int (iz (n / 5))), some (.int (iz 0))]) (st' := []) (h' := h0) rfl ?_
      refine Rx.iinc (b := 1) rfl rfl rfl ?_
      refine Rx.walk 0 (pc' := 33) (L' := [some (.int (iz n)), some (.int (iz 1)), some (.int (iz K)), some (.int (iz (n / 5))), some (.int (iz 1))]) (st' := []) (h' := h0) rfl ?_
      refine Rx.walk 3 (pc' := 8) (L' := [some (.int (iz n)), some (.int (iz 1)), some (.int (iz K)), some (.int (iz (n / 5))), some (.int (iz 1))]) (st' := [.int (iz 1), .int (iz 1)]) (h' := h0) rfl ?_
      refine Rx.ge2 rfl rfl ⟨by omega, by omega⟩ ⟨by omega, by omega⟩ (fun b4 => ?_) (fun b4 => by omega)
      refine Rx.walk 1 (pc' := 37) (L' := [some (.int (iz n)), some (.int (iz 1)), some (.int (iz K)), some (.int (iz (n / 5))), some (.int (iz 1))]) (st' := [.int (iz (n / 5))]) (h' := h0) rfl ?_
      refine Rx.ne1 rfl rfl ⟨by omega, by omega⟩ (fun b5 => ?_) (fun b5 => ?_)
      · refine Rx.walk 1 (pc' := 45) (L' := [some (.int (iz n)), some (.int (iz 1)), some (.int (iz K)), some (.int (iz (n / 5))), some (.int (iz 1))]) (st' := [.int (iz 0)]) (h' := h0) rfl ?_
        refine Rx.ret rfl ?_
        exact ⟨_, rfl, rfl, (by rw [eL]; omega)⟩
      · refine Rx.walk 2 (pc' := 45) (L' := [some (.int (iz n)), some (.int (iz 1)), some (.int (iz K)), some (.int (iz (n / 5))), some (.int (iz 1))]) (st' := [.int (iz 1)]) (h' := h0) rfl ?_
        refine Rx.ret rfl ?_
        exact ⟨_, rfl, rfl, (by rw [eL]; omega)⟩
    · refine Rx.walk 1 (pc' := 25) (L' := [some (.int (iz n)), some (.int (iz 1)), some (.int (iz K)), some (.int (iz n)), some (.int (iz 0))]) (st' := [.int (iz 0)]) (h' := h0) rfl ?_
      refine Rx.ret rfl ?_
      exact ⟨_, rfl, rfl, (by rw [eL]; omega)⟩
set_option maxRecDepth 100000 in
set_option maxHeartbeats 4000000 in
theorem n_isLaid2 (d : Nat) (h0 : AmH)  (n : Int) (K : Int) (h0_ : 0 ≤ n ∧ n < 125) (h1_ : 1 ≤ K ∧ K ≤ 4) : Rx (d) m_X12_isLaid 0 (am_ent [.int (iz n), .int (iz 2), .int (iz K)] 5) [] (h0) (fun rv h => ∃ r : Int, rv = some (.int (iz r)) ∧ h0 = h ∧ ((r = 1 ∧ okN K 2 n) ∨ (r = 0 ∧ ¬ okN K 2 n))) := by
  have eL : okN K 2 n ↔ (1 ≤ n % 5 ∧ n % 5 ≤ K ∧ 1 ≤ (n / 5) % 5 ∧ (n / 5) % 5 ≤ K ∧ ((n / 5) / 5) = 0) := Iff.rfl
  refine Rx.walk 0 (pc' := 0) (L' := [some (.int (iz n)), some (.int (iz 2)), some (.int (iz K)), none, none]) (st' := []) (h' := h0) rfl ?_
  refine Rx.walk 6 (pc' := 8) (L' := [some (.int (iz n)), some (.int (iz 2)), some (.int (iz K)), some (.int (iz n)), some (.int (iz 0))]) (st' := [.int (iz 2), .int (iz 0)]) (h' := h0) rfl ?_
  refine Rx.ge2 rfl rfl ⟨by omega, by omega⟩ ⟨by omega, by omega⟩ (fun b1 => by omega) (fun b1 => ?_)
  refine Rx.walk 2 (pc' := 13) (L' := [some (.int (iz n)), some (.int (iz 2)), some (.int (iz K)), some (.int (iz n)), some (.int (iz 0))]) (st' := [.int (iz 5), .int (iz n)]) (h' := h0) rfl ?_
  refine Rx.irem rfl ⟨by omega, by omega⟩ ⟨by omega, by omega⟩ (by omega) (by omega) ?_
  refine Rx.eq1 rfl rfl ⟨by omega, by omega⟩ (fun b2 => ?_) (fun b2 => ?_)
  · refine Rx.walk 1 (pc' := 25) (L' := [some (.int (iz n)), some (.int (iz 2)), some (.int (iz K)), some (.int (iz n)), some (.int (iz 0))]) (st' := [.int (iz 0)]) (h' := h0) rfl ?_
    refine Rx.ret rfl ?_
    exact ⟨_, rfl, rfl, (by rw [eL]; omega)⟩
  · refine Rx.walk 2 (pc' := 19) (L' := [some (.int (iz n)), some (.int (iz 2)), some (.int (iz K)), some (.int (iz n)), some (.int (iz 0))]) (st' := [.int (iz 5), .int (iz n)]) (h' := h0) rfl ?_
    refine Rx.irem rfl ⟨by omega, by omega⟩ ⟨by omega, by omega⟩ (by omega) (by omega) ?_
    refine Rx.walk 1 (pc' := 21) (L' := [some (.int (iz n)), some (.int (iz 2)), some (.int (iz K)), some (.int (iz n)), some (.int (iz 0))]) (st' := [.int (iz K), .int (iz (n % 5))]) (h' := h0) rfl ?_
    refine Rx.le2 rfl rfl ⟨by omega, by omega⟩ ⟨by omega, by omega⟩ (fun b3 => ?_) (fun b3 => ?_)
    · refine Rx.walk 2 (pc' := 28) (L' := [some (.int (iz n)), some (.int (iz 2)), some (.int (iz K)), some (.int (iz n)), some (.int (iz 0))]) (st' := [.int (iz 5), .int (iz n)]) (h' := h0) rfl ?_
      refine Rx.idiv rfl ⟨by omega, by omega⟩ ⟨by omega, by omega⟩ (by omega) (by omega) ?_
      refine Rx.walk 1 (pc' := 30) (L' := [some (.int (iz n)), some (.int (iz 2)), some (.int (iz K)), some (.int (iz (n / 5))), some (.int (iz 0))]) (st' := []) (h' := h0) rfl ?_
      refine Rx.iinc (b := 1) rfl rfl rfl ?_
      refine Rx.walk 0 (pc' := 33) (L' := [some (.int (iz n)), some (.int (iz 2)), some (.int (iz K)), some (.int (iz (n / 5))), some (.int (iz 1))]) (st' := []) (h' := h0) rfl ?_
      refine Rx.walk 3 (pc' := 8) (L' := [some (.int (iz n)), some (.int (iz 2)), some (.int (iz K)), some (.int (iz (n / 5))), some (.int (iz 1))]) (st' := [.int (iz 2), .int (iz 1)]) (h' := h0) rfl ?_
      refine Rx.ge2 rfl rfl ⟨by omega, by omega⟩ ⟨by omega, by omega⟩ (fun b4 => by omega) (fun b4 => ?_)
      refine Rx.walk 2 (pc' := 13) (L' := [some (.int (iz n)), some (.int (iz 2)), some (.int (iz K)), some (.int (iz (n / 5))), some (.int (iz 1))]) (st' := [.int (iz 5), .int (iz (n / 5))]) (h' := h0) rfl ?_
      refine Rx.irem rfl ⟨by omega, by omega⟩ ⟨by omega, by omega⟩ (by omega) (by omega) ?_
      refine Rx.eq1 rfl rfl ⟨by omega, by omega⟩ (fun b5 => ?_) (fun b5 => ?_)
      · refine Rx.walk 1 (pc' := 25) (L' := [some (.int (iz n)), some (.int (iz 2)), some (.int (iz K)), some (.int (iz (n / 5))), some (.int (iz 1))]) (st' := [.int (iz 0)]) (h' := h0) rfl ?_
        refine Rx.ret rfl ?_
        exact ⟨_, rfl, rfl, (by rw [eL]; omega)⟩
      · refine Rx.walk 2 (pc' := 19) (L' := [some (.int (iz n)), some (.int (iz 2)), some (.int (iz K)), some (.int (iz (n / 5))), some (.int (iz 1))]) (st' := [.int (iz 5), .int (iz (n / 5))]) (h' := h0) rfl ?_
        refine Rx.irem rfl ⟨by omega, by omega⟩ ⟨by omega, by omega⟩ (by omega) (by omega) ?_
        refine Rx.walk 1 (pc' := 21) (L' := [some (.int (iz n)), some (.int (iz 2)), some (.int (iz K)), some (.int (iz (n / 5))), some (.int (iz 1))]) (st' := [.int (iz K), .int (iz ((n / 5) % 5))]) (h' := h0) rfl ?_
        refine Rx.le2 rfl rfl ⟨by omega, by omega⟩ ⟨by omega, by omega⟩ (fun b6 => ?_) (fun b6 => ?_)
        · refine Rx.walk 2 (pc' := 28) (L' := [some (.int (iz n)), some (.int (iz 2)), some (.int (iz K)), some (.int (iz (n / 5))), some (.int (iz 1))]) (st' := [.int (iz 5), .int (iz (n / 5))]) (h' := h0) rfl ?_
          refine Rx.idiv rfl ⟨by omega, by omega⟩ ⟨by omega, by omega⟩ (by omega) (by omega) ?_
          refine Rx.walk 1 (pc' := 30) (L' := [some (.int (iz n)), some (.int (iz 2)), some (.int (iz K)), some (.int (iz ((n / 5) / 5))), some (.int (iz 1))]) (st' := []) (h' := h0) rfl ?_
          refine Rx.iinc (b := 1) rfl rfl rfl ?_
          refine Rx.walk 0 (pc' := 33) (L' := [some (.int (iz n)), some (.int (iz 2)), some (.int (iz K)), some (.int (iz ((n / 5) / 5))), some (.int (iz 2))]) (st' := []) (h' := h0) rfl ?_
          refine Rx.walk 3 (pc' := 8) (L' := [some (.int (iz n)), some (.int (iz 2)), some (.int (iz K)), some (.int (iz ((n / 5) / 5))), some (.int (iz 2))]) (st' := [.int (iz 2), .int (iz 2)]) (h' := h0) rfl ?_
          refine Rx.ge2 rfl rfl ⟨by omega, by omega⟩ ⟨by omega, by omega⟩ (fun b7 => ?_) (fun b7 => by omega)
          refine Rx.walk 1 (pc' := 37) (L' := [some (.int (iz n)), some (.int (iz 2)), some (.int (iz K)), some (.int (iz ((n / 5) / 5))), some (.int (iz 2))]) (st' := [.int (iz ((n / 5) / 5))]) (h' := h0) rfl ?_
          refine Rx.ne1 rfl rfl ⟨by omega, by omega⟩ (fun b8 => ?_) (fun b8 => ?_)
          · refine Rx.walk 1 (pc' := 45) (L' := [some (.int (iz n)), some (.int (iz 2)), some (.int (iz K)), some (.int (iz ((n / 5) / 5))), some (.int (iz 2))]) (st' := [.int (iz 0)]) (h' := h0) rfl ?_
            refine Rx.ret rfl ?_
            exact ⟨_, rfl, rfl, (by rw [eL]; omega)⟩
          · refine Rx.walk 2 (pc' := 45) (L' := [some (.int (iz n)), some (.int (iz 2)), some (.int (iz K)), some (.int (iz ((n / 5) / 5))), some (.int (iz 2))]) (st' := [.int (iz 1)]) (h' := h0) rfl ?_
            refine Rx.ret rfl ?_
            exact ⟨_, rfl, rfl, (by rw [eL]; omega)⟩
        · refine Rx.walk 1 (pc' := 25) (L' := [some (.int (iz n)), some (.int (iz 2)), some (.int (iz K)), some (.int (iz (n / 5))), some (.int (iz 1))]) (st' := [.int (iz 0)]) (h' := h0) rfl ?_
          refine Rx.ret rfl ?_
          exact ⟨_, rfl, rfl, (by rw [eL]; omega)⟩
    · refine Rx.walk 1 (pc' := 25) (L' := [some (.int (iz n)), some (.int (iz 2)), some (.int (iz K)), some (.int (iz n)), some (.int (iz 0))]) (st' := [.int (iz 0)]) (h' := h0) rfl ?_
      refine Rx.ret rfl ?_
      exact ⟨_, rfl, rfl, (by rw [eL]; omega)⟩
set_option maxRecDepth 100000 in
set_option maxHeartbeats 4000000 in
theorem n_isLaid3 (d : Nat) (h0 : AmH)  (n : Int) (K : Int) (h0_ : 0 ≤ n ∧ n < 125) (h1_ : 1 ≤ K ∧ K ≤ 4) : Rx (d) m_X12_isLaid 0 (am_ent [.int (iz n), .int (iz 3), .int (iz K)] 5) [] (h0) (fun rv h => ∃ r : Int, rv = some (.int (iz r)) ∧ h0 = h ∧ ((r = 1 ∧ okN K 3 n) ∨ (r = 0 ∧ ¬ okN K 3 n))) := by
  have eL : okN K 3 n ↔ (1 ≤ n % 5 ∧ n % 5 ≤ K ∧ 1 ≤ (n / 5) % 5 ∧ (n / 5) % 5 ≤ K ∧ 1 ≤ ((n / 5) / 5) % 5 ∧ ((n / 5) / 5) % 5 ≤ K ∧ (((n / 5) / 5) / 5) = 0) := Iff.rfl
  refine Rx.walk 0 (pc' := 0) (L' := [some (.int (iz n)), some (.int (iz 3)), some (.int (iz K)), none, none]) (st' := []) (h' := h0) rfl ?_
  refine Rx.walk 6 (pc' := 8) (L' := [some (.int (iz n)), some (.int (iz 3)), some (.int (iz K)), some (.int (iz n)), some (.int (iz 0))]) (st' := [.int (iz 3), .int (iz 0)]) (h' := h0) rfl ?_
  refine Rx.ge2 rfl rfl ⟨by omega, by omega⟩ ⟨by omega, by omega⟩ (fun b1 => by omega) (fun b1 => ?_)
  refine Rx.walk 2 (pc' := 13) (L' := [some (.int (iz n)), some (.int (iz 3)), some (.int (iz K)), some (.int (iz n)), some (.int (iz 0))]) (st' := [.int (iz 5), .int (iz n)]) (h' := h0) rfl ?_
  refine Rx.irem rfl ⟨by omega, by omega⟩ ⟨by omega, by omega⟩ (by omega) (by omega) ?_
  refine Rx.eq1 rfl rfl ⟨by omega, by omega⟩ (fun b2 => ?_) (fun b2 => ?_)
  · refine Rx.walk 1 (pc' := 25) (L' := [some (.int (iz n)), some (.int (iz 3)), some (.int (iz K)), some (.int (iz n)), some (.int (iz 0))]) (st' := [.int (iz 0)]) (h' := h0) rfl ?_
    refine Rx.ret rfl ?_
    exact ⟨_, rfl, rfl, (by rw [eL]; omega)⟩
  · refine Rx.walk 2 (pc' := 19) (L' := [some (.int (iz n)), some (.int (iz 3)), some (.int (iz K)), some (.int (iz n)), some (.int (iz 0))]) (st' := [.int (iz 5), .int (iz n)]) (h' := h0) rfl ?_
    refine Rx.irem rfl ⟨by omega, by omega⟩ ⟨by omega, by omega⟩ (by omega) (by omega) ?_
    refine Rx.walk 1 (pc' := 21) (L' := [some (.int (iz n)), some (.int (iz 3)), some (.int (iz K)), some (.int (iz n)), some (.int (iz 0))]) (st' := [.int (iz K), .int (iz (n % 5))]) (h' := h0) rfl ?_
    refine Rx.le2 rfl rfl ⟨by omega, by omega⟩ ⟨by omega, by omega⟩ (fun b3 => ?_) (fun b3 => ?_)
    · refine Rx.walk 2 (pc' := 28) (L' := [some (.int (iz n)), some (.int (iz 3)), some (.int (iz K)), some (.int (iz n)), some (.int (iz 0))]) (st' := [.int (iz 5), .int (iz n)]) (h' := h0) rfl ?_
      refine Rx.idiv rfl ⟨by omega, by omega⟩ ⟨by omega, by omega⟩ (by omega) (by omega) ?_
      refine Rx.walk 1 (pc' := 30) (L' := [some (.int (iz n)), some (.int (iz 3)), some (.int (iz K)), some (.int (iz (n / 5))), some (.int (iz 0))]) (st' := []) (h' := h0) rfl ?_
      refine Rx.iinc (b := 1) rfl rfl rfl ?_
      refine Rx.walk 0 (pc' := 33) (L' := [some (.int (iz n)), some (.int (iz 3)), some (.int (iz K)), some (.int (iz (n / 5))), some (.int (iz 1))]) (st' := []) (h' := h0) rfl ?_
      refine Rx.walk 3 (pc' := 8) (L' := [some (.int (iz n)), some (.int (iz 3)), some (.int (iz K)), some (.int (iz (n / 5))), some (.int (iz 1))]) (st' := [.int (iz 3), .int (iz 1)]) (h' := h0) rfl ?_
      refine Rx.ge2 rfl rfl ⟨by omega, by omega⟩ ⟨by omega, by omega⟩ (fun b4 => by omega) (fun b4 => ?_)
      refine Rx.walk 2 (pc' := 13) (L' := [some (.int (iz n)), some (.int (iz 3)), some (.int (iz K)), some (.int (iz (n / 5))), some (.int (iz 1))]) (st' := [.int (iz 5), .int (iz (n / 5))]) (h' := h0) rfl ?_
      refine Rx.irem rfl ⟨by omega, by omega⟩ ⟨by omega, by omega⟩ (by omega) (by omega) ?_
      refine Rx.eq1 rfl rfl ⟨by omega, by omega⟩ (fun b5 => ?_) (fun b5 => ?_)
      · refine Rx.walk 1 (pc' := 25) (L' := [some (.int (iz n)), some (.int (iz 3)), some (.int (iz K)), some (.int (iz (n / 5))), some (.int (iz 1))]) (st' := [.int (iz 0)]) (h' := h0) rfl ?_
        refine Rx.ret rfl ?_
        exact ⟨_, rfl, rfl, (by rw [eL]; omega)⟩
      · refine Rx.walk 2 (pc' := 19) (L' := [some (.int (iz n)), some (.int (iz 3)), some (.int (iz K)), some (.int (iz (n / 5))), some (.int (iz 1))]) (st' := [.int (iz 5), .int (iz (n / 5))]) (h' := h0) rfl ?_
        refine Rx.irem rfl ⟨by omega, by omega⟩ ⟨by omega, by omega⟩ (by omega) (by omega) ?_
        refine Rx.walk 1 (pc' := 21) (L' := [some (.int (iz n)), some (.int (iz 3)), some (.int (iz K)), some (.int (iz (n / 5))), some (.int (iz 1))]) (st' := [.int (iz K), .int (iz ((n / 5) % 5))]) (h' := h0) rfl ?_
        refine Rx.le2 rfl rfl ⟨by omega, by omega⟩ ⟨by omega, by omega⟩ (fun b6 => ?_) (fun b6 => ?_)
        · refine Rx.walk 2 (pc' := 28) (L' := [some (.int (iz n)), some (.int (iz 3)), some (.int (iz K)), some (.int (iz (n / 5))), some (.int (iz 1))]) (st' := [.int (iz 5), .int (iz (n / 5))]) (h' := h0) rfl ?_
          refine Rx.idiv rfl ⟨by omega, by omega⟩ ⟨by omega, by omega⟩ (by omega) (by omega) ?_
          refine Rx.walk 1 (pc' := 30) (L' := [some (.int (iz n)), some (.int (iz 3)), some (.int (iz K)), some (.int (iz ((n / 5) / 5))), some (.int (iz 1))]) (st' := []) (h' := h0) rfl ?_
          refine Rx.iinc (b := 1) rfl rfl rfl ?_
          refine Rx.walk 0 (pc' := 33) (L' := [some (.int (iz n)), some (.int (iz 3)), some (.int (iz K)), some (.int (iz ((n / 5) / 5))), some (.int (iz 2))]) (st' := []) (h' := h0) rfl ?_
          refine Rx.walk 3 (pc' := 8) (L' := [some (.int (iz n)), some (.int (iz 3)), some (.int (iz K)), some (.int (iz ((n / 5) / 5))), some (.int (iz 2))]) (st' := [.int (iz 3), .int (iz 2)]) (h' := h0) rfl ?_
          refine Rx.ge2 rfl rfl ⟨by omega, by omega⟩ ⟨by omega, by omega⟩ (fun b7 => by omega) (fun b7 => ?_)
          refine Rx.walk 2 (pc' := 13) (L' := [some (.int (iz n)), some (.int (iz 3)), some (.int (iz K)), some (.int (iz ((n / 5) / 5))), some (.int (iz 2))]) (st' := [.int (iz 5), .int (iz ((n / 5) / 5))]) (h' := h0) rfl ?_
          refine Rx.irem rfl ⟨by omega, by omega⟩ ⟨by omega, by omega⟩ (by omega) (by omega) ?_
          refine Rx.eq1 rfl rfl ⟨by omega, by omega⟩ (fun b8 => ?_) (fun b8 => ?_)
          · refine Rx.walk 1 (pc' := 25) (L' := [some (.int (iz n)), some (.int (iz 3)), some (.int (iz K)), some (.int (iz ((n / 5) / 5))), some (.int (iz 2))]) (st' := [.int (iz 0)]) (h' := h0) rfl ?_
            refine Rx.ret rfl ?_
            exact ⟨_, rfl, rfl, (by rw [eL]; omega)⟩
          · refine Rx.walk 2 (pc' := 19) (L' := [some (.int (iz n)), some (.int (iz 3)), some (.int (iz K)), some (.int (iz ((n / 5) / 5))), some (.int (iz 2))]) (st' := [.int (iz 5), .int (iz ((n / 5) / 5))]) (h' := h0) rfl ?_
            refine Rx.irem rfl ⟨by omega, by omega⟩ ⟨by omega, by omega⟩ (by omega) (by omega) ?_
            refine Rx.walk 1 (pc' := 21) (L' := [some (.int (iz n)), some (.int (iz 3)), some (.int (iz K)), some (.int (iz ((n / 5) / 5))), some (.int (iz 2))]) (st' := [.int (iz K), .int (iz (((n / 5) / 5) % 5))]) (h' := h0) rfl ?_
            refine Rx.le2 rfl rfl ⟨by omega, by omega⟩ ⟨by omega, by omega⟩ (fun b9 => ?_) (fun b9 => ?_)
            · refine Rx.walk 2 (pc' := 28) (L' := [some (.int (iz n)), some (.int (iz 3)), some (.int (iz K)), some (.int (iz ((n / 5) / 5))), some (.int (iz 2))]) (st' := [.int (iz 5), .int (iz ((n / 5) / 5))]) (h' := h0) rfl ?_
              refine Rx.idiv rfl ⟨by omega, by omega⟩ ⟨by omega, by omega⟩ (by omega) (by omega) ?_
              refine Rx.walk 1 (pc' := 30) (L' := [some (.int (iz n)), some (.int (iz 3)), some (.int (iz K)), some (.int (iz (((n / 5) / 5) / 5))), some (.int (iz 2))]) (st' := []) (h' := h0) rfl ?_
              refine Rx.iinc (b := 1) rfl rfl rfl ?_
              refine Rx.walk 0 (pc' := 33) (L' := [some (.int (iz n)), some (.int (iz 3)), some (.int (iz K)), some (.int (iz (((n / 5) / 5) / 5))), some (.int (iz 3))]) (st' := []) (h' := h0) rfl ?_
              refine Rx.walk 3 (pc' := 8) (L' := [some (.int (iz n)), some (.int (iz 3)), some (.int (iz K)), some (.int (iz (((n / 5) / 5) / 5))), some (.int (iz 3))]) (st' := [.int (iz 3), .int (iz 3)]) (h' := h0) rfl ?_
              refine Rx.ge2 rfl rfl ⟨by omega, by omega⟩ ⟨by omega, by omega⟩ (fun b10 => ?_) (fun b10 => by omega)
              refine Rx.walk 1 (pc' := 37) (L' := [some (.int (iz n)), some (.int (iz 3)), some (.int (iz K)), some (.int (iz (((n / 5) / 5) / 5))), some (.int (iz 3))]) (st' := [.int (iz (((n / 5) / 5) / 5))]) (h' := h0) rfl ?_
              refine Rx.ne1 rfl rfl ⟨by omega, by omega⟩ (fun b11 => ?_) (fun b11 => ?_)
              · refine Rx.walk 1 (pc' := 45) (L' := [some (.int (iz n)), some (.int (iz 3)), some (.int (iz K)), some (.int (iz (((n / 5) / 5) / 5))), some (.int (iz 3))]) (st' := [.int (iz 0)]) (h' := h0) rfl ?_
                refine Rx.ret rfl ?_
                exact ⟨_, rfl, rfl, (by rw [eL]; omega)⟩
              · refine Rx.walk 2 (pc' := 45) (L' := [some (.int (iz n)), some (.int (iz 3)), some (.int (iz K)), some (.int (iz (((n / 5) / 5) / 5))), some (.int (iz 3))]) (st' := [.int (iz 1)]) (h' := h0) rfl ?_
                refine Rx.ret rfl ?_
                exact ⟨_, rfl, rfl, (by rw [eL]; omega)⟩
            · refine Rx.walk 1 (pc' := 25) (L' := [some (.int (iz n)), some (.int (iz 3)), some (.int (iz K)), some (.int (iz ((n / 5) / 5))), some (.int (iz 2))]) (st' := [.int (iz 0)]) (h' := h0) rfl ?_
              refine Rx.ret rfl ?_
              exact ⟨_, rfl, rfl, (by rw [eL]; omega)⟩
        · refine Rx.walk 1 (pc' := 25) (L' := [some (.int (iz n)), some (.int (iz 3)), some (.int (iz K)), some (.int (iz (n / 5))), some (.int (iz 1))]) (st' := [.int (iz 0)]) (h' := h0) rfl ?_
          refine Rx.ret rfl ?_
          exact ⟨_, rfl, rfl, (by rw [eL]; omega)⟩
    · refine Rx.walk 1 (pc' := 25) (L' := [some (.int (iz n)), some (.int (iz 3)), some (.int (iz K)), some (.int (iz n)), some (.int (iz 0))]) (st' := [.int (iz 0)]) (h' := h0) rfl ?_
      refine Rx.ret rfl ?_
      exact ⟨_, rfl, rfl, (by rw [eL]; omega)⟩
set_option maxRecDepth 100000 in
set_option maxHeartbeats 4000000 in
theorem n_isLaid (d : Nat) (h0 : AmH)  (n : Int) (many : Int) (K : Int) (h0_ : 0 ≤ n ∧ n < 125) (hc_ : 0 ≤ many ∧ many ≤ 3) (h1_ : 1 ≤ K ∧ K ≤ 4) : Rx (d) m_X12_isLaid 0 (am_ent [.int (iz n), .int (iz many), .int (iz K)] 5) [] (h0) (fun rv h => ∃ r : Int, rv = some (.int (iz r)) ∧ h0 = h ∧ ((r = 1 ∧ okN K many.toNat n) ∨ (r = 0 ∧ ¬ okN K many.toNat n))) := by
  rcases (show many = 0 ∨ many = 1 ∨ many = 2 ∨ many = 3 by omega) with rfl | rfl | rfl | rfl
  · exact n_isLaid0 d h0 n K h0_ h1_
  · exact n_isLaid1 d h0 n K h0_ h1_
  · exact n_isLaid2 d h0 n K h0_ h1_
  · exact n_isLaid3 d h0 n K h0_ h1_
set_option maxRecDepth 100000 in
set_option maxHeartbeats 4000000 in
theorem m_dawn_n (d : Nat) (z : Nat → Int) (zl : Nat → Int) (f : Nat → Int → Int) (fl : Nat → Int → Int) (tx : Nat)  (m : Int) (what : Int) (M : Int) (p0 : Int) (p1 : Int) (t : Int) (K : Int) (len : Int) (pi_ : Int) (tr : Int) (va : Int → Int) (w : Int → Int) (pu : Int → Int) (prr : Int → Int) (mv0 : Int) (co : Int) (hK : 1 ≤ K) (hlen : 1 ≤ len ∧ len ≤ 5) (hpi : 1 ≤ pi_ ∧ pi_ ≤ 2) (htr : 0 ≤ tr ∧ tr ≤ 1) (hw : wOK w) (hva : ∀ k : Int, 0 ≤ k → k < K → va k = w (k + 1)) (hK4 : K ≤ 4) (hcm : cuM K M pu prr) (hk0 : okP K len p0) (hk1 : okP K len p1) (hmM : 1 ≤ m ∧ m ≤ M) (hm2 : m ≤ 2) (hwh : 0 ≤ what ∧ what ≤ 1) (hmv0 : mv0 + 13200000 < 2147483648) (hco : 0 ≤ co ∧ co ≤ min 3 len) (P : Option Value → AmH → Prop) (hx0 : ∀ (n' : Int) (w5' : Option Value) (w6' : Option Value) (w7' : Option Value) (od' : Int → Int) (pp' : Int → Int) (li' : Int → Int) (ty' : Int → Int) (gv' : Int → Int) (rm' : Int) (rs' : Int → Int) (mk' : Int → Int) (mv' : Int) (tm' : Int) (tt' : Int → Int) (ct' : Int → Int) (tmn' : Int) (tl' : Int → Int) (cu' : Int → Int), (mtI K pp' li' ty' p0 p1 t) → (∀ k : Int, 0 ≤ k → k < 4 → 0 ≤ gv' k ∧ gv' k ≤ 4) → (0 ≤ mv') → (∀ j : Int, 0 ≤ j → j < 72000 → 0 ≤ mk' j ∧ mk' j ≤ mv') → (0 ≤ tmn' ∧ tmn' ≤ 200) → (mv0 ≤ mv' ∧ mv' ≤ mv0 + 25600 * (125 * co + 125)) → (dwI (fun v r => faR (fun l r => thR w K tr len pi_ prr (fun c k => pu (4 * c + k)) l (fun u => u = v) r) m.toNat r) K (min 3 len) (co.toNat + 1) 0) → Rx (d + 56) m_X12_dawn 134 [some (.ref 0), some (.int (iz m)), some (.int (iz what)), some (.int (iz co)), some (.int (iz n')), w5', w6', w7'] [] (cmH (u1 (u1 (u1 (u1 (u1 (u1 (u1 (u1 (u1 z 21 K) 22 pi_) 23 len) 24 tr) 28 M) 39 rm') 40 mv') 46 tmn') 47 tm') zl (uf (uf (uf (uf (uf (uf (uf (uf (uf (uf (uf f 5 va) 8 prr) 9 pu) 10 pp') 11 li') 12 ty') 16 mk') 17 gv') 20 cu') 21 ct') 22 od') (uf (uf (uf fl 15 rs') 18 tl') 19 tt') tx) P) (hx1 : ∀ (r : Int) (od' : Int → Int) (pp' : Int → Int) (li' : Int → Int) (ty' : Int → Int) (gv' : Int → Int) (rm' : Int) (rs' : Int → Int) (mk' : Int → Int) (mv' : Int) (tm' : Int) (tt' : Int → Int) (ct' : Int → Int) (tmn' : Int) (tl' : Int → Int) (cu' : Int → Int), (mtI K pp' li' ty' p0 p1 t) → (∀ k : Int, 0 ≤ k → k < 4 → 0 ≤ gv' k ∧ gv' k ≤ 4) → (0 ≤ mv') → (∀ j : Int, 0 ≤ j → j < 72000 → 0 ≤ mk' j ∧ mk' j ≤ mv') → (0 ≤ tmn' ∧ tmn' ≤ 200) → (mv0 ≤ mv' ∧ mv' ≤ mv0 + 12800000) → (∃ a b, dwR (fun v r => faR (fun l r => thR w K tr len pi_ prr (fun c k => pu (4 * c + k)) l (fun u => u = v) r) m.toNat r) K (min 3 len) a b ∧ r = if what = 0 then a else b) → P (some (.long (jz r))) (cmH (u1 (u1 (u1 (u1 (u1 (u1 (u1 (u1 (u1 z 21 K) 22 pi_) 23 len) 24 tr) 28 M) 39 rm') 40 mv') 46 tmn') 47 tm') zl (uf (uf (uf (uf (uf (uf (uf (uf (uf (uf (uf f 5 va) 8 prr) 9 pu) 10 pp') 11 li') 12 ty') 16 mk') 17 gv') 20 cu') 21 ct') 22 od') (uf (uf (uf fl 15 rs') 18 tl') 19 tt') tx)) : ∀ (kF : Nat) (n : Int) (od : Int → Int) (tmn : Int) (tl : Int → Int) (cu : Int → Int) (pp : Int → Int) (li : Int → Int) (ty : Int → Int) (gv : Int → Int) (rm : Int) (rs : Int → Int) (mk : Int → Int) (mv : Int) (tm : Int) (tt : Int → Int) (ct : Int → Int) (w5 : Option Value) (w6 : Option Value) (w7 : Option Value), (0 ≤ n) → (n ≤ 125) → (mtI K pp li ty p0 p1 t) → (∀ k : Int, 0 ≤ k → k < 4 → 0 ≤ gv k ∧ gv k ≤ 4) → (0 ≤ mv) → (∀ j : Int, 0 ≤ j → j < 72000 → 0 ≤ mk j ∧ mk j ≤ mv) → (0 ≤ tmn ∧ tmn ≤ 200) → (mv0 ≤ mv ∧ mv ≤ mv0 + 25600 * (125 * co + n)) → (dwI (fun v r => faR (fun l r => thR w K tr len pi_ prr (fun c k => pu (4 * c + k)) l (fun u => u = v) r) m.toNat r) K (min 3 len) co.toNat n) → (125 - n) < (kF : Int) → Rx (d + 56) m_X12_dawn 54 [some (.ref 0), some (.int (iz m)), some (.int (iz what)), some (.int (iz co)), some (.int (iz n)), w5, w6, w7] [] (cmH (u1 (u1 (u1 (u1 (u1 (u1 (u1 (u1 (u1 z 21 K) 22 pi_) 23 len) 24 tr) 28 M) 39 rm) 40 mv) 46 tmn) 47 tm) zl (uf (uf (uf (uf (uf (uf (uf (uf (uf (uf (uf f 5 va) 8 prr) 9 pu) 10 pp) 11 li) 12 ty) 16 mk) 17 gv) 20 cu) 21 ct) 22 od) (uf (uf (uf fl 15 rs) 18 tl) 19 tt) tx) P := by
  have hml : (pmL m.toNat).length ≤ 2 := by
    rcases (show m = 1 ∨ m = 2 by omega) with q | q <;> subst q <;> decide
  intro kF
  induction kF with
  | zero =>
    intro n od tmn tl cu pp li ty gv rm rs mk mv tm tt ct w5 w6 w7 n0 n1 hM hg hmv hmk htn hmq hp hk
    exfalso; omega
  | succ kF ih =>
    intro n od tmn tl cu pp li ty gv rm rs mk mv tm tt ct w5 w6 w7 n0 n1 hM hg hmv hmk htn hmq hp hk
    have hMM4 := hcm.2.1
    refine Rx.walk 2 (pc' := 58) (L' := [some (.ref 0), some (.int (iz m)), some (.int (iz what)), some (.int (iz co)), some (.int (iz n)), w5, w6, w7]) (st' := [.int (iz 125), .int (iz n)]) (h' := cmH (u1 (u1 (u1 (u1 (u1 (u1 (u1 (u1 (u1 z 21 K) 22 pi_) 23 len) 24 tr) 28 M) 39 rm) 40 mv) 46 tmn) 47 tm) zl (uf (uf (uf (uf (uf (uf (uf (uf (uf (uf (uf f 5 va) 8 prr) 9 pu) 10 pp) 11 li) 12 ty) 16 mk) 17 gv) 20 cu) 21 ct) 22 od) (uf (uf (uf fl 15 rs) 18 tl) 19 tt) tx) rfl ?_
    refine Rx.ge2 rfl rfl ⟨by omega, by omega⟩ ⟨by omega, by omega⟩ (fun b1 => ?_) (fun b1 => ?_)
    · exact hx0 _ _ _ _ _ _ _ _ _ _ _ _ _ _ _ _ _ _ _ hM hg hmv hmk htn ⟨by omega, by omega⟩ (fun c p h1 h2 h3 => hp c p h1 h2 (by have hp9 := h2.1; rcases (show c < co.toNat ∨ c = co.toNat by omega) with z | z; exact Or.inl z; (refine Or.inr ⟨z, ?_⟩; have := okN_b h2.1 h2.2; omega)))
    · refine Rx.walk 4 (pc' := 68) (L' := [some (.ref 0), some (.int (iz m)), some (.int (iz what)), some (.int (iz co)), some (.int (iz n)), w5, w6, w7]) (st' := [.int (iz K), .int (iz co), .int (iz n)]) (h' := cmH (u1 (u1 (u1 (u1 (u1 (u1 (u1 (u1 (u1 z 21 K) 22 pi_) 23 len) 24 tr) 28 M) 39 rm) 40 mv) 46 tmn) 47 tm) zl (uf (uf (uf (uf (uf (uf (uf (uf (uf (uf (uf f 5 va) 8 prr) 9 pu) 10 pp) 11 li) 12 ty) 16 mk) 17 gv) 20 cu) 21 ct) 22 od) (uf (uf (uf fl 15 rs) 18 tl) 19 tt) tx) rfl ?_
      refine Rx.callx (m' := m_X12_isLaid) (as := [.int (iz n), .int (iz co), .int (iz K)]) (rest := []) rfl (n_isLaid _ (cmH (u1 (u1 (u1 (u1 (u1 (u1 (u1 (u1 (u1 z 21 K) 22 pi_) 23 len) 24 tr) 28 M) 39 rm) 40 mv) 46 tmn) 47 tm) zl (uf (uf (uf (uf (uf (uf (uf (uf (uf (uf (uf f 5 va) 8 prr) 9 pu) 10 pp) 11 li) 12 ty) 16 mk) 17 gv) 20 cu) 21 ct) 22 od) (uf (uf (uf fl 15 rs) 18 tl) 19 tt) tx)  n co K ⟨n0, by omega⟩ ⟨by omega, by omega⟩ ⟨hK, hK4⟩) (fun v4 h5 q6 => ?_)
      obtain ⟨r_2, rfl, rfl, f3⟩ := q6
      refine Rx.walk 0 (pc' := 71) (L' := [some (.ref 0), some (.int (iz m)), some (.int (iz what)), some (.int (iz co)), some (.int (iz n)), w5, w6, w7]) (st' := [.int (iz r_2)]) (h' := cmH (u1 (u1 (u1 (u1 (u1 (u1 (u1 (u1 (u1 z 21 K) 22 pi_) 23 len) 24 tr) 28 M) 39 rm) 40 mv) 46 tmn) 47 tm) zl (uf (uf (uf (uf (uf (uf (uf (uf (uf (uf (uf f 5 va) 8 prr) 9 pu) 10 pp) 11 li) 12 ty) 16 mk) 17 gv) 20 cu) 21 ct) 22 od) (uf (uf (uf fl 15 rs) 18 tl) 19 tt) tx) rfl ?_
      refine Rx.ne1 rfl rfl ⟨by omega, by omega⟩ (fun b7 => ?_) (fun b7 => ?_)
      · refine Rx.walk 1 (pc' := 79) (L' := [some (.ref 0), some (.int (iz m)), some (.int (iz what)), some (.int (iz co)), some (.int (iz n)), w5, w6, w7]) (st' := [.int (iz n)]) (h' := cmH (u1 (u1 (u1 (u1 (u1 (u1 (u1 (u1 (u1 z 21 K) 22 pi_) 23 len) 24 tr) 28 M) 39 rm) 40 mv) 46 tmn) 47 tm) zl (uf (uf (uf (uf (uf (uf (uf (uf (uf (uf (uf f 5 va) 8 prr) 9 pu) 10 pp) 11 li) 12 ty) 16 mk) 17 gv) 20 cu) 21 ct) 22 od) (uf (uf (uf fl 15 rs) 18 tl) 19 tt) tx) rfl ?_
        refine Rx.i2l rfl ⟨by omega, by omega⟩ ?_
        refine Rx.walk 1 (pc' := 83) (L' := [some (.ref 0), some (.int (iz m)), some (.int (iz what)), some (.int (iz co)), some (.int (iz n)), w5, w6, w7]) (st' := [.long (jz 3125), .long (jz n)]) (h' := cmH (u1 (u1 (u1 (u1 (u1 (u1 (u1 (u1 (u1 z 21 K) 22 pi_) 23 len) 24 tr) 28 M) 39 rm) 40 mv) 46 tmn) 47 tm) zl (uf (uf (uf (uf (uf (uf (uf (uf (uf (uf (uf f 5 va) 8 prr) 9 pu) 10 pp) 11 li) 12 ty) 16 mk) 17 gv) 20 cu) 21 ct) 22 od) (uf (uf (uf fl 15 rs) 18 tl) 19 tt) tx) rfl ?_
        refine Rx.lmul rfl ?_
        refine Rx.walk 1 (pc' := 87) (L' := [some (.ref 0), some (.int (iz m)), some (.int (iz what)), some (.int (iz co)), some (.int (iz n)), w5, w6, w7]) (st' := [.long (jz 16), .long (jz (n * 3125))]) (h' := cmH (u1 (u1 (u1 (u1 (u1 (u1 (u1 (u1 (u1 z 21 K) 22 pi_) 23 len) 24 tr) 28 M) 39 rm) 40 mv) 46 tmn) 47 tm) zl (uf (uf (uf (uf (uf (uf (uf (uf (uf (uf (uf f 5 va) 8 prr) 9 pu) 10 pp) 11 li) 12 ty) 16 mk) 17 gv) 20 cu) 21 ct) 22 od) (uf (uf (uf fl 15 rs) 18 tl) 19 tt) tx) rfl ?_
        refine Rx.lmul rfl ?_
        refine Rx.walk 4 (pc' := 94) (L' := [some (.ref 0), some (.int (iz m)), some (.int (iz what)), some (.int (iz co)), some (.int (iz n)), some (.long (jz ((n * 3125) * 16))), none, w7]) (st' := [.long (jz ((n * 3125) * 16)), .int (iz m), .ref 0]) (h' := cmH (u1 (u1 (u1 (u1 (u1 (u1 (u1 (u1 (u1 z 21 K) 22 pi_) 23 len) 24 tr) 28 M) 39 rm) 40 mv) 46 tmn) 47 tm) zl (uf (uf (uf (uf (uf (uf (uf (uf (uf (uf (uf f 5 va) 8 prr) 9 pu) 10 pp) 11 li) 12 ty) 16 mk) 17 gv) 20 cu) 21 ct) 22 od) (uf (uf (uf fl 15 rs) 18 tl) 19 tt) tx) rfl ?_
        have hdp : dwP K co.toNat n := ⟨n0, by rcases f3 with z | z; exact z.2; (exfalso; omega)⟩
        have hvt : vT K len pi_ (n * 50000) := dwP_vT hdp (by omega) (by omega) (by omega)
        rw [show ((n * 3125) * 16) = n * 50000 by omega]
        refine Rx.callx (m' := m_X12_areServed) (as := [.ref 0, .int (iz m), .long (jz (n * 50000))]) (rest := []) rfl (m_areServed _ (u1 (u1 (u1 (u1 (u1 (u1 (u1 (u1 (u1 z 21 K) 22 pi_) 23 len) 24 tr) 28 M) 39 rm) 40 mv) 46 tmn) 47 tm) zl (uf (uf (uf (uf (uf (uf (uf (uf (uf (uf (uf f 5 va) 8 prr) 9 pu) 10 pp) 11 li) 12 ty) 16 mk) 17 gv) 20 cu) 21 ct) 22 od) (uf (uf (uf fl 15 rs) 18 tl) 19 tt) tx  m (n * 50000) M p0 p1 t K len pi_ tr va w pu prr od tmn tl cu pp li ty gv rm rs mk mv tm tt ct (by first | assumption | omega) (by first | assumption | omega) (by first | assumption | omega) (by first | assumption | omega) (by first | assumption | omega) (by first | assumption | omega) (by first | assumption | omega) (by first | assumption | omega) (by first | assumption | omega) (by first | assumption | omega) ⟨by omega, by omega⟩ hvt hM hg (by first | assumption | omega) hmk (by first | assumption | omega) (by omega)) (fun v32 h33 q34 => ?_)
        obtain ⟨r_8, od_9, pp_10, li_11, ty_12, gv_13, rm_14, rs_15, mk_16, mv_17, tm_18, tt_19, ct_20, tmn_21, tl_22, cu_23, rfl, rfl, f24, f25, f26, f27, f28, f29, f30, f31⟩ := q34
        refine Rx.walk 0 (pc' := 97) (L' := [some (.ref 0), some (.int (iz m)), some (.int (iz what)), some (.int (iz co)), some (.int (iz n)), some (.long (jz (n * 50000))), none, w7]) (st' := [.int (iz r_8)]) (h' := cmH (u1 (u1 (u1 (u1 (u1 (u1 (u1 (u1 (u1 z 21 K) 22 pi_) 23 len) 24 tr) 28 M) 39 rm_14) 40 mv_17) 46 tmn_21) 47 tm_18) zl (uf (uf (uf (uf (uf (uf (uf (uf (uf (uf (uf f 5 va) 8 prr) 9 pu) 10 pp_10) 11 li_11) 12 ty_12) 16 mk_16) 17 gv_13) 20 cu_23) 21 ct_20) 22 od_9) (uf (uf (uf fl 15 rs_15) 18 tl_22) 19 tt_19) tx) rfl ?_
        have hfa : (fun v r => faR (fun l r => thR w K tr len pi_ prr (fun c k => pu (4 * c + k)) l (fun u => u = v) r) m.toNat r) (n * 50000) r_8 := f30
        have hrr : r_8 = 1 ∨ r_8 = 0 ∨ r_8 = -2 := by rcases hfa with z | ⟨u, -, -, z, -⟩; exact Or.inl z.1; exact thR_r z
        refine Rx.walk 3 (pc' := 103) (L' := [some (.ref 0), some (.int (iz m)), some (.int (iz what)), some (.int (iz co)), some (.int (iz n)), some (.long (jz (n * 50000))), none, some (.int (iz r_8))]) (st' := [.int (iz (-2)), .int (iz r_8)]) (h' := cmH (u1 (u1 (u1 (u1 (u1 (u1 (u1 (u1 (u1 z 21 K) 22 pi_) 23 len) 24 tr) 28 M) 39 rm_14) 40 mv_17) 46 tmn_21) 47 tm_18) zl (uf (uf (uf (uf (uf (uf (uf (uf (uf (uf (uf f 5 va) 8 prr) 9 pu) 10 pp_10) 11 li_11) 12 ty_12) 16 mk_16) 17 gv_13) 20 cu_23) 21 ct_20) 22 od_9) (uf (uf (uf fl 15 rs_15) 18 tl_22) 19 tt_19) tx) rfl ?_
        refine Rx.ne2 rfl rfl ⟨by omega, by omega⟩ ⟨by omega, by omega⟩ (fun b35 => ?_) (fun b35 => ?_)
        · refine Rx.walk 2 (pc' := 113) (L' := [some (.ref 0), some (.int (iz m)), some (.int (iz what)), some (.int (iz co)), some (.int (iz n)), some (.long (jz (n * 50000))), none, some (.int (iz r_8))]) (st' := [.int (iz 1), .int (iz r_8)]) (h' := cmH (u1 (u1 (u1 (u1 (u1 (u1 (u1 (u1 (u1 z 21 K) 22 pi_) 23 len) 24 tr) 28 M) 39 rm_14) 40 mv_17) 46 tmn_21) 47 tm_18) zl (uf (uf (uf (uf (uf (uf (uf (uf (uf (uf (uf f 5 va) 8 prr) 9 pu) 10 pp_10) 11 li_11) 12 ty_12) 16 mk_16) 17 gv_13) 20 cu_23) 21 ct_20) 22 od_9) (uf (uf (uf fl 15 rs_15) 18 tl_22) 19 tt_19) tx) rfl ?_
          refine Rx.ne2 rfl rfl ⟨by omega, by omega⟩ ⟨by omega, by omega⟩ (fun b36 => ?_) (fun b36 => ?_)
          · refine Rx.iinc (b := 1) rfl rfl rfl ?_
            refine Rx.walk 0 (pc' := 131) (L' := [some (.ref 0), some (.int (iz m)), some (.int (iz what)), some (.int (iz co)), some (.int (iz (n + 1))), some (.long (jz (n * 50000))), none, some (.int (iz r_8))]) (st' := []) (h' := cmH (u1 (u1 (u1 (u1 (u1 (u1 (u1 (u1 (u1 z 21 K) 22 pi_) 23 len) 24 tr) 28 M) 39 rm_14) 40 mv_17) 46 tmn_21) 47 tm_18) zl (uf (uf (uf (uf (uf (uf (uf (uf (uf (uf (uf f 5 va) 8 prr) 9 pu) 10 pp_10) 11 li_11) 12 ty_12) 16 mk_16) 17 gv_13) 20 cu_23) 21 ct_20) 22 od_9) (uf (uf (uf fl 15 rs_15) 18 tl_22) 19 tt_19) tx) rfl ?_
            refine Rx.walk 1 (pc' := 54) (L' := [some (.ref 0), some (.int (iz m)), some (.int (iz what)), some (.int (iz co)), some (.int (iz (n + 1))), some (.long (jz (n * 50000))), none, some (.int (iz r_8))]) (st' := []) (h' := cmH (u1 (u1 (u1 (u1 (u1 (u1 (u1 (u1 (u1 z 21 K) 22 pi_) 23 len) 24 tr) 28 M) 39 rm_14) 40 mv_17) 46 tmn_21) 47 tm_18) zl (uf (uf (uf (uf (uf (uf (uf (uf (uf (uf (uf f 5 va) 8 prr) 9 pu) 10 pp_10) 11 li_11) 12 ty_12) 16 mk_16) 17 gv_13) 20 cu_23) 21 ct_20) 22 od_9) (uf (uf (uf fl 15 rs_15) 18 tl_22) 19 tt_19) tx) rfl ?_
            exact ih (n + 1) od_9 tmn_21 tl_22 cu_23 pp_10 li_11 ty_12 gv_13 rm_14 rs_15 mk_16 mv_17 tm_18 tt_19 ct_20 (some (.long (jz (n * 50000)))) none (some (.int (iz r_8))) (by first | assumption | omega) (by first | assumption | omega) f24 f25 f26 f27 f28 ⟨by omega, by omega⟩ (fun c p h1 h2 h3 => by rcases (show (c < co.toNat ∨ (c = co.toNat ∧ p < n)) ∨ (c = co.toNat ∧ p = n) by omega) with z | ⟨rfl, rfl⟩; (exact hp c p h1 h2 z); (rw [show r_8 = 0 by omega] at hfa; exact hfa)) (by first | assumption | omega) 
          · refine Rx.walk 1 (pc' := 117) (L' := [some (.ref 0), some (.int (iz m)), some (.int (iz what)), some (.int (iz co)), some (.int (iz n)), some (.long (jz (n * 50000))), none, some (.int (iz r_8))]) (st' := [.int (iz what)]) (h' := cmH (u1 (u1 (u1 (u1 (u1 (u1 (u1 (u1 (u1 z 21 K) 22 pi_) 23 len) 24 tr) 28 M) 39 rm_14) 40 mv_17) 46 tmn_21) 47 tm_18) zl (uf (uf (uf (uf (uf (uf (uf (uf (uf (uf (uf f 5 va) 8 prr) 9 pu) 10 pp_10) 11 li_11) 12 ty_12) 16 mk_16) 17 gv_13) 20 cu_23) 21 ct_20) 22 od_9) (uf (uf (uf fl 15 rs_15) 18 tl_22) 19 tt_19) tx) rfl ?_
            refine Rx.ne1 rfl rfl ⟨by omega, by omega⟩ (fun b37 => ?_) (fun b37 => ?_)
            · refine Rx.walk 1 (pc' := 127) (L' := [some (.ref 0), some (.int (iz m)), some (.int (iz what)), some (.int (iz co)), some (.int (iz n)), some (.long (jz (n * 50000))), none, some (.int (iz r_8))]) (st' := [.long (jz (n * 50000))]) (h' := cmH (u1 (u1 (u1 (u1 (u1 (u1 (u1 (u1 (u1 z 21 K) 22 pi_) 23 len) 24 tr) 28 M) 39 rm_14) 40 mv_17) 46 tmn_21) 47 tm_18) zl (uf (uf (uf (uf (uf (uf (uf (uf (uf (uf (uf f 5 va) 8 prr) 9 pu) 10 pp_10) 11 li_11) 12 ty_12) 16 mk_16) 17 gv_13) 20 cu_23) 21 ct_20) 22 od_9) (uf (uf (uf fl 15 rs_15) 18 tl_22) 19 tt_19) tx) rfl ?_
              refine Rx.ret rfl ?_
              exact hx1 _ _ _ _ _ _ _ _ _ _ _ _ _ _ _ _ f24 f25 f26 f27 f28 ⟨by omega, by omega⟩ ⟨_, _, Or.inr ⟨co.toNat, n, by omega, hdp, hp, Or.inl ⟨by rw [show r_8 = 1 by omega] at hfa; exact hfa, rfl, rfl⟩⟩, by rw [if_neg (by omega)]⟩
            · refine Rx.walk 1 (pc' := 121) (L' := [some (.ref 0), some (.int (iz m)), some (.int (iz what)), some (.int (iz co)), some (.int (iz n)), some (.long (jz (n * 50000))), none, some (.int (iz r_8))]) (st' := [.int (iz co)]) (h' := cmH (u1 (u1 (u1 (u1 (u1 (u1 (u1 (u1 (u1 z 21 K) 22 pi_) 23 len) 24 tr) 28 M) 39 rm_14) 40 mv_17) 46 tmn_21) 47 tm_18) zl (uf (uf (uf (uf (uf (uf (uf (uf (uf (uf (uf f 5 va) 8 prr) 9 pu) 10 pp_10) 11 li_11) 12 ty_12) 16 mk_16) 17 gv_13) 20 cu_23) 21 ct_20) 22 od_9) (uf (uf (uf fl 15 rs_15) 18 tl_22) 19 tt_19) tx) rfl ?_
              refine Rx.i2l rfl ⟨by omega, by omega⟩ ?_
              refine Rx.walk 1 (pc' := 127) (L' := [some (.ref 0), some (.int (iz m)), some (.int (iz what)), some (.int (iz co)), some (.int (iz n)), some (.long (jz (n * 50000))), none, some (.int (iz r_8))]) (st' := [.long (jz co)]) (h' := cmH (u1 (u1 (u1 (u1 (u1 (u1 (u1 (u1 (u1 z 21 K) 22 pi_) 23 len) 24 tr) 28 M) 39 rm_14) 40 mv_17) 46 tmn_21) 47 tm_18) zl (uf (uf (uf (uf (uf (uf (uf (uf (uf (uf (uf f 5 va) 8 prr) 9 pu) 10 pp_10) 11 li_11) 12 ty_12) 16 mk_16) 17 gv_13) 20 cu_23) 21 ct_20) 22 od_9) (uf (uf (uf fl 15 rs_15) 18 tl_22) 19 tt_19) tx) rfl ?_
              refine Rx.ret rfl ?_
              exact hx1 _ _ _ _ _ _ _ _ _ _ _ _ _ _ _ _ f24 f25 f26 f27 f28 ⟨by omega, by omega⟩ ⟨_, _, Or.inr ⟨co.toNat, n, by omega, hdp, hp, Or.inl ⟨by rw [show r_8 = 1 by omega] at hfa; exact hfa, rfl, rfl⟩⟩, by rw [if_pos (by omega)]; omega⟩
        · refine Rx.walk 1 (pc' := 109) (L' := [some (.ref 0), some (.int (iz m)), some (.int (iz what)), some (.int (iz co)), some (.int (iz n)), some (.long (jz (n * 50000))), none, some (.int (iz r_8))]) (st' := [.long (jz (-2))]) (h' := cmH (u1 (u1 (u1 (u1 (u1 (u1 (u1 (u1 (u1 z 21 K) 22 pi_) 23 len) 24 tr) 28 M) 39 rm_14) 40 mv_17) 46 tmn_21) 47 tm_18) zl (uf (uf (uf (uf (uf (uf (uf (uf (uf (uf (uf f 5 va) 8 prr) 9 pu) 10 pp_10) 11 li_11) 12 ty_12) 16 mk_16) 17 gv_13) 20 cu_23) 21 ct_20) 22 od_9) (uf (uf (uf fl 15 rs_15) 18 tl_22) 19 tt_19) tx) rfl ?_
          refine Rx.ret rfl ?_
          exact hx1 _ _ _ _ _ _ _ _ _ _ _ _ _ _ _ _ f24 f25 f26 f27 f28 ⟨by omega, by omega⟩ ⟨_, _, Or.inr ⟨co.toNat, n, by omega, hdp, hp, Or.inr ⟨by rw [show r_8 = -2 by omega] at hfa; exact hfa, rfl, rfl⟩⟩, by split <;> rfl⟩
      · refine Rx.walk 1 (pc' := 128) (L' := [some (.ref 0), some (.int (iz m)), some (.int (iz what)), some (.int (iz co)), some (.int (iz n)), w5, w6, w7]) (st' := []) (h' := cmH (u1 (u1 (u1 (u1 (u1 (u1 (u1 (u1 (u1 z 21 K) 22 pi_) 23 len) 24 tr) 28 M) 39 rm) 40 mv) 46 tmn) 47 tm) zl (uf (uf (uf (uf (uf (uf (uf (uf (uf (uf (uf f 5 va) 8 prr) 9 pu) 10 pp) 11 li) 12 ty) 16 mk) 17 gv) 20 cu) 21 ct) 22 od) (uf (uf (uf fl 15 rs) 18 tl) 19 tt) tx) rfl ?_
        refine Rx.iinc (b := 1) rfl rfl rfl ?_
        refine Rx.walk 0 (pc' := 131) (L' := [some (.ref 0), some (.int (iz m)), some (.int (iz what)), some (.int (iz co)), some (.int (iz (n + 1))), w5, w6, w7]) (st' := []) (h' := cmH (u1 (u1 (u1 (u1 (u1 (u1 (u1 (u1 (u1 z 21 K) 22 pi_) 23 len) 24 tr) 28 M) 39 rm) 40 mv) 46 tmn) 47 tm) zl (uf (uf (uf (uf (uf (uf (uf (uf (uf (uf (uf f 5 va) 8 prr) 9 pu) 10 pp) 11 li) 12 ty) 16 mk) 17 gv) 20 cu) 21 ct) 22 od) (uf (uf (uf fl 15 rs) 18 tl) 19 tt) tx) rfl ?_
        refine Rx.walk 1 (pc' := 54) (L' := [some (.ref 0), some (.int (iz m)), some (.int (iz what)), some (.int (iz co)), some (.int (iz (n + 1))), w5, w6, w7]) (st' := []) (h' := cmH (u1 (u1 (u1 (u1 (u1 (u1 (u1 (u1 (u1 z 21 K) 22 pi_) 23 len) 24 tr) 28 M) 39 rm) 40 mv) 46 tmn) 47 tm) zl (uf (uf (uf (uf (uf (uf (uf (uf (uf (uf (uf f 5 va) 8 prr) 9 pu) 10 pp) 11 li) 12 ty) 16 mk) 17 gv) 20 cu) 21 ct) 22 od) (uf (uf (uf fl 15 rs) 18 tl) 19 tt) tx) rfl ?_
        exact ih (n + 1) od tmn tl cu pp li ty gv rm rs mk mv tm tt ct w5 w6 w7 (by first | assumption | omega) (by first | assumption | omega) hM hg hmv hmk htn ⟨by omega, by omega⟩ (fun c p h1 h2 h3 => by rcases (show (c < co.toNat ∨ (c = co.toNat ∧ p < n)) ∨ (c = co.toNat ∧ p = n) by omega) with z | ⟨rfl, rfl⟩; (exact hp c p h1 h2 z); (exfalso; rcases f3 with z | z; omega; exact z.2 h2.2)) (by first | assumption | omega) 
set_option maxRecDepth 100000 in
set_option maxHeartbeats 4000000 in
theorem m_dawn_c (d : Nat) (z : Nat → Int) (zl : Nat → Int) (f : Nat → Int → Int) (fl : Nat → Int → Int) (tx : Nat)  (m : Int) (what : Int) (M : Int) (p0 : Int) (p1 : Int) (t : Int) (K : Int) (len : Int) (pi_ : Int) (tr : Int) (va : Int → Int) (w : Int → Int) (pu : Int → Int) (prr : Int → Int) (mv0 : Int) (hK : 1 ≤ K) (hlen : 1 ≤ len ∧ len ≤ 5) (hpi : 1 ≤ pi_ ∧ pi_ ≤ 2) (htr : 0 ≤ tr ∧ tr ≤ 1) (hw : wOK w) (hva : ∀ k : Int, 0 ≤ k → k < K → va k = w (k + 1)) (hK4 : K ≤ 4) (hcm : cuM K M pu prr) (hk0 : okP K len p0) (hk1 : okP K len p1) (hmM : 1 ≤ m ∧ m ≤ M) (hm2 : m ≤ 2) (hwh : 0 ≤ what ∧ what ≤ 1) (hmv0 : mv0 + 13200000 < 2147483648) (P : Option Value → AmH → Prop) (hx0 : ∀ (r : Int) (od' : Int → Int) (pp' : Int → Int) (li' : Int → Int) (ty' : Int → Int) (gv' : Int → Int) (rm' : Int) (rs' : Int → Int) (mk' : Int → Int) (mv' : Int) (tm' : Int) (tt' : Int → Int) (ct' : Int → Int) (tmn' : Int) (tl' : Int → Int) (cu' : Int → Int), (mtI K pp' li' ty' p0 p1 t) → (∀ k : Int, 0 ≤ k → k < 4 → 0 ≤ gv' k ∧ gv' k ≤ 4) → (0 ≤ mv') → (∀ j : Int, 0 ≤ j → j < 72000 → 0 ≤ mk' j ∧ mk' j ≤ mv') → (0 ≤ tmn' ∧ tmn' ≤ 200) → (mv0 ≤ mv' ∧ mv' ≤ mv0 + 12800000) → (∃ a b, dwR (fun v r => faR (fun l r => thR w K tr len pi_ prr (fun c k => pu (4 * c + k)) l (fun u => u = v) r) m.toNat r) K (min 3 len) a b ∧ r = if what = 0 then a else b) → P (some (.long (jz r))) (cmH (u1 (u1 (u1 (u1 (u1 (u1 (u1 (u1 (u1 z 21 K) 22 pi_) 23 len) 24 tr) 28 M) 39 rm') 40 mv') 46 tmn') 47 tm') zl (uf (uf (uf (uf (uf (uf (uf (uf (uf (uf (uf f 5 va) 8 prr) 9 pu) 10 pp') 11 li') 12 ty') 16 mk') 17 gv') 20 cu') 21 ct') 22 od') (uf (uf (uf fl 15 rs') 18 tl') 19 tt') tx)) : ∀ (kF : Nat) (co : Int) (od : Int → Int) (tmn : Int) (tl : Int → Int) (cu : Int → Int) (pp : Int → Int) (li : Int → Int) (ty : Int → Int) (gv : Int → Int) (rm : Int) (rs : Int → Int) (mk : Int → Int) (mv : Int) (tm : Int) (tt : Int → Int) (ct : Int → Int) (w4 : Option Value) (w5 : Option Value) (w6 : Option Value) (w7 : Option Value), (0 ≤ co) → (co ≤ min 3 len + 1) → (mtI K pp li ty p0 p1 t) → (∀ k : Int, 0 ≤ k → k < 4 → 0 ≤ gv k ∧ gv k ≤ 4) → (0 ≤ mv) → (∀ j : Int, 0 ≤ j → j < 72000 → 0 ≤ mk j ∧ mk j ≤ mv) → (0 ≤ tmn ∧ tmn ≤ 200) → (mv0 ≤ mv ∧ mv ≤ mv0 + 25600 * (125 * co)) → (dwI (fun v r => faR (fun l r => thR w K tr len pi_ prr (fun c k => pu (4 * c + k)) l (fun u => u = v) r) m.toNat r) K (min 3 len) co.toNat 0) → (4 - co) < (kF : Int) → Rx (d + 56) m_X12_dawn 39 [some (.ref 0), some (.int (iz m)), some (.int (iz what)), some (.int (iz co)), w4, w5, w6, w7] [] (cmH (u1 (u1 (u1 (u1 (u1 (u1 (u1 (u1 (u1 z 21 K) 22 pi_) 23 len) 24 tr) 28 M) 39 rm) 40 mv) 46 tmn) 47 tm) zl (uf (uf (uf (uf (uf (uf (uf (uf (uf (uf (uf f 5 va) 8 prr) 9 pu) 10 pp) 11 li) 12 ty) 16 mk) 17 gv) 20 cu) 21 ct) 22 od) (uf (uf (uf fl 15 rs) 18 tl) 19 tt) tx) P := by
  intro kF
  induction kF with
  | zero =>
    intro co od tmn tl cu pp li ty gv rm rs mk mv tm tt ct w4 w5 w6 w7 c0 c1 hM hg hmv hmk htn hmq hp hk
    exfalso; omega
  | succ kF ih =>
    intro co od tmn tl cu pp li ty gv rm rs mk mv tm tt ct w4 w5 w6 w7 c0 c1 hM hg hmv hmk htn hmq hp hk
    refine Rx.walk 4 (pc' := 45) (L' := [some (.ref 0), some (.int (iz m)), some (.int (iz what)), some (.int (iz co)), w4, w5, w6, w7]) (st' := [.int (iz len), .int (iz 3), .int (iz co)]) (h' := cmH (u1 (u1 (u1 (u1 (u1 (u1 (u1 (u1 (u1 z 21 K) 22 pi_) 23 len) 24 tr) 28 M) 39 rm) 40 mv) 46 tmn) 47 tm) zl (uf (uf (uf (uf (uf (uf (uf (uf (uf (uf (uf f 5 va) 8 prr) 9 pu) 10 pp) 11 li) 12 ty) 16 mk) 17 gv) 20 cu) 21 ct) 22 od) (uf (uf (uf fl 15 rs) 18 tl) 19 tt) tx) rfl ?_
    refine Rx.imin rfl ⟨by omega, by omega⟩ ⟨by omega, by omega⟩ ?_
    refine Rx.gt2 rfl rfl ⟨by omega, by omega⟩ ⟨by omega, by omega⟩ (fun b1 => ?_) (fun b1 => ?_)
    · refine Rx.walk 1 (pc' := 143) (L' := [some (.ref 0), some (.int (iz m)), some (.int (iz what)), some (.int (iz co)), w4, w5, w6, w7]) (st' := [.long (jz (-1))]) (h' := cmH (u1 (u1 (u1 (u1 (u1 (u1 (u1 (u1 (u1 z 21 K) 22 pi_) 23 len) 24 tr) 28 M) 39 rm) 40 mv) 46 tmn) 47 tm) zl (uf (uf (uf (uf (uf (uf (uf (uf (uf (uf (uf f 5 va) 8 prr) 9 pu) 10 pp) 11 li) 12 ty) 16 mk) 17 gv) 20 cu) 21 ct) 22 od) (uf (uf (uf fl 15 rs) 18 tl) 19 tt) tx) rfl ?_
      refine Rx.ret rfl ?_
      exact hx0 _ _ _ _ _ _ _ _ _ _ _ _ _ _ _ _ hM hg hmv hmk htn ⟨by omega, by omega⟩ ⟨_, _, Or.inl ⟨rfl, rfl, fun c p h1 h2 => hp c p h1 h2 (Or.inl (by omega))⟩, by split <;> rfl⟩
    · refine Rx.walk 2 (pc' := 54) (L' := [some (.ref 0), some (.int (iz m)), some (.int (iz what)), some (.int (iz co)), some (.int (iz 0)), w5, w6, w7]) (st' := []) (h' := cmH (u1 (u1 (u1 (u1 (u1 (u1 (u1 (u1 (u1 z 21 K) 22 pi_) 23 len) 24 tr) 28 M) 39 rm) 40 mv) 46 tmn) 47 tm) zl (uf (uf (uf (uf (uf (uf (uf (uf (uf (uf (uf f 5 va) 8 prr) 9 pu) 10 pp) 11 li) 12 ty) 16 mk) 17 gv) 20 cu) 21 ct) 22 od) (uf (uf (uf fl 15 rs) 18 tl) 19 tt) tx) rfl ?_
      refine m_dawn_n _ (u1 (u1 (u1 (u1 (u1 (u1 (u1 (u1 (u1 z 21 K) 22 pi_) 23 len) 24 tr) 28 M) 39 rm) 40 mv) 46 tmn) 47 tm) zl (uf (uf (uf (uf (uf (uf (uf (uf (uf (uf (uf f 5 va) 8 prr) 9 pu) 10 pp) 11 li) 12 ty) 16 mk) 17 gv) 20 cu) 21 ct) 22 od) (uf (uf (uf fl 15 rs) 18 tl) 19 tt) tx  m what M p0 p1 t K len pi_ tr va w pu prr mv0 co (by first | assumption | omega) (by first | assumption | omega) (by first | assumption | omega) (by first | assumption | omega) (by first | assumption | omega) (by first | assumption | omega) (by first | assumption | omega) (by first | assumption | omega) (by first | assumption | omega) (by first | assumption | omega) (by first | assumption | omega) (by first | assumption | omega) (by first | assumption | omega) (by first | assumption | omega) ⟨by omega, by omega⟩ _ ?_ ?_ ((125 - 0) + 1 : Int).toNat 0 od tmn tl cu pp li ty gv rm rs mk mv tm tt ct w5 w6 w7 (by first | assumption | omega) (by first | assumption | omega) hM hg hmv hmk htn ⟨by omega, by omega⟩ hp (by omega) 
      · intro n_2 w5_3 w6_4 w7_5 od_6 pp_7 li_8 ty_9 gv_10 rm_11 rs_12 mk_13 mv_14 tm_15 tt_16 ct_17 tmn_18 tl_19 cu_20 f21 f22 f23 f24 f25 f26 f27
        refine Rx.walk 0 (pc' := 134) (L' := [some (.ref 0), some (.int (iz m)), some (.int (iz what)), some (.int (iz co)), some (.int (iz n_2)), w5_3, w6_4, w7_5]) (st' := []) (h' := cmH (u1 (u1 (u1 (u1 (u1 (u1 (u1 (u1 (u1 z 21 K) 22 pi_) 23 len) 24 tr) 28 M) 39 rm_11) 40 mv_14) 46 tmn_18) 47 tm_15) zl (uf (uf (uf (uf (uf (uf (uf (uf (uf (uf (uf f 5 va) 8 prr) 9 pu) 10 pp_7) 11 li_8) 12 ty_9) 16 mk_13) 17 gv_10) 20 cu_20) 21 ct_17) 22 od_6) (uf (uf (uf fl 15 rs_12) 18 tl_19) 19 tt_16) tx) rfl ?_
        refine Rx.iinc (b := 1) rfl rfl rfl ?_
        refine Rx.walk 0 (pc' := 137) (L' := [some (.ref 0), some (.int (iz m)), some (.int (iz what)), some (.int (iz (co + 1))), some (.int (iz n_2)), w5_3, w6_4, w7_5]) (st' := []) (h' := cmH (u1 (u1 (u1 (u1 (u1 (u1 (u1 (u1 (u1 z 21 K) 22 pi_) 23 len) 24 tr) 28 M) 39 rm_11) 40 mv_14) 46 tmn_18) 47 tm_15) zl (uf (uf (uf (uf (uf (uf (uf (uf (uf (uf (uf f 5 va) 8 prr) 9 pu) 10 pp_7) 11 li_8) 12 ty_9) 16 mk_13) 17 gv_10) 20 cu_20) 21 ct_17) 22 od_6) (uf (uf (uf fl 15 rs_12) 18 tl_19) 19 tt_16) tx) rfl ?_
        refine Rx.walk 1 (pc' := 39) (L' := [some (.ref 0), some (.int (iz m)), some (.int (iz what)), some (.int (iz (co + 1))), some (.int (iz n_2)), w5_3, w6_4, w7_5]) (st' := []) (h' := cmH (u1 (u1 (u1 (u1 (u1 (u1 (u1 (u1 (u1 z 21 K) 22 pi_) 23 len) 24 tr) 28 M) 39 rm_11) 40 mv_14) 46 tmn_18) 47 tm_15) zl (uf (uf (uf (uf (uf (uf (uf (uf (uf (uf (uf f 5 va) 8 prr) 9 pu) 10 pp_7) 11 li_8) 12 ty_9) 16 mk_13) 17 gv_10) 20 cu_20) 21 ct_17) 22 od_6) (uf (uf (uf fl 15 rs_12) 18 tl_19) 19 tt_16) tx) rfl ?_
        exact ih (co + 1) od_6 tmn_18 tl_19 cu_20 pp_7 li_8 ty_9 gv_10 rm_11 rs_12 mk_13 mv_14 tm_15 tt_16 ct_17 (some (.int (iz n_2))) w5_3 w6_4 w7_5 (by first | assumption | omega) (by first | assumption | omega) f21 f22 f23 f24 f25 ⟨by omega, by omega⟩ (by rw [show (co + 1).toNat = co.toNat + 1 by omega]; exact f27) (by first | assumption | omega) 
      · intro r_28 od_29 pp_30 li_31 ty_32 gv_33 rm_34 rs_35 mk_36 mv_37 tm_38 tt_39 ct_40 tmn_41 tl_42 cu_43 f44 f45 f46 f47 f48 f49 f50
        change P (some (.long (jz r_28))) (cmH (u1 (u1 (u1 (u1 (u1 (u1 (u1 (u1 (u1 z 21 K) 22 pi_) 23 len) 24 tr) 28 M) 39 rm_34) 40 mv_37) 46 tmn_41) 47 tm_38) zl (uf (uf (uf (uf (uf (uf (uf (uf (uf (uf (uf f 5 va) 8 prr) 9 pu) 10 pp_30) 11 li_31) 12 ty_32) 16 mk_36) 17 gv_33) 20 cu_43) 21 ct_40) 22 od_29) (uf (uf (uf fl 15 rs_35) 18 tl_42) 19 tt_39) tx)
        exact hx0 _ _ _ _ _ _ _ _ _ _ _ _ _ _ _ _ f44 f45 f46 f47 f48 f49 f50
set_option maxRecDepth 100000 in
set_option maxHeartbeats 4000000 in
theorem m_dawn (d : Nat) (z : Nat → Int) (zl : Nat → Int) (f : Nat → Int → Int) (fl : Nat → Int → Int) (tx : Nat)  (m : Int) (what : Int) (M : Int) (p0 : Int) (p1 : Int) (t : Int) (K : Int) (len : Int) (pi_ : Int) (tr : Int) (va : Int → Int) (w : Int → Int) (pu : Int → Int) (prr : Int → Int) (od : Int → Int) (tmn : Int) (tl : Int → Int) (cu : Int → Int) (pp : Int → Int) (li : Int → Int) (ty : Int → Int) (gv : Int → Int) (rm : Int) (rs : Int → Int) (mk : Int → Int) (mv : Int) (tm : Int) (tt : Int → Int) (ct : Int → Int) (hmb : bI m) (hwb : bI what) (hw : wOK w) (htr : 0 ≤ tr ∧ tr ≤ 1) (hK4 : K ≤ 4) (hva : ∀ k : Int, 0 ≤ k → k < K → va k = w (k + 1)) (hcm : cuM K M pu prr) (hM : mtI K pp li ty p0 p1 t) (hop : 0 < M → (1 ≤ len ∧ len ≤ 5) ∧ 1 ≤ K ∧ (1 ≤ pi_ ∧ pi_ ≤ 2) ∧ okP K len p0 ∧ okP K len p1 ∧ (pi_ = 1 → p1 = 0)) (hg : ∀ k : Int, 0 ≤ k → k < 4 → 0 ≤ gv k ∧ gv k ≤ 4) (hmv : 0 ≤ mv) (hmk : ∀ j : Int, 0 ≤ j → j < 72000 → 0 ≤ mk j ∧ mk j ≤ mv) (htn : 0 ≤ tmn ∧ tmn ≤ 200) (hmv0 : mv + 13200000 < 2147483648) : Rx (d + 56) m_X12_dawn 0 (am_ent [.ref 0, .int (iz m), .int (iz what)] 8) [] (cmH (u1 (u1 (u1 (u1 (u1 (u1 (u1 (u1 (u1 z 21 K) 22 pi_) 23 len) 24 tr) 28 M) 39 rm) 40 mv) 46 tmn) 47 tm) zl (uf (uf (uf (uf (uf (uf (uf (uf (uf (uf (uf f 5 va) 8 prr) 9 pu) 10 pp) 11 li) 12 ty) 16 mk) 17 gv) 20 cu) 21 ct) 22 od) (uf (uf (uf fl 15 rs) 18 tl) 19 tt) tx) (fun rv h => ∃ r : Int, ∃ od' : Int → Int, ∃ pp' : Int → Int, ∃ li' : Int → Int, ∃ ty' : Int → Int, ∃ gv' : Int → Int, ∃ rm' : Int, ∃ rs' : Int → Int, ∃ mk' : Int → Int, ∃ mv' : Int, ∃ tm' : Int, ∃ tt' : Int → Int, ∃ ct' : Int → Int, ∃ tmn' : Int, ∃ tl' : Int → Int, ∃ cu' : Int → Int, rv = some (.long (jz r)) ∧ h = cmH (u1 (u1 (u1 (u1 (u1 (u1 (u1 (u1 (u1 (u1 z 0 0) 21 K) 22 pi_) 23 len) 24 tr) 28 M) 39 rm') 40 mv') 46 tmn') 47 tm') zl (uf (uf (uf (uf (uf (uf (uf (uf (uf (uf (uf f 5 va) 8 prr) 9 pu) 10 pp') 11 li') 12 ty') 16 mk') 17 gv') 20 cu') 21 ct') 22 od') (uf (uf (uf fl 15 rs') 18 tl') 19 tt') tx ∧ mtI K pp' li' ty' p0 p1 t ∧ (∀ k : Int, 0 ≤ k → k < 4 → 0 ≤ gv' k ∧ gv' k ≤ 4) ∧ 0 ≤ mv' ∧ (∀ j : Int, 0 ≤ j → j < 72000 → 0 ≤ mk' j ∧ mk' j ≤ mv') ∧ (0 ≤ tmn' ∧ tmn' ≤ 200) ∧ (mv ≤ mv' ∧ mv' ≤ mv + 12800000) ∧ (((what < 0 ∨ 1 < what ∨ m < 1 ∨ 2 < m ∨ M < m) ∧ r = -1) ∨ (0 ≤ what ∧ what ≤ 1 ∧ 1 ≤ m ∧ m ≤ 2 ∧ m ≤ M ∧ ∃ a b, dwR (fun v r => faR (fun l r => thR w K tr len pi_ prr (fun c k => pu (4 * c + k)) l (fun u => u = v) r) m.toNat r) K (min 3 len) a b ∧ r = if what = 0 then a else b))) := by
  obtain ⟨hmb1, hmb2⟩ := id hmb
  obtain ⟨hmw1, hmw2⟩ := id hwb
  have hMM0 := hcm.1
  have hMM4 := hcm.2.1
  obtain ⟨⟨hm1, hm2, hm3⟩, ⟨hm4, hm5, hm6⟩, hm7, hm8, hm9⟩ := mtI_b hM
  refine Rx.walk 0 (pc' := 0) (L' := [some (.ref 0), some (.int (iz m)), some (.int (iz what)), none, none, none, none, none]) (st' := []) (h' := cmH (u1 (u1 (u1 (u1 (u1 (u1 (u1 (u1 (u1 z 21 K) 22 pi_) 23 len) 24 tr) 28 M) 39 rm) 40 mv) 46 tmn) 47 tm) zl (uf (uf (uf (uf (uf (uf (uf (uf (uf (uf (uf f 5 va) 8 prr) 9 pu) 10 pp) 11 li) 12 ty) 16 mk) 17 gv) 20 cu) 21 ct) 22 od) (uf (uf (uf fl 15 rs) 18 tl) 19 tt) tx) rfl ?_
  refine Rx.walk 4 (pc' := 6) (L' := [some (.ref 0), some (.int (iz m)), some (.int (iz what)), none, none, none, none, none]) (st' := [.int (iz m)]) (h' := cmH (u1 (u1 (u1 (u1 (u1 (u1 (u1 (u1 (u1 (u1 z 0 0) 21 K) 22 pi_) 23 len) 24 tr) 28 M) 39 rm) 40 mv) 46 tmn) 47 tm) zl (uf (uf (uf (uf (uf (uf (uf (uf (uf (uf (uf f 5 va) 8 prr) 9 pu) 10 pp) 11 li) 12 ty) 16 mk) 17 gv) 20 cu) 21 ct) 22 od) (uf (uf (uf fl 15 rs) 18 tl) 19 tt) tx) rfl ?_
  refine Rx.i2l rfl ⟨by omega, by omega⟩ ?_
  refine Rx.walk 4 (pc' := 13) (L' := [some (.ref 0), some (.int (iz m)), some (.int (iz what)), none, none, none, none, none]) (st' := [.int (iz M), .int (iz 2), .long (jz 1), .long (jz m)]) (h' := cmH (u1 (u1 (u1 (u1 (u1 (u1 (u1 (u1 (u1 (u1 z 0 0) 21 K) 22 pi_) 23 len) 24 tr) 28 M) 39 rm) 40 mv) 46 tmn) 47 tm) zl (uf (uf (uf (uf (uf (uf (uf (uf (uf (uf (uf f 5 va) 8 prr) 9 pu) 10 pp) 11 li) 12 ty) 16 mk) 17 gv) 20 cu) 21 ct) 22 od) (uf (uf (uf fl 15 rs) 18 tl) 19 tt) tx) rfl ?_
  refine Rx.imin rfl ⟨by omega, by omega⟩ ⟨by omega, by omega⟩ ?_
  refine Rx.i2l rfl ⟨by omega, by omega⟩ ?_
  refine Rx.callx (m' := m_X12_isIn) (as := [.long (jz m), .long (jz 1), .long (jz (min 2 M))]) (rest := []) rfl (n_isIn _ (cmH (u1 (u1 (u1 (u1 (u1 (u1 (u1 (u1 (u1 (u1 z 0 0) 21 K) 22 pi_) 23 len) 24 tr) 28 M) 39 rm) 40 mv) 46 tmn) 47 tm) zl (uf (uf (uf (uf (uf (uf (uf (uf (uf (uf (uf f 5 va) 8 prr) 9 pu) 10 pp) 11 li) 12 ty) 16 mk) 17 gv) 20 cu) 21 ct) 22 od) (uf (uf (uf fl 15 rs) 18 tl) 19 tt) tx)  m 1 (min 2 M) ⟨by omega, by omega⟩ ⟨by omega, by omega⟩ ⟨by omega, by omega⟩) (fun v3 h4 q5 => ?_)
  obtain ⟨r_1, rfl, rfl, f2⟩ := q5
  refine Rx.walk 0 (pc' := 20) (L' := [some (.ref 0), some (.int (iz m)), some (.int (iz what)), none, none, none, none, none]) (st' := [.int (iz r_1)]) (h' := cmH (u1 (u1 (u1 (u1 (u1 (u1 (u1 (u1 (u1 (u1 z 0 0) 21 K) 22 pi_) 23 len) 24 tr) 28 M) 39 rm) 40 mv) 46 tmn) 47 tm) zl (uf (uf (uf (uf (uf (uf (uf (uf (uf (uf (uf f 5 va) 8 prr) 9 pu) 10 pp) 11 li) 12 ty) 16 mk) 17 gv) 20 cu) 21 ct) 22 od) (uf (uf (uf fl 15 rs) 18 tl) 19 tt) tx) rfl ?_
  refine Rx.eq1 rfl rfl ⟨by omega, by omega⟩ (fun b6 => ?_) (fun b6 => ?_)
  · refine Rx.walk 1 (pc' := 36) (L' := [some (.ref 0), some (.int (iz m)), some (.int (iz what)), none, none, none, none, none]) (st' := [.long (jz (-1))]) (h' := cmH (u1 (u1 (u1 (u1 (u1 (u1 (u1 (u1 (u1 (u1 z 0 0) 21 K) 22 pi_) 23 len) 24 tr) 28 M) 39 rm) 40 mv) 46 tmn) 47 tm) zl (uf (uf (uf (uf (uf (uf (uf (uf (uf (uf (uf f 5 va) 8 prr) 9 pu) 10 pp) 11 li) 12 ty) 16 mk) 17 gv) 20 cu) 21 ct) 22 od) (uf (uf (uf fl 15 rs) 18 tl) 19 tt) tx) rfl ?_
    refine Rx.ret rfl ?_
    exact ⟨_, _, _, _, _, _, _, _, _, _, _, _, _, _, _, _, rfl, rfl, hM, hg, hmv, hmk, htn, ⟨by omega, by omega⟩, Or.inl ⟨by omega, rfl⟩⟩
  · refine Rx.walk 1 (pc' := 24) (L' := [some (.ref 0), some (.int (iz m)), some (.int (iz what)), none, none, none, none, none]) (st' := [.int (iz what)]) (h' := cmH (u1 (u1 (u1 (u1 (u1 (u1 (u1 (u1 (u1 (u1 z 0 0) 21 K) 22 pi_) 23 len) 24 tr) 28 M) 39 rm) 40 mv) 46 tmn) 47 tm) zl (uf (uf (uf (uf (uf (uf (uf (uf (uf (uf (uf f 5 va) 8 prr) 9 pu) 10 pp) 11 li) 12 ty) 16 mk) 17 gv) 20 cu) 21 ct) 22 od) (uf (uf (uf fl 15 rs) 18 tl) 19 tt) tx) rfl ?_
    refine Rx.i2l rfl ⟨by omega, by omega⟩ ?_
    refine Rx.walk 2 (pc' := 27) (L' := [some (.ref 0), some (.int (iz m)), some (.int (iz what)), none, none, none, none, none]) (st' := [.long (jz 1), .long (jz 0), .long (jz what)]) (h' := cmH (u1 (u1 (u1 (u1 (u1 (u1 (u1 (u1 (u1 (u1 z 0 0) 21 K) 22 pi_) 23 len) 24 tr) 28 M) 39 rm) 40 mv) 46 tmn) 47 tm) zl (uf (uf (uf (uf (uf (uf (uf (uf (uf (uf (uf f 5 va) 8 prr) 9 pu) 10 pp) 11 li) 12 ty) 16 mk) 17 gv) 20 cu) 21 ct) 22 od) (uf (uf (uf fl 15 rs) 18 tl) 19 tt) tx) rfl ?_
    refine Rx.callx (m' := m_X12_isIn) (as := [.long (jz what), .long (jz 0), .long (jz 1)]) (rest := []) rfl (n_isIn _ (cmH (u1 (u1 (u1 (u1 (u1 (u1 (u1 (u1 (u1 (u1 z 0 0) 21 K) 22 pi_) 23 len) 24 tr) 28 M) 39 rm) 40 mv) 46 tmn) 47 tm) zl (uf (uf (uf (uf (uf (uf (uf (uf (uf (uf (uf f 5 va) 8 prr) 9 pu) 10 pp) 11 li) 12 ty) 16 mk) 17 gv) 20 cu) 21 ct) 22 od) (uf (uf (uf fl 15 rs) 18 tl) 19 tt) tx)  what 0 1 ⟨by omega, by omega⟩ ⟨by omega, by omega⟩ ⟨by omega, by omega⟩) (fun v9 h10 q11 => ?_)
    obtain ⟨r_7, rfl, rfl, f8⟩ := q11
    refine Rx.walk 0 (pc' := 30) (L' := [some (.ref 0), some (.int (iz m)), some (.int (iz what)), none, none, none, none, none]) (st' := [.int (iz r_7)]) (h' := cmH (u1 (u1 (u1 (u1 (u1 (u1 (u1 (u1 (u1 (u1 z 0 0) 21 K) 22 pi_) 23 len) 24 tr) 28 M) 39 rm) 40 mv) 46 tmn) 47 tm) zl (uf (uf (uf (uf (uf (uf (uf (uf (uf (uf (uf f 5 va) 8 prr) 9 pu) 10 pp) 11 li) 12 ty) 16 mk) 17 gv) 20 cu) 21 ct) 22 od) (uf (uf (uf fl 15 rs) 18 tl) 19 tt) tx) rfl ?_
    refine Rx.ne1 rfl rfl ⟨by omega, by omega⟩ (fun b12 => ?_) (fun b12 => ?_)
    · refine Rx.walk 2 (pc' := 39) (L' := [some (.ref 0), some (.int (iz m)), some (.int (iz what)), some (.int (iz 0)), none, none, none, none]) (st' := []) (h' := cmH (u1 (u1 (u1 (u1 (u1 (u1 (u1 (u1 (u1 (u1 z 0 0) 21 K) 22 pi_) 23 len) 24 tr) 28 M) 39 rm) 40 mv) 46 tmn) 47 tm) zl (uf (uf (uf (uf (uf (uf (uf (uf (uf (uf (uf f 5 va) 8 prr) 9 pu) 10 pp) 11 li) 12 ty) 16 mk) 17 gv) 20 cu) 21 ct) 22 od) (uf (uf (uf fl 15 rs) 18 tl) 19 tt) tx) rfl ?_
      obtain ⟨ho1, ho2, ho3, ho4, ho5, ho6⟩ := hop (by omega)
      refine m_dawn_c _ (u1 (u1 (u1 (u1 (u1 (u1 (u1 (u1 (u1 (u1 z 0 0) 21 K) 22 pi_) 23 len) 24 tr) 28 M) 39 rm) 40 mv) 46 tmn) 47 tm) zl (uf (uf (uf (uf (uf (uf (uf (uf (uf (uf (uf f 5 va) 8 prr) 9 pu) 10 pp) 11 li) 12 ty) 16 mk) 17 gv) 20 cu) 21 ct) 22 od) (uf (uf (uf fl 15 rs) 18 tl) 19 tt) tx  m what M p0 p1 t K len pi_ tr va w pu prr mv ho2 ho1 ho3 (by first | assumption | omega) (by first | assumption | omega) hva (by first | assumption | omega) hcm ho4 ho5 ⟨by omega, by omega⟩ (by first | assumption | omega) ⟨by omega, by omega⟩ (by first | assumption | omega) _ ?_ ((4 - 0) + 1 : Int).toNat 0 od tmn tl cu pp li ty gv rm rs mk mv tm tt ct none none none none (by first | assumption | omega) (by first | assumption | omega) hM hg hmv hmk htn ⟨by omega, by omega⟩ (fun c p h1 h2 h3 => by have := h2.1; omega) (by omega) 
      intro r_13 od_14 pp_15 li_16 ty_17 gv_18 rm_19 rs_20 mk_21 mv_22 tm_23 tt_24 ct_25 tmn_26 tl_27 cu_28 f29 f30 f31 f32 f33 f34 f35
      show (fun (rv : Option Value) (h : AmH) => ∃ r : Int, ∃ od' : Int → Int, ∃ pp' : Int → Int, ∃ li' : Int → Int, ∃ ty' : Int → Int, ∃ gv' : Int → Int, ∃ rm' : Int, ∃ rs' : Int → Int, ∃ mk' : Int → Int, ∃ mv' : Int, ∃ tm' : Int, ∃ tt' : Int → Int, ∃ ct' : Int → Int, ∃ tmn' : Int, ∃ tl' : Int → Int, ∃ cu' : Int → Int, rv = some (.long (jz r)) ∧ h = cmH (u1 (u1 (u1 (u1 (u1 (u1 (u1 (u1 (u1 (u1 z 0 0) 21 K) 22 pi_) 23 len) 24 tr) 28 M) 39 rm') 40 mv') 46 tmn') 47 tm') zl (uf (uf (uf (uf (uf (uf (uf (uf (uf (uf (uf f 5 va) 8 prr) 9 pu) 10 pp') 11 li') 12 ty') 16 mk') 17 gv') 20 cu') 21 ct') 22 od') (uf (uf (uf fl 15 rs') 18 tl') 19 tt') tx ∧ mtI K pp' li' ty' p0 p1 t ∧ (∀ k : Int, 0 ≤ k → k < 4 → 0 ≤ gv' k ∧ gv' k ≤ 4) ∧ 0 ≤ mv' ∧ (∀ j : Int, 0 ≤ j → j < 72000 → 0 ≤ mk' j ∧ mk' j ≤ mv') ∧ (0 ≤ tmn' ∧ tmn' ≤ 200) ∧ (mv ≤ mv' ∧ mv' ≤ mv + 12800000) ∧ (((what < 0 ∨ 1 < what ∨ m < 1 ∨ 2 < m ∨ M < m) ∧ r = -1) ∨ (0 ≤ what ∧ what ≤ 1 ∧ 1 ≤ m ∧ m ≤ 2 ∧ m ≤ M ∧ ∃ a b, dwR (fun v r => faR (fun l r => thR w K tr len pi_ prr (fun c k => pu (4 * c + k)) l (fun u => u = v) r) m.toNat r) K (min 3 len) a b ∧ r = if what = 0 then a else b))) (some (Value.long (jz r_13))) (cmH (u1 (u1 (u1 (u1 (u1 (u1 (u1 (u1 (u1 (u1 z 0 0) 21 K) 22 pi_) 23 len) 24 tr) 28 M) 39 rm_19) 40 mv_22) 46 tmn_26) 47 tm_23) zl (uf (uf (uf (uf (uf (uf (uf (uf (uf (uf (uf f 5 va) 8 prr) 9 pu) 10 pp_15) 11 li_16) 12 ty_17) 16 mk_21) 17 gv_18) 20 cu_28) 21 ct_25) 22 od_14) (uf (uf (uf fl 15 rs_20) 18 tl_27) 19 tt_24) tx)
      exact ⟨_, _, _, _, _, _, _, _, _, _, _, _, _, _, _, _, rfl, rfl, f29, f30, f31, f32, f33, f34, Or.inr ⟨by omega, by omega, by omega, by omega, by omega, f35⟩⟩
    · refine Rx.walk 1 (pc' := 36) (L' := [some (.ref 0), some (.int (iz m)), some (.int (iz what)), none, none, none, none, none]) (st' := [.long (jz (-1))]) (h' := cmH (u1 (u1 (u1 (u1 (u1 (u1 (u1 (u1 (u1 (u1 z 0 0) 21 K) 22 pi_) 23 len) 24 tr) 28 M) 39 rm) 40 mv) 46 tmn) 47 tm) zl (uf (uf (uf (uf (uf (uf (uf (uf (uf (uf (uf f 5 va) 8 prr) 9 pu) 10 pp) 11 li) 12 ty) 16 mk) 17 gv) 20 cu) 21 ct) 22 od) (uf (uf (uf fl 15 rs) 18 tl) 19 tt) tx) rfl ?_
      refine Rx.ret rfl ?_
      exact ⟨_, _, _, _, _, _, _, _, _, _, _, _, _, _, _, _, rfl, rfl, hM, hg, hmv, hmk, htn, ⟨by omega, by omega⟩, Or.inl ⟨by omega, rfl⟩⟩

/-! customers and rules told anew: what of the others stays (pure) -/
theorem gOK_cg {K : Int} {cn cn' gv : Int → Int} (h : ∀ k : Int, 0 ≤ k → k < K → cn' k = cn k) : gOK K cn gv ↔ gOK K cn' gv :=
  ⟨fun g k k0 k1 => by rw [h k k0 k1]; exact g k k0 k1, fun g k k0 k1 => by rw [← h k k0 k1]; exact g k k0 k1⟩
theorem hG_cgv {gv gv' : Int → Int} : ∀ n : Nat, (∀ k : Int, 0 ≤ k → k < n → gv' k = gv k) → hG gv' n = hG gv n
  | 0, _ => rfl
  | n + 1, h => by
    show List.replicate (gv' n).toNat ((n : Int) + 1) ++ hG gv' n = List.replicate (gv n).toNat ((n : Int) + 1) ++ hG gv n
    rw [h n (by omega) (by omega), hG_cgv n (fun k k0 k1 => h k k0 (by omega))]
theorem giS_cg {w : Int → Int} {K pr : Int} {cn cn' : Int → Int} (h : ∀ k : Int, 0 ≤ k → k < K → cn' k = cn k) : giS w K pr cn' = giS w K pr cn := by
  funext l
  exact propext ⟨fun ⟨gv, a, r⟩ => ⟨gv, (gOK_cg h).mpr a, r⟩, fun ⟨gv, a, r⟩ => ⟨gv, (gOK_cg h).mp a, r⟩⟩
theorem cuG_cg {X : CuR} {w : Int → Int} {K pr : Int} {cn cn' : Int → Int} (h : ∀ k : Int, 0 ≤ k → k < K → cn' k = cn k) (g : cuG X w K pr cn) : cuG X w K pr cn' := by
  refine ⟨fun s s0 s1 => ?_, fun gv a r => g.2 gv ((gOK_cg h).mpr a) r⟩
  obtain ⟨gv, a, r⟩ := g.1 s s0 s1
  exact ⟨gv, (gOK_cg h).mp a, r⟩
theorem cuH_cg {X : CuR} {w : Int → Int} {K pr : Int} {cn cn' : Int → Int} (h : ∀ k : Int, 0 ≤ k → k < K → cn' k = cn k) (g : cuH X w K pr cn) : cuH X w K pr cn' := by
  unfold cuH
  rw [giS_cg h]
  exact g
theorem cuQ_cg {X : CuR} {K pr : Int} {cn cn' : Int → Int} (h : ∀ k : Int, 0 ≤ k → k < K → cn' k = cn k) (g : cuQ X K pr cn) : cuQ X K pr cn' := by
  obtain ⟨g1, g2, g3, g4, g5, g6⟩ := g
  refine ⟨g1, g2, g3, g4, ?_, fun k k0 k1 => by rw [h k k0 k1]; exact g6 k k0 k1⟩
  rw [hG_cgv K.toNat (fun k k0 k1 => h k k0 (by omega))]
  exact g5
theorem cuA_cg {C : Nat → CuR} {w : Int → Int} {K M : Int} {prs prs' : Int → Int} {cns cns' : Int → Int → Int} (h : cuA C w K M prs cns) (hp : ∀ c : Int, 0 ≤ c → c < M → prs' c = prs c) (hc : ∀ c k : Int, 0 ≤ c → c < M → 0 ≤ k → k < K → cns' c k = cns c k) : cuA C w K M prs' cns' :=
  ⟨h.1, h.2.1, fun c c0 c1 => ⟨(h.2.2 c c0 c1).1, by rw [hp c c0 c1]; exact cuG_cg (fun k k0 k1 => hc c k c0 c1 k0 k1) (h.2.2 c c0 c1).2⟩⟩
theorem cuB_cg {C : Nat → CuR} {w : Int → Int} {K M : Int} {prs prs' : Int → Int} {cns cns' : Int → Int → Int} (h : cuB C w K M prs cns) (hp : ∀ c : Int, 0 ≤ c → c < M → prs' c = prs c) (hc : ∀ c k : Int, 0 ≤ c → c < M → 0 ≤ k → k < K → cns' c k = cns c k) : cuB C w K M prs' cns' :=
  fun c c0 c1 => by rw [hp c c0 c1]; exact ⟨cuH_cg (fun k k0 k1 => hc c k c0 c1 k0 k1) (h c c0 c1).1, cuQ_cg (fun k k0 k1 => hc c k c0 c1 k0 k1) (h c c0 c1).2⟩
theorem sR_cg {K : Int} {cn cn' : Int → Int} (h : ∀ k : Int, 0 ≤ k → k < K → cn' k = cn k) : ∀ r : Nat, (r : Int) ≤ K → sR K cn' r = sR K cn r
  | 0, _ => rfl
  | r + 1, hr => by
    show cn' (K - 1 - r) + sR K cn' r = cn (K - 1 - r) + sR K cn r
    rw [h _ (by omega) (by omega), sR_cg h r (by omega)]
theorem pC_cg {K : Int} {cn cn' : Int → Int} (h : ∀ k : Int, 0 ≤ k → k < K → cn' k = cn k) : ∀ r : Nat, (r : Int) ≤ K → pC K cn' r = pC K cn r
  | 0, _ => rfl
  | r + 1, hr => by
    show (cn' (K - 1 - r) + 1) * pC K cn' r = (cn (K - 1 - r) + 1) * pC K cn r
    rw [h _ (by omega) (by omega), pC_cg h r (by omega)]
theorem cuM_cg {K M : Int} {pu pu' prr prr' : Int → Int} (hK : 0 ≤ K) (h : cuM K M pu prr) (hp : ∀ c : Int, 0 ≤ c → c < M → prr' c = prr c) (hc : ∀ c k : Int, 0 ≤ c → c < M → 0 ≤ k → k < K → pu' (4 * c + k) = pu (4 * c + k)) : cuM K M pu' prr' := by
  refine ⟨h.1, h.2.1, fun c c0 c1 => ?_⟩
  obtain ⟨m1, m2, m3, m4⟩ := h.2.2 c c0 c1
  refine ⟨fun k k0 k1 => by rw [hc c k c0 c1 k0 k1]; exact m1 k k0 k1, ?_, ?_, by rw [hp c c0 c1]; exact m4⟩
  · rw [sR_cg (cn := fun k => pu (4 * c + k)) (cn' := fun k => pu' (4 * c + k)) (fun k k0 k1 => hc c k c0 c1 k0 k1) K.toNat (by omega)]; exact m2
  · rw [pC_cg (cn := fun k => pu (4 * c + k)) (cn' := fun k => pu' (4 * c + k)) (fun k k0 k1 => hc c k c0 c1 k0 k1) K.toNat (by omega)]; exact m3
/-! one customer more -/
theorem cuA_add {C : Nat → CuR} {w : Int → Int} {K M : Int} {m : Nat} {prs prs' : Int → Int} {cns cns' : Int → Int → Int} {X : CuR} (hm : M = (m : Int)) (h4 : M < 4) (h : cuA C w K M prs cns) (hp : ∀ c : Int, 0 ≤ c → c < M → prs' c = prs c) (hc : ∀ c k : Int, 0 ≤ c → c < M → 0 ≤ k → k < K → cns' c k = cns c k) (hX : cuI X ∧ cuG X w K (prs' M) (cns' M)) : cuA (uC C m X) w K (M + 1) prs' cns' := by
  refine ⟨by omega, by omega, fun c c0 c1 => ?_⟩
  by_cases e : c = M
  · rw [e, hm, Int.toNat_natCast, uC_at, ← hm]; exact hX
  · rw [uC_ne C X (by omega)]
    exact (cuA_cg h hp hc).2.2 c c0 (by omega)
theorem cuB_add {C : Nat → CuR} {w : Int → Int} {K M : Int} {m : Nat} {prs prs' : Int → Int} {cns cns' : Int → Int → Int} {X : CuR} (hm : M = (m : Int)) (h : cuB C w K M prs cns) (hp : ∀ c : Int, 0 ≤ c → c < M → prs' c = prs c) (hc : ∀ c k : Int, 0 ≤ c → c < M → 0 ≤ k → k < K → cns' c k = cns c k) (hX : cuH X w K (prs' M) (cns' M) ∧ cuQ X K (prs' M) (cns' M)) : cuB (uC C m X) w K (M + 1) prs' cns' := by
  intro c c0 c1
  by_cases e : c = M
  · rw [e, hm, Int.toNat_natCast, uC_at, ← hm]; exact hX
  · rw [uC_ne C X (by omega)]
    exact cuB_cg h hp hc c c0 (by omega)
theorem pC_2 {K : Int} {cn : Int → Int} (h : ∀ k : Int, 0 ≤ k → k < K → 0 ≤ cn k) : ∀ r : Nat, (r : Int) ≤ K → 0 ≤ sR K cn r ∧ 0 ≤ pC K cn r ∧ pC K cn r ≤ 2 ^ (sR K cn r).toNat
  | 0, _ => ⟨Int.le_refl _, by show (0 : Int) ≤ 1; decide, by show (1 : Int) ≤ 2 ^ (0 : Int).toNat; decide⟩
  | r + 1, hr => by
    obtain ⟨a, p, q⟩ := pC_2 h r (by omega)
    have hx := h (K - 1 - r) (by omega) (by omega)
    show 0 ≤ cn (K - 1 - r) + sR K cn r ∧ 0 ≤ (cn (K - 1 - r) + 1) * pC K cn r ∧ (cn (K - 1 - r) + 1) * pC K cn r ≤ 2 ^ (cn (K - 1 - r) + sR K cn r).toNat
    generalize cn (K - 1 - r) = x at hx ⊢
    generalize sR K cn r = s at a q ⊢
    generalize pC K cn r = P at p q ⊢
    refine ⟨by omega, Int.mul_nonneg (by omega) p, ?_⟩
    rw [show (x + s).toNat = x.toNat + s.toNat by omega, Int.pow_add]
    have h2 : x + 1 ≤ 2 ^ x.toNat := by
      have := @Nat.lt_two_pow_self x.toNat
      have e : ((2 ^ x.toNat : Nat) : Int) = 2 ^ x.toNat := by push_cast; rfl
      rw [← e]
      omega
    exact Int.mul_le_mul h2 q p (by omega)
theorem cnt_4 (l : List Int) : l.count 0 + l.count 1 + l.count 2 + l.count 3 ≤ l.length := by
  induction l with
  | nil => exact Nat.le_refl _
  | cons x l ih =>
    rw [List.count_cons, List.count_cons, List.count_cons, List.count_cons, List.length_cons]
    have e : ∀ y : Int, (if (x == y) = true then 1 else 0 : Nat) = if x = y then 1 else 0 := fun y => by
      by_cases q : x = y
      · rw [if_pos q, if_pos (beq_iff_eq.mpr q)]
      · rw [if_neg q, if_neg (fun z => q (beq_iff_eq.mp z))]
    rw [e 0, e 1, e 2, e 3]
    by_cases h0 : x = 0
    · rw [if_pos h0, if_neg (by omega), if_neg (by omega), if_neg (by omega)]; omega
    · rw [if_neg h0]
      by_cases h1 : x = 1
      · rw [if_pos h1, if_neg (by omega), if_neg (by omega)]; omega
      · rw [if_neg h1]
        by_cases h2 : x = 2
        · rw [if_pos h2, if_neg (by omega)]; omega
        · rw [if_neg h2]
          split <;> omega
theorem sR_cnt {K : Int} {l : List Int} {cn : Int → Int} (h1 : 1 ≤ K) (h4 : K ≤ 4) (h : ∀ k : Int, 0 ≤ k → k < K → cn k = (l.count k : Int)) : sR K cn K.toNat ≤ l.length := by
  have h9 := cnt_4 l
  rcases (show K = 1 ∨ K = 2 ∨ K = 3 ∨ K = 4 by omega) with q | q | q | q <;> subst q
  · have e0 := h 0 (by omega) (by omega)
    show cn (1 - 1 - (0 : Nat)) + 0 ≤ (l.length : Int)
    rw [show (1 : Int) - 1 - (0 : Nat) = 0 by omega]
    omega
  · have e0 := h 0 (by omega) (by omega)
    have e1 := h 1 (by omega) (by omega)
    show cn (2 - 1 - (1 : Nat)) + (cn (2 - 1 - (0 : Nat)) + 0) ≤ (l.length : Int)
    rw [show (2 : Int) - 1 - (0 : Nat) = 1 by omega, show (2 : Int) - 1 - (1 : Nat) = 0 by omega]
    omega
  · have e0 := h 0 (by omega) (by omega)
    have e1 := h 1 (by omega) (by omega)
    have e2 := h 2 (by omega) (by omega)
    show cn (3 - 1 - (2 : Nat)) + (cn (3 - 1 - (1 : Nat)) + (cn (3 - 1 - (0 : Nat)) + 0)) ≤ (l.length : Int)
    rw [show (3 : Int) - 1 - (0 : Nat) = 2 by omega, show (3 : Int) - 1 - (1 : Nat) = 1 by omega, show (3 : Int) - 1 - (2 : Nat) = 0 by omega]
    omega
  · have e0 := h 0 (by omega) (by omega)
    have e1 := h 1 (by omega) (by omega)
    have e2 := h 2 (by omega) (by omega)
    have e3 := h 3 (by omega) (by omega)
    show cn (4 - 1 - (3 : Nat)) + (cn (4 - 1 - (2 : Nat)) + (cn (4 - 1 - (1 : Nat)) + (cn (4 - 1 - (0 : Nat)) + 0))) ≤ (l.length : Int)
    rw [show (4 : Int) - 1 - (0 : Nat) = 3 by omega, show (4 : Int) - 1 - (1 : Nat) = 2 by omega, show (4 : Int) - 1 - (2 : Nat) = 1 by omega, show (4 : Int) - 1 - (3 : Nat) = 0 by omega]
    omega
theorem cuM_add {K M : Int} {pu pu' prr prr' : Int → Int} {l : List Int} (h1 : 1 ≤ K) (hK4 : K ≤ 4) (h4 : M < 4) (h : cuM K M pu prr) (hp : ∀ c : Int, 0 ≤ c → c < M → prr' c = prr c) (hc : ∀ c k : Int, 0 ≤ c → c < M → 0 ≤ k → k < K → pu' (4 * c + k) = pu (4 * c + k)) (hl : l.length ≤ 4) (hn : ∀ k : Int, 0 ≤ k → k < 4 → pu' (4 * M + k) = (l.count k : Int)) (hpr : 1 ≤ prr' M ∧ prr' M ≤ 99) : cuM K (M + 1) pu' prr' := by
  have hM := h.1
  refine ⟨by omega, by omega, fun c c0 c1 => ?_⟩
  by_cases e : c = M
  · subst e
    have hs := sR_cnt (cn := fun k => pu' (4 * c + k)) h1 hK4 (fun k k0 k1 => hn k k0 (by omega))
    have hpos : ∀ k : Int, 0 ≤ k → k < K → 0 ≤ (fun k => pu' (4 * c + k)) k := fun k k0 k1 => by show 0 ≤ pu' (4 * c + k); rw [hn k k0 (by omega)]; omega
    obtain ⟨a, p, q⟩ := pC_2 hpos K.toNat (by omega)
    refine ⟨fun k k0 k1 => ?_, by omega, Int.le_trans q ?_, hpr⟩
    · rw [hn k k0 (by omega)]
      have := List.count_le_length (a := k) (l := l)
      omega
    · have e4 : (sR K (fun k => pu' (4 * c + k)) K.toNat).toNat ≤ 4 := by omega
      have := Nat.pow_le_pow_right (n := 2) (by decide) e4
      have e : ((2 ^ (sR K (fun k => pu' (4 * c + k)) K.toNat).toNat : Nat) : Int) = 2 ^ (sR K (fun k => pu' (4 * c + k)) K.toNat).toNat := by push_cast; rfl
      rw [← e]
      omega
  · exact (cuM_cg (by omega) h hp hc).2.2 c c0 (by omega)
/-! one rule more -/
theorem ruC_app {tl : AmH} {r : Nat} {sz : Int} {V : (Int → Int) → Int} (e : AmE) (h : ruC tl r sz V) : ruC (tl ++ [e]) r sz V := by
  obtain ⟨ln, cd, ⟨a1, a2⟩, h2⟩ := h
  refine ⟨ln, cd, ⟨a1, ?_⟩, h2⟩
  rw [am_nth_eq] at a2 ⊢
  rw [List.getElem?_append_left (List.getElem?_eq_some_iff.mp a2).1]
  exact a2
theorem crem_lsI (cd : Int → Int) : ∀ (n : Nat) (i : Int), crem cd i n = (List.range n).map (fun j : Nat => cd (i + (j : Int)))
  | 0, _ => rfl
  | n + 1, i => by
    rw [List.range_succ_eq_map, List.map_cons, List.map_map]
    show cd i :: crem cd (i + 1) n = _
    rw [crem_lsI cd n (i + 1)]
    congr 1
    · congr 1; push_cast; omega
    · refine List.map_congr_left (fun j _ => ?_)
      show cd (i + 1 + j) = cd (i + ((j + 1 : Nat) : Int))
      congr 1; push_cast; omega
theorem ruC_new {tl : AmH} {sz : Int} {cd : Int → Int} {n : Int} {b : Int → Int} {Rt : RuT} (hRt : Rt = ruleL n b 161 0) (hY : Rt.1 = true) (h0 : 0 ≤ sz) (h1 : sz ≤ 160) (hs : sz = Rt.2.2.1.length) (hl : lsI sz.toNat cd = Rt.2.2.1) : ruC (tl ++ [.inl (.int, sz.toNat, .inl (av (cpI cd (fun _ => 0) sz.toNat)))]) (tl.length + 98) sz (fun L => fnd L Rt.2.2.2) := by
  have hcp : ∀ j : Int, 0 ≤ j → j < sz → cpI cd (fun _ => 0) sz.toNat j = cd j := fun j j0 j1 => cpI_lt j0 (by omega)
  have hcr : crem (cpI cd (fun _ => 0) sz.toNat) 0 sz.toNat = Rt.2.2.1 := by
    rw [← hl, crem_lsI]
    unfold lsI
    refine List.map_congr_left (fun j hj => ?_)
    have := List.mem_range.mp hj
    rw [hcp _ (by omega) (by omega), Int.zero_add]
  refine ⟨sz.toNat, cpI cd (fun _ => 0) sz.toNat, ⟨by omega, ?_⟩, ⟨h0, by omega, by omega⟩, fun j j0 j1 => ?_, ?_⟩
  · rw [am_nth_eq, show tl.length + 98 - 98 = tl.length by omega, List.getElem?_append_right (Nat.le_refl _), Nat.sub_self]; rfl
  · rw [hcp j j0 j1]
    have hm : cd j ∈ Rt.2.2.1 := by rw [← hl]; exact mem_lsI.mpr ⟨j, j0, by omega, rfl⟩
    rw [hRt] at hm hY
    exact ruleL_b 161 0 hY _ hm
  · rw [hcr, hRt]
    rw [hRt] at hY
    exact ruleL_V hY
theorem ruM_old {tb tb' tls : Int → Int} {ru R n : Int} {b : Int → Int} {Rt : RuT} (h : ruM tb tls ru b Rt) (h0 : 0 ≤ ru) (h1 : ru < R) (ht : ∀ j : Int, (j < 160 * R ∨ 160 * R + 160 ≤ j) → tb' j = tb j) : ruM tb' (iu tls R n) ru b Rt := by
  obtain ⟨a1, a2, a3, a4, a5⟩ := h
  have e : iu tls R n ru = tls ru := iu_ne _ _ (by omega)
  refine ⟨by rw [e]; exact a1, ?_, by rw [e]; exact a3, a4, by rw [e]; exact a5⟩
  rw [e]
  refine ⟨a2.1, a2.2.1, fun i i0 i1 => ?_⟩
  have := a1.2.1
  rw [ht _ (by omega)]
  exact a2.2.2 i i0 i1
theorem ruM_new {tb' tls : Int → Int} {R n : Int} {b : Int → Int} {Rt : RuT} (hT : tOK n b) (hm : mOK n (160 * R) 640 tb' b) (hRt : Rt = ruleL n b 161 0) (hY : Rt.1 = true ∧ sg n b Rt.2.1 = -1) : ruM tb' (iu tls R n) R b Rt := by
  have e : iu tls R n R = n := iu_at _ _ _
  exact ⟨by rw [e]; exact hT, by rw [e]; exact hm, by rw [e]; exact hRt, hY.1, by rw [e]; exact hY.2⟩
/-! what a shop's text may say -/
def ptV (s : Int × Int × Int) : Prop := (1 ≤ s.1 ∧ s.1 ≤ 2) ∧ (1 ≤ s.2.1 ∧ s.2.1 ≤ 5) ∧ (0 ≤ s.2.2 ∧ s.2.2 ≤ 1)
theorem ptV_s {s : Int × Int × Int} {w v : Int} (h : ptV s) (hw : w = 0 ∨ w = 1 ∨ w = 2) (h1 : ptLo w ≤ v) (h2 : v ≤ ptHi w) : ptV (ptS s w v) := by
  obtain ⟨a, c, d⟩ := h
  rcases hw with q | q | q <;> subst q
  · exact ⟨⟨h1, h2⟩, c, d⟩
  · exact ⟨a, ⟨h1, h2⟩, d⟩
  · exact ⟨a, c, ⟨h1, h2⟩⟩
theorem wd_b (e : Int) : wd e = 0 ∨ wd e = 1 ∨ wd e = 2 ∨ wd e = -1 := by
  unfold wd
  split
  · exact Or.inl rfl
  · split
    · exact Or.inr (Or.inl rfl)
    · split
      · exact Or.inr (Or.inr (Or.inl rfl))
      · exact Or.inr (Or.inr (Or.inr rfl))
theorem ptP_v {n : Int} {b : Int → Int} : ∀ (k : Nat) (t : Int) (s : Int × Int × Int) (a : Int), 0 ≤ t → 0 ≤ a → a ≤ n → ptV s → ∀ s', (ptP n b k t s a).2 = some s' → ptV s'
  | 0, t, s, a, _, _, _, hs, s', e => by
    have e : some s = some s' := e
    cases e; exact hs
  | k + 1, t, s, a, ht, h0, h1, hs, s', e => by
    have s1 := sks_le n b a
    have s2 := sks_n b h1
    by_cases hc : t < 3 ∧ sg n b (sks n b a) = 59
    · have hlt : sks n b a < n := by
        rcases Int.lt_or_le (sks n b a) n with x | x
        · exact x
        · have := hc.2; rw [sg_ge x] at this; omega
      have s3 := sks_le n b (sks n b a + 1)
      have s4 := sks_n b (show sks n b a + 1 ≤ n by omega)
      by_cases hw : wd (sg n b (sks n b (sks n b a + 1))) < t
      · rw [ptP_w hc hw] at e
        cases e
      · rcases Int.lt_or_le (sks n b (sks n b a + 1)) n with x | x
        · have hp := nmP_props (n := n) (b := b) (lo := ptLo (wd (sg n b (sks n b (sks n b a + 1))))) (hi := ptHi (wd (sg n b (sks n b (sks n b a + 1))))) (a := sks n b (sks n b a + 1) + 1) (by omega) (by omega)
          cases e2 : (nmP n b (ptLo (wd (sg n b (sks n b (sks n b a + 1))))) (ptHi (wd (sg n b (sks n b (sks n b a + 1))))) (sks n b (sks n b a + 1) + 1)).2 with
          | none => rw [ptP_n hc rfl hw e2] at e; cases e
          | some v =>
            rw [ptP_s hc rfl hw e2] at e
            have hb := hp.2.2 v e2
            have hwb := wd_b (sg n b (sks n b (sks n b a + 1)))
            exact ptP_v k _ _ _ (by omega) hp.1 hp.2.1 (ptV_s hs (by omega) hb.1 hb.2.1) s' e
        · have q1 := sg_ge (b := b) x
          rw [q1] at hw
          have q2 : wd (-1) = -1 := by decide
          rw [q2] at hw
          omega
    · rw [ptP_e hc] at e
      cases e; exact hs
theorem vlP_len {n : Int} {b : Int → Int} : ∀ (k : Nat) (la a : Int) (l : List Int), (vlP n b k la a).2 = some l → l.length ≤ k
  | 0, la, a, l, e => by
    have e : some [] = some l := e
    cases e; exact Nat.le_refl _
  | k + 1, la, a, l, e => by
    cases e2 : (nmP n b (la + 1) 99 a).2 with
    | none => rw [vlP_n e2] at e; cases e
    | some v =>
      by_cases hk : k = 0
      · subst hk
        rw [vlP_4 e2] at e
        cases e; exact Nat.le_refl _
      · by_cases h2 : sg n b (sks n b (nmP n b (la + 1) 99 a).1) = 44
        · rw [vlP_c e2 hk h2] at e
          obtain ⟨l', e3, rfl⟩ := Option.map_eq_some_iff.mp e
          have := vlP_len k _ _ l' e3
          rw [List.length_cons]
          omega
        · rw [vlP_e e2 hk h2] at e
          cases e; show 1 ≤ k + 1; omega
theorem shP_v {n : Int} {b : Int → Int} {l : List Int} {s : Int × Int × Int} (hn : 0 ≤ n) (h : shP n b = (-1, some (l, s))) : l.length ≤ 4 ∧ ptV s := by
  have s1 := sks_le n b 0
  have s2 := sks_n b (a := 0) hn
  by_cases h1 : sg n b (sks n b 0) = 99
  · have hlt : sks n b 0 < n := by
      rcases Int.lt_or_le (sks n b 0) n with q | q
      · exact q
      · rw [sg_ge q] at h1; omega
    have hv := vlP_props (n := n) (b := b) 4 0 (sks n b 0 + 1) (by omega) (by omega) (by omega)
    cases h2 : (vlP n b 4 0 (sks n b 0 + 1)).2 with
    | none => rw [shP_2 h1 h2] at h; cases (congrArg Prod.snd h)
    | some l' =>
      have hp := ptP_props (n := n) (b := b) 3 0 (1, 5, 1) (vlP n b 4 0 (sks n b 0 + 1)).1 (by omega) hv.1 hv.2
      cases h3 : (ptP n b 3 0 (1, 5, 1) (vlP n b 4 0 (sks n b 0 + 1)).1).2 with
      | none => rw [shP_3 h1 h2 h3] at h; cases (congrArg Prod.snd h)
      | some s' =>
        by_cases h4 : sg n b (ptP n b 3 0 (1, 5, 1) (vlP n b 4 0 (sks n b 0 + 1)).1).1 = -1
        · rw [shP_4 h1 h2 h3 h4] at h
          have e := congrArg Prod.snd h
          simp only [Option.some.injEq, Prod.mk.injEq] at e
          obtain ⟨rfl, rfl⟩ := e
          exact ⟨vlP_len 4 _ _ _ h2, ptP_v 3 0 (1, 5, 1) _ (by omega) hv.1 hv.2 ⟨⟨by decide, by decide⟩, ⟨by decide, by decide⟩, ⟨by decide, by decide⟩⟩ _ h3⟩
        · rw [shP_5 h1 h2 h3 h4] at h; cases (congrArg Prod.snd h)
  · rw [shP_1 h1] at h; cases (congrArg Prod.snd h)
theorem lst_eq {g g' : Int → Int} {l : List Int} (h : lst g 0 l) (h' : lst g' 1 l) : ∀ k : Int, 0 ≤ k → k < l.length → g k = g' (k + 1) := by
  intro k k0 k1
  have hk : k.toNat < l.length := by omega
  have e1 := lst_at h k.toNat (l[k.toNat]) (List.getElem?_eq_getElem hk)
  have e2 := lst_at h' k.toNat (l[k.toNat]) (List.getElem?_eq_getElem hk)
  rw [show (0 : Int) + (k.toNat : Int) = k by omega] at e1
  rw [show (1 : Int) + (k.toNat : Int) = k + 1 by omega] at e2
  rw [e1, e2]
/-- a table with one place more -/
def uQ {α : Type} (g : Int → α) (k : Int) (x : α) : Int → α := fun i => if i = k then x else g i
theorem uQ_at {α : Type} (g : Int → α) (k : Int) (x : α) : uQ g k x k = x := if_pos rfl
theorem uQ_ne {α : Type} (g : Int → α) {k i : Int} (x : α) (h : i ≠ k) : uQ g k x i = g i := if_neg h

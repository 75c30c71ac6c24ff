/-! the texts of the model: number, shop, customer, fault (printed by wip/whole/gentxm.py) -/
set_option maxRecDepth 100000 in
set_option maxHeartbeats 4000000 in
theorem m_num (d : Nat) (z : Nat → Int) (zl : Nat → Int) (f : Nat → Int → Int) (fl : Nat → Int → Int) (tx : Nat)  (lo : Int) (hi : Int) (n : Int) (a : Int) (bg : Int) (tb : Int → Int) (b : Int → Int) (hT : tOK n b) (hM : mOK n bg 160 tb b) (ha : 0 ≤ a ∧ a ≤ n) (hlo : bI lo) (hhi : bI hi) : Rx (d + 1) m_X12_number 0 (am_ent [.ref 0, .int (iz lo), .int (iz hi)] 5) [] (cmH (u1 (u1 (u1 (u1 z 8 bg) 9 n) 10 a) 11 (-1)) zl (uf f 1 tb) fl 1) (fun rv h => ∃ r : Int, ∃ a' : Int, ∃ fa' : Int, rv = some (.int (iz r)) ∧ h = cmH (u1 (u1 (u1 (u1 z 8 bg) 9 n) 10 a') 11 fa') zl (uf f 1 tb) fl 1 ∧ ((∃ v, (nmP n b lo hi a).2 = some v ∧ r = v ∧ fa' = -1) ∨ ((nmP n b lo hi a).2 = none ∧ r = -1 ∧ fa' = a')) ∧ a' = (nmP n b lo hi a).1 ∧ (0 ≤ a' ∧ a' ≤ n) ∧ (r = -1 ∨ (lo ≤ r ∧ r ≤ hi)) ∧ (fa' = -1 ∨ (0 ≤ fa' ∧ fa' ≤ 160))) := by
  have hn := hT.2.1
  have hp := nmP_props (n := n) (b := b) (lo := lo) (hi := hi) ha.1 ha.2
  refine (r_number d z zl (uf f 1 tb) fl n a bg lo hi b hT hM ha.1 ha.2 hlo hhi).mono (fun rv h q => ?_)
  rcases q with ⟨v, q1, q2, q3⟩ | ⟨q1, q2, q3⟩
  · exact ⟨_, _, _, q2, q3, Or.inl ⟨v, q1, rfl, rfl⟩, rfl, ⟨hp.1, hp.2.1⟩, Or.inr ⟨(hp.2.2 v q1).1, (hp.2.2 v q1).2.1⟩, Or.inl rfl⟩
  · exact ⟨_, _, _, q2, q3, Or.inr ⟨q1, rfl, rfl⟩, rfl, ⟨hp.1, hp.2.1⟩, Or.inl rfl, Or.inr ⟨hp.1, by omega⟩⟩
set_option maxRecDepth 100000 in
set_option maxHeartbeats 4000000 in
theorem m_rShop (d : Nat) (z : Nat → Int) (zl : Nat → Int) (f : Nat → Int → Int) (fl : Nat → Int → Int) (tx : Nat)  (n : Int) (tb : Int → Int) (b : Int → Int) (hT : tOK n b) (hM : mOK n 0 160 tb b) : Rx (d + 2) m_X12_readShop 0 (am_ent [.ref 0] 5) [] (cmH (u1 z 6 n) zl (uf f 1 tb) fl tx) (fun rv h => ∃ a' : Int, ∃ fa' : Int, ∃ K' : Int, ∃ gm' : Int → Int, ∃ gw' : Int → Int, rv = none ∧ h = cmH (u1 (u1 (u1 (u1 (u1 (u1 z 6 n) 8 0) 9 n) 10 a') 11 fa') 25 K') zl (uf (uf (uf f 1 tb) 6 gm') 7 gw') fl 1 ∧ fa' = (shP n b).1 ∧ (0 ≤ K' ∧ K' ≤ 4) ∧ (0 ≤ a' ∧ a' ≤ n) ∧ (∀ (l : List Int) (s : Int × Int × Int), (shP n b).2 = some (l, s) → K' = l.length ∧ lst gm' 0 l ∧ s = (gw' 0, gw' 1, gw' 2))) := by
  refine (r_readShop d z zl (uf f 1 tb) fl tx n b hT hM).mono (fun rv h q => ?_)
  obtain ⟨q1, K', gm', gw', a', q2, q3, q4, q5, q6, q7⟩ := q
  exact ⟨_, _, _, _, _, q1, q6, rfl, ⟨q2, q3⟩, ⟨q4, q5⟩, q7⟩
/-- coins read so far by the model: l1 of them -/
def cnE (n : Int) (b : Int → Int) (K : Int) (k : Nat) (a : Int) (L : Int × List Int) (l1 : List Int) : Prop := L.1 = (cnP n b K k a).1 ∧ L.2 = l1 ++ (cnP n b K k a).2 ∧ l1.length + k = 4
theorem cnE_s {n : Int} {b : Int → Int} {K : Int} {k : Nat} {a : Int} {L : Int × List Int} {l1 : List Int} (h : cnE n b K (k + 1) a L l1) (h2 : 97 ≤ sg n b (sks n b a) ∧ sg n b (sks n b a) - 97 < K) : cnE n b K k (sks n b a + 1) L (l1 ++ [sg n b (sks n b a) - 97]) := by
  obtain ⟨e1, e2, e⟩ := h
  rw [cnP_t h2] at e1 e2
  refine ⟨e1, by rw [e2, List.append_assoc]; rfl, ?_⟩
  rw [List.length_append]; show l1.length + 1 + k = 4; omega
theorem cnE_k {n : Int} {b : Int → Int} {K : Int} {k : Nat} {a : Int} {L : Int × List Int} {l1 : List Int} (h : cnE n b K k a L l1) : cnE n b K k (sks n b a) L l1 := by
  unfold cnE; rw [cnP_sk]; exact h
theorem cnE_e {n : Int} {b : Int → Int} {K : Int} {k : Nat} {a : Int} {L : Int × List Int} {l1 : List Int} (h : cnE n b K k a L l1) (h2 : k = 0 ∨ ¬ (97 ≤ sg n b (sks n b a) ∧ sg n b (sks n b a) - 97 < K)) : L.1 = sks n b a ∧ L.2 = l1 := by
  obtain ⟨e1, e2, e⟩ := h
  have hc : cnP n b K k a = (sks n b a, []) := by
    rcases h2 with rfl | h2
    · rfl
    · exact cnP_f h2
  rw [hc] at e1 e2
  exact ⟨e1, by rw [e2]; exact List.append_nil _⟩
/-- what the model's reading of coins leaves -/
def cnF (n : Int) (b : Int → Int) (L : Int × List Int) (fa : Int) (pu : Int → Int) : Prop := (fa = L.1 ∧ (L.2 = [] ∨ sg n b L.1 ≠ -1)) ∨ (fa = -1 ∧ L.2 ≠ [] ∧ sg n b L.1 = -1 ∧ ∀ k : Int, 0 ≤ k → k < 4 → pu (16 + k) = (L.2.count k : Int))
/-- the counts of a purse that is being read -/
def cnt4 (pu : Int → Int) (l : List Int) : Prop := ∀ k : Int, 0 ≤ k → k < 4 → pu (16 + k) = (l.count k : Int)
theorem cnt4_s {pu : Int → Int} {l : List Int} {e : Int} (h : cnt4 pu l) (e0 : 0 ≤ e) (e4 : e < 4) : cnt4 (iu pu (16 + e) (pu (16 + e) + 1)) (l ++ [e]) := by
  intro k k0 k4
  rw [List.count_append, List.count_singleton]
  by_cases q : k = e
  · subst q; rw [iu_at, h k k0 k4]; simp
  · rw [iu_ne _ _ (by omega), h k k0 k4]
    have : (e == k) = false := by simpa using fun x => q x.symm
    rw [this]; simp
theorem cnt4_b {pu : Int → Int} {l : List Int} (h : cnt4 pu l) {k : Int} (k0 : 0 ≤ k) (k4 : k < 4) : 0 ≤ pu (16 + k) ∧ pu (16 + k) ≤ l.length := by
  rw [h k k0 k4]; have := List.count_le_length (a := k) (l := l); omega
set_option maxRecDepth 100000 in
set_option maxHeartbeats 4000000 in
theorem m_rCust_l (d : Nat) (z : Nat → Int) (zl : Nat → Int) (f : Nat → Int → Int) (fl : Nat → Int → Int) (tx : Nat)  (n : Int) (tb : Int → Int) (b : Int → Int) (K : Int) (pu0 : Int → Int) (Lc : Int × List Int) (hT : tOK n b) (hM : mOK n 0 160 tb b) (hK : 0 ≤ K ∧ K ≤ 4) (P : Option Value → AmH → Prop) (hx0 : ∀ (a' : Int) (fa' : Int) (pu' : Int → Int), (0 ≤ a' ∧ a' ≤ n) → (fa' = -1 ∨ (0 ≤ fa' ∧ fa' ≤ 160)) → (cnF n b Lc fa' pu') → (∀ j : Int, 0 ≤ j → j < 16 → pu' j = pu0 j) → P (none) (cmH (u1 (u1 (u1 (u1 (u1 z 8 0) 9 n) 10 a') 11 fa') 21 K) zl (uf (uf f 1 tb) 9 pu') fl 1)) : ∀ (kF : Nat) (i : Int) (a : Int) (pu : Int → Int) (l1 : List Int) (w3 : Option Value), (0 ≤ a ∧ a ≤ n) → (0 ≤ i ∧ i ≤ 4) → (i = (l1.length : Int)) → (cnE n b (k4 K) (4 - i).toNat a Lc l1) → (i = 0 ∨ sg n b (sks n b a) ≠ -1) → (cnt4 pu l1) → (∀ j : Int, 0 ≤ j → j < 16 → pu j = pu0 j) → (4 - i) < (kF : Int) → Rx (d + 1) m_X12_readCustomer 70 [some (.ref 0), some (.int (iz 4)), some (.int (iz i)), w3] [] (cmH (u1 (u1 (u1 (u1 (u1 z 8 0) 9 n) 10 a) 11 (-1)) 21 K) zl (uf (uf f 1 tb) 9 pu) fl 1) P := by
  obtain ⟨hT1, hT2, hT3⟩ := id hT
  intro kF
  induction kF with
  | zero =>
    intro i a pu l1 w3 ha hi hl hE hz hc hp0 hk
    exfalso; omega
  | succ kF ih =>
    intro i a pu l1 w3 ha hi hl hE hz hc hp0 hk
    refine Rx.walk 1 (pc' := 71) (L' := [some (.ref 0), some (.int (iz 4)), some (.int (iz i)), w3]) (st' := [.ref 0]) (h' := cmH (u1 (u1 (u1 (u1 (u1 z 8 0) 9 n) 10 a) 11 (-1)) 21 K) zl (uf (uf f 1 tb) 9 pu) fl 1) rfl ?_
    refine Rx.callx (m' := m_X12_look) (as := [.ref 0]) (rest := []) rfl (m_look1 _ (u1 z 21 K) zl (uf f 9 pu) fl 1  n a 0 (-1) tb b hT hM ha) (fun v7 h8 q9 => ?_)
    obtain ⟨r_1, a_2, rfl, rfl, f3, f4, f5, f6⟩ := q9
    refine Rx.walk 0 (pc' := 74) (L' := [some (.ref 0), some (.int (iz 4)), some (.int (iz i)), w3]) (st' := [.int (iz r_1)]) (h' := cmH (u1 (u1 (u1 (u1 (u1 z 8 0) 9 n) 10 a_2) 11 (-1)) 21 K) zl (uf (uf f 1 tb) 9 pu) fl 1) rfl ?_
    refine Rx.walk 1 (pc' := 76) (L' := [some (.ref 0), some (.int (iz 4)), some (.int (iz i)), w3]) (st' := [.int (iz 97), .int (iz r_1)]) (h' := cmH (u1 (u1 (u1 (u1 (u1 z 8 0) 9 n) 10 a_2) 11 (-1)) 21 K) zl (uf (uf f 1 tb) 9 pu) fl 1) rfl ?_
    refine Rx.isub rfl ?_
    refine Rx.walk 3 (pc' := 80) (L' := [some (.ref 0), some (.int (iz 4)), some (.int (iz i)), some (.int (iz (r_1 - 97)))]) (st' := [.int (iz 4), .int (iz i)]) (h' := cmH (u1 (u1 (u1 (u1 (u1 z 8 0) 9 n) 10 a_2) 11 (-1)) 21 K) zl (uf (uf f 1 tb) 9 pu) fl 1) rfl ?_
    refine Rx.eq2 rfl rfl ⟨by omega, by omega⟩ ⟨by omega, by omega⟩ (fun b10 => ?_) (fun b10 => ?_)
    · refine Rx.walk 1 (pc' := 111) (L' := [some (.ref 0), some (.int (iz 4)), some (.int (iz i)), some (.int (iz (r_1 - 97)))]) (st' := [.ref 0]) (h' := cmH (u1 (u1 (u1 (u1 (u1 z 8 0) 9 n) 10 a_2) 11 (-1)) 21 K) zl (uf (uf f 1 tb) 9 pu) fl 1) rfl ?_
      refine Rx.callx (m' := m_X12_fails) (as := [.ref 0]) (rest := []) rfl (m_fails _ (u1 (u1 (u1 z 8 0) 9 n) 21 K) zl (uf (uf f 1 tb) 9 pu) fl 1  a_2 (-1) (Or.inl rfl)) (fun v13 h14 q15 => ?_)
      obtain ⟨fa_11, rfl, rfl, f12⟩ := q15
      refine Rx.walk 0 (pc' := 114) (L' := [some (.ref 0), some (.int (iz 4)), some (.int (iz i)), some (.int (iz (r_1 - 97)))]) (st' := [.int (iz 0)]) (h' := cmH (u1 (u1 (u1 (u1 (u1 z 8 0) 9 n) 10 a_2) 11 fa_11) 21 K) zl (uf (uf f 1 tb) 9 pu) fl 1) rfl ?_
      refine Rx.walk 1 (pc' := 115) (L' := [some (.ref 0), some (.int (iz 4)), some (.int (iz i)), some (.int (iz (r_1 - 97)))]) (st' := []) (h' := cmH (u1 (u1 (u1 (u1 (u1 z 8 0) 9 n) 10 a_2) 11 fa_11) 21 K) zl (uf (uf f 1 tb) 9 pu) fl 1) rfl ?_
      refine Rx.ret rfl ?_
      exact hx0 _ _ _ ⟨by omega, by omega⟩ (Or.inr ⟨by omega, by omega⟩) (by obtain ⟨q1, q2⟩ := cnE_e hE (Or.inl (by omega)); refine Or.inl ⟨by rw [q1, ← f3]; omega, ?_⟩; rcases hz with z | z; (exact Or.inl (by rw [q2]; exact List.eq_nil_of_length_eq_zero (by omega))); (exact Or.inr (by rw [q1]; exact z))) hp0
    · refine Rx.walk 1 (pc' := 84) (L' := [some (.ref 0), some (.int (iz 4)), some (.int (iz i)), some (.int (iz (r_1 - 97)))]) (st' := [.int (iz (r_1 - 97))]) (h' := cmH (u1 (u1 (u1 (u1 (u1 z 8 0) 9 n) 10 a_2) 11 (-1)) 21 K) zl (uf (uf f 1 tb) 9 pu) fl 1) rfl ?_
      refine Rx.i2l rfl ⟨by omega, by omega⟩ ?_
      refine Rx.walk 3 (pc' := 90) (L' := [some (.ref 0), some (.int (iz 4)), some (.int (iz i)), some (.int (iz (r_1 - 97)))]) (st' := [.int (iz K), .long (jz 0), .long (jz (r_1 - 97))]) (h' := cmH (u1 (u1 (u1 (u1 (u1 z 8 0) 9 n) 10 a_2) 11 (-1)) 21 K) zl (uf (uf f 1 tb) 9 pu) fl 1) rfl ?_
      refine Rx.ne1 rfl rfl ⟨by omega, by omega⟩ (fun b16 => ?_) (fun b16 => ?_)
      · refine Rx.walk 3 (pc' := 102) (L' := [some (.ref 0), some (.int (iz 4)), some (.int (iz i)), some (.int (iz (r_1 - 97)))]) (st' := [.int (iz 1), .int (iz K), .long (jz 0), .long (jz (r_1 - 97))]) (h' := cmH (u1 (u1 (u1 (u1 (u1 z 8 0) 9 n) 10 a_2) 11 (-1)) 21 K) zl (uf (uf f 1 tb) 9 pu) fl 1) rfl ?_
        refine Rx.isub rfl ?_
        refine Rx.i2l rfl ⟨by omega, by omega⟩ ?_
        refine Rx.callx (m' := m_X12_isIn) (as := [.long (jz (r_1 - 97)), .long (jz 0), .long (jz (K - 1))]) (rest := []) rfl (n_isIn _ (cmH (u1 (u1 (u1 (u1 (u1 z 8 0) 9 n) 10 a_2) 11 (-1)) 21 K) zl (uf (uf f 1 tb) 9 pu) fl 1)  (r_1 - 97) 0 (K - 1) ⟨by omega, by omega⟩ ⟨by omega, by omega⟩ ⟨by omega, by omega⟩) (fun v19 h20 q21 => ?_)
        obtain ⟨r_17, rfl, rfl, f18⟩ := q21
        refine Rx.walk 0 (pc' := 107) (L' := [some (.ref 0), some (.int (iz 4)), some (.int (iz i)), some (.int (iz (r_1 - 97)))]) (st' := [.int (iz r_17)]) (h' := cmH (u1 (u1 (u1 (u1 (u1 z 8 0) 9 n) 10 a_2) 11 (-1)) 21 K) zl (uf (uf f 1 tb) 9 pu) fl 1) rfl ?_
        refine Rx.ne1 rfl rfl ⟨by omega, by omega⟩ (fun b22 => ?_) (fun b22 => ?_)
        · have hk4 : 1 ≤ k4 K ∧ k4 K ≤ 4 ∧ (K = 0 → k4 K = 4) ∧ (K ≠ 0 → k4 K = K) := by unfold k4; split <;> omega
          have hin : 97 ≤ r_1 ∧ r_1 - 97 < k4 K := by rcases f18 with q | q <;> omega
          have hlt : a_2 < n := by rcases Int.lt_or_le a_2 n with q | q; exact q; (have := f4; rw [sg_ge q] at this; omega)
          have hE2 := cnE_s (k := (4 - (i + 1)).toNat) (by rw [show (4 - (i + 1)).toNat + 1 = (4 - i).toNat by omega]; exact hE) (by rw [← f3, ← f4]; exact hin)
          rw [← f3, ← f4] at hE2
          have hc2 := cnt4_s (e := r_1 - 97) hc (by omega) (by omega)
          have hcb := cnt4_b (k := r_1 - 97) hc (by omega) (by omega)
          refine Rx.walk 4 (pc' := 122) (L' := [some (.ref 0), some (.int (iz 4)), some (.int (iz i)), some (.int (iz (r_1 - 97)))]) (st' := [.int (iz 4), .int (iz 4), .ref 9]) (h' := cmH (u1 (u1 (u1 (u1 (u1 z 8 0) 9 n) 10 a_2) 11 (-1)) 21 K) zl (uf (uf f 1 tb) 9 pu) fl 1) rfl ?_
          refine Rx.imul rfl ?_
          refine Rx.walk 0 (pc' := 123) (L' := [some (.ref 0), some (.int (iz 4)), some (.int (iz i)), some (.int (iz (r_1 - 97)))]) (st' := [.int (iz 16), .ref 9]) (h' := cmH (u1 (u1 (u1 (u1 (u1 z 8 0) 9 n) 10 a_2) 11 (-1)) 21 K) zl (uf (uf f 1 tb) 9 pu) fl 1) rfl ?_
          refine Rx.walk 1 (pc' := 124) (L' := [some (.ref 0), some (.int (iz 4)), some (.int (iz i)), some (.int (iz (r_1 - 97)))]) (st' := [.int (iz (r_1 - 97)), .int (iz 16), .ref 9]) (h' := cmH (u1 (u1 (u1 (u1 (u1 z 8 0) 9 n) 10 a_2) 11 (-1)) 21 K) zl (uf (uf f 1 tb) 9 pu) fl 1) rfl ?_
          refine Rx.iadd rfl ?_
          refine Rx.walk 1 (pc' := 126) (L' := [some (.ref 0), some (.int (iz 4)), some (.int (iz i)), some (.int (iz (r_1 - 97)))]) (st' := [.int (iz (16 + (r_1 - 97))), .ref 9, .int (iz (16 + (r_1 - 97))), .ref 9]) (h' := cmH (u1 (u1 (u1 (u1 (u1 z 8 0) 9 n) 10 a_2) 11 (-1)) 21 K) zl (uf (uf f 1 tb) 9 pu) fl 1) rfl ?_
          refine Rx.ial (g := pu) rfl rfl (by omega) (by omega) (by omega) ?_
          refine Rx.walk 1 (pc' := 128) (L' := [some (.ref 0), some (.int (iz 4)), some (.int (iz i)), some (.int (iz (r_1 - 97)))]) (st' := [.int (iz 1), .int (iz (pu (16 + (r_1 - 97)))), .int (iz (16 + (r_1 - 97))), .ref 9]) (h' := cmH (u1 (u1 (u1 (u1 (u1 z 8 0) 9 n) 10 a_2) 11 (-1)) 21 K) zl (uf (uf f 1 tb) 9 pu) fl 1) rfl ?_
          refine Rx.iadd rfl ?_
          refine Rx.ias (g := pu) (h' := cmH (u1 (u1 (u1 (u1 (u1 z 8 0) 9 n) 10 a_2) 11 (-1)) 21 K) zl (uf (uf f 1 tb) 9 (iu pu (16 + (r_1 - 97)) ((pu (16 + (r_1 - 97))) + 1))) fl 1) rfl rfl (by omega) (by omega) (by omega) rfl ?_
          refine Rx.walk 4 (pc' := 136) (L' := [some (.ref 0), some (.int (iz 4)), some (.int (iz i)), some (.int (iz (r_1 - 97)))]) (st' := [.int (iz 1), .int (iz a_2), .ref 0]) (h' := cmH (u1 (u1 (u1 (u1 (u1 z 8 0) 9 n) 10 a_2) 11 (-1)) 21 K) zl (uf (uf f 1 tb) 9 (iu pu (16 + (r_1 - 97)) ((pu (16 + (r_1 - 97))) + 1))) fl 1) rfl ?_
          refine Rx.iadd rfl ?_
          refine Rx.walk 1 (pc' := 140) (L' := [some (.ref 0), some (.int (iz 4)), some (.int (iz i)), some (.int (iz (r_1 - 97)))]) (st' := []) (h' := cmH (u1 (u1 (u1 (u1 (u1 z 8 0) 9 n) 10 (a_2 + 1)) 11 (-1)) 21 K) zl (uf (uf f 1 tb) 9 (iu pu (16 + (r_1 - 97)) ((pu (16 + (r_1 - 97))) + 1))) fl 1) rfl ?_
          refine Rx.iinc (b := 1) rfl rfl rfl ?_
          refine Rx.walk 0 (pc' := 143) (L' := [some (.ref 0), some (.int (iz 4)), some (.int (iz (i + 1))), some (.int (iz (r_1 - 97)))]) (st' := []) (h' := cmH (u1 (u1 (u1 (u1 (u1 z 8 0) 9 n) 10 (a_2 + 1)) 11 (-1)) 21 K) zl (uf (uf f 1 tb) 9 (iu pu (16 + (r_1 - 97)) ((pu (16 + (r_1 - 97))) + 1))) fl 1) rfl ?_
          refine Rx.walk 1 (pc' := 144) (L' := [some (.ref 0), some (.int (iz 4)), some (.int (iz (i + 1))), some (.int (iz (r_1 - 97)))]) (st' := [.ref 0]) (h' := cmH (u1 (u1 (u1 (u1 (u1 z 8 0) 9 n) 10 (a_2 + 1)) 11 (-1)) 21 K) zl (uf (uf f 1 tb) 9 (iu pu (16 + (r_1 - 97)) ((pu (16 + (r_1 - 97))) + 1))) fl 1) rfl ?_
          refine Rx.callx (m' := m_X12_look) (as := [.ref 0]) (rest := []) rfl (m_look1 _ (u1 z 21 K) zl (uf f 9 (iu pu (16 + (r_1 - 97)) ((pu (16 + (r_1 - 97))) + 1))) fl 1  n (a_2 + 1) 0 (-1) tb b hT hM ⟨by omega, by omega⟩) (fun v29 h30 q31 => ?_)
          obtain ⟨r_23, a_24, rfl, rfl, f25, f26, f27, f28⟩ := q31
          refine Rx.walk 0 (pc' := 147) (L' := [some (.ref 0), some (.int (iz 4)), some (.int (iz (i + 1))), some (.int (iz (r_1 - 97)))]) (st' := [.int (iz r_23)]) (h' := cmH (u1 (u1 (u1 (u1 (u1 z 8 0) 9 n) 10 a_24) 11 (-1)) 21 K) zl (uf (uf f 1 tb) 9 (iu pu (16 + (r_1 - 97)) ((pu (16 + (r_1 - 97))) + 1))) fl 1) rfl ?_
          refine Rx.walk 1 (pc' := 148) (L' := [some (.ref 0), some (.int (iz 4)), some (.int (iz (i + 1))), some (.int (iz (r_1 - 97)))]) (st' := [.int (iz (-1)), .int (iz r_23)]) (h' := cmH (u1 (u1 (u1 (u1 (u1 z 8 0) 9 n) 10 a_24) 11 (-1)) 21 K) zl (uf (uf f 1 tb) 9 (iu pu (16 + (r_1 - 97)) ((pu (16 + (r_1 - 97))) + 1))) fl 1) rfl ?_
          refine Rx.ne2 rfl rfl ⟨by omega, by omega⟩ ⟨by omega, by omega⟩ (fun b32 => ?_) (fun b32 => ?_)
          · have hE3 := cnE_k hE2
            rw [← f25] at hE3
            exact ih (i + 1) a_24 (iu pu (16 + (r_1 - 97)) ((pu (16 + (r_1 - 97))) + 1)) (l1 ++ [r_1 - 97]) (some (.int (iz (r_1 - 97)))) ⟨by omega, by omega⟩ ⟨by omega, by omega⟩ (by rw [List.length_append]; show i + 1 = ((l1.length + 1 : Nat) : Int); omega) hE3 (Or.inr (by rw [f25, sks_sks, ← f25, ← f26]; omega)) hc2 (fun j j0 j1 => by rw [iu_ne _ _ (by omega)]; exact hp0 j j0 j1) (by first | assumption | omega) 
          · refine Rx.ret rfl ?_
            exact hx0 _ _ _ ⟨by omega, by omega⟩ (Or.inl rfl) (by obtain ⟨q1, q2⟩ := cnE_e hE2 (Or.inr (fun q => by rw [← f25, ← f26] at q; omega)); exact Or.inr ⟨rfl, by rw [q2]; simp, by rw [q1, ← f25, ← f26]; omega, by rw [q2]; exact hc2⟩) (fun j j0 j1 => by rw [iu_ne _ _ (by omega)]; exact hp0 j j0 j1)
        · refine Rx.walk 1 (pc' := 111) (L' := [some (.ref 0), some (.int (iz 4)), some (.int (iz i)), some (.int (iz (r_1 - 97)))]) (st' := [.ref 0]) (h' := cmH (u1 (u1 (u1 (u1 (u1 z 8 0) 9 n) 10 a_2) 11 (-1)) 21 K) zl (uf (uf f 1 tb) 9 pu) fl 1) rfl ?_
          refine Rx.callx (m' := m_X12_fails) (as := [.ref 0]) (rest := []) rfl (m_fails _ (u1 (u1 (u1 z 8 0) 9 n) 21 K) zl (uf (uf f 1 tb) 9 pu) fl 1  a_2 (-1) (Or.inl rfl)) (fun v35 h36 q37 => ?_)
          obtain ⟨fa_33, rfl, rfl, f34⟩ := q37
          refine Rx.walk 0 (pc' := 114) (L' := [some (.ref 0), some (.int (iz 4)), some (.int (iz i)), some (.int (iz (r_1 - 97)))]) (st' := [.int (iz 0)]) (h' := cmH (u1 (u1 (u1 (u1 (u1 z 8 0) 9 n) 10 a_2) 11 fa_33) 21 K) zl (uf (uf f 1 tb) 9 pu) fl 1) rfl ?_
          refine Rx.walk 1 (pc' := 115) (L' := [some (.ref 0), some (.int (iz 4)), some (.int (iz i)), some (.int (iz (r_1 - 97)))]) (st' := []) (h' := cmH (u1 (u1 (u1 (u1 (u1 z 8 0) 9 n) 10 a_2) 11 fa_33) 21 K) zl (uf (uf f 1 tb) 9 pu) fl 1) rfl ?_
          refine Rx.ret rfl ?_
          exact hx0 _ _ _ ⟨by omega, by omega⟩ (Or.inr ⟨by omega, by omega⟩) (by obtain ⟨q1, q2⟩ := cnE_e hE (Or.inr (fun q => by have hk4 : (K = 0 → k4 K = 4) ∧ (K ≠ 0 → k4 K = K) := (by unfold k4; split <;> omega); rw [← f3, ← f4] at q; omega)); refine Or.inl ⟨by rw [q1, ← f3]; omega, ?_⟩; rcases hz with z | z; (exact Or.inl (by rw [q2]; exact List.eq_nil_of_length_eq_zero (by omega))); (exact Or.inr (by rw [q1]; exact z))) hp0
      · refine Rx.walk 3 (pc' := 102) (L' := [some (.ref 0), some (.int (iz 4)), some (.int (iz i)), some (.int (iz (r_1 - 97)))]) (st' := [.int (iz 1), .int (iz 4), .long (jz 0), .long (jz (r_1 - 97))]) (h' := cmH (u1 (u1 (u1 (u1 (u1 z 8 0) 9 n) 10 a_2) 11 (-1)) 21 K) zl (uf (uf f 1 tb) 9 pu) fl 1) rfl ?_
        refine Rx.isub rfl ?_
        refine Rx.walk 0 (pc' := 103) (L' := [some (.ref 0), some (.int (iz 4)), some (.int (iz i)), some (.int (iz (r_1 - 97)))]) (st' := [.int (iz 3), .long (jz 0), .long (jz (r_1 - 97))]) (h' := cmH (u1 (u1 (u1 (u1 (u1 z 8 0) 9 n) 10 a_2) 11 (-1)) 21 K) zl (uf (uf f 1 tb) 9 pu) fl 1) rfl ?_
        refine Rx.i2l rfl ⟨by omega, by omega⟩ ?_
        refine Rx.callx (m' := m_X12_isIn) (as := [.long (jz (r_1 - 97)), .long (jz 0), .long (jz 3)]) (rest := []) rfl (n_isIn _ (cmH (u1 (u1 (u1 (u1 (u1 z 8 0) 9 n) 10 a_2) 11 (-1)) 21 K) zl (uf (uf f 1 tb) 9 pu) fl 1)  (r_1 - 97) 0 3 ⟨by omega, by omega⟩ ⟨by omega, by omega⟩ ⟨by omega, by omega⟩) (fun v40 h41 q42 => ?_)
        obtain ⟨r_38, rfl, rfl, f39⟩ := q42
        refine Rx.walk 0 (pc' := 107) (L' := [some (.ref 0), some (.int (iz 4)), some (.int (iz i)), some (.int (iz (r_1 - 97)))]) (st' := [.int (iz r_38)]) (h' := cmH (u1 (u1 (u1 (u1 (u1 z 8 0) 9 n) 10 a_2) 11 (-1)) 21 K) zl (uf (uf f 1 tb) 9 pu) fl 1) rfl ?_
        refine Rx.ne1 rfl rfl ⟨by omega, by omega⟩ (fun b43 => ?_) (fun b43 => ?_)
        · have hk4 : 1 ≤ k4 K ∧ k4 K ≤ 4 ∧ (K = 0 → k4 K = 4) ∧ (K ≠ 0 → k4 K = K) := by unfold k4; split <;> omega
          have hin : 97 ≤ r_1 ∧ r_1 - 97 < k4 K := by rcases f39 with q | q <;> omega
          have hlt : a_2 < n := by rcases Int.lt_or_le a_2 n with q | q; exact q; (have := f4; rw [sg_ge q] at this; omega)
          have hE2 := cnE_s (k := (4 - (i + 1)).toNat) (by rw [show (4 - (i + 1)).toNat + 1 = (4 - i).toNat by omega]; exact hE) (by rw [← f3, ← f4]; exact hin)
          rw [← f3, ← f4] at hE2
          have hc2 := cnt4_s (e := r_1 - 97) hc (by omega) (by omega)
          have hcb := cnt4_b (k := r_1 - 97) hc (by omega) (by omega)
          refine Rx.walk 4 (pc' := 122) (L' := [some (.ref 0), some (.int (iz 4)), some (.int (iz i)), some (.int (iz (r_1 - 97)))]) (st' := [.int (iz 4), .int (iz 4), .ref 9]) (h' := cmH (u1 (u1 (u1 (u1 (u1 z 8 0) 9 n) 10 a_2) 11 (-1)) 21 K) zl (uf (uf f 1 tb) 9 pu) fl 1) rfl ?_
          refine Rx.imul rfl ?_
          refine Rx.walk 0 (pc' := 123) (L' := [some (.ref 0), some (.int (iz 4)), some (.int (iz i)), some (.int (iz (r_1 - 97)))]) (st' := [.int (iz 16), .ref 9]) (h' := cmH (u1 (u1 (u1 (u1 (u1 z 8 0) 9 n) 10 a_2) 11 (-1)) 21 K) zl (uf (uf f 1 tb) 9 pu) fl 1) rfl ?_
          refine Rx.walk 1 (pc' := 124) (L' := [some (.ref 0), some (.int (iz 4)), some (.int (iz i)), some (.int (iz (r_1 - 97)))]) (st' := [.int (iz (r_1 - 97)), .int (iz 16), .ref 9]) (h' := cmH (u1 (u1 (u1 (u1 (u1 z 8 0) 9 n) 10 a_2) 11 (-1)) 21 K) zl (uf (uf f 1 tb) 9 pu) fl 1) rfl ?_
          refine Rx.iadd rfl ?_
          refine Rx.walk 1 (pc' := 126) (L' := [some (.ref 0), some (.int (iz 4)), some (.int (iz i)), some (.int (iz (r_1 - 97)))]) (st' := [.int (iz (16 + (r_1 - 97))), .ref 9, .int (iz (16 + (r_1 - 97))), .ref 9]) (h' := cmH (u1 (u1 (u1 (u1 (u1 z 8 0) 9 n) 10 a_2) 11 (-1)) 21 K) zl (uf (uf f 1 tb) 9 pu) fl 1) rfl ?_
          refine Rx.ial (g := pu) rfl rfl (by omega) (by omega) (by omega) ?_
          refine Rx.walk 1 (pc' := 128) (L' := [some (.ref 0), some (.int (iz 4)), some (.int (iz i)), some (.int (iz (r_1 - 97)))]) (st' := [.int (iz 1), .int (iz (pu (16 + (r_1 - 97)))), .int (iz (16 + (r_1 - 97))), .ref 9]) (h' := cmH (u1 (u1 (u1 (u1 (u1 z 8 0) 9 n) 10 a_2) 11 (-1)) 21 K) zl (uf (uf f 1 tb) 9 pu) fl 1) rfl ?_
          refine Rx.iadd rfl ?_
          refine Rx.ias (g := pu) (h' := cmH (u1 (u1 (u1 (u1 (u1 z 8 0) 9 n) 10 a_2) 11 (-1)) 21 K) zl (uf (uf f 1 tb) 9 (iu pu (16 + (r_1 - 97)) ((pu (16 + (r_1 - 97))) + 1))) fl 1) rfl rfl (by omega) (by omega) (by omega) rfl ?_
          refine Rx.walk 4 (pc' := 136) (L' := [some (.ref 0), some (.int (iz 4)), some (.int (iz i)), some (.int (iz (r_1 - 97)))]) (st' := [.int (iz 1), .int (iz a_2), .ref 0]) (h' := cmH (u1 (u1 (u1 (u1 (u1 z 8 0) 9 n) 10 a_2) 11 (-1)) 21 K) zl (uf (uf f 1 tb) 9 (iu pu (16 + (r_1 - 97)) ((pu (16 + (r_1 - 97))) + 1))) fl 1) rfl ?_
          refine Rx.iadd rfl ?_
          refine Rx.walk 1 (pc' := 140) (L' := [some (.ref 0), some (.int (iz 4)), some (.int (iz i)), some (.int (iz (r_1 - 97)))]) (st' := []) (h' := cmH (u1 (u1 (u1 (u1 (u1 z 8 0) 9 n) 10 (a_2 + 1)) 11 (-1)) 21 K) zl (uf (uf f 1 tb) 9 (iu pu (16 + (r_1 - 97)) ((pu (16 + (r_1 - 97))) + 1))) fl 1) rfl ?_
          refine Rx.iinc (b := 1) rfl rfl rfl ?_
          refine Rx.walk 0 (pc' := 143) (L' := [some (.ref 0), some (.int (iz 4)), some (.int (iz (i + 1))), some (.int (iz (r_1 - 97)))]) (st' := []) (h' := cmH (u1 (u1 (u1 (u1 (u1 z 8 0) 9 n) 10 (a_2 + 1)) 11 (-1)) 21 K) zl (uf (uf f 1 tb) 9 (iu pu (16 + (r_1 - 97)) ((pu (16 + (r_1 - 97))) + 1))) fl 1) rfl ?_
          refine Rx.walk 1 (pc' := 144) (L' := [some (.ref 0), some (.int (iz 4)), some (.int (iz (i + 1))), some (.int (iz (r_1 - 97)))]) (st' := [.ref 0]) (h' := cmH (u1 (u1 (u1 (u1 (u1 z 8 0) 9 n) 10 (a_2 + 1)) 11 (-1)) 21 K) zl (uf (uf f 1 tb) 9 (iu pu (16 + (r_1 - 97)) ((pu (16 + (r_1 - 97))) + 1))) fl 1) rfl ?_
          refine Rx.callx (m' := m_X12_look) (as := [.ref 0]) (rest := []) rfl (m_look1 _ (u1 z 21 K) zl (uf f 9 (iu pu (16 + (r_1 - 97)) ((pu (16 + (r_1 - 97))) + 1))) fl 1  n (a_2 + 1) 0 (-1) tb b hT hM ⟨by omega, by omega⟩) (fun v50 h51 q52 => ?_)
          obtain ⟨r_44, a_45, rfl, rfl, f46, f47, f48, f49⟩ := q52
          refine Rx.walk 0 (pc' := 147) (L' := [some (.ref 0), some (.int (iz 4)), some (.int (iz (i + 1))), some (.int (iz (r_1 - 97)))]) (st' := [.int (iz r_44)]) (h' := cmH (u1 (u1 (u1 (u1 (u1 z 8 0) 9 n) 10 a_45) 11 (-1)) 21 K) zl (uf (uf f 1 tb) 9 (iu pu (16 + (r_1 - 97)) ((pu (16 + (r_1 - 97))) + 1))) fl 1) rfl ?_
          refine Rx.walk 1 (pc' := 148) (L' := [some (.ref 0), some (.int (iz 4)), some (.int (iz (i + 1))), some (.int (iz (r_1 - 97)))]) (st' := [.int (iz (-1)), .int (iz r_44)]) (h' := cmH (u1 (u1 (u1 (u1 (u1 z 8 0) 9 n) 10 a_45) 11 (-1)) 21 K) zl (uf (uf f 1 tb) 9 (iu pu (16 + (r_1 - 97)) ((pu (16 + (r_1 - 97))) + 1))) fl 1) rfl ?_
          refine Rx.ne2 rfl rfl ⟨by omega, by omega⟩ ⟨by omega, by omega⟩ (fun b53 => ?_) (fun b53 => ?_)
          · have hE3 := cnE_k hE2
            rw [← f46] at hE3
            exact ih (i + 1) a_45 (iu pu (16 + (r_1 - 97)) ((pu (16 + (r_1 - 97))) + 1)) (l1 ++ [r_1 - 97]) (some (.int (iz (r_1 - 97)))) ⟨by omega, by omega⟩ ⟨by omega, by omega⟩ (by rw [List.length_append]; show i + 1 = ((l1.length + 1 : Nat) : Int); omega) hE3 (Or.inr (by rw [f46, sks_sks, ← f46, ← f47]; omega)) hc2 (fun j j0 j1 => by rw [iu_ne _ _ (by omega)]; exact hp0 j j0 j1) (by first | assumption | omega) 
          · refine Rx.ret rfl ?_
            exact hx0 _ _ _ ⟨by omega, by omega⟩ (Or.inl rfl) (by obtain ⟨q1, q2⟩ := cnE_e hE2 (Or.inr (fun q => by rw [← f46, ← f47] at q; omega)); exact Or.inr ⟨rfl, by rw [q2]; simp, by rw [q1, ← f46, ← f47]; omega, by rw [q2]; exact hc2⟩) (fun j j0 j1 => by rw [iu_ne _ _ (by omega)]; exact hp0 j j0 j1)
        · refine Rx.walk 1 (pc' := 111) (L' := [some (.ref 0), some (.int (iz 4)), some (.int (iz i)), some (.int (iz (r_1 - 97)))]) (st' := [.ref 0]) (h' := cmH (u1 (u1 (u1 (u1 (u1 z 8 0) 9 n) 10 a_2) 11 (-1)) 21 K) zl (uf (uf f 1 tb) 9 pu) fl 1) rfl ?_
          refine Rx.callx (m' := m_X12_fails) (as := [.ref 0]) (rest := []) rfl (m_fails _ (u1 (u1 (u1 z 8 0) 9 n) 21 K) zl (uf (uf f 1 tb) 9 pu) fl 1  a_2 (-1) (Or.inl rfl)) (fun v56 h57 q58 => ?_)
          obtain ⟨fa_54, rfl, rfl, f55⟩ := q58
          refine Rx.walk 0 (pc' := 114) (L' := [some (.ref 0), some (.int (iz 4)), some (.int (iz i)), some (.int (iz (r_1 - 97)))]) (st' := [.int (iz 0)]) (h' := cmH (u1 (u1 (u1 (u1 (u1 z 8 0) 9 n) 10 a_2) 11 fa_54) 21 K) zl (uf (uf f 1 tb) 9 pu) fl 1) rfl ?_
          refine Rx.walk 1 (pc' := 115) (L' := [some (.ref 0), some (.int (iz 4)), some (.int (iz i)), some (.int (iz (r_1 - 97)))]) (st' := []) (h' := cmH (u1 (u1 (u1 (u1 (u1 z 8 0) 9 n) 10 a_2) 11 fa_54) 21 K) zl (uf (uf f 1 tb) 9 pu) fl 1) rfl ?_
          refine Rx.ret rfl ?_
          exact hx0 _ _ _ ⟨by omega, by omega⟩ (Or.inr ⟨by omega, by omega⟩) (by obtain ⟨q1, q2⟩ := cnE_e hE (Or.inr (fun q => by have hk4 : (K = 0 → k4 K = 4) ∧ (K ≠ 0 → k4 K = K) := (by unfold k4; split <;> omega); rw [← f3, ← f4] at q; omega)); refine Or.inl ⟨by rw [q1, ← f3]; omega, ?_⟩; rcases hz with z | z; (exact Or.inl (by rw [q2]; exact List.eq_nil_of_length_eq_zero (by omega))); (exact Or.inr (by rw [q1]; exact z))) hp0
set_option maxRecDepth 100000 in
set_option maxHeartbeats 4000000 in
theorem m_rCust (d : Nat) (z : Nat → Int) (zl : Nat → Int) (f : Nat → Int → Int) (fl : Nat → Int → Int) (tx : Nat)  (n : Int) (tb : Int → Int) (b : Int → Int) (K : Int) (pu : Int → Int) (prr : Int → Int) (hT : tOK n b) (hM : mOK n 0 160 tb b) (hK : 0 ≤ K ∧ K ≤ 4) : Rx (d + 2) m_X12_readCustomer 0 (am_ent [.ref 0, .int (iz 4)] 4) [] (cmH (u1 (u1 z 6 n) 21 K) zl (uf (uf (uf f 1 tb) 8 prr) 9 pu) fl tx) (fun rv h => ∃ a' : Int, ∃ fa' : Int, ∃ pu' : Int → Int, ∃ prr' : Int → Int, rv = none ∧ h = cmH (u1 (u1 (u1 (u1 (u1 (u1 z 6 n) 8 0) 9 n) 10 a') 11 fa') 21 K) zl (uf (uf (uf f 1 tb) 8 prr') 9 pu') fl 1 ∧ fa' = (cuP n b (k4 K)).1 ∧ (∀ (v : Int) (l : List Int), (cuP n b (k4 K)).2 = some (v, l) → prr' 4 = v ∧ cnt4 pu' l) ∧ (∀ j : Int, 0 ≤ j → j < 16 → pu' j = pu j) ∧ (∀ j : Int, 0 ≤ j → j < 4 → prr' j = prr j) ∧ (0 ≤ a' ∧ a' ≤ n) ∧ (fa' = -1 ∨ (0 ≤ fa' ∧ fa' ≤ 160))) := by
  obtain ⟨hT1, hT2, hT3⟩ := id hT
  refine Rx.walk 0 (pc' := 0) (L' := [some (.ref 0), some (.int (iz 4)), none, none]) (st' := []) (h' := cmH (u1 (u1 z 6 n) 21 K) zl (uf (uf (uf f 1 tb) 8 prr) 9 pu) fl tx) rfl ?_
  refine Rx.walk 6 (pc' := 10) (L' := [some (.ref 0), some (.int (iz 4)), none, none]) (st' := [.int (iz n), .int (iz 0), .ref 1, .ref 0]) (h' := cmH (u1 (u1 z 6 n) 21 K) zl (uf (uf (uf f 1 tb) 8 prr) 9 pu) fl tx) rfl ?_
  refine Rx.callx (m' := m_X12_opens) (as := [.ref 0, .ref 1, .int (iz 0), .int (iz n)]) (rest := []) rfl (m_opens _ (u1 (u1 z 6 n) 21 K) zl (uf (uf (uf f 1 tb) 8 prr) 9 pu) fl tx  1 0 n ) (fun v1 h2 q3 => ?_)
  obtain ⟨rfl, rfl⟩ := q3
  refine Rx.walk 0 (pc' := 13) (L' := [some (.ref 0), some (.int (iz 4)), none, none]) (st' := []) (h' := cmH (u1 (u1 (u1 (u1 (u1 (u1 z 6 n) 8 0) 9 n) 10 0) 11 (-1)) 21 K) zl (uf (uf (uf f 1 tb) 8 prr) 9 pu) fl 1) rfl ?_
  refine Rx.walk 4 (pc' := 17) (L' := [some (.ref 0), some (.int (iz 4)), some (.int (iz 0)), none]) (st' := [.int (iz 4), .int (iz 0)]) (h' := cmH (u1 (u1 (u1 (u1 (u1 (u1 z 6 n) 8 0) 9 n) 10 0) 11 (-1)) 21 K) zl (uf (uf (uf f 1 tb) 8 prr) 9 pu) fl 1) rfl ?_
  refine Rx.ge2 rfl rfl ⟨by omega, by omega⟩ ⟨by omega, by omega⟩ (fun b4 => by omega) (fun b4 => ?_)
  refine Rx.walk 4 (pc' := 26) (L' := [some (.ref 0), some (.int (iz 4)), some (.int (iz 0)), none]) (st' := [.int (iz 4), .int (iz 4), .ref 9]) (h' := cmH (u1 (u1 (u1 (u1 (u1 (u1 z 6 n) 8 0) 9 n) 10 0) 11 (-1)) 21 K) zl (uf (uf (uf f 1 tb) 8 prr) 9 pu) fl 1) rfl ?_
  refine Rx.imul rfl ?_
  refine Rx.walk 0 (pc' := 27) (L' := [some (.ref 0), some (.int (iz 4)), some (.int (iz 0)), none]) (st' := [.int (iz 16), .ref 9]) (h' := cmH (u1 (u1 (u1 (u1 (u1 (u1 z 6 n) 8 0) 9 n) 10 0) 11 (-1)) 21 K) zl (uf (uf (uf f 1 tb) 8 prr) 9 pu) fl 1) rfl ?_
  refine Rx.walk 1 (pc' := 28) (L' := [some (.ref 0), some (.int (iz 4)), some (.int (iz 0)), none]) (st' := [.int (iz 0), .int (iz 16), .ref 9]) (h' := cmH (u1 (u1 (u1 (u1 (u1 (u1 z 6 n) 8 0) 9 n) 10 0) 11 (-1)) 21 K) zl (uf (uf (uf f 1 tb) 8 prr) 9 pu) fl 1) rfl ?_
  refine Rx.iadd rfl ?_
  refine Rx.walk 0 (pc' := 29) (L' := [some (.ref 0), some (.int (iz 4)), some (.int (iz 0)), none]) (st' := [.int (iz 16), .ref 9]) (h' := cmH (u1 (u1 (u1 (u1 (u1 (u1 z 6 n) 8 0) 9 n) 10 0) 11 (-1)) 21 K) zl (uf (uf (uf f 1 tb) 8 prr) 9 pu) fl 1) rfl ?_
  refine Rx.walk 1 (pc' := 30) (L' := [some (.ref 0), some (.int (iz 4)), some (.int (iz 0)), none]) (st' := [.int (iz 0), .int (iz 16), .ref 9]) (h' := cmH (u1 (u1 (u1 (u1 (u1 (u1 z 6 n) 8 0) 9 n) 10 0) 11 (-1)) 21 K) zl (uf (uf (uf f 1 tb) 8 prr) 9 pu) fl 1) rfl ?_
  refine Rx.ias (g := pu) (h' := cmH (u1 (u1 (u1 (u1 (u1 (u1 z 6 n) 8 0) 9 n) 10 0) 11 (-1)) 21 K) zl (uf (uf (uf f 1 tb) 8 prr) 9 (iu pu 16 0)) fl 1) rfl rfl (by omega) (by omega) (by omega) rfl ?_
  refine Rx.iinc (b := 1) rfl rfl rfl ?_
  refine Rx.walk 0 (pc' := 34) (L' := [some (.ref 0), some (.int (iz 4)), some (.int (iz 1)), none]) (st' := []) (h' := cmH (u1 (u1 (u1 (u1 (u1 (u1 z 6 n) 8 0) 9 n) 10 0) 11 (-1)) 21 K) zl (uf (uf (uf f 1 tb) 8 prr) 9 (iu pu 16 0)) fl 1) rfl ?_
  refine Rx.walk 3 (pc' := 17) (L' := [some (.ref 0), some (.int (iz 4)), some (.int (iz 1)), none]) (st' := [.int (iz 4), .int (iz 1)]) (h' := cmH (u1 (u1 (u1 (u1 (u1 (u1 z 6 n) 8 0) 9 n) 10 0) 11 (-1)) 21 K) zl (uf (uf (uf f 1 tb) 8 prr) 9 (iu pu 16 0)) fl 1) rfl ?_
  refine Rx.ge2 rfl rfl ⟨by omega, by omega⟩ ⟨by omega, by omega⟩ (fun b5 => by omega) (fun b5 => ?_)
  refine Rx.walk 4 (pc' := 26) (L' := [some (.ref 0), some (.int (iz 4)), some (.int (iz 1)), none]) (st' := [.int (iz 4), .int (iz 4), .ref 9]) (h' := cmH (u1 (u1 (u1 (u1 (u1 (u1 z 6 n) 8 0) 9 n) 10 0) 11 (-1)) 21 K) zl (uf (uf (uf f 1 tb) 8 prr) 9 (iu pu 16 0)) fl 1) rfl ?_
  refine Rx.imul rfl ?_
  refine Rx.walk 0 (pc' := 27) (L' := [some (.ref 0), some (.int (iz 4)), some (.int (iz 1)), none]) (st' := [.int (iz 16), .ref 9]) (h' := cmH (u1 (u1 (u1 (u1 (u1 (u1 z 6 n) 8 0) 9 n) 10 0) 11 (-1)) 21 K) zl (uf (uf (uf f 1 tb) 8 prr) 9 (iu pu 16 0)) fl 1) rfl ?_
  refine Rx.walk 1 (pc' := 28) (L' := [some (.ref 0), some (.int (iz 4)), some (.int (iz 1)), none]) (st' := [.int (iz 1), .int (iz 16), .ref 9]) (h' := cmH (u1 (u1 (u1 (u1 (u1 (u1 z 6 n) 8 0) 9 n) 10 0) 11 (-1)) 21 K) zl (uf (uf (uf f 1 tb) 8 prr) 9 (iu pu 16 0)) fl 1) rfl ?_
  refine Rx.iadd rfl ?_
  refine Rx.walk 0 (pc' := 29) (L' := [some (.ref 0), some (.int (iz 4)), some (.int (iz 1)), none]) (st' := [.int (iz 17), .ref 9]) (h' := cmH (u1 (u1 (u1 (u1 (u1 (u1 z 6 n) 8 0) 9 n) 10 0) 11 (-1)) 21 K) zl (uf (uf (uf f 1 tb) 8 prr) 9 (iu pu 16 0)) fl 1) rfl ?_
  refine Rx.walk 1 (pc' := 30) (L' := [some (.ref 0), some (.int (iz 4)), some (.int (iz 1)), none]) (st' := [.int (iz 0), .int (iz 17), .ref 9]) (h' := cmH (u1 (u1 (u1 (u1 (u1 (u1 z 6 n) 8 0) 9 n) 10 0) 11 (-1)) 21 K) zl (uf (uf (uf f 1 tb) 8 prr) 9 (iu pu 16 0)) fl 1) rfl ?_
  refine Rx.ias (g := (iu pu 16 0)) (h' := cmH (u1 (u1 (u1 (u1 (u1 (u1 z 6 n) 8 0) 9 n) 10 0) 11 (-1)) 21 K) zl (uf (uf (uf f 1 tb) 8 prr) 9 (iu (iu pu 16 0) 17 0)) fl 1) rfl rfl (by omega) (by omega) (by omega) rfl ?_
  refine Rx.iinc (b := 1) rfl rfl rfl ?_
  refine Rx.walk 0 (pc' := 34) (L' := [some (.ref 0), some (.int (iz 4)), some (.int (iz 2)), none]) (st' := []) (h' := cmH (u1 (u1 (u1 (u1 (u1 (u1 z 6 n) 8 0) 9 n) 10 0) 11 (-1)) 21 K) zl (uf (uf (uf f 1 tb) 8 prr) 9 (iu (iu pu 16 0) 17 0)) fl 1) rfl ?_
  refine Rx.walk 3 (pc' := 17) (L' := [some (.ref 0), some (.int (iz 4)), some (.int (iz 2)), none]) (st' := [.int (iz 4), .int (iz 2)]) (h' := cmH (u1 (u1 (u1 (u1 (u1 (u1 z 6 n) 8 0) 9 n) 10 0) 11 (-1)) 21 K) zl (uf (uf (uf f 1 tb) 8 prr) 9 (iu (iu pu 16 0) 17 0)) fl 1) rfl ?_
  refine Rx.ge2 rfl rfl ⟨by omega, by omega⟩ ⟨by omega, by omega⟩ (fun b6 => by omega) (fun b6 => ?_)
  refine Rx.walk 4 (pc' := 26) (L' := [some (.ref 0), some (.int (iz 4)), some (.int (iz 2)), none]) (st' := [.int (iz 4), .int (iz 4), .ref 9]) (h' := cmH (u1 (u1 (u1 (u1 (u1 (u1 z 6 n) 8 0) 9 n) 10 0) 11 (-1)) 21 K) zl (uf (uf (uf f 1 tb) 8 prr) 9 (iu (iu pu 16 0) 17 0)) fl 1) rfl ?_
  refine Rx.imul rfl ?_
  refine Rx.walk 0 (pc' := 27) (L' := [some (.ref 0), some (.int (iz 4)), some (.int (iz 2)), none]) (st' := [.int (iz 16), .ref 9]) (h' := cmH (u1 (u1 (u1 (u1 (u1 (u1 z 6 n) 8 0) 9 n) 10 0) 11 (-1)) 21 K) zl (uf (uf (uf f 1 tb) 8 prr) 9 (iu (iu pu 16 0) 17 0)) fl 1) rfl ?_
  refine Rx.walk 1 (pc' := 28) (L' := [some (.ref 0), some (.int (iz 4)), some (.int (iz 2)), none]) (st' := [.int (iz 2), .int (iz 16), .ref 9]) (h' := cmH (u1 (u1 (u1 (u1 (u1 (u1 z 6 n) 8 0) 9 n) 10 0) 11 (-1)) 21 K) zl (uf (uf (uf f 1 tb) 8 prr) 9 (iu (iu pu 16 0) 17 0)) fl 1) rfl ?_
  refine Rx.iadd rfl ?_
  refine Rx.walk 0 (pc' := 29) (L' := [some (.ref 0), some (.int (iz 4)), some (.int (iz 2)), none]) (st' := [.int (iz 18), .ref 9]) (h' := cmH (u1 (u1 (u1 (u1 (u1 (u1 z 6 n) 8 0) 9 n) 10 0) 11 (-1)) 21 K) zl (uf (uf (uf f 1 tb) 8 prr) 9 (iu (iu pu 16 0) 17 0)) fl 1) rfl ?_
  refine Rx.walk 1 (pc' := 30) (L' := [some (.ref 0), some (.int (iz 4)), some (.int (iz 2)), none]) (st' := [.int (iz 0), .int (iz 18), .ref 9]) (h' := cmH (u1 (u1 (u1 (u1 (u1 (u1 z 6 n) 8 0) 9 n) 10 0) 11 (-1)) 21 K) zl (uf (uf (uf f 1 tb) 8 prr) 9 (iu (iu pu 16 0) 17 0)) fl 1) rfl ?_
  refine Rx.ias (g := (iu (iu pu 16 0) 17 0)) (h' := cmH (u1 (u1 (u1 (u1 (u1 (u1 z 6 n) 8 0) 9 n) 10 0) 11 (-1)) 21 K) zl (uf (uf (uf f 1 tb) 8 prr) 9 (iu (iu (iu pu 16 0) 17 0) 18 0)) fl 1) rfl rfl (by omega) (by omega) (by omega) rfl ?_
  refine Rx.iinc (b := 1) rfl rfl rfl ?_
  refine Rx.walk 0 (pc' := 34) (L' := [some (.ref 0), some (.int (iz 4)), some (.int (iz 3)), none]) (st' := []) (h' := cmH (u1 (u1 (u1 (u1 (u1 (u1 z 6 n) 8 0) 9 n) 10 0) 11 (-1)) 21 K) zl (uf (uf (uf f 1 tb) 8 prr) 9 (iu (iu (iu pu 16 0) 17 0) 18 0)) fl 1) rfl ?_
  refine Rx.walk 3 (pc' := 17) (L' := [some (.ref 0), some (.int (iz 4)), some (.int (iz 3)), none]) (st' := [.int (iz 4), .int (iz 3)]) (h' := cmH (u1 (u1 (u1 (u1 (u1 (u1 z 6 n) 8 0) 9 n) 10 0) 11 (-1)) 21 K) zl (uf (uf (uf f 1 tb) 8 prr) 9 (iu (iu (iu pu 16 0) 17 0) 18 0)) fl 1) rfl ?_
  refine Rx.ge2 rfl rfl ⟨by omega, by omega⟩ ⟨by omega, by omega⟩ (fun b7 => by omega) (fun b7 => ?_)
  refine Rx.walk 4 (pc' := 26) (L' := [some (.ref 0), some (.int (iz 4)), some (.int (iz 3)), none]) (st' := [.int (iz 4), .int (iz 4), .ref 9]) (h' := cmH (u1 (u1 (u1 (u1 (u1 (u1 z 6 n) 8 0) 9 n) 10 0) 11 (-1)) 21 K) zl (uf (uf (uf f 1 tb) 8 prr) 9 (iu (iu (iu pu 16 0) 17 0) 18 0)) fl 1) rfl ?_
  refine Rx.imul rfl ?_
  refine Rx.walk 0 (pc' := 27) (L' := [some (.ref 0), some (.int (iz 4)), some (.int (iz 3)), none]) (st' := [.int (iz 16), .ref 9]) (h' := cmH (u1 (u1 (u1 (u1 (u1 (u1 z 6 n) 8 0) 9 n) 10 0) 11 (-1)) 21 K) zl (uf (uf (uf f 1 tb) 8 prr) 9 (iu (iu (iu pu 16 0) 17 0) 18 0)) fl 1) rfl ?_
  refine Rx.walk 1 (pc' := 28) (L' := [some (.ref 0), some (.int (iz 4)), some (.int (iz 3)), none]) (st' := [.int (iz 3), .int (iz 16), .ref 9]) (h' := cmH (u1 (u1 (u1 (u1 (u1 (u1 z 6 n) 8 0) 9 n) 10 0) 11 (-1)) 21 K) zl (uf (uf (uf f 1 tb) 8 prr) 9 (iu (iu (iu pu 16 0) 17 0) 18 0)) fl 1) rfl ?_
  refine Rx.iadd rfl ?_
  refine Rx.walk 0 (pc' := 29) (L' := [some (.ref 0), some (.int (iz 4)), some (.int (iz 3)), none]) (st' := [.int (iz 19), .ref 9]) (h' := cmH (u1 (u1 (u1 (u1 (u1 (u1 z 6 n) 8 0) 9 n) 10 0) 11 (-1)) 21 K) zl (uf (uf (uf f 1 tb) 8 prr) 9 (iu (iu (iu pu 16 0) 17 0) 18 0)) fl 1) rfl ?_
  refine Rx.walk 1 (pc' := 30) (L' := [some (.ref 0), some (.int (iz 4)), some (.int (iz 3)), none]) (st' := [.int (iz 0), .int (iz 19), .ref 9]) (h' := cmH (u1 (u1 (u1 (u1 (u1 (u1 z 6 n) 8 0) 9 n) 10 0) 11 (-1)) 21 K) zl (uf (uf (uf f 1 tb) 8 prr) 9 (iu (iu (iu pu 16 0) 17 0) 18 0)) fl 1) rfl ?_
  refine Rx.ias (g := (iu (iu (iu pu 16 0) 17 0) 18 0)) (h' := cmH (u1 (u1 (u1 (u1 (u1 (u1 z 6 n) 8 0) 9 n) 10 0) 11 (-1)) 21 K) zl (uf (uf (uf f 1 tb) 8 prr) 9 (iu (iu (iu (iu pu 16 0) 17 0) 18 0) 19 0)) fl 1) rfl rfl (by omega) (by omega) (by omega) rfl ?_
  refine Rx.iinc (b := 1) rfl rfl rfl ?_
  refine Rx.walk 0 (pc' := 34) (L' := [some (.ref 0), some (.int (iz 4)), some (.int (iz 4)), none]) (st' := []) (h' := cmH (u1 (u1 (u1 (u1 (u1 (u1 z 6 n) 8 0) 9 n) 10 0) 11 (-1)) 21 K) zl (uf (uf (uf f 1 tb) 8 prr) 9 (iu (iu (iu (iu pu 16 0) 17 0) 18 0) 19 0)) fl 1) rfl ?_
  refine Rx.walk 3 (pc' := 17) (L' := [some (.ref 0), some (.int (iz 4)), some (.int (iz 4)), none]) (st' := [.int (iz 4), .int (iz 4)]) (h' := cmH (u1 (u1 (u1 (u1 (u1 (u1 z 6 n) 8 0) 9 n) 10 0) 11 (-1)) 21 K) zl (uf (uf (uf f 1 tb) 8 prr) 9 (iu (iu (iu (iu pu 16 0) 17 0) 18 0) 19 0)) fl 1) rfl ?_
  refine Rx.ge2 rfl rfl ⟨by omega, by omega⟩ ⟨by omega, by omega⟩ (fun b8 => ?_) (fun b8 => by omega)
  refine Rx.walk 6 (pc' := 46) (L' := [some (.ref 0), some (.int (iz 4)), some (.int (iz 4)), none]) (st' := [.int (iz 99), .int (iz 1), .ref 0, .int (iz 4), .ref 8]) (h' := cmH (u1 (u1 (u1 (u1 (u1 (u1 z 6 n) 8 0) 9 n) 10 0) 11 (-1)) 21 K) zl (uf (uf (uf f 1 tb) 8 prr) 9 (iu (iu (iu (iu pu 16 0) 17 0) 18 0) 19 0)) fl 1) rfl ?_
  refine Rx.callx (m' := m_X12_number) (as := [.ref 0, .int (iz 1), .int (iz 99)]) (rest := [.int (iz 4), .ref 8]) rfl (m_num _ (u1 (u1 z 6 n) 21 K) zl (uf (uf f 8 prr) 9 (iu (iu (iu (iu pu 16 0) 17 0) 18 0) 19 0)) fl 1  1 99 n 0 0 tb b hT hM ⟨by omega, by omega⟩ ⟨by omega, by omega⟩ ⟨by omega, by omega⟩) (fun v17 h18 q19 => ?_)
  obtain ⟨r_9, a_10, fa_11, rfl, rfl, f12, f13, f14, f15, f16⟩ := q19
  refine Rx.walk 0 (pc' := 49) (L' := [some (.ref 0), some (.int (iz 4)), some (.int (iz 4)), none]) (st' := [.int (iz r_9), .int (iz 4), .ref 8]) (h' := cmH (u1 (u1 (u1 (u1 (u1 (u1 z 6 n) 8 0) 9 n) 10 a_10) 11 fa_11) 21 K) zl (uf (uf (uf f 1 tb) 8 prr) 9 (iu (iu (iu (iu pu 16 0) 17 0) 18 0) 19 0)) fl 1) rfl ?_
  refine Rx.ias (g := prr) (h' := cmH (u1 (u1 (u1 (u1 (u1 (u1 z 6 n) 8 0) 9 n) 10 a_10) 11 fa_11) 21 K) zl (uf (uf (uf f 1 tb) 8 (iu prr 4 r_9)) 9 (iu (iu (iu (iu pu 16 0) 17 0) 18 0) 19 0)) fl 1) rfl rfl (by omega) (by omega) (by omega) rfl ?_
  refine Rx.walk 3 (pc' := 55) (L' := [some (.ref 0), some (.int (iz 4)), some (.int (iz 4)), none]) (st' := [.int (iz (-1)), .int (iz fa_11)]) (h' := cmH (u1 (u1 (u1 (u1 (u1 (u1 z 6 n) 8 0) 9 n) 10 a_10) 11 fa_11) 21 K) zl (uf (uf (uf f 1 tb) 8 (iu prr 4 r_9)) 9 (iu (iu (iu (iu pu 16 0) 17 0) 18 0) 19 0)) fl 1) rfl ?_
  refine Rx.ne2 rfl rfl ⟨by omega, by omega⟩ ⟨by omega, by omega⟩ (fun b20 => ?_) (fun b20 => ?_)
  · refine Rx.ret rfl ?_
    have hnn : (nmP n b 1 99 0).2 = none ∧ fa_11 = a_10 := by rcases f12 with ⟨v, q1, q2, q3⟩ | q; (exfalso; omega); exact ⟨q.1, q.2.2⟩
    exact ⟨_, _, _, _, rfl, rfl, by rw [cuP_1 hnn.1, ← f13]; exact hnn.2, fun v l q => absurd q (by rw [cuP_1 hnn.1]; simp), (fun j j0 j1 => by rw [iu_ne _ _ (by omega), iu_ne _ _ (by omega), iu_ne _ _ (by omega), iu_ne _ _ (by omega)]), (fun j j0 j1 => by rw [iu_ne _ _ (by omega)]), ⟨by omega, by omega⟩, f16⟩
  · refine Rx.walk 2 (pc' := 61) (L' := [some (.ref 0), some (.int (iz 4)), some (.int (iz 4)), none]) (st' := [.int (iz 58), .ref 0]) (h' := cmH (u1 (u1 (u1 (u1 (u1 (u1 z 6 n) 8 0) 9 n) 10 a_10) 11 fa_11) 21 K) zl (uf (uf (uf f 1 tb) 8 (iu prr 4 r_9)) 9 (iu (iu (iu (iu pu 16 0) 17 0) 18 0) 19 0)) fl 1) rfl ?_
    refine Rx.callx (m' := m_X12_takes) (as := [.ref 0, .int (iz 58)]) (rest := []) rfl (m_takes1 _ (u1 (u1 z 6 n) 21 K) zl (uf (uf f 8 (iu prr 4 r_9)) 9 (iu (iu (iu (iu pu 16 0) 17 0) 18 0) 19 0)) fl 1  58 n a_10 0 fa_11 tb b hT hM ⟨by omega, by omega⟩ ⟨by omega, by omega⟩ (by omega)) (fun v27 h28 q29 => ?_)
    obtain ⟨r_21, a_22, fa_23, rfl, rfl, f24, f25, f26⟩ := q29
    refine Rx.walk 0 (pc' := 64) (L' := [some (.ref 0), some (.int (iz 4)), some (.int (iz 4)), none]) (st' := [.int (iz r_21)]) (h' := cmH (u1 (u1 (u1 (u1 (u1 (u1 z 6 n) 8 0) 9 n) 10 a_22) 11 fa_23) 21 K) zl (uf (uf (uf f 1 tb) 8 (iu prr 4 r_9)) 9 (iu (iu (iu (iu pu 16 0) 17 0) 18 0) 19 0)) fl 1) rfl ?_
    refine Rx.ne1 rfl rfl ⟨by omega, by omega⟩ (fun b30 => ?_) (fun b30 => ?_)
    · obtain ⟨v, hv1, hv2⟩ : ∃ v, (nmP n b 1 99 0).2 = some v ∧ r_9 = v := by rcases f12 with ⟨v, q1, q2, q3⟩ | q; exact ⟨v, q1, q2⟩; (exfalso; omega)
      obtain ⟨hw1, hw2, hw3⟩ : sg n b (sks n b a_10) = 58 ∧ a_22 = sks n b a_10 + 1 ∧ fa_23 = -1 := by rcases f24 with q | q | q; (exact ⟨q.2.2.2.1, q.2.2.2.2, q.2.2.1⟩); (exfalso; omega); (exfalso; omega)
      rw [f13] at hw1 hw2
      subst hw3
      refine Rx.walk 2 (pc' := 70) (L' := [some (.ref 0), some (.int (iz 4)), some (.int (iz 0)), none]) (st' := []) (h' := cmH (u1 (u1 (u1 (u1 (u1 (u1 z 6 n) 8 0) 9 n) 10 a_22) 11 (-1)) 21 K) zl (uf (uf (uf f 1 tb) 8 (iu prr 4 r_9)) 9 (iu (iu (iu (iu pu 16 0) 17 0) 18 0) 19 0)) fl 1) rfl ?_
      refine m_rCust_l _ (u1 z 6 n) zl (uf f 8 (iu prr 4 r_9)) fl 1  n tb b K (iu (iu (iu (iu pu 16 0) 17 0) 18 0) 19 0) (cnP n b (k4 K) 4 (sks n b (nmP n b 1 99 0).1 + 1)) hT hM hK _ ?_ ((4 - 0) + 1 : Int).toNat 0 a_22 (iu (iu (iu (iu pu 16 0) 17 0) 18 0) 19 0) [] none ⟨by omega, by omega⟩ ⟨by omega, by omega⟩ rfl (by rw [hw2]; exact ⟨rfl, rfl, rfl⟩) (Or.inl rfl) (fun k k0 k4 => by rcases (show k = 0 ∨ k = 1 ∨ k = 2 ∨ k = 3 by omega) with q | q | q | q <;> subst q <;> rfl) (fun j j0 j1 => rfl) (by omega) 
      intro a_31 fa_32 pu_33 f34 f35 f36 f37
      show (fun (rv : Option Value) (h : AmH) => ∃ a' : Int, ∃ fa' : Int, ∃ pu' : Int → Int, ∃ prr' : Int → Int, rv = none ∧ h = cmH (u1 (u1 (u1 (u1 (u1 (u1 z 6 n) 8 0) 9 n) 10 a') 11 fa') 21 K) zl (uf (uf (uf f 1 tb) 8 prr') 9 pu') fl 1 ∧ fa' = (cuP n b (k4 K)).1 ∧ (∀ (v : Int) (l : List Int), (cuP n b (k4 K)).2 = some (v, l) → prr' 4 = v ∧ cnt4 pu' l) ∧ (∀ j : Int, 0 ≤ j → j < 16 → pu' j = pu j) ∧ (∀ j : Int, 0 ≤ j → j < 4 → prr' j = prr j) ∧ (0 ≤ a' ∧ a' ≤ n) ∧ (fa' = -1 ∨ (0 ≤ fa' ∧ fa' ≤ 160))) (none) (cmH (u1 (u1 (u1 (u1 (u1 (u1 z 6 n) 8 0) 9 n) 10 a_31) 11 fa_32) 21 K) zl (uf (uf (uf f 1 tb) 8 (iu prr 4 r_9)) 9 pu_33) fl 1)
      refine ⟨_, _, _, _, rfl, rfl, ?_, ?_, (fun j j0 j1 => (f37 j j0 j1).trans (by rw [iu_ne _ _ (by omega), iu_ne _ _ (by omega), iu_ne _ _ (by omega), iu_ne _ _ (by omega)])), (fun j j0 j1 => by rw [iu_ne _ _ (by omega)]), f34, f35⟩
      · rcases f36 with ⟨q1, q2⟩ | ⟨q1, q2, q3, q4⟩
        · by_cases hnil : (cnP n b (k4 K) 4 (sks n b (nmP n b 1 99 0).1 + 1)).2 = []
          · rw [cuP_3 hv1 hw1 hnil]; exact q1
          · rw [cuP_5 hv1 hw1 hnil (q2.elim (fun z => absurd z hnil) id)]; exact q1
        · rw [cuP_4 hv1 hw1 q2 q3]; exact q1
      · intro v2 l2 hq
        rcases f36 with ⟨q1, q2⟩ | ⟨q1, q2, q3, q4⟩
        · exfalso; by_cases hnil : (cnP n b (k4 K) 4 (sks n b (nmP n b 1 99 0).1 + 1)).2 = []
          · rw [cuP_3 hv1 hw1 hnil] at hq; cases hq
          · rw [cuP_5 hv1 hw1 hnil (q2.elim (fun z => absurd z hnil) id)] at hq; cases hq
        · rw [cuP_4 hv1 hw1 q2 q3] at hq
          simp only [Option.some.injEq, Prod.mk.injEq] at hq
          obtain ⟨rfl, rfl⟩ := hq
          exact ⟨by rw [← hv2]; exact iu_at _ _ _, q4⟩
    · refine Rx.ret rfl ?_
      obtain ⟨v, hv1, hv2⟩ : ∃ v, (nmP n b 1 99 0).2 = some v ∧ r_9 = v := by rcases f12 with ⟨v, q1, q2, q3⟩ | q; exact ⟨v, q1, q2⟩; (exfalso; omega)
      obtain ⟨hw1, hw2, hw3⟩ : sg n b (sks n b a_10) ≠ 58 ∧ a_22 = sks n b a_10 ∧ fa_23 = sks n b a_10 := by rcases f24 with q | q | q; (exfalso; omega); (exact ⟨q.2.2.1, q.2.2.2.1, q.2.2.2.2⟩); (exfalso; omega)
      rw [f13] at hw1 hw2 hw3
      exact ⟨_, _, _, _, rfl, rfl, by rw [cuP_2 hv1 hw1]; exact hw3, fun v l q => absurd q (by rw [cuP_2 hv1 hw1]; simp), (fun j j0 j1 => by rw [iu_ne _ _ (by omega), iu_ne _ _ (by omega), iu_ne _ _ (by omega), iu_ne _ _ (by omega)]), (fun j j0 j1 => by rw [iu_ne _ _ (by omega)]), ⟨by omega, by omega⟩, f26⟩

/-! the texts of the class, in its world: shop, customer, fault (printed by wip/whole/gentxt.py) -/
def zWH (z : Nat → Nat → Int) (C : Nat → CuR) (T : Nat → TsR) : Nat → Nat → Int := fun p k => (bif (Nat.beq p 15 && Nat.beq k 0) then (C 0).1 else (bif (Nat.beq p 15 && Nat.beq k 2) then (C 0).2.2.1 else (bif (Nat.beq p 15 && Nat.beq k 3) then (C 0).2.2.2.1 else (bif (Nat.beq p 15 && Nat.beq k 7) then (C 0).2.2.2.2.2.2.2 else (bif (Nat.beq p 20 && Nat.beq k 0) then (C 1).1 else (bif (Nat.beq p 20 && Nat.beq k 2) then (C 1).2.2.1 else (bif (Nat.beq p 20 && Nat.beq k 3) then (C 1).2.2.2.1 else (bif (Nat.beq p 20 && Nat.beq k 7) then (C 1).2.2.2.2.2.2.2 else (bif (Nat.beq p 25 && Nat.beq k 0) then (C 2).1 else (bif (Nat.beq p 25 && Nat.beq k 2) then (C 2).2.2.1 else (bif (Nat.beq p 25 && Nat.beq k 3) then (C 2).2.2.2.1 else (bif (Nat.beq p 25 && Nat.beq k 7) then (C 2).2.2.2.2.2.2.2 else (bif (Nat.beq p 30 && Nat.beq k 0) then (C 3).1 else (bif (Nat.beq p 30 && Nat.beq k 2) then (C 3).2.2.1 else (bif (Nat.beq p 30 && Nat.beq k 3) then (C 3).2.2.2.1 else (bif (Nat.beq p 30 && Nat.beq k 7) then (C 3).2.2.2.2.2.2.2 else (bif (Nat.beq p 66 && Nat.beq k 0) then (tlm 0) else (bif (Nat.beq p 66 && Nat.beq k 1) then (tsh 0) else (bif (Nat.beq p 66 && Nat.beq k 5) then ((T 0).1) else (bif (Nat.beq p 70 && Nat.beq k 0) then (tlm 1) else (bif (Nat.beq p 70 && Nat.beq k 1) then (tsh 1) else (bif (Nat.beq p 70 && Nat.beq k 5) then ((T 1).1) else (bif (Nat.beq p 74 && Nat.beq k 0) then (tlm 2) else (bif (Nat.beq p 74 && Nat.beq k 1) then (tsh 2) else (bif (Nat.beq p 74 && Nat.beq k 5) then ((T 2).1) else (bif (Nat.beq p 78 && Nat.beq k 0) then (tlm 3) else (bif (Nat.beq p 78 && Nat.beq k 1) then (tsh 3) else (bif (Nat.beq p 78 && Nat.beq k 5) then ((T 3).1) else (bif (Nat.beq p 82 && Nat.beq k 0) then (tlm 4) else (bif (Nat.beq p 82 && Nat.beq k 1) then (tsh 4) else (bif (Nat.beq p 82 && Nat.beq k 5) then ((T 4).1) else (bif (Nat.beq p 57 && Nat.beq k 0) then (tlm 5) else (bif (Nat.beq p 57 && Nat.beq k 1) then (tsh 5) else (bif (Nat.beq p 57 && Nat.beq k 5) then ((T 5).1) else (bif (Nat.beq p 87 && Nat.beq k 0) then (tlm 6) else (bif (Nat.beq p 87 && Nat.beq k 1) then (tsh 6) else (bif (Nat.beq p 87 && Nat.beq k 5) then ((T 6).1) else z p k)))))))))))))))))))))))))))))))))))))
def fWH (f : Nat → Int → Int) (C : Nat → CuR) (T : Nat → TsR) : Nat → Int → Int := fun p => (bif Nat.beq p 16 then (C 0).2.1 else (bif Nat.beq p 17 then (C 0).2.2.2.2.1 else (bif Nat.beq p 18 then (C 0).2.2.2.2.2.1 else (bif Nat.beq p 19 then (C 0).2.2.2.2.2.2.1 else (bif Nat.beq p 21 then (C 1).2.1 else (bif Nat.beq p 22 then (C 1).2.2.2.2.1 else (bif Nat.beq p 23 then (C 1).2.2.2.2.2.1 else (bif Nat.beq p 24 then (C 1).2.2.2.2.2.2.1 else (bif Nat.beq p 26 then (C 2).2.1 else (bif Nat.beq p 27 then (C 2).2.2.2.2.1 else (bif Nat.beq p 28 then (C 2).2.2.2.2.2.1 else (bif Nat.beq p 29 then (C 2).2.2.2.2.2.2.1 else (bif Nat.beq p 31 then (C 3).2.1 else (bif Nat.beq p 32 then (C 3).2.2.2.2.1 else (bif Nat.beq p 33 then (C 3).2.2.2.2.2.1 else (bif Nat.beq p 34 then (C 3).2.2.2.2.2.2.1 else (bif Nat.beq p 67 then (T 0).2.1 else (bif Nat.beq p 68 then (T 0).2.2.1 else (bif Nat.beq p 69 then (T 0).2.2.2 else (bif Nat.beq p 71 then (T 1).2.1 else (bif Nat.beq p 72 then (T 1).2.2.1 else (bif Nat.beq p 73 then (T 1).2.2.2 else (bif Nat.beq p 75 then (T 2).2.1 else (bif Nat.beq p 76 then (T 2).2.2.1 else (bif Nat.beq p 77 then (T 2).2.2.2 else (bif Nat.beq p 79 then (T 3).2.1 else (bif Nat.beq p 80 then (T 3).2.2.1 else (bif Nat.beq p 81 then (T 3).2.2.2 else (bif Nat.beq p 83 then (T 4).2.1 else (bif Nat.beq p 84 then (T 4).2.2.1 else (bif Nat.beq p 85 then (T 4).2.2.2 else (bif Nat.beq p 58 then (T 5).2.1 else (bif Nat.beq p 59 then (T 5).2.2.1 else (bif Nat.beq p 60 then (T 5).2.2.2 else (bif Nat.beq p 88 then (T 6).2.1 else (bif Nat.beq p 89 then (T 6).2.2.1 else (bif Nat.beq p 90 then (T 6).2.2.2 else f p)))))))))))))))))))))))))))))))))))))
/-- what the class's reading of a shop leaves -/
def shR (n : Int) (b : Int → Int) (r q K s0 s1 s2 : Int) (g : Int → Int) : Prop := (r = 1 ∧ ∃ l : List Int, sg n b (sks n b 0) = 99 ∧ (vlP n b 4 0 (sks n b 0 + 1)).2 = some l ∧ (ptP n b 3 0 (1, 5, 1) (vlP n b 4 0 (sks n b 0 + 1)).1).2 = some (s0, s1, s2) ∧ sks n b q = (ptP n b 3 0 (1, 5, 1) (vlP n b 4 0 (sks n b 0 + 1)).1).1 ∧ K = l.length ∧ 0 < l.length ∧ lst g 1 l) ∨ (r = 0 ∧ shP n b = (q, none))
theorem shR_m {n : Int} {b : Int → Int} {r q K s0 s1 s2 : Int} {g : Int → Int} (h : shR n b r q K s0 s1 s2 g) (hn : 0 ≤ n) (h1 : r = 1) (h2 : sg n b (sks n b q) = -1) : ∃ l : List Int, shP n b = (-1, some (l, s0, s1, s2)) ∧ K = l.length ∧ 0 < l.length ∧ lst g 1 l := by
  rcases h with ⟨-, l, e1, e2, e3, e4, e5, e6, e7⟩ | ⟨h, -⟩
  · exact ⟨l, shP_4 e1 e2 e3 (by rw [← e4]; exact h2), e5, e6, e7⟩
  · omega
theorem shR_n {n : Int} {b : Int → Int} {r q K s0 s1 s2 : Int} {g : Int → Int} (h : shR n b r q K s0 s1 s2 g) (h1 : r = 1) (h2 : sg n b (sks n b q) ≠ -1) : shP n b = (sks n b q, none) := by
  rcases h with ⟨-, l, e1, e2, e3, e4, e5, e6, e7⟩ | ⟨h, -⟩
  · rw [shP_5 e1 e2 e3 (by rw [← e4]; exact h2), e4]
  · omega
theorem shR_f {n : Int} {b : Int → Int} {r q K s0 s1 s2 : Int} {g : Int → Int} (h : shR n b r q K s0 s1 s2 g) (h1 : r = 0) : shP n b = (q, none) := by
  rcases h with ⟨h, -⟩ | ⟨-, h⟩
  · omega
  · exact h
set_option maxRecDepth 100000 in
set_option maxHeartbeats 4000000 in
theorem x_shReads (d : Nat) (z : Nat → Nat → Int) (f : Nat → Int → Int) (C : Nat → CuR) (T : Nat → TsR) (rc : Nat → Nat) (tl : AmH)  (n : Int) (b : Int → Int) (K : Int) (g : Int → Int) (hT : tOK n b) (hg : shI g) (hK : 0 ≤ K ∧ K ≤ 4) : Rx (d + 5) m_X7_reads 0 (am_ent [.ref 5, .ref 1] 2) [] (cxW (u2 (u2 (u2 z 1 1 n) 1 2 0) 5 1 K) (uf (uf f 2 b) 6 g) C T rc tl) (fun rv h => ∃ r : Int, ∃ q' : Int, ∃ K' : Int, ∃ s0' : Int, ∃ s1' : Int, ∃ s2' : Int, ∃ g' : Int → Int, rv = some (.int (iz r)) ∧ h = cxW (u2 (u2 (u2 (u2 (u2 (u2 z 1 1 n) 1 2 q') 5 1 K') 5 2 s0') 5 3 s1') 5 4 s2') (uf (uf f 2 b) 6 g') C T rc tl ∧ shR n b r q' K' s0' s1' s2' g' ∧ ((r = 0 ∨ r = 1) ∧ (0 ≤ q' ∧ q' ≤ n) ∧ (0 ≤ K' ∧ K' ≤ 4)) ∧ shI g') := by
  refine (x_reads d (zWH z C T) (uf (fWH f C T) 2 b) rc tl n K g hT hg hK.1 hK.2).mono (fun rv h q => ?_)
  obtain ⟨g', K', q, s', q1, q2, q3, q4, q5, q6, q7⟩ := q
  rcases q7 with ⟨l, w1, w2, w3, w4, w5, w6, w7, w8⟩ | ⟨w1, w2⟩
  · exact ⟨1, q, K', _, _, _, g', w1, q6, Or.inl ⟨rfl, l, w2, w3, w4, w5, w6, w7, w8⟩, ⟨Or.inr rfl, ⟨q4, q5⟩, q2, q3⟩, q1⟩
  · exact ⟨0, q, K', _, _, _, g', w1, q6, Or.inr ⟨rfl, w2⟩, ⟨Or.inl rfl, ⟨q4, q5⟩, q2, q3⟩, q1⟩
set_option maxRecDepth 100000 in
set_option maxHeartbeats 4000000 in
theorem x_bnd (d : Nat) (z : Nat → Nat → Int) (f : Nat → Int → Int) (C : Nat → CuR) (T : Nat → TsR) (rc : Nat → Nat) (tl : AmH)  (lo : Int) (hi : Int) (n : Int) (a : Int) (b : Int → Int) (hT : tOK n b) (ha : 0 ≤ a ∧ a ≤ n) (hlo : bI lo) (hhi : bI hi) : Rx (d + 2) m_X8_bounded 0 (am_ent [.ref 1, .int (iz lo), .int (iz hi)] 4) [] (cxW (u2 (u2 z 1 1 n) 1 2 a) (uf f 2 b) C T rc tl) (fun rv h => ∃ r : Int, ∃ a' : Int, rv = some (.int (iz r)) ∧ h = cxW (u2 (u2 z 1 1 n) 1 2 a') (uf f 2 b) C T rc tl ∧ ((∃ v, (nmP n b lo hi a).2 = some v ∧ r = v) ∨ ((nmP n b lo hi a).2 = none ∧ r = -1)) ∧ a' = (nmP n b lo hi a).1 ∧ (0 ≤ a' ∧ a' ≤ n) ∧ (r = -1 ∨ (lo ≤ r ∧ r ≤ hi))) := by
  have hp := nmP_props (n := n) (b := b) (lo := lo) (hi := hi) ha.1 ha.2
  refine (x_bounded2 d (zWH z C T) (uf (fWH f C T) 2 b) rc tl n a lo hi hlo hhi hT ha.1 ha.2).mono (fun rv h q => ?_)
  rcases q with ⟨v, q1, q2, q3⟩ | ⟨q1, q2, q3⟩
  · exact ⟨_, _, q2, q3, Or.inl ⟨v, q1, rfl⟩, rfl, ⟨hp.1, hp.2.1⟩, Or.inr ⟨(hp.2.2 v q1).1, (hp.2.2 v q1).2.1⟩⟩
  · exact ⟨_, _, q2, q3, Or.inr ⟨q1, rfl⟩, rfl, ⟨hp.1, hp.2.1⟩, Or.inl rfl⟩
set_option maxRecDepth 100000 in
set_option maxHeartbeats 4000000 in
theorem x_addC (d : Nat) (z : Nat → Nat → Int) (f : Nat → Int → Int) (C : Nat → CuR) (T : Nat → TsR) (rc : Nat → Nat) (tl : AmH)  (e : Int) (co : Int) (g : Int → Int) (pl : List Int) (he : 1 ≤ e ∧ e ≤ 4) (hl : pl.length < 4) (hco : co = (pl.length : Int)) (hg : lst g 0 pl) (hp : pl.Pairwise (fun x y => y ≤ x)) (hb : ∀ x ∈ pl, 1 ≤ x ∧ x ≤ 4) : Rx (d) m_X2_addCoin 0 (am_ent [.ref 7, .int (iz e)] 3) [] (cxW (u2 z 7 2 co) (uf f 8 g) C T rc tl) (fun rv h => ∃ g' : Int → Int, rv = none ∧ h = cxW (u2 z 7 2 (co + 1)) (uf f 8 g') C T rc tl ∧ lst g' 0 (insD e pl)) := by
  subst hco
  refine (x_addCoin d (zWH z C T) (fWH f C T) rc tl g e he pl hl hg hp hb).mono (fun rv h q => ?_)
  obtain ⟨q1, g', q2, q3⟩ := q
  exact ⟨g', q1, q2, q3⟩
/-- the kinds that a text may name -/
def k4 (K : Int) : Int := if K = 0 then 4 else K
theorem insL_props {K : Int} (h4 : K ≤ 4) : ∀ (l p : List Int), (∀ x ∈ l, 0 ≤ x ∧ x < K) → (p.Pairwise (fun x y => y ≤ x)) → (∀ x ∈ p, 1 ≤ x ∧ x ≤ 4) → (insL l p).length = p.length + l.length ∧ (insL l p).Pairwise (fun x y => y ≤ x) ∧ ∀ x ∈ insL l p, 1 ≤ x ∧ x ≤ 4
  | [], p, _, h2, h3 => ⟨rfl, h2, h3⟩
  | k :: l, p, h1, h2, h3 => by
    have hk := h1 k (List.mem_cons_self ..)
    have := insL_props h4 l (insD (k + 1) p) (fun x hx => h1 x (List.mem_cons_of_mem _ hx)) (insD_pw h2) (fun x hx => by
      rcases insD_mem.mp hx with q | q
      · omega
      · exact h3 x q)
    refine ⟨?_, this.2⟩
    have h := this.1
    rw [insD_len] at h
    show (insL l (insD (k + 1) p)).length = p.length + (l.length + 1)
    omega
/-- what the class's reading of a customer leaves -/
def cuR (n : Int) (b : Int → Int) (K r q pr co : Int) (g : Int → Int) : Prop := (r = 1 ∧ (nmP n b 1 99 0).2 = some pr ∧ sg n b (sks n b (nmP n b 1 99 0).1) = 58 ∧ (cnP n b K 4 (sks n b (nmP n b 1 99 0).1 + 1)).2 ≠ [] ∧ sks n b q = (cnP n b K 4 (sks n b (nmP n b 1 99 0).1 + 1)).1 ∧ co = (cnP n b K 4 (sks n b (nmP n b 1 99 0).1 + 1)).2.length ∧ lst g 0 (insL (cnP n b K 4 (sks n b (nmP n b 1 99 0).1 + 1)).2 [])) ∨ (r = 0 ∧ cuP n b K = (q, none))
theorem cuR_m {n : Int} {b : Int → Int} {K r q pr co : Int} {g : Int → Int} (h : cuR n b K r q pr co g) (h1 : r = 1) (h2 : sg n b (sks n b q) = -1) : ∃ l : List Int, cuP n b K = (-1, some (pr, l)) ∧ l ≠ [] ∧ co = l.length ∧ lst g 0 (insL l []) := by
  rcases h with ⟨-, e1, e2, e3, e4, e5, e6⟩ | ⟨h, -⟩
  · exact ⟨_, cuP_4 e1 e2 e3 (by rw [← e4]; exact h2), e3, e5, e6⟩
  · omega
theorem cuR_n {n : Int} {b : Int → Int} {K r q pr co : Int} {g : Int → Int} (h : cuR n b K r q pr co g) (h1 : r = 1) (h2 : sg n b (sks n b q) ≠ -1) : cuP n b K = (sks n b q, none) := by
  rcases h with ⟨-, e1, e2, e3, e4, e5, e6⟩ | ⟨h, -⟩
  · rw [cuP_5 e1 e2 e3 (by rw [← e4]; exact h2), e4]
  · omega
theorem cuR_f {n : Int} {b : Int → Int} {K r q pr co : Int} {g : Int → Int} (h : cuR n b K r q pr co g) (h1 : r = 0) : cuP n b K = (q, none) := by
  rcases h with ⟨h, -⟩ | ⟨-, h⟩
  · omega
  · exact h
/-- the coins read so far: pl of them in the purse, the rest to come from a -/
def cnQ (n : Int) (b : Int → Int) (K : Int) (k : Nat) (a : Int) (L : Int × List Int) (pl : List Int) : Prop := ∃ l1 : List Int, L.1 = (cnP n b K k a).1 ∧ L.2 = l1 ++ (cnP n b K k a).2 ∧ pl = insL l1 [] ∧ l1.length + k = 4 ∧ ∀ x ∈ l1, 0 ≤ x ∧ x < K
theorem cnQ_i {n : Int} {b : Int → Int} {K : Int} {k : Nat} {a : Int} {L : Int × List Int} {pl : List Int} (h : cnQ n b K k a L pl) (h4 : K ≤ 4) : pl.length + k = 4 ∧ pl.Pairwise (fun x y => y ≤ x) ∧ ∀ x ∈ pl, 1 ≤ x ∧ x ≤ 4 := by
  obtain ⟨l1, -, -, rfl, e, hb⟩ := h
  have := insL_props h4 l1 [] hb List.Pairwise.nil (fun x hx => by cases hx)
  exact ⟨by rw [this.1]; simpa using e, this.2⟩
theorem cnQ_s {n : Int} {b : Int → Int} {K : Int} {k : Nat} {a : Int} {L : Int × List Int} {pl : List Int} (h : cnQ n b K (k + 1) a L pl) (h2 : 97 ≤ sg n b (sks n b a) ∧ sg n b (sks n b a) - 97 < K) : cnQ n b K k (sks n b a + 1) L (insD (sg n b (sks n b a) - 97 + 1) pl) := by
  obtain ⟨l1, e1, e2, rfl, e, hb⟩ := h
  rw [cnP_t h2] at e1 e2
  refine ⟨l1 ++ [sg n b (sks n b a) - 97], e1, by rw [e2, List.append_assoc]; rfl, ?_, ?_, ?_⟩
  · unfold insL; rw [List.foldl_append]; rfl
  · rw [List.length_append]; show l1.length + 1 + k = 4; omega
  · intro x hx
    rcases List.mem_append.mp hx with q | q
    · exact hb x q
    · rcases List.mem_singleton.mp q with rfl; exact ⟨by omega, h2.2⟩
theorem cnQ_e {n : Int} {b : Int → Int} {K : Int} {k : Nat} {a : Int} {L : Int × List Int} {pl : List Int} (h : cnQ n b K k a L pl) (h2 : k = 0 ∨ ¬ (97 ≤ sg n b (sks n b a) ∧ sg n b (sks n b a) - 97 < K)) : L.1 = sks n b a ∧ insL L.2 [] = pl ∧ L.2.length + k = 4 := by
  obtain ⟨l1, e1, e2, rfl, e, hb⟩ := h
  have hc : cnP n b K k a = (sks n b a, []) := by
    rcases h2 with rfl | h2
    · rfl
    · exact cnP_f h2
  rw [hc] at e1 e2
  have e2' : L.2 = l1 := by rw [e2]; exact List.append_nil _
  exact ⟨e1, by rw [e2'], by rw [e2']; exact e⟩
theorem cnQ_0 {n : Int} {b : Int → Int} {K a : Int} : cnQ n b K 4 a (cnP n b K 4 a) [] := ⟨[], rfl, rfl, rfl, rfl, fun x hx => by cases hx⟩
theorem insL_nil {n : Int} {b : Int → Int} {K : Int} {k : Nat} {a : Int} {L : Int × List Int} {pl : List Int} (h4 : K ≤ 4) (h : cnQ n b K k a L pl) : (insL L.2 []).length = L.2.length := by
  have hp : ∀ (l p : List Int), (insL l p).length = p.length + l.length := by
    intro l
    induction l with
    | nil => intro p; rfl
    | cons x l ih => intro p; show (insL l (insD (x + 1) p)).length = _; rw [ih, insD_len, List.length_cons]; omega
  rw [hp]; simp
set_option maxRecDepth 100000 in
set_option maxHeartbeats 4000000 in
theorem x_cReads_l (d : Nat) (z : Nat → Nat → Int) (f : Nat → Int → Int) (C : Nat → CuR) (T : Nat → TsR) (rc : Nat → Nat) (tl : AmH)  (n : Int) (b : Int → Int) (K : Int) (Lc : Int × List Int) (hT : tOK n b) (hK : 0 ≤ K ∧ K ≤ 4) (P : Option Value → AmH → Prop) (hx0 : ∀ (r : Int) (a' : Int) (co' : Int) (g' : Int → Int), (0 ≤ a' ∧ a' ≤ n) → (0 ≤ co' ∧ co' ≤ 4) → (sks n b a' = Lc.1 ∧ co' = (Lc.2.length : Int) ∧ lst g' 0 (insL Lc.2 [])) → ((r = 1 ∧ Lc.2 ≠ []) ∨ (r = 0 ∧ Lc.2 = [] ∧ a' = Lc.1)) → P (some (.int (iz r))) (cxW (u2 (u2 (u2 z 1 1 n) 1 2 a') 7 2 co') (uf (uf f 2 b) 8 g') C T rc tl)) : ∀ (kF : Nat) (i : Int) (a : Int) (co : Int) (g : Int → Int) (pl : List Int) (w5 : Option Value), (0 ≤ a ∧ a ≤ n) → (0 ≤ i ∧ i ≤ 4) → (co = (pl.length : Int)) → (lst g 0 pl) → (cnQ n b K (4 - i).toNat a Lc pl) → (4 - i) < (kF : Int) → Rx (d + 1) m_X2_reads 54 [some (.ref 7), some (.ref 1), some (.ref 3), some (.int (iz K)), some (.int (iz i)), w5] [] (cxW (u2 (u2 (u2 z 1 1 n) 1 2 a) 7 2 co) (uf (uf f 2 b) 8 g) C T rc tl) P := by
  obtain ⟨hT1, hT2, hT3⟩ := id hT
  intro kF
  induction kF with
  | zero =>
    intro i a co g pl w5 ha hi hco hg hQ hk
    exfalso; omega
  | succ kF ih =>
    intro i a co g pl w5 ha hi hco hg hQ hk
    refine Rx.walk 1 (pc' := 56) (L' := [some (.ref 7), some (.ref 1), some (.ref 3), some (.int (iz K)), some (.int (iz i)), w5]) (st' := [.int (iz i)]) (h' := cxW (u2 (u2 (u2 z 1 1 n) 1 2 a) 7 2 co) (uf (uf f 2 b) 8 g) C T rc tl) rfl ?_
    have hq := cnQ_i hQ hK.2
    have hql := hq.1
    refine Rx.walk 1 (pc' := 57) (L' := [some (.ref 7), some (.ref 1), some (.ref 3), some (.int (iz K)), some (.int (iz i)), w5]) (st' := [.int (iz 4), .int (iz i)]) (h' := cxW (u2 (u2 (u2 z 1 1 n) 1 2 a) 7 2 co) (uf (uf f 2 b) 8 g) C T rc tl) rfl ?_
    refine Rx.ge2 rfl rfl ⟨by omega, by omega⟩ ⟨by omega, by omega⟩ (fun b1 => ?_) (fun b1 => ?_)
    · refine Rx.walk 1 (pc' := 116) (L' := [some (.ref 7), some (.ref 1), some (.ref 3), some (.int (iz K)), some (.int (iz i)), w5]) (st' := [.int (iz 1)]) (h' := cxW (u2 (u2 (u2 z 1 1 n) 1 2 a) 7 2 co) (uf (uf f 2 b) 8 g) C T rc tl) rfl ?_
      refine Rx.ret rfl ?_
      exact hx0 _ _ _ _ ⟨by omega, by omega⟩ ⟨by omega, by omega⟩ (by obtain ⟨q1, q2, q3⟩ := cnQ_e hQ (Or.inl (by omega)); exact ⟨q1.symm, by rw [hco, ← q2, (insL_nil (K := K) hK.2 hQ)], by rw [q2]; exact hg⟩) (Or.inl ⟨rfl, fun q => by have := (cnQ_e hQ (Or.inl (by omega))).2.2; rw [q] at this; simp at this; omega⟩)
    · refine Rx.walk 1 (pc' := 61) (L' := [some (.ref 7), some (.ref 1), some (.ref 3), some (.int (iz K)), some (.int (iz i)), w5]) (st' := [.ref 1]) (h' := cxW (u2 (u2 (u2 z 1 1 n) 1 2 a) 7 2 co) (uf (uf f 2 b) 8 g) C T rc tl) rfl ?_
      refine Rx.callx (m' := m_X8_sign) (as := [.ref 1]) (rest := []) rfl (x_sgn _ (u2 z 7 2 co) (uf f 8 g) C T rc tl  n a b hT ha) (fun v8 h9 q10 => ?_)
      obtain ⟨r_2, a_3, rfl, rfl, f4, f5, f6, f7⟩ := q10
      refine Rx.walk 0 (pc' := 64) (L' := [some (.ref 7), some (.ref 1), some (.ref 3), some (.int (iz K)), some (.int (iz i)), w5]) (st' := [.int (iz r_2)]) (h' := cxW (u2 (u2 (u2 z 1 1 n) 1 2 a_3) 7 2 co) (uf (uf f 2 b) 8 g) C T rc tl) rfl ?_
      refine Rx.walk 1 (pc' := 66) (L' := [some (.ref 7), some (.ref 1), some (.ref 3), some (.int (iz K)), some (.int (iz i)), w5]) (st' := [.int (iz 97), .int (iz r_2)]) (h' := cxW (u2 (u2 (u2 z 1 1 n) 1 2 a_3) 7 2 co) (uf (uf f 2 b) 8 g) C T rc tl) rfl ?_
      refine Rx.isub rfl ?_
      refine Rx.walk 2 (pc' := 71) (L' := [some (.ref 7), some (.ref 1), some (.ref 3), some (.int (iz K)), some (.int (iz i)), some (.int (iz (r_2 - 97)))]) (st' := [.int (iz (r_2 - 97))]) (h' := cxW (u2 (u2 (u2 z 1 1 n) 1 2 a_3) 7 2 co) (uf (uf f 2 b) 8 g) C T rc tl) rfl ?_
      refine Rx.lt1 rfl rfl ⟨by omega, by omega⟩ (fun b11 => ?_) (fun b11 => ?_)
      · refine Rx.walk 1 (pc' := 82) (L' := [some (.ref 7), some (.ref 1), some (.ref 3), some (.int (iz K)), some (.int (iz i)), some (.int (iz (r_2 - 97)))]) (st' := [.int (iz i)]) (h' := cxW (u2 (u2 (u2 z 1 1 n) 1 2 a_3) 7 2 co) (uf (uf f 2 b) 8 g) C T rc tl) rfl ?_
        refine Rx.le1 rfl rfl ⟨by omega, by omega⟩ (fun b12 => ?_) (fun b12 => ?_)
        · refine Rx.walk 1 (pc' := 90) (L' := [some (.ref 7), some (.ref 1), some (.ref 3), some (.int (iz K)), some (.int (iz i)), some (.int (iz (r_2 - 97)))]) (st' := [.int (iz 0)]) (h' := cxW (u2 (u2 (u2 z 1 1 n) 1 2 a_3) 7 2 co) (uf (uf f 2 b) 8 g) C T rc tl) rfl ?_
          refine Rx.ret rfl ?_
          exact hx0 _ _ _ _ ⟨by omega, by omega⟩ ⟨by omega, by omega⟩ (by obtain ⟨q1, q2, q3⟩ := cnQ_e hQ (Or.inr (fun q => by rw [← f4, ← f5] at q; omega)); exact ⟨by rw [f4, sks_sks]; exact q1.symm, by rw [hco, ← q2, (insL_nil (K := K) hK.2 hQ)], by rw [q2]; exact hg⟩) (by obtain ⟨q1, q2, q3⟩ := cnQ_e hQ (Or.inr (fun q => by rw [← f4, ← f5] at q; omega)); exact Or.inr ⟨rfl, List.eq_nil_of_length_eq_zero (by omega), by rw [q1]; exact f4⟩)
        · refine Rx.walk 2 (pc' := 90) (L' := [some (.ref 7), some (.ref 1), some (.ref 3), some (.int (iz K)), some (.int (iz i)), some (.int (iz (r_2 - 97)))]) (st' := [.int (iz 1)]) (h' := cxW (u2 (u2 (u2 z 1 1 n) 1 2 a_3) 7 2 co) (uf (uf f 2 b) 8 g) C T rc tl) rfl ?_
          refine Rx.ret rfl ?_
          exact hx0 _ _ _ _ ⟨by omega, by omega⟩ ⟨by omega, by omega⟩ (by obtain ⟨q1, q2, q3⟩ := cnQ_e hQ (Or.inr (fun q => by rw [← f4, ← f5] at q; omega)); exact ⟨by rw [f4, sks_sks]; exact q1.symm, by rw [hco, ← q2, (insL_nil (K := K) hK.2 hQ)], by rw [q2]; exact hg⟩) (Or.inl ⟨rfl, fun q => by have := (cnQ_e hQ (Or.inr (fun q => by rw [← f4, ← f5] at q; omega))).2.2; rw [q] at this; simp at this; omega⟩)
      · refine Rx.walk 2 (pc' := 77) (L' := [some (.ref 7), some (.ref 1), some (.ref 3), some (.int (iz K)), some (.int (iz i)), some (.int (iz (r_2 - 97)))]) (st' := [.int (iz K), .int (iz (r_2 - 97))]) (h' := cxW (u2 (u2 (u2 z 1 1 n) 1 2 a_3) 7 2 co) (uf (uf f 2 b) 8 g) C T rc tl) rfl ?_
        refine Rx.lt2 rfl rfl ⟨by omega, by omega⟩ ⟨by omega, by omega⟩ (fun b13 => ?_) (fun b13 => ?_)
        · refine Rx.walk 3 (pc' := 95) (L' := [some (.ref 7), some (.ref 1), some (.ref 3), some (.int (iz K)), some (.int (iz i)), some (.int (iz (r_2 - 97)))]) (st' := [.int (iz 1), .int (iz (r_2 - 97)), .ref 7]) (h' := cxW (u2 (u2 (u2 z 1 1 n) 1 2 a_3) 7 2 co) (uf (uf f 2 b) 8 g) C T rc tl) rfl ?_
          refine Rx.iadd rfl ?_
          refine Rx.callx (m' := m_X2_addCoin) (as := [.ref 7, .int (iz ((r_2 - 97) + 1))]) (rest := []) rfl (x_addC _ (u2 (u2 z 1 1 n) 1 2 a_3) (uf f 2 b) C T rc tl  ((r_2 - 97) + 1) co g pl ⟨by omega, by omega⟩ (by omega) hco hg hq.2.1 hq.2.2) (fun v16 h17 q18 => ?_)
          obtain ⟨g_14, rfl, rfl, f15⟩ := q18
          refine Rx.walk 0 (pc' := 99) (L' := [some (.ref 7), some (.ref 1), some (.ref 3), some (.int (iz K)), some (.int (iz i)), some (.int (iz (r_2 - 97)))]) (st' := []) (h' := cxW (u2 (u2 (u2 z 1 1 n) 1 2 a_3) 7 2 (co + 1)) (uf (uf f 2 b) 8 g_14) C T rc tl) rfl ?_
          refine Rx.walk 4 (pc' := 105) (L' := [some (.ref 7), some (.ref 1), some (.ref 3), some (.int (iz K)), some (.int (iz i)), some (.int (iz (r_2 - 97)))]) (st' := [.int (iz 1), .int (iz a_3), .ref 1]) (h' := cxW (u2 (u2 (u2 z 1 1 n) 1 2 a_3) 7 2 (co + 1)) (uf (uf f 2 b) 8 g_14) C T rc tl) rfl ?_
          refine Rx.iadd rfl ?_
          refine Rx.walk 1 (pc' := 109) (L' := [some (.ref 7), some (.ref 1), some (.ref 3), some (.int (iz K)), some (.int (iz i)), some (.int (iz (r_2 - 97)))]) (st' := []) (h' := cxW (u2 (u2 (u2 z 1 1 n) 1 2 (a_3 + 1)) 7 2 (co + 1)) (uf (uf f 2 b) 8 g_14) C T rc tl) rfl ?_
          refine Rx.iinc (b := 1) rfl rfl rfl ?_
          refine Rx.walk 0 (pc' := 112) (L' := [some (.ref 7), some (.ref 1), some (.ref 3), some (.int (iz K)), some (.int (iz (i + 1))), some (.int (iz (r_2 - 97)))]) (st' := []) (h' := cxW (u2 (u2 (u2 z 1 1 n) 1 2 (a_3 + 1)) 7 2 (co + 1)) (uf (uf f 2 b) 8 g_14) C T rc tl) rfl ?_
          refine Rx.walk 1 (pc' := 54) (L' := [some (.ref 7), some (.ref 1), some (.ref 3), some (.int (iz K)), some (.int (iz (i + 1))), some (.int (iz (r_2 - 97)))]) (st' := []) (h' := cxW (u2 (u2 (u2 z 1 1 n) 1 2 (a_3 + 1)) 7 2 (co + 1)) (uf (uf f 2 b) 8 g_14) C T rc tl) rfl ?_
          have hlt : a_3 < n := by rcases Int.lt_or_le a_3 n with q | q; exact q; (have := f5; rw [sg_ge q] at this; omega)
          exact ih (i + 1) (a_3 + 1) (co + 1) g_14 (insD (sg n b (sks n b a) - 97 + 1) pl) (some (.int (iz (r_2 - 97)))) ⟨by omega, by omega⟩ ⟨by omega, by omega⟩ (by rw [insD_len]; omega) (by rw [← f4, ← f5]; exact f15) (by have := cnQ_s (k := (4 - (i + 1)).toNat) (by rw [show (4 - (i + 1)).toNat + 1 = (4 - i).toNat by omega]; exact hQ) (by rw [← f4, ← f5]; exact ⟨by omega, by omega⟩); rw [← f4] at this; rw [← f4]; exact this) (by first | assumption | omega) 
        · refine Rx.walk 1 (pc' := 82) (L' := [some (.ref 7), some (.ref 1), some (.ref 3), some (.int (iz K)), some (.int (iz i)), some (.int (iz (r_2 - 97)))]) (st' := [.int (iz i)]) (h' := cxW (u2 (u2 (u2 z 1 1 n) 1 2 a_3) 7 2 co) (uf (uf f 2 b) 8 g) C T rc tl) rfl ?_
          refine Rx.le1 rfl rfl ⟨by omega, by omega⟩ (fun b19 => ?_) (fun b19 => ?_)
          · refine Rx.walk 1 (pc' := 90) (L' := [some (.ref 7), some (.ref 1), some (.ref 3), some (.int (iz K)), some (.int (iz i)), some (.int (iz (r_2 - 97)))]) (st' := [.int (iz 0)]) (h' := cxW (u2 (u2 (u2 z 1 1 n) 1 2 a_3) 7 2 co) (uf (uf f 2 b) 8 g) C T rc tl) rfl ?_
            refine Rx.ret rfl ?_
            exact hx0 _ _ _ _ ⟨by omega, by omega⟩ ⟨by omega, by omega⟩ (by obtain ⟨q1, q2, q3⟩ := cnQ_e hQ (Or.inr (fun q => by rw [← f4, ← f5] at q; omega)); exact ⟨by rw [f4, sks_sks]; exact q1.symm, by rw [hco, ← q2, (insL_nil (K := K) hK.2 hQ)], by rw [q2]; exact hg⟩) (by obtain ⟨q1, q2, q3⟩ := cnQ_e hQ (Or.inr (fun q => by rw [← f4, ← f5] at q; omega)); exact Or.inr ⟨rfl, List.eq_nil_of_length_eq_zero (by omega), by rw [q1]; exact f4⟩)
          · refine Rx.walk 2 (pc' := 90) (L' := [some (.ref 7), some (.ref 1), some (.ref 3), some (.int (iz K)), some (.int (iz i)), some (.int (iz (r_2 - 97)))]) (st' := [.int (iz 1)]) (h' := cxW (u2 (u2 (u2 z 1 1 n) 1 2 a_3) 7 2 co) (uf (uf f 2 b) 8 g) C T rc tl) rfl ?_
            refine Rx.ret rfl ?_
            exact hx0 _ _ _ _ ⟨by omega, by omega⟩ ⟨by omega, by omega⟩ (by obtain ⟨q1, q2, q3⟩ := cnQ_e hQ (Or.inr (fun q => by rw [← f4, ← f5] at q; omega)); exact ⟨by rw [f4, sks_sks]; exact q1.symm, by rw [hco, ← q2, (insL_nil (K := K) hK.2 hQ)], by rw [q2]; exact hg⟩) (Or.inl ⟨rfl, fun q => by have := (cnQ_e hQ (Or.inr (fun q => by rw [← f4, ← f5] at q; omega))).2.2; rw [q] at this; simp at this; omega⟩)
set_option maxRecDepth 100000 in
set_option maxHeartbeats 4000000 in
theorem x_cReads (d : Nat) (z : Nat → Nat → Int) (f : Nat → Int → Int) (C : Nat → CuR) (T : Nat → TsR) (rc : Nat → Nat) (tl : AmH)  (n : Int) (b : Int → Int) (K : Int) (pr : Int) (co : Int) (g : Int → Int) (hT : tOK n b) (hK : 0 ≤ K ∧ K ≤ 4) (hco : 0 ≤ co ∧ co ≤ 4) : Rx (d + 3) m_X2_reads 0 (am_ent [.ref 7, .ref 1, .ref 3] 6) [] (cxW (u2 (u2 (u2 (u2 (u2 z 1 1 n) 1 2 0) 3 1 K) 7 0 pr) 7 2 co) (uf (uf f 2 b) 8 g) C T rc tl) (fun rv h => ∃ r : Int, ∃ a' : Int, ∃ pr' : Int, ∃ co' : Int, ∃ g' : Int → Int, rv = some (.int (iz r)) ∧ h = cxW (u2 (u2 (u2 (u2 (u2 z 1 1 n) 1 2 a') 3 1 K) 7 0 pr') 7 2 co') (uf (uf f 2 b) 8 g') C T rc tl ∧ cuR n b (k4 K) r a' pr' co' g' ∧ ((r = 0 ∨ r = 1) ∧ (0 ≤ a' ∧ a' ≤ n) ∧ (0 ≤ co' ∧ co' ≤ 4))) := by
  obtain ⟨hT1, hT2, hT3⟩ := id hT
  refine Rx.walk 0 (pc' := 0) (L' := [some (.ref 7), some (.ref 1), some (.ref 3), none, none, none]) (st' := []) (h' := cxW (u2 (u2 (u2 (u2 (u2 z 1 1 n) 1 2 0) 3 1 K) 7 0 pr) 7 2 co) (uf (uf f 2 b) 8 g) C T rc tl) rfl ?_
  refine Rx.walk 4 (pc' := 5) (L' := [some (.ref 7), some (.ref 1), some (.ref 3), none, none, none]) (st' := [.int (iz 99), .int (iz 1), .ref 1, .ref 7]) (h' := cxW (u2 (u2 (u2 (u2 (u2 z 1 1 n) 1 2 0) 3 1 K) 7 0 pr) 7 2 co) (uf (uf f 2 b) 8 g) C T rc tl) rfl ?_
  refine Rx.callx (m' := m_X8_bounded) (as := [.ref 1, .int (iz 1), .int (iz 99)]) (rest := [.ref 7]) rfl (x_bnd _ (u2 (u2 (u2 z 3 1 K) 7 0 pr) 7 2 co) (uf f 8 g) C T rc tl  1 99 n 0 b hT ⟨by omega, by omega⟩ ⟨by omega, by omega⟩ ⟨by omega, by omega⟩) (fun v7 h8 q9 => ?_)
  obtain ⟨r_1, a_2, rfl, rfl, f3, f4, f5, f6⟩ := q9
  refine Rx.walk 0 (pc' := 8) (L' := [some (.ref 7), some (.ref 1), some (.ref 3), none, none, none]) (st' := [.int (iz r_1), .ref 7]) (h' := cxW (u2 (u2 (u2 (u2 (u2 z 1 1 n) 1 2 a_2) 3 1 K) 7 0 pr) 7 2 co) (uf (uf f 2 b) 8 g) C T rc tl) rfl ?_
  refine Rx.walk 4 (pc' := 16) (L' := [some (.ref 7), some (.ref 1), some (.ref 3), none, none, none]) (st' := [.int (iz (-1)), .int (iz r_1)]) (h' := cxW (u2 (u2 (u2 (u2 (u2 z 1 1 n) 1 2 a_2) 3 1 K) 7 0 r_1) 7 2 co) (uf (uf f 2 b) 8 g) C T rc tl) rfl ?_
  refine Rx.eq2 rfl rfl ⟨by omega, by omega⟩ ⟨by omega, by omega⟩ (fun b10 => ?_) (fun b10 => ?_)
  · refine Rx.walk 1 (pc' := 29) (L' := [some (.ref 7), some (.ref 1), some (.ref 3), none, none, none]) (st' := [.int (iz 0)]) (h' := cxW (u2 (u2 (u2 (u2 (u2 z 1 1 n) 1 2 a_2) 3 1 K) 7 0 r_1) 7 2 co) (uf (uf f 2 b) 8 g) C T rc tl) rfl ?_
    refine Rx.ret rfl ?_
    have hnn : (nmP n b 1 99 0).2 = none := by rcases f3 with ⟨v, q1, q2⟩ | q; (exfalso; have := (nmP_props (n := n) (b := b) (lo := 1) (hi := 99) (a := 0) (by omega) (by omega)).2.2 v q1; omega); exact q.1
    exact ⟨_, _, _, _, _, rfl, rfl, Or.inr ⟨rfl, by rw [cuP_1 hnn, ← f4]⟩, Or.inl rfl, by omega, by omega⟩
  · refine Rx.walk 2 (pc' := 22) (L' := [some (.ref 7), some (.ref 1), some (.ref 3), none, none, none]) (st' := [.int (iz 58), .ref 1]) (h' := cxW (u2 (u2 (u2 (u2 (u2 z 1 1 n) 1 2 a_2) 3 1 K) 7 0 r_1) 7 2 co) (uf (uf f 2 b) 8 g) C T rc tl) rfl ?_
    refine Rx.callx (m' := m_X8_accepts) (as := [.ref 1, .int (iz 58)]) (rest := []) rfl (x_acc _ (u2 (u2 (u2 z 3 1 K) 7 0 r_1) 7 2 co) (uf f 8 g) C T rc tl  58 n a_2 b hT ⟨by omega, by omega⟩ ⟨by omega, by omega⟩) (fun v15 h16 q17 => ?_)
    obtain ⟨r_11, a_12, rfl, rfl, f13, f14⟩ := q17
    refine Rx.walk 0 (pc' := 25) (L' := [some (.ref 7), some (.ref 1), some (.ref 3), none, none, none]) (st' := [.int (iz r_11)]) (h' := cxW (u2 (u2 (u2 (u2 (u2 z 1 1 n) 1 2 a_12) 3 1 K) 7 0 r_1) 7 2 co) (uf (uf f 2 b) 8 g) C T rc tl) rfl ?_
    refine Rx.ne1 rfl rfl ⟨by omega, by omega⟩ (fun b18 => ?_) (fun b18 => ?_)
    · refine Rx.walk 1 (pc' := 31) (L' := [some (.ref 7), some (.ref 1), some (.ref 3), none, none, none]) (st' := [.ref 3]) (h' := cxW (u2 (u2 (u2 (u2 (u2 z 1 1 n) 1 2 a_12) 3 1 K) 7 0 r_1) 7 2 co) (uf (uf f 2 b) 8 g) C T rc tl) rfl ?_
      refine Rx.callx (m' := m_X7_isOpen) (as := [.ref 3]) (rest := []) rfl (x_sopen _ (u2 (u2 (u2 (u2 z 1 1 n) 1 2 a_12) 7 0 r_1) 7 2 co) (uf (uf f 2 b) 8 g) C T rc tl  K hK) (fun v21 h22 q23 => ?_)
      obtain ⟨r_19, rfl, rfl, f20⟩ := q23
      refine Rx.walk 0 (pc' := 34) (L' := [some (.ref 7), some (.ref 1), some (.ref 3), none, none, none]) (st' := [.int (iz r_19)]) (h' := cxW (u2 (u2 (u2 (u2 (u2 z 1 1 n) 1 2 a_12) 3 1 K) 7 0 r_1) 7 2 co) (uf (uf f 2 b) 8 g) C T rc tl) rfl ?_
      refine Rx.eq1 rfl rfl ⟨by omega, by omega⟩ (fun b24 => ?_) (fun b24 => ?_)
      · refine Rx.walk 7 (pc' := 54) (L' := [some (.ref 7), some (.ref 1), some (.ref 3), some (.int (iz 4)), some (.int (iz 0)), none]) (st' := []) (h' := cxW (u2 (u2 (u2 (u2 (u2 z 1 1 n) 1 2 a_12) 3 1 K) 7 0 r_1) 7 2 0) (uf (uf f 2 b) 8 g) C T rc tl) rfl ?_
        obtain ⟨v, hv1, hv2⟩ : ∃ v, (nmP n b 1 99 0).2 = some v ∧ r_1 = v := by rcases f3 with q | q; exact q; (exfalso; omega)
        obtain ⟨hw1, hw2⟩ : sg n b (sks n b a_2) = 58 ∧ a_12 = sks n b a_2 + 1 := by rcases f13 with q | q; exact q.2; (exfalso; omega)
        rw [f4] at hw1 hw2
        have hk4 : k4 K = 4 := by unfold k4; split <;> omega
        refine x_cReads_l _ (u2 (u2 z 3 1 K) 7 0 r_1) f C T rc tl  n b 4 (cnP n b 4 4 (sks n b (nmP n b 1 99 0).1 + 1)) hT ⟨by omega, by omega⟩ _ ?_ ((4 - 0) + 1 : Int).toNat 0 a_12 0 g [] none ⟨by omega, by omega⟩ ⟨by omega, by omega⟩ rfl True.intro (by rw [hw2]; exact cnQ_0) (by omega) 
        intro r_25 a_26 co_27 g_28 f29 f30 f31 f32
        show (fun (rv : Option Value) (h : AmH) => ∃ r : Int, ∃ a' : Int, ∃ pr' : Int, ∃ co' : Int, ∃ g' : Int → Int, rv = some (.int (iz r)) ∧ h = cxW (u2 (u2 (u2 (u2 (u2 z 1 1 n) 1 2 a') 3 1 K) 7 0 pr') 7 2 co') (uf (uf f 2 b) 8 g') C T rc tl ∧ cuR n b (k4 K) r a' pr' co' g' ∧ ((r = 0 ∨ r = 1) ∧ (0 ≤ a' ∧ a' ≤ n) ∧ (0 ≤ co' ∧ co' ≤ 4))) (some (Value.int (iz r_25))) (cxW (u2 (u2 (u2 (u2 (u2 z 1 1 n) 1 2 a_26) 3 1 K) 7 0 r_1) 7 2 co_27) (uf (uf f 2 b) 8 g_28) C T rc tl)
        refine ⟨_, _, _, _, _, rfl, rfl, ?_, ?_, f29, f30⟩
        · rw [hk4]; rcases f32 with ⟨q1, q2⟩ | ⟨q1, q2, q3⟩
          · exact Or.inl ⟨q1, by rw [hv1, hv2], hw1, q2, f31.1, f31.2.1, f31.2.2⟩
          · exact Or.inr ⟨q1, by rw [cuP_3 hv1 hw1 q2, q3]⟩
        · rcases f32 with ⟨q1, q2⟩ | ⟨q1, q2, q3⟩
          · exact Or.inr q1
          · exact Or.inl q1
      · refine Rx.walk 9 (pc' := 54) (L' := [some (.ref 7), some (.ref 1), some (.ref 3), some (.int (iz K)), some (.int (iz 0)), none]) (st' := []) (h' := cxW (u2 (u2 (u2 (u2 (u2 z 1 1 n) 1 2 a_12) 3 1 K) 7 0 r_1) 7 2 0) (uf (uf f 2 b) 8 g) C T rc tl) rfl ?_
        obtain ⟨v, hv1, hv2⟩ : ∃ v, (nmP n b 1 99 0).2 = some v ∧ r_1 = v := by rcases f3 with q | q; exact q; (exfalso; omega)
        obtain ⟨hw1, hw2⟩ : sg n b (sks n b a_2) = 58 ∧ a_12 = sks n b a_2 + 1 := by rcases f13 with q | q; exact q.2; (exfalso; omega)
        rw [f4] at hw1 hw2
        have hk4 : k4 K = K := by unfold k4; split <;> omega
        refine x_cReads_l _ (u2 (u2 z 3 1 K) 7 0 r_1) f C T rc tl  n b K (cnP n b K 4 (sks n b (nmP n b 1 99 0).1 + 1)) hT ⟨by omega, by omega⟩ _ ?_ ((4 - 0) + 1 : Int).toNat 0 a_12 0 g [] none ⟨by omega, by omega⟩ ⟨by omega, by omega⟩ rfl True.intro (by rw [hw2]; exact cnQ_0) (by omega) 
        intro r_33 a_34 co_35 g_36 f37 f38 f39 f40
        show (fun (rv : Option Value) (h : AmH) => ∃ r : Int, ∃ a' : Int, ∃ pr' : Int, ∃ co' : Int, ∃ g' : Int → Int, rv = some (.int (iz r)) ∧ h = cxW (u2 (u2 (u2 (u2 (u2 z 1 1 n) 1 2 a') 3 1 K) 7 0 pr') 7 2 co') (uf (uf f 2 b) 8 g') C T rc tl ∧ cuR n b (k4 K) r a' pr' co' g' ∧ ((r = 0 ∨ r = 1) ∧ (0 ≤ a' ∧ a' ≤ n) ∧ (0 ≤ co' ∧ co' ≤ 4))) (some (Value.int (iz r_33))) (cxW (u2 (u2 (u2 (u2 (u2 z 1 1 n) 1 2 a_34) 3 1 K) 7 0 r_1) 7 2 co_35) (uf (uf f 2 b) 8 g_36) C T rc tl)
        refine ⟨_, _, _, _, _, rfl, rfl, ?_, ?_, f37, f38⟩
        · rw [hk4]; rcases f40 with ⟨q1, q2⟩ | ⟨q1, q2, q3⟩
          · exact Or.inl ⟨q1, by rw [hv1, hv2], hw1, q2, f39.1, f39.2.1, f39.2.2⟩
          · exact Or.inr ⟨q1, by rw [cuP_3 hv1 hw1 q2, q3]⟩
        · rcases f40 with ⟨q1, q2⟩ | ⟨q1, q2, q3⟩
          · exact Or.inr q1
          · exact Or.inl q1
    · refine Rx.walk 1 (pc' := 29) (L' := [some (.ref 7), some (.ref 1), some (.ref 3), none, none, none]) (st' := [.int (iz 0)]) (h' := cxW (u2 (u2 (u2 (u2 (u2 z 1 1 n) 1 2 a_12) 3 1 K) 7 0 r_1) 7 2 co) (uf (uf f 2 b) 8 g) C T rc tl) rfl ?_
      refine Rx.ret rfl ?_
      obtain ⟨v, hv1, hv2⟩ : ∃ v, (nmP n b 1 99 0).2 = some v ∧ r_1 = v := by rcases f3 with q | q; exact q; (exfalso; omega)
      obtain ⟨hw1, hw2⟩ : sg n b (sks n b a_2) ≠ 58 ∧ a_12 = sks n b a_2 := by rcases f13 with q | q; (exfalso; omega); exact q.2
      rw [f4] at hw1 hw2
      exact ⟨_, _, _, _, _, rfl, rfl, Or.inr ⟨rfl, by rw [cuP_2 hv1 hw1, ← hw2]⟩, Or.inl rfl, by omega, by omega⟩

/-! rules read by the model: within, goesIn, atom (printed by wip/whole/genmru.py) -/
theorem Rx.amg {d : Nat} {m : AmM} {pc : Nat} {L : AmL} {st : List Value} {h : AmH} {P : Option Value → AmH → Prop} {rest : List Value} {j : Nat} {t r : Int} (e : am_one m pc L st h = some (pc + 3, L, .int (am_among (am_txt j) (iz t)) :: rest, h)) (hr : am_among (am_txt j) (iz t) = iz r) (k : Rx d m (pc + 3) L (.int (iz r) :: rest) h P) : Rx d m pc L st h P := Rx.one (by rw [e, hr]) k
theorem amg1_all : ∀ x : Fin 257, am_among (am_txt 1) (iz (((x : Nat) : Int) - 1)) = iz (if ltr (((x : Nat) : Int) - 1) = -1 then 0 else 1) := by decide +kernel
theorem amg1 {t : Int} (h0 : -1 ≤ t) (h1 : t ≤ 255) : am_among (am_txt 1) (iz t) = iz (if ltr t = -1 then 0 else 1) := by
  have q := amg1_all ⟨(t + 1).toNat, by omega⟩
  have e : (((t + 1).toNat : Nat) : Int) - 1 = t := by omega
  rw [show ((((⟨(t + 1).toNat, by omega⟩ : Fin 257) : Nat) : Int) - 1) = t from e] at q
  exact q
theorem amg0_all : ∀ x : Fin 257, am_among (am_txt 0) (iz (((x : Nat) : Int) - 1)) = iz (if ((x : Nat) : Int) - 1 = 121 then 1 else 0) := by decide +kernel
theorem amg0 {t : Int} (h0 : -1 ≤ t) (h1 : t ≤ 255) : am_among (am_txt 0) (iz t) = iz (if t = 121 then 1 else 0) := by
  have q := amg0_all ⟨(t + 1).toNat, by omega⟩
  have e : (((t + 1).toNat : Nat) : Int) - 1 = t := by omega
  rw [show ((((⟨(t + 1).toNat, by omega⟩ : Fin 257) : Nat) : Int) - 1) = t from e] at q
  exact q
def ltc (j : Int) : Int := if j = 0 then 118 else if j = 1 then 116 else if j = 2 then 110 else if j = 3 then 105 else if j = 4 then 115 else 111
theorem ltc_ltr {c : Int} (h : ltr c ≠ -1) : ltc (ltr c) = c := by
  unfold ltr at *
  repeat' split at *
  all_goals first | omega | (subst_vars; rfl) | exact absurd rfl h
/-- the letters' worths as the model keeps them -/
def ltL (lt : Int → Int) : Int → Int := fun j => lt (ltc j)
/-- what the model's reading leaves: value, place, fault, depth -/
def mdR (R : RsT) (Lf : Int → Int) (dp v a' fa' dp' : Int) : Prop := (R.1 = true ∧ fa' = -1 ∧ a' = R.2.1 ∧ dp' = dp ∧ v = R.2.2.2 Lf) ∨ (R.1 = false ∧ fa' = R.2.1)
set_option maxRecDepth 100000 in
set_option maxHeartbeats 4000000 in
theorem n_within (d : Nat) (h0 : AmH)  (x : Int) (hx : -9000000000000 ≤ x ∧ x ≤ 9000000000000) : Rx (d) m_X12_within 0 (am_ent [.long (jz x)] 2) [] (h0) (fun rv h => ∃ r : Int, rv = some (.int (iz r)) ∧ h0 = h ∧ r = wtn x ∧ (-1000000 ≤ r ∧ r ≤ 1000000)) := by
  refine Rx.walk 0 (pc' := 0) (L' := [some (.long (jz x)), none]) (st' := []) (h' := h0) rfl ?_
  refine Rx.walk 3 (pc' := 7) (L' := [some (.long (jz x)), none]) (st' := [.long (jz x), .long (jz 1000000), .long (jz (-1000000))]) (h' := h0) rfl ?_
  refine Rx.lmin rfl ⟨by omega, by omega⟩ ⟨by omega, by omega⟩ ?_
  refine Rx.lmax rfl ⟨by omega, by omega⟩ ⟨by omega, by omega⟩ ?_
  refine Rx.l2i rfl ?_
  refine Rx.ret rfl ?_
  exact ⟨_, rfl, rfl, rfl, by omega, by omega⟩
set_option maxRecDepth 100000 in
set_option maxHeartbeats 4000000 in
theorem m_goesIn (d : Nat) (z : Nat → Int) (zl : Nat → Int) (f : Nat → Int → Int) (fl : Nat → Int → Int) (tx : Nat)  (a : Int) (dp : Int) (ha : 0 ≤ a ∧ a ≤ 160) (hdp : 0 ≤ dp ∧ dp ≤ 6) : Rx (d + 1) m_X12_goesIn 0 (am_ent [.ref 0] 1) [] (cmH (u1 (u1 (u1 z 10 a) 11 (-1)) 12 dp) zl f fl tx) (fun rv h => ∃ r : Int, ∃ a' : Int, ∃ fa' : Int, ∃ dp' : Int, rv = some (.int (iz r)) ∧ h = cmH (u1 (u1 (u1 z 10 a') 11 fa') 12 dp') zl f fl tx ∧ ((dp = 6 ∧ r = 0 ∧ a' = a ∧ fa' = a ∧ dp' = dp) ∨ (dp < 6 ∧ r = 1 ∧ a' = a + 1 ∧ fa' = -1 ∧ dp' = dp + 1))) := by
  refine Rx.walk 0 (pc' := 0) (L' := [some (.ref 0)]) (st' := []) (h' := cmH (u1 (u1 (u1 z 10 a) 11 (-1)) 12 dp) zl f fl tx) rfl ?_
  refine Rx.walk 3 (pc' := 6) (L' := [some (.ref 0)]) (st' := [.int (iz 6), .int (iz dp)]) (h' := cmH (u1 (u1 (u1 z 10 a) 11 (-1)) 12 dp) zl f fl tx) rfl ?_
  refine Rx.ne2 rfl rfl ⟨by omega, by omega⟩ ⟨by omega, by omega⟩ (fun b1 => ?_) (fun b1 => ?_)
  · refine Rx.walk 4 (pc' := 20) (L' := [some (.ref 0)]) (st' := [.int (iz 1), .int (iz dp), .ref 0]) (h' := cmH (u1 (u1 (u1 z 10 a) 11 (-1)) 12 dp) zl f fl tx) rfl ?_
    refine Rx.iadd rfl ?_
    refine Rx.walk 5 (pc' := 30) (L' := [some (.ref 0)]) (st' := [.int (iz 1), .int (iz a), .ref 0]) (h' := cmH (u1 (u1 (u1 z 10 a) 11 (-1)) 12 (dp + 1)) zl f fl tx) rfl ?_
    refine Rx.iadd rfl ?_
    refine Rx.walk 2 (pc' := 35) (L' := [some (.ref 0)]) (st' := [.int (iz 1)]) (h' := cmH (u1 (u1 (u1 z 10 (a + 1)) 11 (-1)) 12 (dp + 1)) zl f fl tx) rfl ?_
    refine Rx.ret rfl ?_
    exact ⟨_, _, _, _, rfl, rfl, (by omega)⟩
  · refine Rx.walk 1 (pc' := 10) (L' := [some (.ref 0)]) (st' := [.ref 0]) (h' := cmH (u1 (u1 (u1 z 10 a) 11 (-1)) 12 dp) zl f fl tx) rfl ?_
    refine Rx.callx (m' := m_X12_fails) (as := [.ref 0]) (rest := []) rfl (m_fails _ (u1 (u1 (u1 z 10 a) 11 (-1)) 12 dp) zl f fl tx  a (-1) (by first | assumption | omega)) (fun v4 h5 q6 => ?_)
    obtain ⟨fa_2, rfl, rfl, f3⟩ := q6
    refine Rx.walk 0 (pc' := 13) (L' := [some (.ref 0)]) (st' := [.int (iz 0)]) (h' := cmH (u1 (u1 (u1 z 10 a) 11 fa_2) 12 dp) zl f fl tx) rfl ?_
    refine Rx.ret rfl ?_
    exact ⟨_, _, _, _, rfl, rfl, (by omega)⟩
set_option maxRecDepth 100000 in
set_option maxHeartbeats 4000000 in
theorem m_adg1 (d : Nat) (z : Nat → Int) (zl : Nat → Int) (f : Nat → Int → Int) (fl : Nat → Int → Int) (tx : Nat)  (th : Int) (dp : Int) (n : Int) (bg : Int) (tb : Int → Int) (b : Int → Int) (lt : Int → Int) (s : Int) (hT : tOK n b) (hM : mOK n bg 160 tb b) (hs : 0 ≤ s ∧ s ≤ n) (P : Option Value → AmH → Prop) (hx0 : ∀ (r : Int) (a' : Int) (fa' : Int), ((isD n b (dg n b 4 s 0).1 = true ∧ fa' = (dg n b 4 s 0).1 ∧ r = 0) ∨ (isD n b (dg n b 4 s 0).1 = false ∧ fa' = -1 ∧ r = (dg n b 4 s 0).2)) → (a' = (dg n b 4 s 0).1) → (0 ≤ a' ∧ a' ≤ n) → P (some (.int (iz r))) (cmH (u1 (u1 (u1 (u1 (u1 z 8 bg) 9 n) 10 a') 11 fa') 12 dp) zl (uf (uf f 1 tb) 4 lt) fl 1)) : ∀ (kF : Nat) (v : Int) (i : Int) (a : Int), (0 ≤ i ∧ i ≤ 4) → (s ≤ a ∧ a ≤ n) → (0 ≤ v ∧ (i = 0 → v = 0) ∧ (i = 1 → v ≤ 9) ∧ (i = 2 → v ≤ 99) ∧ (i = 3 → v ≤ 999) ∧ (i = 4 → v ≤ 9999)) → (dg n b 4 s 0 = dg n b (4 - i).toNat a v) → (5 - i) < (kF : Int) → Rx (d + 1) m_X12_atom 90 [some (.ref 0), some (.int (iz th)), some (.int (iz v)), some (.int (iz i))] [] (cmH (u1 (u1 (u1 (u1 (u1 z 8 bg) 9 n) 10 a) 11 (-1)) 12 dp) zl (uf (uf f 1 tb) 4 lt) fl 1) P := by
  obtain ⟨hT1, hT2, hT3⟩ := id hT
  have hbg := hM.1
  have hbz := hM.2.1
  intro kF
  induction kF with
  | zero =>
    intro v i a i0 ha hv hd hk
    exfalso; omega
  | succ kF ih =>
    intro v i a i0 ha hv hd hk
    refine Rx.walk 1 (pc' := 91) (L' := [some (.ref 0), some (.int (iz th)), some (.int (iz v)), some (.int (iz i))]) (st' := [.ref 0]) (h' := cmH (u1 (u1 (u1 (u1 (u1 z 8 bg) 9 n) 10 a) 11 (-1)) 12 dp) zl (uf (uf f 1 tb) 4 lt) fl 1) rfl ?_
    refine Rx.callx (m' := m_X12_isDigit) (as := [.ref 0]) (rest := []) rfl (m_isDig1 _ (u1 (u1 (u1 (u1 (u1 z 8 bg) 9 n) 10 a) 11 (-1)) 12 dp) zl (uf (uf f 1 tb) 4 lt) fl 1  n a bg (-1) tb b hT hM ⟨by omega, by omega⟩) (fun v3 h4 q5 => ?_)
    obtain ⟨r_1, rfl, rfl, f2⟩ := q5
    refine Rx.walk 0 (pc' := 94) (L' := [some (.ref 0), some (.int (iz th)), some (.int (iz v)), some (.int (iz i))]) (st' := [.int (iz r_1)]) (h' := cmH (u1 (u1 (u1 (u1 (u1 z 8 bg) 9 n) 10 a) 11 (-1)) 12 dp) zl (uf (uf f 1 tb) 4 lt) fl 1) rfl ?_
    refine Rx.eq1 rfl rfl ⟨by omega, by omega⟩ (fun b6 => ?_) (fun b6 => ?_)
    · refine Rx.walk 1 (pc' := 157) (L' := [some (.ref 0), some (.int (iz th)), some (.int (iz v)), some (.int (iz i))]) (st' := [.int (iz v)]) (h' := cmH (u1 (u1 (u1 (u1 (u1 z 8 bg) 9 n) 10 a) 11 (-1)) 12 dp) zl (uf (uf f 1 tb) 4 lt) fl 1) rfl ?_
      refine Rx.ret rfl ?_
      exact hx0 _ _ _ (Or.inr ⟨by rw [hd, dg_f (show isD n b a = false by rcases f2 with z | z; (exfalso; omega); exact z.2)]; exact (show isD n b a = false by rcases f2 with z | z; (exfalso; omega); exact z.2), rfl, by rw [hd, dg_f (show isD n b a = false by rcases f2 with z | z; (exfalso; omega); exact z.2)]⟩) (by rw [hd, dg_f (show isD n b a = false by rcases f2 with z | z; (exfalso; omega); exact z.2)]) ⟨by omega, by omega⟩
    · refine Rx.walk 3 (pc' := 102) (L' := [some (.ref 0), some (.int (iz th)), some (.int (iz v)), some (.int (iz i))]) (st' := [.int (iz (-1)), .int (iz (-1))]) (h' := cmH (u1 (u1 (u1 (u1 (u1 z 8 bg) 9 n) 10 a) 11 (-1)) 12 dp) zl (uf (uf f 1 tb) 4 lt) fl 1) rfl ?_
      refine Rx.ne2 rfl rfl ⟨by omega, by omega⟩ ⟨by omega, by omega⟩ (fun b7 => by omega) (fun b7 => ?_)
      refine Rx.walk 2 (pc' := 107) (L' := [some (.ref 0), some (.int (iz th)), some (.int (iz v)), some (.int (iz i))]) (st' := [.int (iz 4), .int (iz i)]) (h' := cmH (u1 (u1 (u1 (u1 (u1 z 8 bg) 9 n) 10 a) 11 (-1)) 12 dp) zl (uf (uf f 1 tb) 4 lt) fl 1) rfl ?_
      refine Rx.ne2 rfl rfl ⟨by omega, by omega⟩ ⟨by omega, by omega⟩ (fun b8 => ?_) (fun b8 => ?_)
      · have hisd := isD_t.mp (show isD n b a = true by rcases f2 with z | z; exact z.2; (exfalso; omega))
        refine Rx.walk 2 (pc' := 120) (L' := [some (.ref 0), some (.int (iz th)), some (.int (iz v)), some (.int (iz i))]) (st' := [.int (iz v), .int (iz 10)]) (h' := cmH (u1 (u1 (u1 (u1 (u1 z 8 bg) 9 n) 10 a) 11 (-1)) 12 dp) zl (uf (uf f 1 tb) 4 lt) fl 1) rfl ?_
        refine Rx.imul rfl ?_
        refine Rx.walk 6 (pc' := 133) (L' := [some (.ref 0), some (.int (iz th)), some (.int (iz v)), some (.int (iz i))]) (st' := [.int (iz a), .int (iz bg), .ref 1, .int (iz (10 * v))]) (h' := cmH (u1 (u1 (u1 (u1 (u1 z 8 bg) 9 n) 10 a) 11 (-1)) 12 dp) zl (uf (uf f 1 tb) 4 lt) fl 1) rfl ?_
        refine Rx.iadd rfl ?_
        refine Rx.bal (g := tb) rfl rfl (by omega) (by omega) (by omega) ?_
        have hbb := mOK_at hM hT (a := a) (by omega) (by omega)
        have hbe : (tb (bg + a)) = b a := by omega
        refine Rx.iadd rfl ?_
        refine Rx.walk 1 (pc' := 138) (L' := [some (.ref 0), some (.int (iz th)), some (.int (iz v)), some (.int (iz i))]) (st' := [.int (iz 48), .int (iz ((10 * v) + (tb (bg + a))))]) (h' := cmH (u1 (u1 (u1 (u1 (u1 z 8 bg) 9 n) 10 a) 11 (-1)) 12 dp) zl (uf (uf f 1 tb) 4 lt) fl 1) rfl ?_
        refine Rx.isub rfl ?_
        refine Rx.walk 5 (pc' := 146) (L' := [some (.ref 0), some (.int (iz th)), some (.int (iz (((10 * v) + (tb (bg + a))) - 48))), some (.int (iz i))]) (st' := [.int (iz 1), .int (iz a), .ref 0]) (h' := cmH (u1 (u1 (u1 (u1 (u1 z 8 bg) 9 n) 10 a) 11 (-1)) 12 dp) zl (uf (uf f 1 tb) 4 lt) fl 1) rfl ?_
        refine Rx.iadd rfl ?_
        refine Rx.walk 1 (pc' := 150) (L' := [some (.ref 0), some (.int (iz th)), some (.int (iz (((10 * v) + (tb (bg + a))) - 48))), some (.int (iz i))]) (st' := []) (h' := cmH (u1 (u1 (u1 (u1 (u1 z 8 bg) 9 n) 10 (a + 1)) 11 (-1)) 12 dp) zl (uf (uf f 1 tb) 4 lt) fl 1) rfl ?_
        refine Rx.iinc (b := 1) rfl rfl rfl ?_
        refine Rx.walk 0 (pc' := 153) (L' := [some (.ref 0), some (.int (iz th)), some (.int (iz (((10 * v) + (tb (bg + a))) - 48))), some (.int (iz (i + 1)))]) (st' := []) (h' := cmH (u1 (u1 (u1 (u1 (u1 z 8 bg) 9 n) 10 (a + 1)) 11 (-1)) 12 dp) zl (uf (uf f 1 tb) 4 lt) fl 1) rfl ?_
        refine Rx.walk 1 (pc' := 90) (L' := [some (.ref 0), some (.int (iz th)), some (.int (iz (((10 * v) + (tb (bg + a))) - 48))), some (.int (iz (i + 1)))]) (st' := []) (h' := cmH (u1 (u1 (u1 (u1 (u1 z 8 bg) 9 n) 10 (a + 1)) 11 (-1)) 12 dp) zl (uf (uf f 1 tb) 4 lt) fl 1) rfl ?_
        exact ih (((10 * v) + (tb (bg + a))) - 48) (i + 1) (a + 1) ⟨by omega, by omega⟩ ⟨by omega, by omega⟩ ⟨by omega, by omega, by omega, by omega, by omega, by omega⟩ (by rw [hd, show (4 - i).toNat = (4 - (i + 1)).toNat + 1 by omega, dg_t (isD_t.mpr hisd), hbe]) (by first | assumption | omega) 
      · refine Rx.walk 1 (pc' := 111) (L' := [some (.ref 0), some (.int (iz th)), some (.int (iz v)), some (.int (iz i))]) (st' := [.ref 0]) (h' := cmH (u1 (u1 (u1 (u1 (u1 z 8 bg) 9 n) 10 a) 11 (-1)) 12 dp) zl (uf (uf f 1 tb) 4 lt) fl 1) rfl ?_
        refine Rx.callx (m' := m_X12_fails) (as := [.ref 0]) (rest := []) rfl (m_fails _ (u1 (u1 (u1 (u1 (u1 z 8 bg) 9 n) 10 a) 11 (-1)) 12 dp) zl (uf (uf f 1 tb) 4 lt) fl 1  a (-1) (Or.inl rfl)) (fun v11 h12 q13 => ?_)
        obtain ⟨fa_9, rfl, rfl, f10⟩ := q13
        refine Rx.walk 0 (pc' := 114) (L' := [some (.ref 0), some (.int (iz th)), some (.int (iz v)), some (.int (iz i))]) (st' := [.int (iz 0)]) (h' := cmH (u1 (u1 (u1 (u1 (u1 z 8 bg) 9 n) 10 a) 11 fa_9) 12 dp) zl (uf (uf f 1 tb) 4 lt) fl 1) rfl ?_
        refine Rx.walk 2 (pc' := 116) (L' := [some (.ref 0), some (.int (iz th)), some (.int (iz v)), some (.int (iz i))]) (st' := [.int (iz 0)]) (h' := cmH (u1 (u1 (u1 (u1 (u1 z 8 bg) 9 n) 10 a) 11 fa_9) 12 dp) zl (uf (uf f 1 tb) 4 lt) fl 1) rfl ?_
        refine Rx.ret rfl ?_
        exact hx0 _ _ _ (Or.inl ⟨by rw [hd, show (4 - i).toNat = 0 by omega]; show isD n b a = true; rcases f2 with z | z; exact z.2; (exfalso; omega), by rw [hd, show (4 - i).toNat = 0 by omega]; show _ = a; rcases f10 with z | z; exact z.2; (exfalso; omega), rfl⟩) (by rw [hd, show (4 - i).toNat = 0 by omega]; rfl) ⟨by omega, by omega⟩
set_option maxRecDepth 100000 in
set_option maxHeartbeats 4000000 in
theorem m_rAtom0_1 (d : Nat) (z : Nat → Int) (zl : Nat → Int) (f : Nat → Int → Int) (fl : Nat → Int → Int) (tx : Nat)  (dp : Int) (n : Int) (a : Int) (bg : Int) (tb : Int → Int) (b : Int → Int) (lt : Int → Int) (hT : tOK n b) (hM : mOK n bg 160 tb b) (ha : 0 ≤ a ∧ a ≤ n) (hL : ∀ k : Int, 0 ≤ k → k < 128 → -1000000 ≤ lt k ∧ lt k ≤ 1000000) (hdp : dp = 6) : Rx (d + 3) m_X12_atom 0 (am_ent [.ref 0] 4) [] (cmH (u1 (u1 (u1 (u1 (u1 z 8 bg) 9 n) 10 a) 11 (-1)) 12 dp) zl (uf (uf f 1 tb) 4 lt) fl 1) (fun rv h => ∃ r : Int, ∃ a' : Int, ∃ fa' : Int, ∃ dp' : Int, rv = some (.int (iz r)) ∧ h = cmH (u1 (u1 (u1 (u1 (u1 z 8 bg) 9 n) 10 a') 11 fa') 12 dp') zl (uf (uf f 1 tb) 4 lt) fl 1 ∧ mdR (atomR n b 0 a) (ltL lt) dp r a' fa' dp' ∧ ((a ≤ a' ∧ a' ≤ n) ∧ (fa' = -1 ∨ (0 ≤ fa' ∧ fa' ≤ 160)) ∧ (-1000000 ≤ r ∧ r ≤ 1000000))) := by
  obtain ⟨hT1, hT2, hT3⟩ := id hT
  have hbg := hM.1
  have hbz := hM.2.1
  refine Rx.walk 0 (pc' := 0) (L' := [some (.ref 0), none, none, none]) (st' := []) (h' := cmH (u1 (u1 (u1 (u1 (u1 z 8 bg) 9 n) 10 a) 11 (-1)) 12 dp) zl (uf (uf f 1 tb) 4 lt) fl 1) rfl ?_
  refine Rx.walk 1 (pc' := 1) (L' := [some (.ref 0), none, none, none]) (st' := [.ref 0]) (h' := cmH (u1 (u1 (u1 (u1 (u1 z 8 bg) 9 n) 10 a) 11 (-1)) 12 dp) zl (uf (uf f 1 tb) 4 lt) fl 1) rfl ?_
  refine Rx.callx (m' := m_X12_look) (as := [.ref 0]) (rest := []) rfl (m_look1 _ (u1 (u1 (u1 (u1 (u1 z 8 bg) 9 n) 10 a) 11 (-1)) 12 dp) zl (uf (uf f 1 tb) 4 lt) fl 1  n a bg (-1) tb b hT hM ha) (fun v7 h8 q9 => ?_)
  obtain ⟨r_1, a_2, rfl, rfl, f3, f4, f5, f6⟩ := q9
  refine Rx.walk 0 (pc' := 4) (L' := [some (.ref 0), none, none, none]) (st' := [.int (iz r_1)]) (h' := cmH (u1 (u1 (u1 (u1 (u1 z 8 bg) 9 n) 10 a_2) 11 (-1)) 12 dp) zl (uf (uf f 1 tb) 4 lt) fl 1) rfl ?_
  refine Rx.walk 3 (pc' := 8) (L' := [some (.ref 0), some (.int (iz r_1)), none, none]) (st' := [.int (iz r_1), .retAddr 1]) (h' := cmH (u1 (u1 (u1 (u1 (u1 z 8 bg) 9 n) 10 a_2) 11 (-1)) 12 dp) zl (uf (uf f 1 tb) 4 lt) fl 1) rfl ?_
  obtain ⟨am9_, ham9_⟩ : ∃ q, q = (if ltr r_1 = -1 then (0 : Int) else 1) := ⟨_, rfl⟩
  refine Rx.amg (j := 1) (t := r_1) (r := am9_) rfl (by rw [ham9_]; exact amg1 (by omega) (by omega)) ?_
  refine Rx.walk 0 (pc' := 11) (L' := [some (.ref 0), some (.int (iz r_1)), none, none]) (st' := [.int (iz am9_)]) (h' := cmH (u1 (u1 (u1 (u1 (u1 z 8 bg) 9 n) 10 a_2) 11 (-1)) 12 dp) zl (uf (uf f 1 tb) 4 lt) fl 1) rfl ?_
  have hamb : (am9_ = 0 ∧ ltr r_1 = -1) ∨ (am9_ = 1 ∧ ltr r_1 ≠ -1) := by rw [ham9_]; split; (exact Or.inl ⟨rfl, by assumption⟩); (exact Or.inr ⟨rfl, by assumption⟩)
  refine Rx.eq1 rfl rfl ⟨by omega, by omega⟩ (fun b10 => ?_) (fun b10 => ?_)
  · have hlt0 : ltr r_1 = -1 := by rcases hamb with z | z; exact z.2; (exfalso; omega)
    refine Rx.walk 2 (pc' := 34) (L' := [some (.ref 0), some (.int (iz r_1)), none, none]) (st' := [.int (iz 91), .int (iz r_1)]) (h' := cmH (u1 (u1 (u1 (u1 (u1 z 8 bg) 9 n) 10 a_2) 11 (-1)) 12 dp) zl (uf (uf f 1 tb) 4 lt) fl 1) rfl ?_
    refine Rx.ne2 rfl rfl ⟨by omega, by omega⟩ ⟨by omega, by omega⟩ (fun b11 => ?_) (fun b11 => ?_)
    · refine Rx.walk 1 (pc' := 75) (L' := [some (.ref 0), some (.int (iz r_1)), none, none]) (st' := [.ref 0]) (h' := cmH (u1 (u1 (u1 (u1 (u1 z 8 bg) 9 n) 10 a_2) 11 (-1)) 12 dp) zl (uf (uf f 1 tb) 4 lt) fl 1) rfl ?_
      refine Rx.callx (m' := m_X12_isDigit) (as := [.ref 0]) (rest := []) rfl (m_isDig1 _ (u1 (u1 (u1 (u1 (u1 z 8 bg) 9 n) 10 a_2) 11 (-1)) 12 dp) zl (uf (uf f 1 tb) 4 lt) fl 1  n a_2 bg (-1) tb b hT hM ⟨by omega, by omega⟩) (fun v14 h15 q16 => ?_)
      obtain ⟨r_12, rfl, rfl, f13⟩ := q16
      refine Rx.walk 0 (pc' := 78) (L' := [some (.ref 0), some (.int (iz r_1)), none, none]) (st' := [.int (iz r_12)]) (h' := cmH (u1 (u1 (u1 (u1 (u1 z 8 bg) 9 n) 10 a_2) 11 (-1)) 12 dp) zl (uf (uf f 1 tb) 4 lt) fl 1) rfl ?_
      refine Rx.ne1 rfl rfl ⟨by omega, by omega⟩ (fun b17 => ?_) (fun b17 => ?_)
      · refine Rx.walk 4 (pc' := 90) (L' := [some (.ref 0), some (.int (iz r_1)), some (.int (iz 0)), some (.int (iz 0))]) (st' := []) (h' := cmH (u1 (u1 (u1 (u1 (u1 z 8 bg) 9 n) 10 a_2) 11 (-1)) 12 dp) zl (uf (uf f 1 tb) 4 lt) fl 1) rfl ?_
        refine m_adg1 _ (u1 (u1 (u1 (u1 (u1 z 8 bg) 9 n) 10 a_2) 11 (-1)) 12 dp) zl (uf (uf f 1 tb) 4 lt) fl 1  r_1 dp n bg tb b lt a_2 hT hM ⟨by omega, by omega⟩ _ ?_ ((5 - 0) + 1 : Int).toNat 0 0 a_2 ⟨by omega, by omega⟩ ⟨by omega, by omega⟩ ⟨by omega, by omega, by omega, by omega, by omega, by omega⟩ rfl (by omega) 
        intro r_18 a_19 fa_20 f21 f22 f23
        show (fun (rv : Option Value) (h : AmH) => ∃ r : Int, ∃ a' : Int, ∃ fa' : Int, ∃ dp' : Int, rv = some (.int (iz r)) ∧ h = cmH (u1 (u1 (u1 (u1 (u1 z 8 bg) 9 n) 10 a') 11 fa') 12 dp') zl (uf (uf f 1 tb) 4 lt) fl 1 ∧ mdR (atomR n b 0 a) (ltL lt) dp r a' fa' dp' ∧ ((a ≤ a' ∧ a' ≤ n) ∧ (fa' = -1 ∨ (0 ≤ fa' ∧ fa' ≤ 160)) ∧ (-1000000 ≤ r ∧ r ≤ 1000000))) (some (Value.int (iz r_18))) (cmH (u1 (u1 (u1 (u1 (u1 z 8 bg) 9 n) 10 a_19) 11 fa_20) 12 dp) zl (uf (uf f 1 tb) 4 lt) fl 1)
        have ec : sg n b (sks n b a) = r_1 := by rw [← f3]; exact f4.symm
        have hln : ltr (sg n b (sks n b a)) = -1 := by rw [ec]; exact hlt0
        have hd : isD n b (sks n b a) = true := by rw [← f3]; rcases f13 with z | z; exact z.2; (exfalso; omega)
        have hl0 := f21
        have hl1 := f22
        rw [f3] at hl0 hl1
        have hdb := dg_4 (n := n) (b := b) (p := sks n b a) (v := 0) (by omega)
        have hdp2 := dg_props (n := n) (b := b) 4 (sks n b a) 0 (by omega) (by omega)
        rcases hl0 with ⟨z1, z2, z3⟩ | ⟨z1, z2, z3⟩
        · rw [show atomR n b 0 a = atomG n b none a from rfl, atomG_e (n := n) (b := b) (a := a) (by omega) hln hd z1]
          exact ⟨_, _, _, _, rfl, rfl, Or.inr ⟨rfl, z2⟩, ⟨by omega, by omega⟩, Or.inr ⟨by omega, by omega⟩, by omega, by omega⟩
        · rw [show atomR n b 0 a = atomG n b none a from rfl, atomG_d (n := n) (b := b) (a := a) (by omega) hln hd z1]
          exact ⟨_, _, _, _, rfl, rfl, Or.inl ⟨rfl, z2, hl1, rfl, z3⟩, ⟨by omega, by omega⟩, Or.inl z2, by omega, by omega⟩
      · refine Rx.walk 1 (pc' := 82) (L' := [some (.ref 0), some (.int (iz r_1)), none, none]) (st' := [.ref 0]) (h' := cmH (u1 (u1 (u1 (u1 (u1 z 8 bg) 9 n) 10 a_2) 11 (-1)) 12 dp) zl (uf (uf f 1 tb) 4 lt) fl 1) rfl ?_
        refine Rx.callx (m' := m_X12_fails) (as := [.ref 0]) (rest := []) rfl (m_fails _ (u1 (u1 (u1 (u1 (u1 z 8 bg) 9 n) 10 a_2) 11 (-1)) 12 dp) zl (uf (uf f 1 tb) 4 lt) fl 1  a_2 (-1) (Or.inl rfl)) (fun v26 h27 q28 => ?_)
        obtain ⟨fa_24, rfl, rfl, f25⟩ := q28
        refine Rx.walk 0 (pc' := 85) (L' := [some (.ref 0), some (.int (iz r_1)), none, none]) (st' := [.int (iz 0)]) (h' := cmH (u1 (u1 (u1 (u1 (u1 z 8 bg) 9 n) 10 a_2) 11 fa_24) 12 dp) zl (uf (uf f 1 tb) 4 lt) fl 1) rfl ?_
        refine Rx.walk 6 (pc' := 91) (L' := [some (.ref 0), some (.int (iz r_1)), some (.int (iz 0)), some (.int (iz 0))]) (st' := [.ref 0]) (h' := cmH (u1 (u1 (u1 (u1 (u1 z 8 bg) 9 n) 10 a_2) 11 fa_24) 12 dp) zl (uf (uf f 1 tb) 4 lt) fl 1) rfl ?_
        refine Rx.callx (m' := m_X12_isDigit) (as := [.ref 0]) (rest := []) rfl (m_isDig1 _ (u1 (u1 (u1 (u1 (u1 z 8 bg) 9 n) 10 a_2) 11 fa_24) 12 dp) zl (uf (uf f 1 tb) 4 lt) fl 1  n a_2 bg fa_24 tb b hT hM ⟨by omega, by omega⟩) (fun v31 h32 q33 => ?_)
        obtain ⟨r_29, rfl, rfl, f30⟩ := q33
        refine Rx.walk 0 (pc' := 94) (L' := [some (.ref 0), some (.int (iz r_1)), some (.int (iz 0)), some (.int (iz 0))]) (st' := [.int (iz r_29)]) (h' := cmH (u1 (u1 (u1 (u1 (u1 z 8 bg) 9 n) 10 a_2) 11 fa_24) 12 dp) zl (uf (uf f 1 tb) 4 lt) fl 1) rfl ?_
        have hd2 : r_29 = 0 := by rcases f30 with z | z; (rcases f13 with y | y; (exfalso; omega); exact absurd (z.2.symm.trans y.2) (by decide)); exact z.1
        refine Rx.eq1 rfl rfl ⟨by omega, by omega⟩ (fun b34 => ?_) (fun b34 => by omega)
        refine Rx.walk 1 (pc' := 157) (L' := [some (.ref 0), some (.int (iz r_1)), some (.int (iz 0)), some (.int (iz 0))]) (st' := [.int (iz 0)]) (h' := cmH (u1 (u1 (u1 (u1 (u1 z 8 bg) 9 n) 10 a_2) 11 fa_24) 12 dp) zl (uf (uf f 1 tb) 4 lt) fl 1) rfl ?_
        refine Rx.ret rfl ?_
        have ec : sg n b (sks n b a) = r_1 := by rw [← f3]; exact f4.symm
        have hln : ltr (sg n b (sks n b a)) = -1 := by rw [ec]; exact hlt0
        rw [show atomR n b 0 a = atomG n b none a from rfl, atomG_z (n := n) (b := b) (a := a) (by omega) hln (by rw [← f3]; rcases f13 with z | z; (exfalso; omega); exact z.2)]
        exact ⟨_, _, _, _, rfl, rfl, Or.inr ⟨rfl, by rcases f25 with z | z; (rw [z.2]; exact f3); (exfalso; omega)⟩, ⟨by omega, by omega⟩, by rcases f25 with z | z <;> omega, by omega, by omega⟩
    · have hlt : a_2 < n := by rcases Int.lt_or_le a_2 n with q | q; exact q; (exfalso; rw [sg_ge q] at f4; omega)
      refine Rx.walk 1 (pc' := 38) (L' := [some (.ref 0), some (.int (iz r_1)), none, none]) (st' := [.ref 0]) (h' := cmH (u1 (u1 (u1 (u1 (u1 z 8 bg) 9 n) 10 a_2) 11 (-1)) 12 dp) zl (uf (uf f 1 tb) 4 lt) fl 1) rfl ?_
      refine Rx.callx (m' := m_X12_goesIn) (as := [.ref 0]) (rest := []) rfl (m_goesIn _ (u1 (u1 (u1 (u1 (u1 z 8 bg) 9 n) 10 a_2) 11 (-1)) 12 dp) zl (uf (uf f 1 tb) 4 lt) fl 1  a_2 dp ⟨by omega, by omega⟩ ⟨by omega, by omega⟩) (fun v40 h41 q42 => ?_)
      obtain ⟨r_35, a_36, fa_37, dp_38, rfl, rfl, f39⟩ := q42
      refine Rx.walk 0 (pc' := 41) (L' := [some (.ref 0), some (.int (iz r_1)), none, none]) (st' := [.int (iz r_35)]) (h' := cmH (u1 (u1 (u1 (u1 (u1 z 8 bg) 9 n) 10 a_36) 11 fa_37) 12 dp_38) zl (uf (uf f 1 tb) 4 lt) fl 1) rfl ?_
      refine Rx.ne1 rfl rfl ⟨by omega, by omega⟩ (fun b43 => by omega) (fun b43 => ?_)
      refine Rx.walk 1 (pc' := 45) (L' := [some (.ref 0), some (.int (iz r_1)), none, none]) (st' := [.int (iz 0)]) (h' := cmH (u1 (u1 (u1 (u1 (u1 z 8 bg) 9 n) 10 a_36) 11 fa_37) 12 dp_38) zl (uf (uf f 1 tb) 4 lt) fl 1) rfl ?_
      refine Rx.ret rfl ?_
      have ec : sg n b (sks n b a) = r_1 := by rw [← f3]; exact f4.symm
      have hln : ltr (sg n b (sks n b a)) = -1 := by rw [ec]; exact hlt0
      rw [show atomR n b 0 a = atomG n b none a from rfl, atomG_n (n := n) (b := b) (a := a) (by omega)]
      refine ⟨_, _, _, _, rfl, rfl, Or.inr ⟨rfl, by rcases f39 with z | z; (rw [z.2.2.2.1]; exact f3); (exfalso; omega)⟩, ⟨by omega, by omega⟩, by omega, by omega, by omega⟩
  · have hlt0 : ltr r_1 ≠ -1 := by rcases hamb with z | z; (exfalso; omega); exact z.2
    have hl91 : r_1 ≠ 91 := fun q => by rw [q] at hlt0; exact hlt0 rfl
    have hltc := ltc_ltr hlt0
    have hlb := ltr_b r_1
    have hcr : 0 ≤ r_1 ∧ r_1 < 128 := by rw [← hltc]; unfold ltc; repeat (first | omega | split)
    have hlt : a_2 < n := by rcases Int.lt_or_le a_2 n with q | q; exact q; (exfalso; rw [sg_ge q] at f4; omega)
    have hLb := hL r_1 hcr.1 hcr.2
    refine Rx.walk 4 (pc' := 20) (L' := [some (.ref 0), some (.int (iz r_1)), none, none]) (st' := [.int (iz 1), .int (iz a_2), .ref 0]) (h' := cmH (u1 (u1 (u1 (u1 (u1 z 8 bg) 9 n) 10 a_2) 11 (-1)) 12 dp) zl (uf (uf f 1 tb) 4 lt) fl 1) rfl ?_
    refine Rx.iadd rfl ?_
    refine Rx.walk 4 (pc' := 29) (L' := [some (.ref 0), some (.int (iz r_1)), none, none]) (st' := [.int (iz r_1), .ref 4]) (h' := cmH (u1 (u1 (u1 (u1 (u1 z 8 bg) 9 n) 10 (a_2 + 1)) 11 (-1)) 12 dp) zl (uf (uf f 1 tb) 4 lt) fl 1) rfl ?_
    refine Rx.ial (g := lt) rfl rfl (by omega) (by omega) (by omega) ?_
    refine Rx.ret rfl ?_
    have ec : sg n b (sks n b a) = r_1 := by rw [← f3]; exact f4.symm
    have hln : ltr (sg n b (sks n b a)) ≠ -1 := by rw [ec]; exact hlt0
    rw [show atomR n b 0 a = atomG n b none a from rfl, atomG_l (n := n) (b := b) (a := a) (by rw [ec]; exact hl91) hln]
    refine ⟨_, _, _, _, rfl, rfl, Or.inl ⟨rfl, rfl, by rw [← f3], rfl, ?_⟩, ⟨by omega, by omega⟩, Or.inl rfl, hLb⟩
    show _ = lt (ltc (ltr (sg n b (sks n b a))))
    rw [ltc_ltr hln, ec]
set_option maxRecDepth 100000 in
set_option maxHeartbeats 4000000 in
theorem m_rAtom1_1 (d : Nat) (z : Nat → Int) (zl : Nat → Int) (f : Nat → Int → Int) (fl : Nat → Int → Int) (tx : Nat) (D rr : Nat) (hS : ∀ (d : Nat) (z : Nat → Int) (zl : Nat → Int) (f : Nat → Int → Int) (fl : Nat → Int → Int) (tx : Nat)  (dp : Int) (n : Int) (a : Int) (bg : Int) (tb : Int → Int) (b : Int → Int) (lt : Int → Int) (hT : tOK n b) (hM : mOK n bg 160 tb b) (ha : 0 ≤ a ∧ a ≤ n) (hL : ∀ k : Int, 0 ≤ k → k < 128 → -1000000 ≤ lt k ∧ lt k ≤ 1000000) (hdp : 0 ≤ dp ∧ dp = 6 - (rr : Int)), Rx (d + (D + 2)) m_X12_sum 0 (am_ent [.ref 0] 5) [] (cmH (u1 (u1 (u1 (u1 (u1 z 8 bg) 9 n) 10 a) 11 (-1)) 12 dp) zl (uf (uf f 1 tb) 4 lt) fl 1) (fun rv h => ∃ r : Int, ∃ a' : Int, ∃ fa' : Int, ∃ dp' : Int, rv = some (.int (iz r)) ∧ h = cmH (u1 (u1 (u1 (u1 (u1 z 8 bg) 9 n) 10 a') 11 fa') 12 dp') zl (uf (uf f 1 tb) 4 lt) fl 1 ∧ mdR (sumR n b rr a) (ltL lt) dp r a' fa' dp' ∧ ((a ≤ a' ∧ a' ≤ n) ∧ (fa' = -1 ∨ (0 ≤ fa' ∧ fa' ≤ 160)) ∧ (-1000000 ≤ r ∧ r ≤ 1000000)))) (dp : Int) (n : Int) (a : Int) (bg : Int) (tb : Int → Int) (b : Int → Int) (lt : Int → Int) (hT : tOK n b) (hM : mOK n bg 160 tb b) (ha : 0 ≤ a ∧ a ≤ n) (hL : ∀ k : Int, 0 ≤ k → k < 128 → -1000000 ≤ lt k ∧ lt k ≤ 1000000) (hdp : 0 ≤ dp ∧ dp = 5 - (rr : Int)) : Rx (d + (D + 3)) m_X12_atom 0 (am_ent [.ref 0] 4) [] (cmH (u1 (u1 (u1 (u1 (u1 z 8 bg) 9 n) 10 a) 11 (-1)) 12 dp) zl (uf (uf f 1 tb) 4 lt) fl 1) (fun rv h => ∃ r : Int, ∃ a' : Int, ∃ fa' : Int, ∃ dp' : Int, rv = some (.int (iz r)) ∧ h = cmH (u1 (u1 (u1 (u1 (u1 z 8 bg) 9 n) 10 a') 11 fa') 12 dp') zl (uf (uf f 1 tb) 4 lt) fl 1 ∧ mdR (atomR n b (rr + 1) a) (ltL lt) dp r a' fa' dp' ∧ ((a ≤ a' ∧ a' ≤ n) ∧ (fa' = -1 ∨ (0 ≤ fa' ∧ fa' ≤ 160)) ∧ (-1000000 ≤ r ∧ r ≤ 1000000))) := by
  obtain ⟨hT1, hT2, hT3⟩ := id hT
  have hbg := hM.1
  have hbz := hM.2.1
  have hrr : 0 ≤ (rr : Int) := by omega
  refine Rx.walk 0 (pc' := 0) (L' := [some (.ref 0), none, none, none]) (st' := []) (h' := cmH (u1 (u1 (u1 (u1 (u1 z 8 bg) 9 n) 10 a) 11 (-1)) 12 dp) zl (uf (uf f 1 tb) 4 lt) fl 1) rfl ?_
  refine Rx.walk 1 (pc' := 1) (L' := [some (.ref 0), none, none, none]) (st' := [.ref 0]) (h' := cmH (u1 (u1 (u1 (u1 (u1 z 8 bg) 9 n) 10 a) 11 (-1)) 12 dp) zl (uf (uf f 1 tb) 4 lt) fl 1) rfl ?_
  refine Rx.callx (m' := m_X12_look) (as := [.ref 0]) (rest := []) rfl (m_look1 _ (u1 (u1 (u1 (u1 (u1 z 8 bg) 9 n) 10 a) 11 (-1)) 12 dp) zl (uf (uf f 1 tb) 4 lt) fl 1  n a bg (-1) tb b hT hM ha) (fun v7 h8 q9 => ?_)
  obtain ⟨r_1, a_2, rfl, rfl, f3, f4, f5, f6⟩ := q9
  refine Rx.walk 0 (pc' := 4) (L' := [some (.ref 0), none, none, none]) (st' := [.int (iz r_1)]) (h' := cmH (u1 (u1 (u1 (u1 (u1 z 8 bg) 9 n) 10 a_2) 11 (-1)) 12 dp) zl (uf (uf f 1 tb) 4 lt) fl 1) rfl ?_
  refine Rx.walk 3 (pc' := 8) (L' := [some (.ref 0), some (.int (iz r_1)), none, none]) (st' := [.int (iz r_1), .retAddr 1]) (h' := cmH (u1 (u1 (u1 (u1 (u1 z 8 bg) 9 n) 10 a_2) 11 (-1)) 12 dp) zl (uf (uf f 1 tb) 4 lt) fl 1) rfl ?_
  obtain ⟨am9_, ham9_⟩ : ∃ q, q = (if ltr r_1 = -1 then (0 : Int) else 1) := ⟨_, rfl⟩
  refine Rx.amg (j := 1) (t := r_1) (r := am9_) rfl (by rw [ham9_]; exact amg1 (by omega) (by omega)) ?_
  refine Rx.walk 0 (pc' := 11) (L' := [some (.ref 0), some (.int (iz r_1)), none, none]) (st' := [.int (iz am9_)]) (h' := cmH (u1 (u1 (u1 (u1 (u1 z 8 bg) 9 n) 10 a_2) 11 (-1)) 12 dp) zl (uf (uf f 1 tb) 4 lt) fl 1) rfl ?_
  have hamb : (am9_ = 0 ∧ ltr r_1 = -1) ∨ (am9_ = 1 ∧ ltr r_1 ≠ -1) := by rw [ham9_]; split; (exact Or.inl ⟨rfl, by assumption⟩); (exact Or.inr ⟨rfl, by assumption⟩)
  refine Rx.eq1 rfl rfl ⟨by omega, by omega⟩ (fun b10 => ?_) (fun b10 => ?_)
  · have hlt0 : ltr r_1 = -1 := by rcases hamb with z | z; exact z.2; (exfalso; omega)
    refine Rx.walk 2 (pc' := 34) (L' := [some (.ref 0), some (.int (iz r_1)), none, none]) (st' := [.int (iz 91), .int (iz r_1)]) (h' := cmH (u1 (u1 (u1 (u1 (u1 z 8 bg) 9 n) 10 a_2) 11 (-1)) 12 dp) zl (uf (uf f 1 tb) 4 lt) fl 1) rfl ?_
    refine Rx.ne2 rfl rfl ⟨by omega, by omega⟩ ⟨by omega, by omega⟩ (fun b11 => ?_) (fun b11 => ?_)
    · refine Rx.walk 1 (pc' := 75) (L' := [some (.ref 0), some (.int (iz r_1)), none, none]) (st' := [.ref 0]) (h' := cmH (u1 (u1 (u1 (u1 (u1 z 8 bg) 9 n) 10 a_2) 11 (-1)) 12 dp) zl (uf (uf f 1 tb) 4 lt) fl 1) rfl ?_
      refine Rx.callx (m' := m_X12_isDigit) (as := [.ref 0]) (rest := []) rfl (m_isDig1 _ (u1 (u1 (u1 (u1 (u1 z 8 bg) 9 n) 10 a_2) 11 (-1)) 12 dp) zl (uf (uf f 1 tb) 4 lt) fl 1  n a_2 bg (-1) tb b hT hM ⟨by omega, by omega⟩) (fun v14 h15 q16 => ?_)
      obtain ⟨r_12, rfl, rfl, f13⟩ := q16
      refine Rx.walk 0 (pc' := 78) (L' := [some (.ref 0), some (.int (iz r_1)), none, none]) (st' := [.int (iz r_12)]) (h' := cmH (u1 (u1 (u1 (u1 (u1 z 8 bg) 9 n) 10 a_2) 11 (-1)) 12 dp) zl (uf (uf f 1 tb) 4 lt) fl 1) rfl ?_
      refine Rx.ne1 rfl rfl ⟨by omega, by omega⟩ (fun b17 => ?_) (fun b17 => ?_)
      · refine Rx.walk 4 (pc' := 90) (L' := [some (.ref 0), some (.int (iz r_1)), some (.int (iz 0)), some (.int (iz 0))]) (st' := []) (h' := cmH (u1 (u1 (u1 (u1 (u1 z 8 bg) 9 n) 10 a_2) 11 (-1)) 12 dp) zl (uf (uf f 1 tb) 4 lt) fl 1) rfl ?_
        refine m_adg1 _ (u1 (u1 (u1 (u1 (u1 z 8 bg) 9 n) 10 a_2) 11 (-1)) 12 dp) zl (uf (uf f 1 tb) 4 lt) fl 1  r_1 dp n bg tb b lt a_2 hT hM ⟨by omega, by omega⟩ _ ?_ ((5 - 0) + 1 : Int).toNat 0 0 a_2 ⟨by omega, by omega⟩ ⟨by omega, by omega⟩ ⟨by omega, by omega, by omega, by omega, by omega, by omega⟩ rfl (by omega) 
        intro r_18 a_19 fa_20 f21 f22 f23
        show (fun (rv : Option Value) (h : AmH) => ∃ r : Int, ∃ a' : Int, ∃ fa' : Int, ∃ dp' : Int, rv = some (.int (iz r)) ∧ h = cmH (u1 (u1 (u1 (u1 (u1 z 8 bg) 9 n) 10 a') 11 fa') 12 dp') zl (uf (uf f 1 tb) 4 lt) fl 1 ∧ mdR (atomR n b (rr + 1) a) (ltL lt) dp r a' fa' dp' ∧ ((a ≤ a' ∧ a' ≤ n) ∧ (fa' = -1 ∨ (0 ≤ fa' ∧ fa' ≤ 160)) ∧ (-1000000 ≤ r ∧ r ≤ 1000000))) (some (Value.int (iz r_18))) (cmH (u1 (u1 (u1 (u1 (u1 z 8 bg) 9 n) 10 a_19) 11 fa_20) 12 dp) zl (uf (uf f 1 tb) 4 lt) fl 1)
        have ec : sg n b (sks n b a) = r_1 := by rw [← f3]; exact f4.symm
        have hln : ltr (sg n b (sks n b a)) = -1 := by rw [ec]; exact hlt0
        have hd : isD n b (sks n b a) = true := by rw [← f3]; rcases f13 with z | z; exact z.2; (exfalso; omega)
        have hl0 := f21
        have hl1 := f22
        rw [f3] at hl0 hl1
        have hdb := dg_4 (n := n) (b := b) (p := sks n b a) (v := 0) (by omega)
        have hdp2 := dg_props (n := n) (b := b) 4 (sks n b a) 0 (by omega) (by omega)
        rcases hl0 with ⟨z1, z2, z3⟩ | ⟨z1, z2, z3⟩
        · rw [show atomR n b (rr + 1) a = atomG n b (some (sumR n b rr)) a from rfl, atomG_e (n := n) (b := b) (a := a) (by omega) hln hd z1]
          exact ⟨_, _, _, _, rfl, rfl, Or.inr ⟨rfl, z2⟩, ⟨by omega, by omega⟩, Or.inr ⟨by omega, by omega⟩, by omega, by omega⟩
        · rw [show atomR n b (rr + 1) a = atomG n b (some (sumR n b rr)) a from rfl, atomG_d (n := n) (b := b) (a := a) (by omega) hln hd z1]
          exact ⟨_, _, _, _, rfl, rfl, Or.inl ⟨rfl, z2, hl1, rfl, z3⟩, ⟨by omega, by omega⟩, Or.inl z2, by omega, by omega⟩
      · refine Rx.walk 1 (pc' := 82) (L' := [some (.ref 0), some (.int (iz r_1)), none, none]) (st' := [.ref 0]) (h' := cmH (u1 (u1 (u1 (u1 (u1 z 8 bg) 9 n) 10 a_2) 11 (-1)) 12 dp) zl (uf (uf f 1 tb) 4 lt) fl 1) rfl ?_
        refine Rx.callx (m' := m_X12_fails) (as := [.ref 0]) (rest := []) rfl (m_fails _ (u1 (u1 (u1 (u1 (u1 z 8 bg) 9 n) 10 a_2) 11 (-1)) 12 dp) zl (uf (uf f 1 tb) 4 lt) fl 1  a_2 (-1) (Or.inl rfl)) (fun v26 h27 q28 => ?_)
        obtain ⟨fa_24, rfl, rfl, f25⟩ := q28
        refine Rx.walk 0 (pc' := 85) (L' := [some (.ref 0), some (.int (iz r_1)), none, none]) (st' := [.int (iz 0)]) (h' := cmH (u1 (u1 (u1 (u1 (u1 z 8 bg) 9 n) 10 a_2) 11 fa_24) 12 dp) zl (uf (uf f 1 tb) 4 lt) fl 1) rfl ?_
        refine Rx.walk 6 (pc' := 91) (L' := [some (.ref 0), some (.int (iz r_1)), some (.int (iz 0)), some (.int (iz 0))]) (st' := [.ref 0]) (h' := cmH (u1 (u1 (u1 (u1 (u1 z 8 bg) 9 n) 10 a_2) 11 fa_24) 12 dp) zl (uf (uf f 1 tb) 4 lt) fl 1) rfl ?_
        refine Rx.callx (m' := m_X12_isDigit) (as := [.ref 0]) (rest := []) rfl (m_isDig1 _ (u1 (u1 (u1 (u1 (u1 z 8 bg) 9 n) 10 a_2) 11 fa_24) 12 dp) zl (uf (uf f 1 tb) 4 lt) fl 1  n a_2 bg fa_24 tb b hT hM ⟨by omega, by omega⟩) (fun v31 h32 q33 => ?_)
        obtain ⟨r_29, rfl, rfl, f30⟩ := q33
        refine Rx.walk 0 (pc' := 94) (L' := [some (.ref 0), some (.int (iz r_1)), some (.int (iz 0)), some (.int (iz 0))]) (st' := [.int (iz r_29)]) (h' := cmH (u1 (u1 (u1 (u1 (u1 z 8 bg) 9 n) 10 a_2) 11 fa_24) 12 dp) zl (uf (uf f 1 tb) 4 lt) fl 1) rfl ?_
        have hd2 : r_29 = 0 := by rcases f30 with z | z; (rcases f13 with y | y; (exfalso; omega); exact absurd (z.2.symm.trans y.2) (by decide)); exact z.1
        refine Rx.eq1 rfl rfl ⟨by omega, by omega⟩ (fun b34 => ?_) (fun b34 => by omega)
        refine Rx.walk 1 (pc' := 157) (L' := [some (.ref 0), some (.int (iz r_1)), some (.int (iz 0)), some (.int (iz 0))]) (st' := [.int (iz 0)]) (h' := cmH (u1 (u1 (u1 (u1 (u1 z 8 bg) 9 n) 10 a_2) 11 fa_24) 12 dp) zl (uf (uf f 1 tb) 4 lt) fl 1) rfl ?_
        refine Rx.ret rfl ?_
        have ec : sg n b (sks n b a) = r_1 := by rw [← f3]; exact f4.symm
        have hln : ltr (sg n b (sks n b a)) = -1 := by rw [ec]; exact hlt0
        rw [show atomR n b (rr + 1) a = atomG n b (some (sumR n b rr)) a from rfl, atomG_z (n := n) (b := b) (a := a) (by omega) hln (by rw [← f3]; rcases f13 with z | z; (exfalso; omega); exact z.2)]
        exact ⟨_, _, _, _, rfl, rfl, Or.inr ⟨rfl, by rcases f25 with z | z; (rw [z.2]; exact f3); (exfalso; omega)⟩, ⟨by omega, by omega⟩, by rcases f25 with z | z <;> omega, by omega, by omega⟩
    · have hlt : a_2 < n := by rcases Int.lt_or_le a_2 n with q | q; exact q; (exfalso; rw [sg_ge q] at f4; omega)
      refine Rx.walk 1 (pc' := 38) (L' := [some (.ref 0), some (.int (iz r_1)), none, none]) (st' := [.ref 0]) (h' := cmH (u1 (u1 (u1 (u1 (u1 z 8 bg) 9 n) 10 a_2) 11 (-1)) 12 dp) zl (uf (uf f 1 tb) 4 lt) fl 1) rfl ?_
      refine Rx.callx (m' := m_X12_goesIn) (as := [.ref 0]) (rest := []) rfl (m_goesIn _ (u1 (u1 (u1 (u1 (u1 z 8 bg) 9 n) 10 a_2) 11 (-1)) 12 dp) zl (uf (uf f 1 tb) 4 lt) fl 1  a_2 dp ⟨by omega, by omega⟩ ⟨by omega, by omega⟩) (fun v40 h41 q42 => ?_)
      obtain ⟨r_35, a_36, fa_37, dp_38, rfl, rfl, f39⟩ := q42
      refine Rx.walk 0 (pc' := 41) (L' := [some (.ref 0), some (.int (iz r_1)), none, none]) (st' := [.int (iz r_35)]) (h' := cmH (u1 (u1 (u1 (u1 (u1 z 8 bg) 9 n) 10 a_36) 11 fa_37) 12 dp_38) zl (uf (uf f 1 tb) 4 lt) fl 1) rfl ?_
      refine Rx.ne1 rfl rfl ⟨by omega, by omega⟩ (fun b43 => ?_) (fun b43 => by omega)
      refine Rx.walk 1 (pc' := 47) (L' := [some (.ref 0), some (.int (iz r_1)), none, none]) (st' := [.ref 0]) (h' := cmH (u1 (u1 (u1 (u1 (u1 z 8 bg) 9 n) 10 a_36) 11 fa_37) 12 dp_38) zl (uf (uf f 1 tb) 4 lt) fl 1) rfl ?_
      obtain rfl : fa_37 = -1 := by rcases f39 with z | z <;> omega
      refine Rx.callx (m' := m_X12_sum) (as := [.ref 0]) (rest := []) rfl (hS _ (u1 (u1 (u1 (u1 (u1 z 8 bg) 9 n) 10 a_36) 11 (-1)) 12 dp_38) zl (uf (uf f 1 tb) 4 lt) fl 1  dp_38 n a_36 bg tb b lt hT hM ⟨by omega, by omega⟩ hL ⟨by omega, by omega⟩) (fun v50 h51 q52 => ?_)
      obtain ⟨r_44, a_45, fa_46, dp_47, rfl, rfl, f48, f49⟩ := q52
      refine Rx.walk 0 (pc' := 50) (L' := [some (.ref 0), some (.int (iz r_1)), none, none]) (st' := [.int (iz r_44)]) (h' := cmH (u1 (u1 (u1 (u1 (u1 z 8 bg) 9 n) 10 a_45) 11 fa_46) 12 dp_47) zl (uf (uf f 1 tb) 4 lt) fl 1) rfl ?_
      obtain ⟨hsa, hsf, hsb⟩ := id f49
      refine Rx.walk 3 (pc' := 54) (L' := [some (.ref 0), some (.int (iz r_1)), some (.int (iz r_44)), none]) (st' := [.int (iz 93), .ref 0]) (h' := cmH (u1 (u1 (u1 (u1 (u1 z 8 bg) 9 n) 10 a_45) 11 fa_46) 12 dp_47) zl (uf (uf f 1 tb) 4 lt) fl 1) rfl ?_
      refine Rx.callx (m' := m_X12_takes) (as := [.ref 0, .int (iz 93)]) (rest := []) rfl (m_takes1 _ (u1 (u1 (u1 (u1 (u1 z 8 bg) 9 n) 10 a_45) 11 fa_46) 12 dp_47) zl (uf (uf f 1 tb) 4 lt) fl 1  93 n a_45 bg fa_46 tb b hT hM ⟨by omega, by omega⟩ (by first | assumption | omega) hsf) (fun v59 h60 q61 => ?_)
      obtain ⟨r_53, a_54, fa_55, rfl, rfl, f56, f57, f58⟩ := q61
      refine Rx.walk 0 (pc' := 57) (L' := [some (.ref 0), some (.int (iz r_1)), some (.int (iz r_44)), none]) (st' := [.int (iz r_53)]) (h' := cmH (u1 (u1 (u1 (u1 (u1 z 8 bg) 9 n) 10 a_54) 11 fa_55) 12 dp_47) zl (uf (uf f 1 tb) 4 lt) fl 1) rfl ?_
      refine Rx.ne1 rfl rfl ⟨by omega, by omega⟩ (fun b62 => ?_) (fun b62 => ?_)
      · refine Rx.walk 4 (pc' := 68) (L' := [some (.ref 0), some (.int (iz r_1)), some (.int (iz r_44)), none]) (st' := [.int (iz 1), .int (iz dp_47), .ref 0]) (h' := cmH (u1 (u1 (u1 (u1 (u1 z 8 bg) 9 n) 10 a_54) 11 fa_55) 12 dp_47) zl (uf (uf f 1 tb) 4 lt) fl 1) rfl ?_
        refine Rx.isub rfl ?_
        refine Rx.walk 2 (pc' := 73) (L' := [some (.ref 0), some (.int (iz r_1)), some (.int (iz r_44)), none]) (st' := [.int (iz r_44)]) (h' := cmH (u1 (u1 (u1 (u1 (u1 z 8 bg) 9 n) 10 a_54) 11 fa_55) 12 (dp_47 - 1)) zl (uf (uf f 1 tb) 4 lt) fl 1) rfl ?_
        refine Rx.ret rfl ?_
        have ec : sg n b (sks n b a) = r_1 := by rw [← f3]; exact f4.symm
        have hln : ltr (sg n b (sks n b a)) = -1 := by rw [ec]; exact hlt0
        have hga : a_36 = sks n b a + 1 := by rcases f39 with z | z; (exfalso; omega); (rw [z.2.2.1, f3])
        have hq : mdR (sumR n b rr (sks n b a + 1)) (ltL lt) dp_38 r_44 a_45 fa_46 dp_47 := by have z := f48; rw [hga] at z; exact z
        rcases f56 with z | z | z
        · rcases hq with ⟨q1, q2, q3, q4, q5⟩ | ⟨q1, q2⟩
          · rw [show atomR n b (rr + 1) a = atomG n b (some (sumR n b rr)) a from rfl, atomG_o (n := n) (b := b) (a := a) (by omega) q1 (by rw [← q3]; exact z.2.2.2.1)]
            exact ⟨_, _, _, _, rfl, rfl, Or.inl ⟨rfl, z.2.2.1, by rw [z.2.2.2.2, q3], by rcases f39 with y | y <;> omega, q5⟩, ⟨by omega, by omega⟩, f58, hsb⟩
          · exfalso; have hp := (sumR_ok (n := n) (b := b) rr (sks n b a + 1) (by omega) (by omega)).1; omega
        · exfalso; omega
        · exfalso; omega
      · refine Rx.walk 1 (pc' := 61) (L' := [some (.ref 0), some (.int (iz r_1)), some (.int (iz r_44)), none]) (st' := [.int (iz 0)]) (h' := cmH (u1 (u1 (u1 (u1 (u1 z 8 bg) 9 n) 10 a_54) 11 fa_55) 12 dp_47) zl (uf (uf f 1 tb) 4 lt) fl 1) rfl ?_
        refine Rx.ret rfl ?_
        have ec : sg n b (sks n b a) = r_1 := by rw [← f3]; exact f4.symm
        have hln : ltr (sg n b (sks n b a)) = -1 := by rw [ec]; exact hlt0
        have hga : a_36 = sks n b a + 1 := by rcases f39 with z | z; (exfalso; omega); (rw [z.2.2.1, f3])
        have hq : mdR (sumR n b rr (sks n b a + 1)) (ltL lt) dp_38 r_44 a_45 fa_46 dp_47 := by have z := f48; rw [hga] at z; exact z
        rcases hq with ⟨q1, q2, q3, q4, q5⟩ | ⟨q1, q2⟩
        · rcases f56 with z | z | z
          · exfalso; omega
          · rw [show atomR n b (rr + 1) a = atomG n b (some (sumR n b rr)) a from rfl, atomG_c (n := n) (b := b) (a := a) (by omega) q1 (by rw [← q3]; exact z.2.2.1)]
            exact ⟨_, _, _, _, rfl, rfl, Or.inr ⟨rfl, by rw [z.2.2.2.2, q3]; rfl⟩, ⟨by omega, by omega⟩, f58, by omega, by omega⟩
          · exact absurd q2 z.1
        · rcases f56 with z | z | z
          · exfalso; omega
          · exfalso; have hp := (sumR_ok (n := n) (b := b) rr (sks n b a + 1) (by omega) (by omega)).1; omega
          · rw [show atomR n b (rr + 1) a = atomG n b (some (sumR n b rr)) a from rfl, atomG_f (n := n) (b := b) (a := a) (by omega) q1]
            exact ⟨_, _, _, _, rfl, rfl, Or.inr ⟨rfl, by rw [z.2.2.2]; exact q2⟩, ⟨by omega, by omega⟩, f58, by omega, by omega⟩
  · have hlt0 : ltr r_1 ≠ -1 := by rcases hamb with z | z; (exfalso; omega); exact z.2
    have hl91 : r_1 ≠ 91 := fun q => by rw [q] at hlt0; exact hlt0 rfl
    have hltc := ltc_ltr hlt0
    have hlb := ltr_b r_1
    have hcr : 0 ≤ r_1 ∧ r_1 < 128 := by rw [← hltc]; unfold ltc; repeat (first | omega | split)
    have hlt : a_2 < n := by rcases Int.lt_or_le a_2 n with q | q; exact q; (exfalso; rw [sg_ge q] at f4; omega)
    have hLb := hL r_1 hcr.1 hcr.2
    refine Rx.walk 4 (pc' := 20) (L' := [some (.ref 0), some (.int (iz r_1)), none, none]) (st' := [.int (iz 1), .int (iz a_2), .ref 0]) (h' := cmH (u1 (u1 (u1 (u1 (u1 z 8 bg) 9 n) 10 a_2) 11 (-1)) 12 dp) zl (uf (uf f 1 tb) 4 lt) fl 1) rfl ?_
    refine Rx.iadd rfl ?_
    refine Rx.walk 4 (pc' := 29) (L' := [some (.ref 0), some (.int (iz r_1)), none, none]) (st' := [.int (iz r_1), .ref 4]) (h' := cmH (u1 (u1 (u1 (u1 (u1 z 8 bg) 9 n) 10 (a_2 + 1)) 11 (-1)) 12 dp) zl (uf (uf f 1 tb) 4 lt) fl 1) rfl ?_
    refine Rx.ial (g := lt) rfl rfl (by omega) (by omega) (by omega) ?_
    refine Rx.ret rfl ?_
    have ec : sg n b (sks n b a) = r_1 := by rw [← f3]; exact f4.symm
    have hln : ltr (sg n b (sks n b a)) ≠ -1 := by rw [ec]; exact hlt0
    rw [show atomR n b (rr + 1) a = atomG n b (some (sumR n b rr)) a from rfl, atomG_l (n := n) (b := b) (a := a) (by rw [ec]; exact hl91) hln]
    refine ⟨_, _, _, _, rfl, rfl, Or.inl ⟨rfl, rfl, by rw [← f3], rfl, ?_⟩, ⟨by omega, by omega⟩, Or.inl rfl, hLb⟩
    show _ = lt (ltc (ltr (sg n b (sks n b a))))
    rw [ltc_ltr hln, ec]
set_option maxRecDepth 100000 in
set_option maxHeartbeats 4000000 in
theorem m_adg2 (d : Nat) (z : Nat → Int) (zl : Nat → Int) (f : Nat → Int → Int) (fl : Nat → Int → Int) (tx : Nat)  (th : Int) (dp : Int) (n : Int) (bg : Int) (tb : Int → Int) (b : Int → Int) (lt : Int → Int) (s : Int) (hT : tOK n b) (hM : mOK n bg 640 tb b) (hs : 0 ≤ s ∧ s ≤ n) (P : Option Value → AmH → Prop) (hx0 : ∀ (r : Int) (a' : Int) (fa' : Int), ((isD n b (dg n b 4 s 0).1 = true ∧ fa' = (dg n b 4 s 0).1 ∧ r = 0) ∨ (isD n b (dg n b 4 s 0).1 = false ∧ fa' = -1 ∧ r = (dg n b 4 s 0).2)) → (a' = (dg n b 4 s 0).1) → (0 ≤ a' ∧ a' ≤ n) → P (some (.int (iz r))) (cmH (u1 (u1 (u1 (u1 (u1 z 8 bg) 9 n) 10 a') 11 fa') 12 dp) zl (uf (uf f 2 tb) 4 lt) fl 2)) : ∀ (kF : Nat) (v : Int) (i : Int) (a : Int), (0 ≤ i ∧ i ≤ 4) → (s ≤ a ∧ a ≤ n) → (0 ≤ v ∧ (i = 0 → v = 0) ∧ (i = 1 → v ≤ 9) ∧ (i = 2 → v ≤ 99) ∧ (i = 3 → v ≤ 999) ∧ (i = 4 → v ≤ 9999)) → (dg n b 4 s 0 = dg n b (4 - i).toNat a v) → (5 - i) < (kF : Int) → Rx (d + 1) m_X12_atom 90 [some (.ref 0), some (.int (iz th)), some (.int (iz v)), some (.int (iz i))] [] (cmH (u1 (u1 (u1 (u1 (u1 z 8 bg) 9 n) 10 a) 11 (-1)) 12 dp) zl (uf (uf f 2 tb) 4 lt) fl 2) P := by
  obtain ⟨hT1, hT2, hT3⟩ := id hT
  have hbg := hM.1
  have hbz := hM.2.1
  intro kF
  induction kF with
  | zero =>
    intro v i a i0 ha hv hd hk
    exfalso; omega
  | succ kF ih =>
    intro v i a i0 ha hv hd hk
    refine Rx.walk 1 (pc' := 91) (L' := [some (.ref 0), some (.int (iz th)), some (.int (iz v)), some (.int (iz i))]) (st' := [.ref 0]) (h' := cmH (u1 (u1 (u1 (u1 (u1 z 8 bg) 9 n) 10 a) 11 (-1)) 12 dp) zl (uf (uf f 2 tb) 4 lt) fl 2) rfl ?_
    refine Rx.callx (m' := m_X12_isDigit) (as := [.ref 0]) (rest := []) rfl (m_isDig2 _ (u1 (u1 (u1 (u1 (u1 z 8 bg) 9 n) 10 a) 11 (-1)) 12 dp) zl (uf (uf f 2 tb) 4 lt) fl 2  n a bg (-1) tb b hT hM ⟨by omega, by omega⟩) (fun v3 h4 q5 => ?_)
    obtain ⟨r_1, rfl, rfl, f2⟩ := q5
    refine Rx.walk 0 (pc' := 94) (L' := [some (.ref 0), some (.int (iz th)), some (.int (iz v)), some (.int (iz i))]) (st' := [.int (iz r_1)]) (h' := cmH (u1 (u1 (u1 (u1 (u1 z 8 bg) 9 n) 10 a) 11 (-1)) 12 dp) zl (uf (uf f 2 tb) 4 lt) fl 2) rfl ?_
    refine Rx.eq1 rfl rfl ⟨by omega, by omega⟩ (fun b6 => ?_) (fun b6 => ?_)
    · refine Rx.walk 1 (pc' := 157) (L' := [some (.ref 0), some (.int (iz th)), some (.int (iz v)), some (.int (iz i))]) (st' := [.int (iz v)]) (h' := cmH (u1 (u1 (u1 (u1 (u1 z 8 bg) 9 n) 10 a) 11 (-1)) 12 dp) zl (uf (uf f 2 tb) 4 lt) fl 2) rfl ?_
      refine Rx.ret rfl ?_
      exact hx0 _ _ _ (Or.inr ⟨by rw [hd, dg_f (show isD n b a = false by rcases f2 with z | z; (exfalso; omega); exact z.2)]; exact (show isD n b a = false by rcases f2 with z | z; (exfalso; omega); exact z.2), rfl, by rw [hd, dg_f (show isD n b a = false by rcases f2 with z | z; (exfalso; omega); exact z.2)]⟩) (by rw [hd, dg_f (show isD n b a = false by rcases f2 with z | z; (exfalso; omega); exact z.2)]) ⟨by omega, by omega⟩
    · refine Rx.walk 3 (pc' := 102) (L' := [some (.ref 0), some (.int (iz th)), some (.int (iz v)), some (.int (iz i))]) (st' := [.int (iz (-1)), .int (iz (-1))]) (h' := cmH (u1 (u1 (u1 (u1 (u1 z 8 bg) 9 n) 10 a) 11 (-1)) 12 dp) zl (uf (uf f 2 tb) 4 lt) fl 2) rfl ?_
      refine Rx.ne2 rfl rfl ⟨by omega, by omega⟩ ⟨by omega, by omega⟩ (fun b7 => by omega) (fun b7 => ?_)
      refine Rx.walk 2 (pc' := 107) (L' := [some (.ref 0), some (.int (iz th)), some (.int (iz v)), some (.int (iz i))]) (st' := [.int (iz 4), .int (iz i)]) (h' := cmH (u1 (u1 (u1 (u1 (u1 z 8 bg) 9 n) 10 a) 11 (-1)) 12 dp) zl (uf (uf f 2 tb) 4 lt) fl 2) rfl ?_
      refine Rx.ne2 rfl rfl ⟨by omega, by omega⟩ ⟨by omega, by omega⟩ (fun b8 => ?_) (fun b8 => ?_)
      · have hisd := isD_t.mp (show isD n b a = true by rcases f2 with z | z; exact z.2; (exfalso; omega))
        refine Rx.walk 2 (pc' := 120) (L' := [some (.ref 0), some (.int (iz th)), some (.int (iz v)), some (.int (iz i))]) (st' := [.int (iz v), .int (iz 10)]) (h' := cmH (u1 (u1 (u1 (u1 (u1 z 8 bg) 9 n) 10 a) 11 (-1)) 12 dp) zl (uf (uf f 2 tb) 4 lt) fl 2) rfl ?_
        refine Rx.imul rfl ?_
        refine Rx.walk 6 (pc' := 133) (L' := [some (.ref 0), some (.int (iz th)), some (.int (iz v)), some (.int (iz i))]) (st' := [.int (iz a), .int (iz bg), .ref 2, .int (iz (10 * v))]) (h' := cmH (u1 (u1 (u1 (u1 (u1 z 8 bg) 9 n) 10 a) 11 (-1)) 12 dp) zl (uf (uf f 2 tb) 4 lt) fl 2) rfl ?_
        refine Rx.iadd rfl ?_
        refine Rx.bal (g := tb) rfl rfl (by omega) (by omega) (by omega) ?_
        have hbb := mOK_at hM hT (a := a) (by omega) (by omega)
        have hbe : (tb (bg + a)) = b a := by omega
        refine Rx.iadd rfl ?_
        refine Rx.walk 1 (pc' := 138) (L' := [some (.ref 0), some (.int (iz th)), some (.int (iz v)), some (.int (iz i))]) (st' := [.int (iz 48), .int (iz ((10 * v) + (tb (bg + a))))]) (h' := cmH (u1 (u1 (u1 (u1 (u1 z 8 bg) 9 n) 10 a) 11 (-1)) 12 dp) zl (uf (uf f 2 tb) 4 lt) fl 2) rfl ?_
        refine Rx.isub rfl ?_
        refine Rx.walk 5 (pc' := 146) (L' := [some (.ref 0), some (.int (iz th)), some (.int (iz (((10 * v) + (tb (bg + a))) - 48))), some (.int (iz i))]) (st' := [.int (iz 1), .int (iz a), .ref 0]) (h' := cmH (u1 (u1 (u1 (u1 (u1 z 8 bg) 9 n) 10 a) 11 (-1)) 12 dp) zl (uf (uf f 2 tb) 4 lt) fl 2) rfl ?_
        refine Rx.iadd rfl ?_
        refine Rx.walk 1 (pc' := 150) (L' := [some (.ref 0), some (.int (iz th)), some (.int (iz (((10 * v) + (tb (bg + a))) - 48))), some (.int (iz i))]) (st' := []) (h' := cmH (u1 (u1 (u1 (u1 (u1 z 8 bg) 9 n) 10 (a + 1)) 11 (-1)) 12 dp) zl (uf (uf f 2 tb) 4 lt) fl 2) rfl ?_
        refine Rx.iinc (b := 1) rfl rfl rfl ?_
        refine Rx.walk 0 (pc' := 153) (L' := [some (.ref 0), some (.int (iz th)), some (.int (iz (((10 * v) + (tb (bg + a))) - 48))), some (.int (iz (i + 1)))]) (st' := []) (h' := cmH (u1 (u1 (u1 (u1 (u1 z 8 bg) 9 n) 10 (a + 1)) 11 (-1)) 12 dp) zl (uf (uf f 2 tb) 4 lt) fl 2) rfl ?_
        refine Rx.walk 1 (pc' := 90) (L' := [some (.ref 0), some (.int (iz th)), some (.int (iz (((10 * v) + (tb (bg + a))) - 48))), some (.int (iz (i + 1)))]) (st' := []) (h' := cmH (u1 (u1 (u1 (u1 (u1 z 8 bg) 9 n) 10 (a + 1)) 11 (-1)) 12 dp) zl (uf (uf f 2 tb) 4 lt) fl 2) rfl ?_
        exact ih (((10 * v) + (tb (bg + a))) - 48) (i + 1) (a + 1) ⟨by omega, by omega⟩ ⟨by omega, by omega⟩ ⟨by omega, by omega, by omega, by omega, by omega, by omega⟩ (by rw [hd, show (4 - i).toNat = (4 - (i + 1)).toNat + 1 by omega, dg_t (isD_t.mpr hisd), hbe]) (by first | assumption | omega) 
      · refine Rx.walk 1 (pc' := 111) (L' := [some (.ref 0), some (.int (iz th)), some (.int (iz v)), some (.int (iz i))]) (st' := [.ref 0]) (h' := cmH (u1 (u1 (u1 (u1 (u1 z 8 bg) 9 n) 10 a) 11 (-1)) 12 dp) zl (uf (uf f 2 tb) 4 lt) fl 2) rfl ?_
        refine Rx.callx (m' := m_X12_fails) (as := [.ref 0]) (rest := []) rfl (m_fails _ (u1 (u1 (u1 (u1 (u1 z 8 bg) 9 n) 10 a) 11 (-1)) 12 dp) zl (uf (uf f 2 tb) 4 lt) fl 2  a (-1) (Or.inl rfl)) (fun v11 h12 q13 => ?_)
        obtain ⟨fa_9, rfl, rfl, f10⟩ := q13
        refine Rx.walk 0 (pc' := 114) (L' := [some (.ref 0), some (.int (iz th)), some (.int (iz v)), some (.int (iz i))]) (st' := [.int (iz 0)]) (h' := cmH (u1 (u1 (u1 (u1 (u1 z 8 bg) 9 n) 10 a) 11 fa_9) 12 dp) zl (uf (uf f 2 tb) 4 lt) fl 2) rfl ?_
        refine Rx.walk 2 (pc' := 116) (L' := [some (.ref 0), some (.int (iz th)), some (.int (iz v)), some (.int (iz i))]) (st' := [.int (iz 0)]) (h' := cmH (u1 (u1 (u1 (u1 (u1 z 8 bg) 9 n) 10 a) 11 fa_9) 12 dp) zl (uf (uf f 2 tb) 4 lt) fl 2) rfl ?_
        refine Rx.ret rfl ?_
        exact hx0 _ _ _ (Or.inl ⟨by rw [hd, show (4 - i).toNat = 0 by omega]; show isD n b a = true; rcases f2 with z | z; exact z.2; (exfalso; omega), by rw [hd, show (4 - i).toNat = 0 by omega]; show _ = a; rcases f10 with z | z; exact z.2; (exfalso; omega), rfl⟩) (by rw [hd, show (4 - i).toNat = 0 by omega]; rfl) ⟨by omega, by omega⟩
set_option maxRecDepth 100000 in
set_option maxHeartbeats 4000000 in
theorem m_rAtom0_2 (d : Nat) (z : Nat → Int) (zl : Nat → Int) (f : Nat → Int → Int) (fl : Nat → Int → Int) (tx : Nat)  (dp : Int) (n : Int) (a : Int) (bg : Int) (tb : Int → Int) (b : Int → Int) (lt : Int → Int) (hT : tOK n b) (hM : mOK n bg 640 tb b) (ha : 0 ≤ a ∧ a ≤ n) (hL : ∀ k : Int, 0 ≤ k → k < 128 → -1000000 ≤ lt k ∧ lt k ≤ 1000000) (hdp : dp = 6) : Rx (d + 3) m_X12_atom 0 (am_ent [.ref 0] 4) [] (cmH (u1 (u1 (u1 (u1 (u1 z 8 bg) 9 n) 10 a) 11 (-1)) 12 dp) zl (uf (uf f 2 tb) 4 lt) fl 2) (fun rv h => ∃ r : Int, ∃ a' : Int, ∃ fa' : Int, ∃ dp' : Int, rv = some (.int (iz r)) ∧ h = cmH (u1 (u1 (u1 (u1 (u1 z 8 bg) 9 n) 10 a') 11 fa') 12 dp') zl (uf (uf f 2 tb) 4 lt) fl 2 ∧ mdR (atomR n b 0 a) (ltL lt) dp r a' fa' dp' ∧ ((a ≤ a' ∧ a' ≤ n) ∧ (fa' = -1 ∨ (0 ≤ fa' ∧ fa' ≤ 160)) ∧ (-1000000 ≤ r ∧ r ≤ 1000000))) := by
  obtain ⟨hT1, hT2, hT3⟩ := id hT
  have hbg := hM.1
  have hbz := hM.2.1
  refine Rx.walk 0 (pc' := 0) (L' := [some (.ref 0), none, none, none]) (st' := []) (h' := cmH (u1 (u1 (u1 (u1 (u1 z 8 bg) 9 n) 10 a) 11 (-1)) 12 dp) zl (uf (uf f 2 tb) 4 lt) fl 2) rfl ?_
  refine Rx.walk 1 (pc' := 1) (L' := [some (.ref 0), none, none, none]) (st' := [.ref 0]) (h' := cmH (u1 (u1 (u1 (u1 (u1 z 8 bg) 9 n) 10 a) 11 (-1)) 12 dp) zl (uf (uf f 2 tb) 4 lt) fl 2) rfl ?_
  refine Rx.callx (m' := m_X12_look) (as := [.ref 0]) (rest := []) rfl (m_look2 _ (u1 (u1 (u1 (u1 (u1 z 8 bg) 9 n) 10 a) 11 (-1)) 12 dp) zl (uf (uf f 2 tb) 4 lt) fl 2  n a bg (-1) tb b hT hM ha) (fun v7 h8 q9 => ?_)
  obtain ⟨r_1, a_2, rfl, rfl, f3, f4, f5, f6⟩ := q9
  refine Rx.walk 0 (pc' := 4) (L' := [some (.ref 0), none, none, none]) (st' := [.int (iz r_1)]) (h' := cmH (u1 (u1 (u1 (u1 (u1 z 8 bg) 9 n) 10 a_2) 11 (-1)) 12 dp) zl (uf (uf f 2 tb) 4 lt) fl 2) rfl ?_
  refine Rx.walk 3 (pc' := 8) (L' := [some (.ref 0), some (.int (iz r_1)), none, none]) (st' := [.int (iz r_1), .retAddr 1]) (h' := cmH (u1 (u1 (u1 (u1 (u1 z 8 bg) 9 n) 10 a_2) 11 (-1)) 12 dp) zl (uf (uf f 2 tb) 4 lt) fl 2) rfl ?_
  obtain ⟨am9_, ham9_⟩ : ∃ q, q = (if ltr r_1 = -1 then (0 : Int) else 1) := ⟨_, rfl⟩
  refine Rx.amg (j := 1) (t := r_1) (r := am9_) rfl (by rw [ham9_]; exact amg1 (by omega) (by omega)) ?_
  refine Rx.walk 0 (pc' := 11) (L' := [some (.ref 0), some (.int (iz r_1)), none, none]) (st' := [.int (iz am9_)]) (h' := cmH (u1 (u1 (u1 (u1 (u1 z 8 bg) 9 n) 10 a_2) 11 (-1)) 12 dp) zl (uf (uf f 2 tb) 4 lt) fl 2) rfl ?_
  have hamb : (am9_ = 0 ∧ ltr r_1 = -1) ∨ (am9_ = 1 ∧ ltr r_1 ≠ -1) := by rw [ham9_]; split; (exact Or.inl ⟨rfl, by assumption⟩); (exact Or.inr ⟨rfl, by assumption⟩)
  refine Rx.eq1 rfl rfl ⟨by omega, by omega⟩ (fun b10 => ?_) (fun b10 => ?_)
  · have hlt0 : ltr r_1 = -1 := by rcases hamb with z | z; exact z.2; (exfalso; omega)
    refine Rx.walk 2 (pc' := 34) (L' := [some (.ref 0), some (.int (iz r_1)), none, none]) (st' := [.int (iz 91), .int (iz r_1)]) (h' := cmH (u1 (u1 (u1 (u1 (u1 z 8 bg) 9 n) 10 a_2) 11 (-1)) 12 dp) zl (uf (uf f 2 tb) 4 lt) fl 2) rfl ?_
    refine Rx.ne2 rfl rfl ⟨by omega, by omega⟩ ⟨by omega, by omega⟩ (fun b11 => ?_) (fun b11 => ?_)
    · refine Rx.walk 1 (pc' := 75) (L' := [some (.ref 0), some (.int (iz r_1)), none, none]) (st' := [.ref 0]) (h' := cmH (u1 (u1 (u1 (u1 (u1 z 8 bg) 9 n) 10 a_2) 11 (-1)) 12 dp) zl (uf (uf f 2 tb) 4 lt) fl 2) rfl ?_
      refine Rx.callx (m' := m_X12_isDigit) (as := [.ref 0]) (rest := []) rfl (m_isDig2 _ (u1 (u1 (u1 (u1 (u1 z 8 bg) 9 n) 10 a_2) 11 (-1)) 12 dp) zl (uf (uf f 2 tb) 4 lt) fl 2  n a_2 bg (-1) tb b hT hM ⟨by omega, by omega⟩) (fun v14 h15 q16 => ?_)
      obtain ⟨r_12, rfl, rfl, f13⟩ := q16
      refine Rx.walk 0 (pc' := 78) (L' := [some (.ref 0), some (.int (iz r_1)), none, none]) (st' := [.int (iz r_12)]) (h' := cmH (u1 (u1 (u1 (u1 (u1 z 8 bg) 9 n) 10 a_2) 11 (-1)) 12 dp) zl (uf (uf f 2 tb) 4 lt) fl 2) rfl ?_
      refine Rx.ne1 rfl rfl ⟨by omega, by omega⟩ (fun b17 => ?_) (fun b17 => ?_)
      · refine Rx.walk 4 (pc' := 90) (L' := [some (.ref 0), some (.int (iz r_1)), some (.int (iz 0)), some (.int (iz 0))]) (st' := []) (h' := cmH (u1 (u1 (u1 (u1 (u1 z 8 bg) 9 n) 10 a_2) 11 (-1)) 12 dp) zl (uf (uf f 2 tb) 4 lt) fl 2) rfl ?_
        refine m_adg2 _ (u1 (u1 (u1 (u1 (u1 z 8 bg) 9 n) 10 a_2) 11 (-1)) 12 dp) zl (uf (uf f 2 tb) 4 lt) fl 2  r_1 dp n bg tb b lt a_2 hT hM ⟨by omega, by omega⟩ _ ?_ ((5 - 0) + 1 : Int).toNat 0 0 a_2 ⟨by omega, by omega⟩ ⟨by omega, by omega⟩ ⟨by omega, by omega, by omega, by omega, by omega, by omega⟩ rfl (by omega) 
        intro r_18 a_19 fa_20 f21 f22 f23
        show (fun (rv : Option Value) (h : AmH) => ∃ r : Int, ∃ a' : Int, ∃ fa' : Int, ∃ dp' : Int, rv = some (.int (iz r)) ∧ h = cmH (u1 (u1 (u1 (u1 (u1 z 8 bg) 9 n) 10 a') 11 fa') 12 dp') zl (uf (uf f 2 tb) 4 lt) fl 2 ∧ mdR (atomR n b 0 a) (ltL lt) dp r a' fa' dp' ∧ ((a ≤ a' ∧ a' ≤ n) ∧ (fa' = -1 ∨ (0 ≤ fa' ∧ fa' ≤ 160)) ∧ (-1000000 ≤ r ∧ r ≤ 1000000))) (some (Value.int (iz r_18))) (cmH (u1 (u1 (u1 (u1 (u1 z 8 bg) 9 n) 10 a_19) 11 fa_20) 12 dp) zl (uf (uf f 2 tb) 4 lt) fl 2)
        have ec : sg n b (sks n b a) = r_1 := by rw [← f3]; exact f4.symm
        have hln : ltr (sg n b (sks n b a)) = -1 := by rw [ec]; exact hlt0
        have hd : isD n b (sks n b a) = true := by rw [← f3]; rcases f13 with z | z; exact z.2; (exfalso; omega)
        have hl0 := f21
        have hl1 := f22
        rw [f3] at hl0 hl1
        have hdb := dg_4 (n := n) (b := b) (p := sks n b a) (v := 0) (by omega)
        have hdp2 := dg_props (n := n) (b := b) 4 (sks n b a) 0 (by omega) (by omega)
        rcases hl0 with ⟨z1, z2, z3⟩ | ⟨z1, z2, z3⟩
        · rw [show atomR n b 0 a = atomG n b none a from rfl, atomG_e (n := n) (b := b) (a := a) (by omega) hln hd z1]
          exact ⟨_, _, _, _, rfl, rfl, Or.inr ⟨rfl, z2⟩, ⟨by omega, by omega⟩, Or.inr ⟨by omega, by omega⟩, by omega, by omega⟩
        · rw [show atomR n b 0 a = atomG n b none a from rfl, atomG_d (n := n) (b := b) (a := a) (by omega) hln hd z1]
          exact ⟨_, _, _, _, rfl, rfl, Or.inl ⟨rfl, z2, hl1, rfl, z3⟩, ⟨by omega, by omega⟩, Or.inl z2, by omega, by omega⟩
      · refine Rx.walk 1 (pc' := 82) (L' := [some (.ref 0), some (.int (iz r_1)), none, none]) (st' := [.ref 0]) (h' := cmH (u1 (u1 (u1 (u1 (u1 z 8 bg) 9 n) 10 a_2) 11 (-1)) 12 dp) zl (uf (uf f 2 tb) 4 lt) fl 2) rfl ?_
        refine Rx.callx (m' := m_X12_fails) (as := [.ref 0]) (rest := []) rfl (m_fails _ (u1 (u1 (u1 (u1 (u1 z 8 bg) 9 n) 10 a_2) 11 (-1)) 12 dp) zl (uf (uf f 2 tb) 4 lt) fl 2  a_2 (-1) (Or.inl rfl)) (fun v26 h27 q28 => ?_)
        obtain ⟨fa_24, rfl, rfl, f25⟩ := q28
        refine Rx.walk 0 (pc' := 85) (L' := [some (.ref 0), some (.int (iz r_1)), none, none]) (st' := [.int (iz 0)]) (h' := cmH (u1 (u1 (u1 (u1 (u1 z 8 bg) 9 n) 10 a_2) 11 fa_24) 12 dp) zl (uf (uf f 2 tb) 4 lt) fl 2) rfl ?_
        refine Rx.walk 6 (pc' := 91) (L' := [some (.ref 0), some (.int (iz r_1)), some (.int (iz 0)), some (.int (iz 0))]) (st' := [.ref 0]) (h' := cmH (u1 (u1 (u1 (u1 (u1 z 8 bg) 9 n) 10 a_2) 11 fa_24) 12 dp) zl (uf (uf f 2 tb) 4 lt) fl 2) rfl ?_
        refine Rx.callx (m' := m_X12_isDigit) (as := [.ref 0]) (rest := []) rfl (m_isDig2 _ (u1 (u1 (u1 (u1 (u1 z 8 bg) 9 n) 10 a_2) 11 fa_24) 12 dp) zl (uf (uf f 2 tb) 4 lt) fl 2  n a_2 bg fa_24 tb b hT hM ⟨by omega, by omega⟩) (fun v31 h32 q33 => ?_)
        obtain ⟨r_29, rfl, rfl, f30⟩ := q33
        refine Rx.walk 0 (pc' := 94) (L' := [some (.ref 0), some (.int (iz r_1)), some (.int (iz 0)), some (.int (iz 0))]) (st' := [.int (iz r_29)]) (h' := cmH (u1 (u1 (u1 (u1 (u1 z 8 bg) 9 n) 10 a_2) 11 fa_24) 12 dp) zl (uf (uf f 2 tb) 4 lt) fl 2) rfl ?_
        have hd2 : r_29 = 0 := by rcases f30 with z | z; (rcases f13 with y | y; (exfalso; omega); exact absurd (z.2.symm.trans y.2) (by decide)); exact z.1
        refine Rx.eq1 rfl rfl ⟨by omega, by omega⟩ (fun b34 => ?_) (fun b34 => by omega)
        refine Rx.walk 1 (pc' := 157) (L' := [some (.ref 0), some (.int (iz r_1)), some (.int (iz 0)), some (.int (iz 0))]) (st' := [.int (iz 0)]) (h' := cmH (u1 (u1 (u1 (u1 (u1 z 8 bg) 9 n) 10 a_2) 11 fa_24) 12 dp) zl (uf (uf f 2 tb) 4 lt) fl 2) rfl ?_
        refine Rx.ret rfl ?_
        have ec : sg n b (sks n b a) = r_1 := by rw [← f3]; exact f4.symm
        have hln : ltr (sg n b (sks n b a)) = -1 := by rw [ec]; exact hlt0
        rw [show atomR n b 0 a = atomG n b none a from rfl, atomG_z (n := n) (b := b) (a := a) (by omega) hln (by rw [← f3]; rcases f13 with z | z; (exfalso; omega); exact z.2)]
        exact ⟨_, _, _, _, rfl, rfl, Or.inr ⟨rfl, by rcases f25 with z | z; (rw [z.2]; exact f3); (exfalso; omega)⟩, ⟨by omega, by omega⟩, by rcases f25 with z | z <;> omega, by omega, by omega⟩
    · have hlt : a_2 < n := by rcases Int.lt_or_le a_2 n with q | q; exact q; (exfalso; rw [sg_ge q] at f4; omega)
      refine Rx.walk 1 (pc' := 38) (L' := [some (.ref 0), some (.int (iz r_1)), none, none]) (st' := [.ref 0]) (h' := cmH (u1 (u1 (u1 (u1 (u1 z 8 bg) 9 n) 10 a_2) 11 (-1)) 12 dp) zl (uf (uf f 2 tb) 4 lt) fl 2) rfl ?_
      refine Rx.callx (m' := m_X12_goesIn) (as := [.ref 0]) (rest := []) rfl (m_goesIn _ (u1 (u1 (u1 (u1 (u1 z 8 bg) 9 n) 10 a_2) 11 (-1)) 12 dp) zl (uf (uf f 2 tb) 4 lt) fl 2  a_2 dp ⟨by omega, by omega⟩ ⟨by omega, by omega⟩) (fun v40 h41 q42 => ?_)
      obtain ⟨r_35, a_36, fa_37, dp_38, rfl, rfl, f39⟩ := q42
      refine Rx.walk 0 (pc' := 41) (L' := [some (.ref 0), some (.int (iz r_1)), none, none]) (st' := [.int (iz r_35)]) (h' := cmH (u1 (u1 (u1 (u1 (u1 z 8 bg) 9 n) 10 a_36) 11 fa_37) 12 dp_38) zl (uf (uf f 2 tb) 4 lt) fl 2) rfl ?_
      refine Rx.ne1 rfl rfl ⟨by omega, by omega⟩ (fun b43 => by omega) (fun b43 => ?_)
      refine Rx.walk 1 (pc' := 45) (L' := [some (.ref 0), some (.int (iz r_1)), none, none]) (st' := [.int (iz 0)]) (h' := cmH (u1 (u1 (u1 (u1 (u1 z 8 bg) 9 n) 10 a_36) 11 fa_37) 12 dp_38) zl (uf (uf f 2 tb) 4 lt) fl 2) rfl ?_
      refine Rx.ret rfl ?_
      have ec : sg n b (sks n b a) = r_1 := by rw [← f3]; exact f4.symm
      have hln : ltr (sg n b (sks n b a)) = -1 := by rw [ec]; exact hlt0
      rw [show atomR n b 0 a = atomG n b none a from rfl, atomG_n (n := n) (b := b) (a := a) (by omega)]
      refine ⟨_, _, _, _, rfl, rfl, Or.inr ⟨rfl, by rcases f39 with z | z; (rw [z.2.2.2.1]; exact f3); (exfalso; omega)⟩, ⟨by omega, by omega⟩, by omega, by omega, by omega⟩
  · have hlt0 : ltr r_1 ≠ -1 := by rcases hamb with z | z; (exfalso; omega); exact z.2
    have hl91 : r_1 ≠ 91 := fun q => by rw [q] at hlt0; exact hlt0 rfl
    have hltc := ltc_ltr hlt0
    have hlb := ltr_b r_1
    have hcr : 0 ≤ r_1 ∧ r_1 < 128 := by rw [← hltc]; unfold ltc; repeat (first | omega | split)
    have hlt : a_2 < n := by rcases Int.lt_or_le a_2 n with q | q; exact q; (exfalso; rw [sg_ge q] at f4; omega)
    have hLb := hL r_1 hcr.1 hcr.2
    refine Rx.walk 4 (pc' := 20) (L' := [some (.ref 0), some (.int (iz r_1)), none, none]) (st' := [.int (iz 1), .int (iz a_2), .ref 0]) (h' := cmH (u1 (u1 (u1 (u1 (u1 z 8 bg) 9 n) 10 a_2) 11 (-1)) 12 dp) zl (uf (uf f 2 tb) 4 lt) fl 2) rfl ?_
    refine Rx.iadd rfl ?_
    refine Rx.walk 4 (pc' := 29) (L' := [some (.ref 0), some (.int (iz r_1)), none, none]) (st' := [.int (iz r_1), .ref 4]) (h' := cmH (u1 (u1 (u1 (u1 (u1 z 8 bg) 9 n) 10 (a_2 + 1)) 11 (-1)) 12 dp) zl (uf (uf f 2 tb) 4 lt) fl 2) rfl ?_
    refine Rx.ial (g := lt) rfl rfl (by omega) (by omega) (by omega) ?_
    refine Rx.ret rfl ?_
    have ec : sg n b (sks n b a) = r_1 := by rw [← f3]; exact f4.symm
    have hln : ltr (sg n b (sks n b a)) ≠ -1 := by rw [ec]; exact hlt0
    rw [show atomR n b 0 a = atomG n b none a from rfl, atomG_l (n := n) (b := b) (a := a) (by rw [ec]; exact hl91) hln]
    refine ⟨_, _, _, _, rfl, rfl, Or.inl ⟨rfl, rfl, by rw [← f3], rfl, ?_⟩, ⟨by omega, by omega⟩, Or.inl rfl, hLb⟩
    show _ = lt (ltc (ltr (sg n b (sks n b a))))
    rw [ltc_ltr hln, ec]
set_option maxRecDepth 100000 in
set_option maxHeartbeats 4000000 in
theorem m_rAtom1_2 (d : Nat) (z : Nat → Int) (zl : Nat → Int) (f : Nat → Int → Int) (fl : Nat → Int → Int) (tx : Nat) (D rr : Nat) (hS : ∀ (d : Nat) (z : Nat → Int) (zl : Nat → Int) (f : Nat → Int → Int) (fl : Nat → Int → Int) (tx : Nat)  (dp : Int) (n : Int) (a : Int) (bg : Int) (tb : Int → Int) (b : Int → Int) (lt : Int → Int) (hT : tOK n b) (hM : mOK n bg 640 tb b) (ha : 0 ≤ a ∧ a ≤ n) (hL : ∀ k : Int, 0 ≤ k → k < 128 → -1000000 ≤ lt k ∧ lt k ≤ 1000000) (hdp : 0 ≤ dp ∧ dp = 6 - (rr : Int)), Rx (d + (D + 2)) m_X12_sum 0 (am_ent [.ref 0] 5) [] (cmH (u1 (u1 (u1 (u1 (u1 z 8 bg) 9 n) 10 a) 11 (-1)) 12 dp) zl (uf (uf f 2 tb) 4 lt) fl 2) (fun rv h => ∃ r : Int, ∃ a' : Int, ∃ fa' : Int, ∃ dp' : Int, rv = some (.int (iz r)) ∧ h = cmH (u1 (u1 (u1 (u1 (u1 z 8 bg) 9 n) 10 a') 11 fa') 12 dp') zl (uf (uf f 2 tb) 4 lt) fl 2 ∧ mdR (sumR n b rr a) (ltL lt) dp r a' fa' dp' ∧ ((a ≤ a' ∧ a' ≤ n) ∧ (fa' = -1 ∨ (0 ≤ fa' ∧ fa' ≤ 160)) ∧ (-1000000 ≤ r ∧ r ≤ 1000000)))) (dp : Int) (n : Int) (a : Int) (bg : Int) (tb : Int → Int) (b : Int → Int) (lt : Int → Int) (hT : tOK n b) (hM : mOK n bg 640 tb b) (ha : 0 ≤ a ∧ a ≤ n) (hL : ∀ k : Int, 0 ≤ k → k < 128 → -1000000 ≤ lt k ∧ lt k ≤ 1000000) (hdp : 0 ≤ dp ∧ dp = 5 - (rr : Int)) : Rx (d + (D + 3)) m_X12_atom 0 (am_ent [.ref 0] 4) [] (cmH (u1 (u1 (u1 (u1 (u1 z 8 bg) 9 n) 10 a) 11 (-1)) 12 dp) zl (uf (uf f 2 tb) 4 lt) fl 2) (fun rv h => ∃ r : Int, ∃ a' : Int, ∃ fa' : Int, ∃ dp' : Int, rv = some (.int (iz r)) ∧ h = cmH (u1 (u1 (u1 (u1 (u1 z 8 bg) 9 n) 10 a') 11 fa') 12 dp') zl (uf (uf f 2 tb) 4 lt) fl 2 ∧ mdR (atomR n b (rr + 1) a) (ltL lt) dp r a' fa' dp' ∧ ((a ≤ a' ∧ a' ≤ n) ∧ (fa' = -1 ∨ (0 ≤ fa' ∧ fa' ≤ 160)) ∧ (-1000000 ≤ r ∧ r ≤ 1000000))) := by
  obtain ⟨hT1, hT2, hT3⟩ := id hT
  have hbg := hM.1
  have hbz := hM.2.1
  have hrr : 0 ≤ (rr : Int) := by omega
  refine Rx.walk 0 (pc' := 0) (L' := [some (.ref 0), none, none, none]) (st' := []) (h' := cmH (u1 (u1 (u1 (u1 (u1 z 8 bg) 9 n) 10 a) 11 (-1)) 12 dp) zl (uf (uf f 2 tb) 4 lt) fl 2) rfl ?_
  refine Rx.walk 1 (pc' := 1) (L' := [some (.ref 0), none, none, none]) (st' := [.ref 0]) (h' := cmH (u1 (u1 (u1 (u1 (u1 z 8 bg) 9 n) 10 a) 11 (-1)) 12 dp) zl (uf (uf f 2 tb) 4 lt) fl 2) rfl ?_
  refine Rx.callx (m' := m_X12_look) (as := [.ref 0]) (rest := []) rfl (m_look2 _ (u1 (u1 (u1 (u1 (u1 z 8 bg) 9 n) 10 a) 11 (-1)) 12 dp) zl (uf (uf f 2 tb) 4 lt) fl 2  n a bg (-1) tb b hT hM ha) (fun v7 h8 q9 => ?_)
  obtain ⟨r_1, a_2, rfl, rfl, f3, f4, f5, f6⟩ := q9
  refine Rx.walk 0 (pc' := 4) (L' := [some (.ref 0), none, none, none]) (st' := [.int (iz r_1)]) (h' := cmH (u1 (u1 (u1 (u1 (u1 z 8 bg) 9 n) 10 a_2) 11 (-1)) 12 dp) zl (uf (uf f 2 tb) 4 lt) fl 2) rfl ?_
  refine Rx.walk 3 (pc' := 8) (L' := [some (.ref 0), some (.int (iz r_1)), none, none]) (st' := [.int (iz r_1), .retAddr 1]) (h' := cmH (u1 (u1 (u1 (u1 (u1 z 8 bg) 9 n) 10 a_2) 11 (-1)) 12 dp) zl (uf (uf f 2 tb) 4 lt) fl 2) rfl ?_
  obtain ⟨am9_, ham9_⟩ : ∃ q, q = (if ltr r_1 = -1 then (0 : Int) else 1) := ⟨_, rfl⟩
  refine Rx.amg (j := 1) (t := r_1) (r := am9_) rfl (by rw [ham9_]; exact amg1 (by omega) (by omega)) ?_
  refine Rx.walk 0 (pc' := 11) (L' := [some (.ref 0), some (.int (iz r_1)), none, none]) (st' := [.int (iz am9_)]) (h' := cmH (u1 (u1 (u1 (u1 (u1 z 8 bg) 9 n) 10 a_2) 11 (-1)) 12 dp) zl (uf (uf f 2 tb) 4 lt) fl 2) rfl ?_
  have hamb : (am9_ = 0 ∧ ltr r_1 = -1) ∨ (am9_ = 1 ∧ ltr r_1 ≠ -1) := by rw [ham9_]; split; (exact Or.inl ⟨rfl, by assumption⟩); (exact Or.inr ⟨rfl, by assumption⟩)
  refine Rx.eq1 rfl rfl ⟨by omega, by omega⟩ (fun b10 => ?_) (fun b10 => ?_)
  · have hlt0 : ltr r_1 = -1 := by rcases hamb with z | z; exact z.2; (exfalso; omega)
    refine Rx.walk 2 (pc' := 34) (L' := [some (.ref 0), some (.int (iz r_1)), none, none]) (st' := [.int (iz 91), .int (iz r_1)]) (h' := cmH (u1 (u1 (u1 (u1 (u1 z 8 bg) 9 n) 10 a_2) 11 (-1)) 12 dp) zl (uf (uf f 2 tb) 4 lt) fl 2) rfl ?_
    refine Rx.ne2 rfl rfl ⟨by omega, by omega⟩ ⟨by omega, by omega⟩ (fun b11 => ?_) (fun b11 => ?_)
    · refine Rx.walk 1 (pc' := 75) (L' := [some (.ref 0), some (.int (iz r_1)), none, none]) (st' := [.ref 0]) (h' := cmH (u1 (u1 (u1 (u1 (u1 z 8 bg) 9 n) 10 a_2) 11 (-1)) 12 dp) zl (uf (uf f 2 tb) 4 lt) fl 2) rfl ?_
      refine Rx.callx (m' := m_X12_isDigit) (as := [.ref 0]) (rest := []) rfl (m_isDig2 _ (u1 (u1 (u1 (u1 (u1 z 8 bg) 9 n) 10 a_2) 11 (-1)) 12 dp) zl (uf (uf f 2 tb) 4 lt) fl 2  n a_2 bg (-1) tb b hT hM ⟨by omega, by omega⟩) (fun v14 h15 q16 => ?_)
      obtain ⟨r_12, rfl, rfl, f13⟩ := q16
      refine Rx.walk 0 (pc' := 78) (L' := [some (.ref 0), some (.int (iz r_1)), none, none]) (st' := [.int (iz r_12)]) (h' := cmH (u1 (u1 (u1 (u1 (u1 z 8 bg) 9 n) 10 a_2) 11 (-1)) 12 dp) zl (uf (uf f 2 tb) 4 lt) fl 2) rfl ?_
      refine Rx.ne1 rfl rfl ⟨by omega, by omega⟩ (fun b17 => ?_) (fun b17 => ?_)
      · refine Rx.walk 4 (pc' := 90) (L' := [some (.ref 0), some (.int (iz r_1)), some (.int (iz 0)), some (.int (iz 0))]) (st' := []) (h' := cmH (u1 (u1 (u1 (u1 (u1 z 8 bg) 9 n) 10 a_2) 11 (-1)) 12 dp) zl (uf (uf f 2 tb) 4 lt) fl 2) rfl ?_
        refine m_adg2 _ (u1 (u1 (u1 (u1 (u1 z 8 bg) 9 n) 10 a_2) 11 (-1)) 12 dp) zl (uf (uf f 2 tb) 4 lt) fl 2  r_1 dp n bg tb b lt a_2 hT hM ⟨by omega, by omega⟩ _ ?_ ((5 - 0) + 1 : Int).toNat 0 0 a_2 ⟨by omega, by omega⟩ ⟨by omega, by omega⟩ ⟨by omega, by omega, by omega, by omega, by omega, by omega⟩ rfl (by omega) 
        intro r_18 a_19 fa_20 f21 f22 f23
        show (fun (rv : Option Value) (h : AmH) => ∃ r : Int, ∃ a' : Int, ∃ fa' : Int, ∃ dp' : Int, rv = some (.int (iz r)) ∧ h = cmH (u1 (u1 (u1 (u1 (u1 z 8 bg) 9 n) 10 a') 11 fa') 12 dp') zl (uf (uf f 2 tb) 4 lt) fl 2 ∧ mdR (atomR n b (rr + 1) a) (ltL lt) dp r a' fa' dp' ∧ ((a ≤ a' ∧ a' ≤ n) ∧ (fa' = -1 ∨ (0 ≤ fa' ∧ fa' ≤ 160)) ∧ (-1000000 ≤ r ∧ r ≤ 1000000))) (some (Value.int (iz r_18))) (cmH (u1 (u1 (u1 (u1 (u1 z 8 bg) 9 n) 10 a_19) 11 fa_20) 12 dp) zl (uf (uf f 2 tb) 4 lt) fl 2)
        have ec : sg n b (sks n b a) = r_1 := by rw [← f3]; exact f4.symm
        have hln : ltr (sg n b (sks n b a)) = -1 := by rw [ec]; exact hlt0
        have hd : isD n b (sks n b a) = true := by rw [← f3]; rcases f13 with z | z; exact z.2; (exfalso; omega)
        have hl0 := f21
        have hl1 := f22
        rw [f3] at hl0 hl1
        have hdb := dg_4 (n := n) (b := b) (p := sks n b a) (v := 0) (by omega)
        have hdp2 := dg_props (n := n) (b := b) 4 (sks n b a) 0 (by omega) (by omega)
        rcases hl0 with ⟨z1, z2, z3⟩ | ⟨z1, z2, z3⟩
        · rw [show atomR n b (rr + 1) a = atomG n b (some (sumR n b rr)) a from rfl, atomG_e (n := n) (b := b) (a := a) (by omega) hln hd z1]
          exact ⟨_, _, _, _, rfl, rfl, Or.inr ⟨rfl, z2⟩, ⟨by omega, by omega⟩, Or.inr ⟨by omega, by omega⟩, by omega, by omega⟩
        · rw [show atomR n b (rr + 1) a = atomG n b (some (sumR n b rr)) a from rfl, atomG_d (n := n) (b := b) (a := a) (by omega) hln hd z1]
          exact ⟨_, _, _, _, rfl, rfl, Or.inl ⟨rfl, z2, hl1, rfl, z3⟩, ⟨by omega, by omega⟩, Or.inl z2, by omega, by omega⟩
      · refine Rx.walk 1 (pc' := 82) (L' := [some (.ref 0), some (.int (iz r_1)), none, none]) (st' := [.ref 0]) (h' := cmH (u1 (u1 (u1 (u1 (u1 z 8 bg) 9 n) 10 a_2) 11 (-1)) 12 dp) zl (uf (uf f 2 tb) 4 lt) fl 2) rfl ?_
        refine Rx.callx (m' := m_X12_fails) (as := [.ref 0]) (rest := []) rfl (m_fails _ (u1 (u1 (u1 (u1 (u1 z 8 bg) 9 n) 10 a_2) 11 (-1)) 12 dp) zl (uf (uf f 2 tb) 4 lt) fl 2  a_2 (-1) (Or.inl rfl)) (fun v26 h27 q28 => ?_)
        obtain ⟨fa_24, rfl, rfl, f25⟩ := q28
        refine Rx.walk 0 (pc' := 85) (L' := [some (.ref 0), some (.int (iz r_1)), none, none]) (st' := [.int (iz 0)]) (h' := cmH (u1 (u1 (u1 (u1 (u1 z 8 bg) 9 n) 10 a_2) 11 fa_24) 12 dp) zl (uf (uf f 2 tb) 4 lt) fl 2) rfl ?_
        refine Rx.walk 6 (pc' := 91) (L' := [some (.ref 0), some (.int (iz r_1)), some (.int (iz 0)), some (.int (iz 0))]) (st' := [.ref 0]) (h' := cmH (u1 (u1 (u1 (u1 (u1 z 8 bg) 9 n) 10 a_2) 11 fa_24) 12 dp) zl (uf (uf f 2 tb) 4 lt) fl 2) rfl ?_
        refine Rx.callx (m' := m_X12_isDigit) (as := [.ref 0]) (rest := []) rfl (m_isDig2 _ (u1 (u1 (u1 (u1 (u1 z 8 bg) 9 n) 10 a_2) 11 fa_24) 12 dp) zl (uf (uf f 2 tb) 4 lt) fl 2  n a_2 bg fa_24 tb b hT hM ⟨by omega, by omega⟩) (fun v31 h32 q33 => ?_)
        obtain ⟨r_29, rfl, rfl, f30⟩ := q33
        refine Rx.walk 0 (pc' := 94) (L' := [some (.ref 0), some (.int (iz r_1)), some (.int (iz 0)), some (.int (iz 0))]) (st' := [.int (iz r_29)]) (h' := cmH (u1 (u1 (u1 (u1 (u1 z 8 bg) 9 n) 10 a_2) 11 fa_24) 12 dp) zl (uf (uf f 2 tb) 4 lt) fl 2) rfl ?_
        have hd2 : r_29 = 0 := by rcases f30 with z | z; (rcases f13 with y | y; (exfalso; omega); exact absurd (z.2.symm.trans y.2) (by decide)); exact z.1
        refine Rx.eq1 rfl rfl ⟨by omega, by omega⟩ (fun b34 => ?_) (fun b34 => by omega)
        refine Rx.walk 1 (pc' := 157) (L' := [some (.ref 0), some (.int (iz r_1)), some (.int (iz 0)), some (.int (iz 0))]) (st' := [.int (iz 0)]) (h' := cmH (u1 (u1 (u1 (u1 (u1 z 8 bg) 9 n) 10 a_2) 11 fa_24) 12 dp) zl (uf (uf f 2 tb) 4 lt) fl 2) rfl ?_
        refine Rx.ret rfl ?_
        have ec : sg n b (sks n b a) = r_1 := by rw [← f3]; exact f4.symm
        have hln : ltr (sg n b (sks n b a)) = -1 := by rw [ec]; exact hlt0
        rw [show atomR n b (rr + 1) a = atomG n b (some (sumR n b rr)) a from rfl, atomG_z (n := n) (b := b) (a := a) (by omega) hln (by rw [← f3]; rcases f13 with z | z; (exfalso; omega); exact z.2)]
        exact ⟨_, _, _, _, rfl, rfl, Or.inr ⟨rfl, by rcases f25 with z | z; (rw [z.2]; exact f3); (exfalso; omega)⟩, ⟨by omega, by omega⟩, by rcases f25 with z | z <;> omega, by omega, by omega⟩
    · have hlt : a_2 < n := by rcases Int.lt_or_le a_2 n with q | q; exact q; (exfalso; rw [sg_ge q] at f4; omega)
      refine Rx.walk 1 (pc' := 38) (L' := [some (.ref 0), some (.int (iz r_1)), none, none]) (st' := [.ref 0]) (h' := cmH (u1 (u1 (u1 (u1 (u1 z 8 bg) 9 n) 10 a_2) 11 (-1)) 12 dp) zl (uf (uf f 2 tb) 4 lt) fl 2) rfl ?_
      refine Rx.callx (m' := m_X12_goesIn) (as := [.ref 0]) (rest := []) rfl (m_goesIn _ (u1 (u1 (u1 (u1 (u1 z 8 bg) 9 n) 10 a_2) 11 (-1)) 12 dp) zl (uf (uf f 2 tb) 4 lt) fl 2  a_2 dp ⟨by omega, by omega⟩ ⟨by omega, by omega⟩) (fun v40 h41 q42 => ?_)
      obtain ⟨r_35, a_36, fa_37, dp_38, rfl, rfl, f39⟩ := q42
      refine Rx.walk 0 (pc' := 41) (L' := [some (.ref 0), some (.int (iz r_1)), none, none]) (st' := [.int (iz r_35)]) (h' := cmH (u1 (u1 (u1 (u1 (u1 z 8 bg) 9 n) 10 a_36) 11 fa_37) 12 dp_38) zl (uf (uf f 2 tb) 4 lt) fl 2) rfl ?_
      refine Rx.ne1 rfl rfl ⟨by omega, by omega⟩ (fun b43 => ?_) (fun b43 => by omega)
      refine Rx.walk 1 (pc' := 47) (L' := [some (.ref 0), some (.int (iz r_1)), none, none]) (st' := [.ref 0]) (h' := cmH (u1 (u1 (u1 (u1 (u1 z 8 bg) 9 n) 10 a_36) 11 fa_37) 12 dp_38) zl (uf (uf f 2 tb) 4 lt) fl 2) rfl ?_
      obtain rfl : fa_37 = -1 := by rcases f39 with z | z <;> omega
      refine Rx.callx (m' := m_X12_sum) (as := [.ref 0]) (rest := []) rfl (hS _ (u1 (u1 (u1 (u1 (u1 z 8 bg) 9 n) 10 a_36) 11 (-1)) 12 dp_38) zl (uf (uf f 2 tb) 4 lt) fl 2  dp_38 n a_36 bg tb b lt hT hM ⟨by omega, by omega⟩ hL ⟨by omega, by omega⟩) (fun v50 h51 q52 => ?_)
      obtain ⟨r_44, a_45, fa_46, dp_47, rfl, rfl, f48, f49⟩ := q52
      refine Rx.walk 0 (pc' := 50) (L' := [some (.ref 0), some (.int (iz r_1)), none, none]) (st' := [.int (iz r_44)]) (h' := cmH (u1 (u1 (u1 (u1 (u1 z 8 bg) 9 n) 10 a_45) 11 fa_46) 12 dp_47) zl (uf (uf f 2 tb) 4 lt) fl 2) rfl ?_
      obtain ⟨hsa, hsf, hsb⟩ := id f49
      refine Rx.walk 3 (pc' := 54) (L' := [some (.ref 0), some (.int (iz r_1)), some (.int (iz r_44)), none]) (st' := [.int (iz 93), .ref 0]) (h' := cmH (u1 (u1 (u1 (u1 (u1 z 8 bg) 9 n) 10 a_45) 11 fa_46) 12 dp_47) zl (uf (uf f 2 tb) 4 lt) fl 2) rfl ?_
      refine Rx.callx (m' := m_X12_takes) (as := [.ref 0, .int (iz 93)]) (rest := []) rfl (m_takes2 _ (u1 (u1 (u1 (u1 (u1 z 8 bg) 9 n) 10 a_45) 11 fa_46) 12 dp_47) zl (uf (uf f 2 tb) 4 lt) fl 2  93 n a_45 bg fa_46 tb b hT hM ⟨by omega, by omega⟩ (by first | assumption | omega) hsf) (fun v59 h60 q61 => ?_)
      obtain ⟨r_53, a_54, fa_55, rfl, rfl, f56, f57, f58⟩ := q61
      refine Rx.walk 0 (pc' := 57) (L' := [some (.ref 0), some (.int (iz r_1)), some (.int (iz r_44)), none]) (st' := [.int (iz r_53)]) (h' := cmH (u1 (u1 (u1 (u1 (u1 z 8 bg) 9 n) 10 a_54) 11 fa_55) 12 dp_47) zl (uf (uf f 2 tb) 4 lt) fl 2) rfl ?_
      refine Rx.ne1 rfl rfl ⟨by omega, by omega⟩ (fun b62 => ?_) (fun b62 => ?_)
      · refine Rx.walk 4 (pc' := 68) (L' := [some (.ref 0), some (.int (iz r_1)), some (.int (iz r_44)), none]) (st' := [.int (iz 1), .int (iz dp_47), .ref 0]) (h' := cmH (u1 (u1 (u1 (u1 (u1 z 8 bg) 9 n) 10 a_54) 11 fa_55) 12 dp_47) zl (uf (uf f 2 tb) 4 lt) fl 2) rfl ?_
        refine Rx.isub rfl ?_
        refine Rx.walk 2 (pc' := 73) (L' := [some (.ref 0), some (.int (iz r_1)), some (.int (iz r_44)), none]) (st' := [.int (iz r_44)]) (h' := cmH (u1 (u1 (u1 (u1 (u1 z 8 bg) 9 n) 10 a_54) 11 fa_55) 12 (dp_47 - 1)) zl (uf (uf f 2 tb) 4 lt) fl 2) rfl ?_
        refine Rx.ret rfl ?_
        have ec : sg n b (sks n b a) = r_1 := by rw [← f3]; exact f4.symm
        have hln : ltr (sg n b (sks n b a)) = -1 := by rw [ec]; exact hlt0
        have hga : a_36 = sks n b a + 1 := by rcases f39 with z | z; (exfalso; omega); (rw [z.2.2.1, f3])
        have hq : mdR (sumR n b rr (sks n b a + 1)) (ltL lt) dp_38 r_44 a_45 fa_46 dp_47 := by have z := f48; rw [hga] at z; exact z
        rcases f56 with z | z | z
        · rcases hq with ⟨q1, q2, q3, q4, q5⟩ | ⟨q1, q2⟩
          · rw [show atomR n b (rr + 1) a = atomG n b (some (sumR n b rr)) a from rfl, atomG_o (n := n) (b := b) (a := a) (by omega) q1 (by rw [← q3]; exact z.2.2.2.1)]
            exact ⟨_, _, _, _, rfl, rfl, Or.inl ⟨rfl, z.2.2.1, by rw [z.2.2.2.2, q3], by rcases f39 with y | y <;> omega, q5⟩, ⟨by omega, by omega⟩, f58, hsb⟩
          · exfalso; have hp := (sumR_ok (n := n) (b := b) rr (sks n b a + 1) (by omega) (by omega)).1; omega
        · exfalso; omega
        · exfalso; omega
      · refine Rx.walk 1 (pc' := 61) (L' := [some (.ref 0), some (.int (iz r_1)), some (.int (iz r_44)), none]) (st' := [.int (iz 0)]) (h' := cmH (u1 (u1 (u1 (u1 (u1 z 8 bg) 9 n) 10 a_54) 11 fa_55) 12 dp_47) zl (uf (uf f 2 tb) 4 lt) fl 2) rfl ?_
        refine Rx.ret rfl ?_
        have ec : sg n b (sks n b a) = r_1 := by rw [← f3]; exact f4.symm
        have hln : ltr (sg n b (sks n b a)) = -1 := by rw [ec]; exact hlt0
        have hga : a_36 = sks n b a + 1 := by rcases f39 with z | z; (exfalso; omega); (rw [z.2.2.1, f3])
        have hq : mdR (sumR n b rr (sks n b a + 1)) (ltL lt) dp_38 r_44 a_45 fa_46 dp_47 := by have z := f48; rw [hga] at z; exact z
        rcases hq with ⟨q1, q2, q3, q4, q5⟩ | ⟨q1, q2⟩
        · rcases f56 with z | z | z
          · exfalso; omega
          · rw [show atomR n b (rr + 1) a = atomG n b (some (sumR n b rr)) a from rfl, atomG_c (n := n) (b := b) (a := a) (by omega) q1 (by rw [← q3]; exact z.2.2.1)]
            exact ⟨_, _, _, _, rfl, rfl, Or.inr ⟨rfl, by rw [z.2.2.2.2, q3]; rfl⟩, ⟨by omega, by omega⟩, f58, by omega, by omega⟩
          · exact absurd q2 z.1
        · rcases f56 with z | z | z
          · exfalso; omega
          · exfalso; have hp := (sumR_ok (n := n) (b := b) rr (sks n b a + 1) (by omega) (by omega)).1; omega
          · rw [show atomR n b (rr + 1) a = atomG n b (some (sumR n b rr)) a from rfl, atomG_f (n := n) (b := b) (a := a) (by omega) q1]
            exact ⟨_, _, _, _, rfl, rfl, Or.inr ⟨rfl, by rw [z.2.2.2]; exact q2⟩, ⟨by omega, by omega⟩, f58, by omega, by omega⟩
  · have hlt0 : ltr r_1 ≠ -1 := by rcases hamb with z | z; (exfalso; omega); exact z.2
    have hl91 : r_1 ≠ 91 := fun q => by rw [q] at hlt0; exact hlt0 rfl
    have hltc := ltc_ltr hlt0
    have hlb := ltr_b r_1
    have hcr : 0 ≤ r_1 ∧ r_1 < 128 := by rw [← hltc]; unfold ltc; repeat (first | omega | split)
    have hlt : a_2 < n := by rcases Int.lt_or_le a_2 n with q | q; exact q; (exfalso; rw [sg_ge q] at f4; omega)
    have hLb := hL r_1 hcr.1 hcr.2
    refine Rx.walk 4 (pc' := 20) (L' := [some (.ref 0), some (.int (iz r_1)), none, none]) (st' := [.int (iz 1), .int (iz a_2), .ref 0]) (h' := cmH (u1 (u1 (u1 (u1 (u1 z 8 bg) 9 n) 10 a_2) 11 (-1)) 12 dp) zl (uf (uf f 2 tb) 4 lt) fl 2) rfl ?_
    refine Rx.iadd rfl ?_
    refine Rx.walk 4 (pc' := 29) (L' := [some (.ref 0), some (.int (iz r_1)), none, none]) (st' := [.int (iz r_1), .ref 4]) (h' := cmH (u1 (u1 (u1 (u1 (u1 z 8 bg) 9 n) 10 (a_2 + 1)) 11 (-1)) 12 dp) zl (uf (uf f 2 tb) 4 lt) fl 2) rfl ?_
    refine Rx.ial (g := lt) rfl rfl (by omega) (by omega) (by omega) ?_
    refine Rx.ret rfl ?_
    have ec : sg n b (sks n b a) = r_1 := by rw [← f3]; exact f4.symm
    have hln : ltr (sg n b (sks n b a)) ≠ -1 := by rw [ec]; exact hlt0
    rw [show atomR n b (rr + 1) a = atomG n b (some (sumR n b rr)) a from rfl, atomG_l (n := n) (b := b) (a := a) (by rw [ec]; exact hl91) hln]
    refine ⟨_, _, _, _, rfl, rfl, Or.inl ⟨rfl, rfl, by rw [← f3], rfl, ?_⟩, ⟨by omega, by omega⟩, Or.inl rfl, hLb⟩
    show _ = lt (ltc (ltr (sg n b (sks n b a))))
    rw [ltc_ltr hln, ec]

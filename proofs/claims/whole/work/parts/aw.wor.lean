/-! rules: what a rule says of a pipe (class; printed by wip/whole/genwor.py) -/
theorem cW_tl {z : Nat → Nat → Int} {f : Nat → Int → Int} {C : Nat → CuR} {T : Nat → TsR} {rc : Nat → Nat} {tl : AmH} {p : Nat} {x : AmE} (h : 98 ≤ p) (hx : am_nth tl (p - 98) = some x) : am_nth (cxW z f C T rc tl) p = some x := by
  obtain ⟨q, rfl⟩ : ∃ q, p = q + 98 := ⟨p - 98, by omega⟩
  rw [Nat.add_sub_cancel] at hx
  exact hx
def crem (cd : Int → Int) : Int → Nat → List Int
  | _, 0 => []
  | i, k + 1 => cd i :: crem cd (i + 1) k
def stA (g : Int → Int) : Nat → List Int
  | 0 => []
  | k + 1 => g (k : Int) :: stA g k
theorem crem_s {cd : Int → Int} {i sz : Int} (h : i < sz) : crem cd i (sz - i).toNat = cd i :: crem cd (i + 1) (sz - (i + 1)).toNat := by
  rw [show (sz - i).toNat = (sz - (i + 1)).toNat + 1 by omega]; rfl
theorem crem_z {cd : Int → Int} {i sz : Int} (h : sz ≤ i) : crem cd i (sz - i).toNat = [] := by
  rw [show (sz - i).toNat = 0 by omega]; rfl
theorem stA_s {g : Int → Int} {t : Int} (h : 1 ≤ t) : stA g t.toNat = g (t - 1) :: stA g (t - 1).toNat := by
  obtain ⟨k, rfl⟩ : ∃ k : Nat, t = (k : Int) + 1 := ⟨(t - 1).toNat, by omega⟩
  rw [show ((k : Int) + 1).toNat = k + 1 by omega, show ((k : Int) + 1 - 1) = k by omega, Int.toNat_natCast]
  rfl
theorem stA_len (g : Int → Int) : ∀ k : Nat, (stA g k).length = k
  | 0 => rfl
  | k + 1 => congrArg (· + 1) (stA_len g k)
theorem stA_up {g : Int → Int} {t v : Int} : ∀ k : Nat, (k : Int) ≤ t → stA (iu g t v) k = stA g k
  | 0, _ => rfl
  | k + 1, h => by
    show iu g t v (k : Int) :: stA (iu g t v) k = g (k : Int) :: stA g k
    rw [stA_up k (by omega), show iu g t v (k : Int) = g (k : Int) by unfold iu; exact if_neg (by omega)]
theorem stA_push {g : Int → Int} {t v : Int} (h : 0 ≤ t) : stA (iu g t v) (t + 1).toNat = v :: stA g t.toNat := by
  rw [stA_s (show 1 ≤ t + 1 by omega), show t + 1 - 1 = t by omega, stA_up t.toNat (by omega), show iu g t v t = v by unfold iu; exact if_pos rfl]
theorem inB_iu {g : Int → Int} {t v : Int} (hv : inB v) (hg : ∀ j : Int, 0 ≤ j → j < t → inB (g j)) : ∀ j : Int, 0 ≤ j → j < t + 1 → inB (iu g t v j) := fun j h0 h1 => by
  unfold iu
  split
  · exact hv
  · exact hg j h0 (by omega)
theorem rnW_na {L : Int → Int} {cd : Int → Int} {sz r : Int} {st : List Int} (h2 : r ≤ sz) (h3 : r < sz → cd r = -12) : ∀ (k : Nat) (i : Int), r = i + k → (∀ j, i ≤ j → j < r → cd j ≠ -12) → rnW L (crem cd i (sz - i).toNat) true st = rnW L (crem cd (r + 1) (sz - (r + 1)).toNat) false st ∧ okW L (crem cd i (sz - i).toNat) true st = okW L (crem cd (r + 1) (sz - (r + 1)).toNat) false st
  | 0, i, e, h => by
    obtain rfl : r = i := by omega
    by_cases hr : r < sz
    · rw [crem_s hr, rnW_k, okW_k, show decide (cd r ≠ -12) = false from decide_eq_false (fun q => q (h3 hr))]
      exact ⟨rfl, rfl⟩
    · rw [crem_z (by omega), crem_z (by omega)]
      exact ⟨rfl, rfl⟩
  | k + 1, i, e, h => by
    rw [crem_s (show i < sz by omega), rnW_k, okW_k, show decide (cd i ≠ -12) = true from decide_eq_true (h i (by omega) (by omega))]
    exact rnW_na h2 h3 k (i + 1) (by omega) (fun j a c => h j (by omega) c)
theorem iz_and01 {x y : Int} (hx : x = 0 ∨ x = 1) (hy : y = 0 ∨ y = 1) : iz x &&& iz y = iz (rk (-8) x y) := by
  rcases hx with rfl | rfl <;> rcases hy with rfl | rfl <;> decide
theorem iz_or01 {x y : Int} (hx : x = 0 ∨ x = 1) (hy : y = 0 ∨ y = 1) : iz x ||| iz y = iz (rk (-9) x y) := by
  rcases hx with rfl | rfl <;> rcases hy with rfl | rfl <;> decide
set_option maxRecDepth 100000 in
set_option maxHeartbeats 4000000 in
theorem x_within (d : Nat) (h0 : AmH)  (x : Int) (hx : -9000000000000 ≤ x ∧ x ≤ 9000000000000) : Rx (d) m_X6_within 0 (am_ent [.long (jz x)] 2) [] (h0) (fun rv h => ∃ r : Int, rv = some (.int (iz r)) ∧ h0 = h ∧ r = wtn x) := by
  refine Rx.walk 0 (pc' := 0) (L' := [some (.long (jz x)), none]) (st' := []) (h' := h0) rfl ?_
  refine Rx.walk 3 (pc' := 7) (L' := [some (.long (jz x)), none]) (st' := [.long (jz x), .long (jz 1000000), .long (jz (-1000000))]) (h' := h0) rfl ?_
  refine Rx.lmin rfl ⟨by omega, by omega⟩ ⟨by omega, by omega⟩ ?_
  refine Rx.lmax rfl ⟨by omega, by omega⟩ ⟨by omega, by omega⟩ ?_
  refine Rx.l2i rfl ?_
  refine Rx.ret rfl ?_
  exact ⟨_, rfl, rfl, rfl⟩
theorem mul_b6 {x y : Int} (hx : inB x) (hy : inB y) : -1000000000000 ≤ x * y ∧ x * y ≤ 1000000000000 := by
  have h : (x * y).natAbs ≤ 1000000 * 1000000 := by
    rw [Int.natAbs_mul]
    exact Nat.mul_le_mul (by unfold inB at hx; omega) (by unfold inB at hy; omega)
  omega
set_option maxRecDepth 100000 in
set_option maxHeartbeats 4000000 in
theorem x_reckon (d : Nat) (h0 : AmH)  (s : Int) (x : Int) (y : Int) (hs : -9 ≤ s ∧ s ≤ -1) (hx : inB x) (hy : inB y) (hb : s = -8 ∨ s = -9 → (y = 0 ∨ y = 1) ∧ (x = 0 ∨ x = 1)) : Rx (d + 1) m_X6_reckon 0 (am_ent [.int (iz s), .int (iz x), .int (iz y)] 3) [] (h0) (fun rv h => ∃ r : Int, rv = some (.int (iz r)) ∧ h0 = h ∧ r = rk s x y) := by
  obtain ⟨hx1, hx2⟩ := id hx
  obtain ⟨hy1, hy2⟩ := id hy
  refine Rx.walk 0 (pc' := 0) (L' := [some (.int (iz s)), some (.int (iz x)), some (.int (iz y))]) (st' := []) (h' := h0) rfl ?_
  refine Rx.walk 1 (pc' := 1) (L' := [some (.int (iz s)), some (.int (iz x)), some (.int (iz y))]) (st' := [.int (iz s)]) (h' := h0) rfl ?_
  rcases (show s = (-8) ∨ s = (-7) ∨ s = (-6) ∨ s = (-5) ∨ s = (-4) ∨ s = (-3) ∨ s = (-2) ∨ s = (-1) ∨ (s < (-8) ∨ (-1) < s) by omega) with s1 | s1 | s1 | s1 | s1 | s1 | s1 | s1 | s1
  · rw [s1]
    subst s1
    refine Rx.walk 1 (pc' := 120) (L' := [some (.int (iz (-8))), some (.int (iz x)), some (.int (iz y))]) (st' := []) (h' := h0) rfl ?_
    refine Rx.walk 2 (pc' := 122) (L' := [some (.int (iz (-8))), some (.int (iz x)), some (.int (iz y))]) (st' := [.int (iz y), .int (iz x)]) (h' := h0) rfl ?_
    refine Rx.iand (c := (rk (-8) x y)) rfl (iz_and01 (hb (Or.inl rfl)).2 (hb (Or.inl rfl)).1) ?_
    refine Rx.ret rfl ?_
    exact ⟨_, rfl, rfl, rfl⟩
  · rw [s1]
    subst s1
    refine Rx.walk 1 (pc' := 109) (L' := [some (.int (iz (-7))), some (.int (iz x)), some (.int (iz y))]) (st' := []) (h' := h0) rfl ?_
    refine Rx.walk 2 (pc' := 111) (L' := [some (.int (iz (-7))), some (.int (iz x)), some (.int (iz y))]) (st' := [.int (iz y), .int (iz x)]) (h' := h0) rfl ?_
    refine Rx.le2 rfl rfl ⟨by omega, by omega⟩ ⟨by omega, by omega⟩ (fun b2 => ?_) (fun b2 => ?_)
    · refine Rx.walk 1 (pc' := 119) (L' := [some (.int (iz (-7))), some (.int (iz x)), some (.int (iz y))]) (st' := [.int (iz 0)]) (h' := h0) rfl ?_
      refine Rx.ret rfl ?_
      refine ⟨_, rfl, rfl, ?_⟩
      unfold rk
      rw [if_neg (by decide), if_neg (by decide), if_neg (by decide), if_neg (by decide), if_neg (by decide), if_neg (by decide), if_pos rfl, if_neg (by omega)]
    · refine Rx.walk 2 (pc' := 119) (L' := [some (.int (iz (-7))), some (.int (iz x)), some (.int (iz y))]) (st' := [.int (iz 1)]) (h' := h0) rfl ?_
      refine Rx.ret rfl ?_
      refine ⟨_, rfl, rfl, ?_⟩
      unfold rk
      rw [if_neg (by decide), if_neg (by decide), if_neg (by decide), if_neg (by decide), if_neg (by decide), if_neg (by decide), if_pos rfl, if_pos (by omega)]
  · rw [s1]
    subst s1
    refine Rx.walk 1 (pc' := 98) (L' := [some (.int (iz (-6))), some (.int (iz x)), some (.int (iz y))]) (st' := []) (h' := h0) rfl ?_
    refine Rx.walk 2 (pc' := 100) (L' := [some (.int (iz (-6))), some (.int (iz x)), some (.int (iz y))]) (st' := [.int (iz y), .int (iz x)]) (h' := h0) rfl ?_
    refine Rx.ge2 rfl rfl ⟨by omega, by omega⟩ ⟨by omega, by omega⟩ (fun b3 => ?_) (fun b3 => ?_)
    · refine Rx.walk 1 (pc' := 108) (L' := [some (.int (iz (-6))), some (.int (iz x)), some (.int (iz y))]) (st' := [.int (iz 0)]) (h' := h0) rfl ?_
      refine Rx.ret rfl ?_
      refine ⟨_, rfl, rfl, ?_⟩
      unfold rk
      rw [if_neg (by decide), if_neg (by decide), if_neg (by decide), if_neg (by decide), if_neg (by decide), if_pos rfl, if_neg (by omega)]
    · refine Rx.walk 2 (pc' := 108) (L' := [some (.int (iz (-6))), some (.int (iz x)), some (.int (iz y))]) (st' := [.int (iz 1)]) (h' := h0) rfl ?_
      refine Rx.ret rfl ?_
      refine ⟨_, rfl, rfl, ?_⟩
      unfold rk
      rw [if_neg (by decide), if_neg (by decide), if_neg (by decide), if_neg (by decide), if_neg (by decide), if_pos rfl, if_pos (by omega)]
  · rw [s1]
    subst s1
    refine Rx.walk 1 (pc' := 87) (L' := [some (.int (iz (-5))), some (.int (iz x)), some (.int (iz y))]) (st' := []) (h' := h0) rfl ?_
    refine Rx.walk 2 (pc' := 89) (L' := [some (.int (iz (-5))), some (.int (iz x)), some (.int (iz y))]) (st' := [.int (iz y), .int (iz x)]) (h' := h0) rfl ?_
    refine Rx.ne2 rfl rfl ⟨by omega, by omega⟩ ⟨by omega, by omega⟩ (fun b4 => ?_) (fun b4 => ?_)
    · refine Rx.walk 1 (pc' := 97) (L' := [some (.int (iz (-5))), some (.int (iz x)), some (.int (iz y))]) (st' := [.int (iz 0)]) (h' := h0) rfl ?_
      refine Rx.ret rfl ?_
      refine ⟨_, rfl, rfl, ?_⟩
      unfold rk
      rw [if_neg (by decide), if_neg (by decide), if_neg (by decide), if_neg (by decide), if_pos rfl, if_neg (by omega)]
    · refine Rx.walk 2 (pc' := 97) (L' := [some (.int (iz (-5))), some (.int (iz x)), some (.int (iz y))]) (st' := [.int (iz 1)]) (h' := h0) rfl ?_
      refine Rx.ret rfl ?_
      refine ⟨_, rfl, rfl, ?_⟩
      unfold rk
      rw [if_neg (by decide), if_neg (by decide), if_neg (by decide), if_neg (by decide), if_pos rfl, if_pos (by omega)]
  · rw [s1]
    subst s1
    refine Rx.walk 1 (pc' := 75) (L' := [some (.int (iz (-4))), some (.int (iz x)), some (.int (iz y))]) (st' := []) (h' := h0) rfl ?_
    refine Rx.walk 1 (pc' := 76) (L' := [some (.int (iz (-4))), some (.int (iz x)), some (.int (iz y))]) (st' := [.int (iz y)]) (h' := h0) rfl ?_
    refine Rx.ne1 rfl rfl ⟨by omega, by omega⟩ (fun b5 => ?_) (fun b5 => ?_)
    · refine Rx.walk 2 (pc' := 85) (L' := [some (.int (iz (-4))), some (.int (iz x)), some (.int (iz y))]) (st' := [.int (iz y), .int (iz x)]) (h' := h0) rfl ?_
      refine Rx.idivT rfl ⟨by omega, by omega⟩ ⟨by omega, by omega⟩ (by omega) ?_
      refine Rx.ret rfl ?_
      refine ⟨_, rfl, rfl, ?_⟩
      unfold rk
      rw [if_neg (by decide), if_neg (by decide), if_neg (by decide), if_pos rfl, if_neg (by omega)]
    · refine Rx.walk 2 (pc' := 86) (L' := [some (.int (iz (-4))), some (.int (iz x)), some (.int (iz y))]) (st' := [.int (iz 0)]) (h' := h0) rfl ?_
      refine Rx.ret rfl ?_
      refine ⟨_, rfl, rfl, ?_⟩
      unfold rk
      rw [if_neg (by decide), if_neg (by decide), if_neg (by decide), if_pos rfl, if_pos (by omega)]
  · rw [s1]
    subst s1
    refine Rx.walk 1 (pc' := 66) (L' := [some (.int (iz (-3))), some (.int (iz x)), some (.int (iz y))]) (st' := []) (h' := h0) rfl ?_
    refine Rx.walk 1 (pc' := 67) (L' := [some (.int (iz (-3))), some (.int (iz x)), some (.int (iz y))]) (st' := [.int (iz x)]) (h' := h0) rfl ?_
    refine Rx.i2l rfl ⟨by omega, by omega⟩ ?_
    refine Rx.walk 1 (pc' := 69) (L' := [some (.int (iz (-3))), some (.int (iz x)), some (.int (iz y))]) (st' := [.int (iz y), .long (jz x)]) (h' := h0) rfl ?_
    refine Rx.i2l rfl ⟨by omega, by omega⟩ ?_
    refine Rx.lmul rfl ?_
    refine Rx.callx (m' := m_X6_within) (as := [.long (jz (x * y))]) (rest := []) rfl (x_within _ h0  (x * y) (by have := mul_b6 hx hy; omega)) (fun v8 h9 q10 => ?_)
    obtain ⟨r_6, rfl, rfl, f7⟩ := q10
    refine Rx.walk 0 (pc' := 74) (L' := [some (.int (iz (-3))), some (.int (iz x)), some (.int (iz y))]) (st' := [.int (iz r_6)]) (h' := h0) rfl ?_
    refine Rx.ret rfl ?_
    refine ⟨_, rfl, rfl, ?_⟩
    rw [f7]
    unfold rk
    rw [if_neg (by decide), if_neg (by decide), if_pos rfl]
  · rw [s1]
    subst s1
    refine Rx.walk 1 (pc' := 57) (L' := [some (.int (iz (-2))), some (.int (iz x)), some (.int (iz y))]) (st' := []) (h' := h0) rfl ?_
    refine Rx.walk 1 (pc' := 58) (L' := [some (.int (iz (-2))), some (.int (iz x)), some (.int (iz y))]) (st' := [.int (iz x)]) (h' := h0) rfl ?_
    refine Rx.i2l rfl ⟨by omega, by omega⟩ ?_
    refine Rx.walk 1 (pc' := 60) (L' := [some (.int (iz (-2))), some (.int (iz x)), some (.int (iz y))]) (st' := [.int (iz y), .long (jz x)]) (h' := h0) rfl ?_
    refine Rx.i2l rfl ⟨by omega, by omega⟩ ?_
    refine Rx.lsub rfl ?_
    refine Rx.callx (m' := m_X6_within) (as := [.long (jz (x - y))]) (rest := []) rfl (x_within _ h0  (x - y) (by first | assumption | omega)) (fun v13 h14 q15 => ?_)
    obtain ⟨r_11, rfl, rfl, f12⟩ := q15
    refine Rx.walk 0 (pc' := 65) (L' := [some (.int (iz (-2))), some (.int (iz x)), some (.int (iz y))]) (st' := [.int (iz r_11)]) (h' := h0) rfl ?_
    refine Rx.ret rfl ?_
    refine ⟨_, rfl, rfl, ?_⟩
    rw [f12]
    unfold rk
    rw [if_neg (by decide), if_pos rfl]
  · rw [s1]
    subst s1
    refine Rx.walk 1 (pc' := 48) (L' := [some (.int (iz (-1))), some (.int (iz x)), some (.int (iz y))]) (st' := []) (h' := h0) rfl ?_
    refine Rx.walk 1 (pc' := 49) (L' := [some (.int (iz (-1))), some (.int (iz x)), some (.int (iz y))]) (st' := [.int (iz x)]) (h' := h0) rfl ?_
    refine Rx.i2l rfl ⟨by omega, by omega⟩ ?_
    refine Rx.walk 1 (pc' := 51) (L' := [some (.int (iz (-1))), some (.int (iz x)), some (.int (iz y))]) (st' := [.int (iz y), .long (jz x)]) (h' := h0) rfl ?_
    refine Rx.i2l rfl ⟨by omega, by omega⟩ ?_
    refine Rx.ladd rfl ?_
    refine Rx.callx (m' := m_X6_within) (as := [.long (jz (x + y))]) (rest := []) rfl (x_within _ h0  (x + y) (by first | assumption | omega)) (fun v18 h19 q20 => ?_)
    obtain ⟨r_16, rfl, rfl, f17⟩ := q20
    refine Rx.walk 0 (pc' := 56) (L' := [some (.int (iz (-1))), some (.int (iz x)), some (.int (iz y))]) (st' := [.int (iz r_16)]) (h' := h0) rfl ?_
    refine Rx.ret rfl ?_
    refine ⟨_, rfl, rfl, ?_⟩
    rw [f17]
    unfold rk
    rw [if_pos rfl]
  · refine Rx.tsd rfl rfl ⟨by omega, by omega⟩ (by omega) ?_
    refine Rx.walk 2 (pc' := 126) (L' := [some (.int (iz s)), some (.int (iz x)), some (.int (iz y))]) (st' := [.int (iz y), .int (iz x)]) (h' := h0) rfl ?_
    refine Rx.ior (c := (rk (-9) x y)) rfl (iz_or01 (hb (Or.inr (by omega))).2 (hb (Or.inr (by omega))).1) ?_
    refine Rx.ret rfl ?_
    obtain rfl : s = -9 := by omega
    exact ⟨_, rfl, rfl, rfl⟩
set_option maxRecDepth 100000 in
set_option maxHeartbeats 4000000 in
theorem x_nextA_l36 (d : Nat) (z : Nat → Nat → Int) (f : Nat → Int → Int) (C : Nat → CuR) (T : Nat → TsR) (rc : Nat → Nat) (tl : AmH)  (i0 : Int) (sz : Int) (ln : Nat) (cd : Int → Int) (hrc : 98 ≤ rc 36 ∧ am_nth tl (rc 36 - 98) = some (.inl (.int, ln, .inl (av cd)))) (hsz : 0 ≤ sz ∧ sz ≤ 161 ∧ sz = (ln : Int)) (hcb : ∀ j : Int, 0 ≤ j → j < sz → sgB (cd j)) (P : Option Value → AmH → Prop) (hx0 : ∀ (r : Int), (i0 ≤ r ∧ r ≤ sz) → (r < sz → cd r = -12) → (∀ j : Int, i0 ≤ j → j < r → cd j ≠ -12) → P (some (.int (iz r))) (cxW (u2 z 36 1 sz) f C T rc tl)) : ∀ (kF : Nat) (i : Int), (0 ≤ i0 ∧ i0 ≤ i ∧ i ≤ sz) → (∀ j : Int, i0 ≤ j → j < i → cd j ≠ -12) → (sz - i) < (kF : Int) → Rx (d) m_X6_nextAnswer 2 [some (.ref 36), some (.int (iz i0)), some (.int (iz i))] [] (cxW (u2 z 36 1 sz) f C T rc tl) P := by
  obtain ⟨hz0, hz1, hz2⟩ := id hsz
  intro kF
  induction kF with
  | zero =>
    intro i hi hj hk
    exfalso; omega
  | succ kF ih =>
    intro i hi hj hk
    refine Rx.walk 3 (pc' := 7) (L' := [some (.ref 36), some (.int (iz i0)), some (.int (iz i))]) (st' := [.int (iz sz), .int (iz i)]) (h' := cxW (u2 z 36 1 sz) f C T rc tl) rfl ?_
    refine Rx.ge2 rfl rfl ⟨by omega, by omega⟩ ⟨by omega, by omega⟩ (fun b1 => ?_) (fun b1 => ?_)
    · refine Rx.walk 2 (pc' := 33) (L' := [some (.ref 36), some (.int (iz i0)), some (.int (iz i))]) (st' := [.int (iz sz)]) (h' := cxW (u2 z 36 1 sz) f C T rc tl) rfl ?_
      refine Rx.ret rfl ?_
      exact hx0 _ ⟨by omega, by omega⟩ (fun q => by first | (rw [← hs]; omega) | (exfalso; omega)) (fun j a c => hj j a (by omega))
    · refine Rx.walk 3 (pc' := 15) (L' := [some (.ref 36), some (.int (iz i0)), some (.int (iz i))]) (st' := [.int (iz i), .ref (rc 36)]) (h' := cxW (u2 z 36 1 sz) f C T rc tl) rfl ?_
      refine Rx.ial (g := cd) rfl (cW_tl hrc.1 hrc.2) (by omega) (by omega) (by omega) ?_
      obtain ⟨hsb, hsc⟩ := hcb i (by omega) (by omega)
      obtain ⟨s, hs⟩ : ∃ s, s = cd i := ⟨_, rfl⟩
      rw [← hs] at hsb hsc ⊢
      refine Rx.walk 1 (pc' := 18) (L' := [some (.ref 36), some (.int (iz i0)), some (.int (iz i))]) (st' := [.int (iz (-12)), .int (iz s)]) (h' := cxW (u2 z 36 1 sz) f C T rc tl) rfl ?_
      refine Rx.ne2 rfl rfl ⟨by omega, by omega⟩ ⟨by omega, by omega⟩ (fun b2 => ?_) (fun b2 => ?_)
      · refine Rx.iinc (b := 1) rfl rfl rfl ?_
        refine Rx.walk 0 (pc' := 26) (L' := [some (.ref 36), some (.int (iz i0)), some (.int (iz (i + 1)))]) (st' := []) (h' := cxW (u2 z 36 1 sz) f C T rc tl) rfl ?_
        refine Rx.walk 1 (pc' := 2) (L' := [some (.ref 36), some (.int (iz i0)), some (.int (iz (i + 1)))]) (st' := []) (h' := cxW (u2 z 36 1 sz) f C T rc tl) rfl ?_
        exact ih (i + 1) ⟨by omega, by omega, by omega⟩ (fun j a c => by rcases Int.lt_or_le j i with q | q; exact hj j a q; (obtain rfl : j = i := (by omega); rw [← hs]; omega)) (by first | assumption | omega) 
      · refine Rx.walk 1 (pc' := 22) (L' := [some (.ref 36), some (.int (iz i0)), some (.int (iz i))]) (st' := [.int (iz i)]) (h' := cxW (u2 z 36 1 sz) f C T rc tl) rfl ?_
        refine Rx.ret rfl ?_
        exact hx0 _ ⟨by omega, by omega⟩ (fun q => by first | (rw [← hs]; omega) | (exfalso; omega)) (fun j a c => hj j a (by omega))
set_option maxRecDepth 100000 in
set_option maxHeartbeats 4000000 in
theorem x_nextA36 (d : Nat) (z : Nat → Nat → Int) (f : Nat → Int → Int) (C : Nat → CuR) (T : Nat → TsR) (rc : Nat → Nat) (tl : AmH)  (sz : Int) (ln : Nat) (cd : Int → Int) (i : Int) (hrc : 98 ≤ rc 36 ∧ am_nth tl (rc 36 - 98) = some (.inl (.int, ln, .inl (av cd)))) (hsz : 0 ≤ sz ∧ sz ≤ 161 ∧ sz = (ln : Int)) (hcb : ∀ j : Int, 0 ≤ j → j < sz → sgB (cd j)) (hi : 0 ≤ i ∧ i ≤ sz) : Rx (d) m_X6_nextAnswer 0 (am_ent [.ref 36, .int (iz i)] 3) [] (cxW (u2 z 36 1 sz) f C T rc tl) (fun rv h => ∃ r : Int, rv = some (.int (iz r)) ∧ h = cxW (u2 z 36 1 sz) f C T rc tl ∧ (i ≤ r ∧ r ≤ sz) ∧ (r < sz → cd r = -12) ∧ (∀ j : Int, i ≤ j → j < r → cd j ≠ -12)) := by
  refine Rx.walk 0 (pc' := 0) (L' := [some (.ref 36), some (.int (iz i)), none]) (st' := []) (h' := cxW (u2 z 36 1 sz) f C T rc tl) rfl ?_
  refine Rx.walk 2 (pc' := 2) (L' := [some (.ref 36), some (.int (iz i)), some (.int (iz i))]) (st' := []) (h' := cxW (u2 z 36 1 sz) f C T rc tl) rfl ?_
  refine x_nextA_l36 _ z f C T rc tl  i sz ln cd hrc hsz hcb _ ?_ ((sz - i) + 1 : Int).toNat i ⟨by omega, by omega, by omega⟩ (fun j a c => by exfalso; omega) (by omega) 
  intro r_1 f2 f3 f4
  show (fun (rv : Option Value) (h : AmH) => ∃ r : Int, rv = some (.int (iz r)) ∧ h = cxW (u2 z 36 1 sz) f C T rc tl ∧ (i ≤ r ∧ r ≤ sz) ∧ (r < sz → cd r = -12) ∧ (∀ j : Int, i ≤ j → j < r → cd j ≠ -12)) (some (Value.int (iz r_1))) (cxW (u2 z 36 1 sz) f C T rc tl)
  exact ⟨_, rfl, rfl, f2, f3, f4⟩
set_option maxRecDepth 100000 in
set_option maxHeartbeats 4000000 in
theorem x_worth_l36 (d : Nat) (z : Nat → Nat → Int) (f : Nat → Int → Int) (C : Nat → CuR) (T : Nat → TsR) (rc : Nat → Nat) (tl : AmH)  (sz : Int) (ln : Nat) (cd : Int → Int) (lt : Int → Int) (W : Int) (hrc : 98 ≤ rc 36 ∧ am_nth tl (rc 36 - 98) = some (.inl (.int, ln, .inl (av cd)))) (hsz : 0 ≤ sz ∧ sz ≤ 161 ∧ sz = (ln : Int)) (hcb : ∀ j : Int, 0 ≤ j → j < sz → sgB (cd j)) (hL : bdL lt) (P : Option Value → AmH → Prop) (hx0 : ∀ (r : Int) (g' : Int → Int), (r = W) → P (some (.int (iz r))) (cxW (u2 z 36 1 sz) (uf (uf f 93 lt) 94 g') C T rc tl)) : ∀ (kF : Nat) (i : Int) (top : Int) (g : Int → Int) (w5 : Option Value) (w6 : Option Value), (0 ≤ i ∧ i ≤ sz + 1) → (0 ≤ top ∧ top ≤ i) → (∀ j : Int, 0 ≤ j → j < top → inB (g j)) → (okW lt (crem cd i (sz - i).toNat) false (stA g top.toNat)) → (W = rnW lt (crem cd i (sz - i).toNat) false (stA g top.toNat)) → (sz + 1 - i) < (kF : Int) → Rx (d + 2) m_X6_worth 5 [some (.ref 36), some (.ref 93), some (.ref 94), some (.int (iz top)), some (.int (iz i)), w5, w6] [] (cxW (u2 z 36 1 sz) (uf (uf f 93 lt) 94 g) C T rc tl) P := by
  obtain ⟨hz0, hz1, hz2⟩ := id hsz
  intro kF
  induction kF with
  | zero =>
    intro i top g w5 w6 hi ht hg hok hW hk
    exfalso; omega
  | succ kF ih =>
    intro i top g w5 w6 hi ht hg hok hW hk
    refine Rx.walk 3 (pc' := 11) (L' := [some (.ref 36), some (.ref 93), some (.ref 94), some (.int (iz top)), some (.int (iz i)), w5, w6]) (st' := [.int (iz sz), .int (iz i)]) (h' := cxW (u2 z 36 1 sz) (uf (uf f 93 lt) 94 g) C T rc tl) rfl ?_
    refine Rx.ge2 rfl rfl ⟨by omega, by omega⟩ ⟨by omega, by omega⟩ (fun b1 => ?_) (fun b1 => ?_)
    · refine Rx.walk 1 (pc' := 194) (L' := [some (.ref 36), some (.ref 93), some (.ref 94), some (.int (iz top)), some (.int (iz i)), w5, w6]) (st' := [.int (iz 0)]) (h' := cxW (u2 z 36 1 sz) (uf (uf f 93 lt) 94 g) C T rc tl) rfl ?_
      refine Rx.ret rfl ?_
      exact hx0 _ _ (by rw [crem_z (by omega)] at hW; exact hW.symm)
    · refine Rx.walk 3 (pc' := 20) (L' := [some (.ref 36), some (.ref 93), some (.ref 94), some (.int (iz top)), some (.int (iz i)), w5, w6]) (st' := [.ref (rc 36), .int (iz i)]) (h' := cxW (u2 z 36 1 sz) (uf (uf f 93 lt) 94 g) C T rc tl) rfl ?_
      refine Rx.alS rfl (cW_tl hrc.1 hrc.2) ?_
      refine Rx.ge2 rfl rfl ⟨by omega, by omega⟩ ⟨by omega, by omega⟩ (fun b2 => by omega) (fun b2 => ?_)
      rw [crem_s (show i < sz by omega)] at hok hW
      refine Rx.walk 3 (pc' := 30) (L' := [some (.ref 36), some (.ref 93), some (.ref 94), some (.int (iz top)), some (.int (iz i)), w5, w6]) (st' := [.int (iz i), .ref (rc 36)]) (h' := cxW (u2 z 36 1 sz) (uf (uf f 93 lt) 94 g) C T rc tl) rfl ?_
      refine Rx.ial (g := cd) rfl (cW_tl hrc.1 hrc.2) (by omega) (by omega) (by omega) ?_
      obtain ⟨hsb, hsc⟩ := hcb i (by omega) (by omega)
      obtain ⟨s, hs⟩ : ∃ s, s = cd i := ⟨_, rfl⟩
      rw [← hs] at hsb hsc hok hW ⊢
      refine Rx.walk 2 (pc' := 35) (L' := [some (.ref 36), some (.ref 93), some (.ref 94), some (.int (iz top)), some (.int (iz i)), some (.int (iz s)), w6]) (st' := [.int (iz s)]) (h' := cxW (u2 z 36 1 sz) (uf (uf f 93 lt) 94 g) C T rc tl) rfl ?_
      refine Rx.ge1 rfl rfl ⟨by omega, by omega⟩ (fun b3 => ?_) (fun b3 => ?_)
      · rw [okW_num (by omega)] at hok
        rw [rnW_num (by omega)] at hW
        have hok1 := hok.1
        have hok2 := hok.2
        refine Rx.walk 2 (pc' := 49) (L' := [some (.ref 36), some (.ref 93), some (.ref 94), some (.int (iz top)), some (.int (iz i)), some (.int (iz s)), w6]) (st' := [.int (iz s), .int (iz (-13))]) (h' := cxW (u2 z 36 1 sz) (uf (uf f 93 lt) 94 g) C T rc tl) rfl ?_
        refine Rx.isub rfl ?_
        refine Rx.walk 4 (pc' := 55) (L' := [some (.ref 36), some (.ref 93), some (.ref 94), some (.int (iz top)), some (.int (iz i)), some (.int (iz s)), some (.int (iz ((-13) - s)))]) (st' := [.int (iz 161), .int (iz top)]) (h' := cxW (u2 z 36 1 sz) (uf (uf f 93 lt) 94 g) C T rc tl) rfl ?_
        refine Rx.ge2 rfl rfl ⟨by omega, by omega⟩ ⟨by omega, by omega⟩ (fun b4 => by omega) (fun b4 => ?_)
        refine Rx.walk 3 (pc' := 62) (L' := [some (.ref 36), some (.ref 93), some (.ref 94), some (.int (iz top)), some (.int (iz i)), some (.int (iz s)), some (.int (iz ((-13) - s)))]) (st' := [.int (iz 6), .int (iz ((-13) - s))]) (h' := cxW (u2 z 36 1 sz) (uf (uf f 93 lt) 94 g) C T rc tl) rfl ?_
        refine Rx.lt2 rfl rfl ⟨by omega, by omega⟩ ⟨by omega, by omega⟩ (fun b5 => ?_) (fun b5 => by omega)
        refine Rx.walk 3 (pc' := 71) (L' := [some (.ref 36), some (.ref 93), some (.ref 94), some (.int (iz top)), some (.int (iz i)), some (.int (iz s)), some (.int (iz ((-13) - s)))]) (st' := [.int (iz s), .int (iz top), .ref 94]) (h' := cxW (u2 z 36 1 sz) (uf (uf f 93 lt) 94 g) C T rc tl) rfl ?_
        refine Rx.lt1 rfl rfl ⟨by omega, by omega⟩ (fun b6 => by omega) (fun b6 => ?_)
        refine Rx.walk 2 (pc' := 83) (L' := [some (.ref 36), some (.ref 93), some (.ref 94), some (.int (iz top)), some (.int (iz i)), some (.int (iz s)), some (.int (iz ((-13) - s)))]) (st' := [.int (iz s), .int (iz top), .ref 94]) (h' := cxW (u2 z 36 1 sz) (uf (uf f 93 lt) 94 g) C T rc tl) rfl ?_
        refine Rx.ias (g := g) (h' := cxW (u2 z 36 1 sz) (uf (uf f 93 lt) 94 (iu g top s)) C T rc tl) rfl rfl (by omega) (by omega) (by omega) rfl ?_
        refine Rx.iinc (b := 1) rfl rfl rfl ?_
        refine Rx.walk 0 (pc' := 87) (L' := [some (.ref 36), some (.ref 93), some (.ref 94), some (.int (iz (top + 1))), some (.int (iz i)), some (.int (iz s)), some (.int (iz ((-13) - s)))]) (st' := []) (h' := cxW (u2 z 36 1 sz) (uf (uf f 93 lt) 94 (iu g top s)) C T rc tl) rfl ?_
        refine Rx.walk 1 (pc' := 187) (L' := [some (.ref 36), some (.ref 93), some (.ref 94), some (.int (iz (top + 1))), some (.int (iz i)), some (.int (iz s)), some (.int (iz ((-13) - s)))]) (st' := []) (h' := cxW (u2 z 36 1 sz) (uf (uf f 93 lt) 94 (iu g top s)) C T rc tl) rfl ?_
        refine Rx.iinc (b := 1) rfl rfl rfl ?_
        refine Rx.walk 0 (pc' := 190) (L' := [some (.ref 36), some (.ref 93), some (.ref 94), some (.int (iz (top + 1))), some (.int (iz (i + 1))), some (.int (iz s)), some (.int (iz ((-13) - s)))]) (st' := []) (h' := cxW (u2 z 36 1 sz) (uf (uf f 93 lt) 94 (iu g top s)) C T rc tl) rfl ?_
        refine Rx.walk 1 (pc' := 5) (L' := [some (.ref 36), some (.ref 93), some (.ref 94), some (.int (iz (top + 1))), some (.int (iz (i + 1))), some (.int (iz s)), some (.int (iz ((-13) - s)))]) (st' := []) (h' := cxW (u2 z 36 1 sz) (uf (uf f 93 lt) 94 (iu g top s)) C T rc tl) rfl ?_
        exact ih (i + 1) (top + 1) (iu g top s) (some (.int (iz s))) (some (.int (iz ((-13) - s)))) ⟨by omega, by omega⟩ ⟨by omega, by omega⟩ (inB_iu (show inB s from ⟨by omega, by omega⟩) hg) (by rw [stA_push (by omega)]; exact hok2) (by rw [stA_push (by omega)]; exact hW) (by omega) 
      · refine Rx.walk 2 (pc' := 42) (L' := [some (.ref 36), some (.ref 93), some (.ref 94), some (.int (iz top)), some (.int (iz i)), some (.int (iz s)), w6]) (st' := [.int (iz (-13)), .int (iz s)]) (h' := cxW (u2 z 36 1 sz) (uf (uf f 93 lt) 94 g) C T rc tl) rfl ?_
        refine Rx.gt2 rfl rfl ⟨by omega, by omega⟩ ⟨by omega, by omega⟩ (fun b7 => ?_) (fun b7 => ?_)
        · rw [okW_lo (by omega) (by omega)] at hok
          have hlen := stA_len g top.toNat
          have ht1 : 1 ≤ top := by have := hok.1; omega
          have hlen2 : 2 ≤ (stA g top.toNat).length → 2 ≤ top := fun q => by omega
          rw [stA_s ht1] at hok hW
          have hok2 := hok.2
          have hx := hg (top - 1) (by omega) (by omega)
          obtain ⟨hxa, hxb⟩ := id hx
          refine Rx.walk 2 (pc' := 92) (L' := [some (.ref 36), some (.ref 93), some (.ref 94), some (.int (iz top)), some (.int (iz i)), some (.int (iz s)), w6]) (st' := [.int (iz 1), .int (iz top)]) (h' := cxW (u2 z 36 1 sz) (uf (uf f 93 lt) 94 g) C T rc tl) rfl ?_
          refine Rx.ge2 rfl rfl ⟨by omega, by omega⟩ ⟨by omega, by omega⟩ (fun b8 => ?_) (fun b8 => by omega)
          refine Rx.walk 2 (pc' := 101) (L' := [some (.ref 36), some (.ref 93), some (.ref 94), some (.int (iz top)), some (.int (iz i)), some (.int (iz s)), w6]) (st' := [.int (iz (-12)), .int (iz s)]) (h' := cxW (u2 z 36 1 sz) (uf (uf f 93 lt) 94 g) C T rc tl) rfl ?_
          refine Rx.ne2 rfl rfl ⟨by omega, by omega⟩ ⟨by omega, by omega⟩ (fun b9 => ?_) (fun b9 => ?_)
          · refine Rx.walk 2 (pc' := 114) (L' := [some (.ref 36), some (.ref 93), some (.ref 94), some (.int (iz top)), some (.int (iz i)), some (.int (iz s)), w6]) (st' := [.int (iz (-11)), .int (iz s)]) (h' := cxW (u2 z 36 1 sz) (uf (uf f 93 lt) 94 g) C T rc tl) rfl ?_
            refine Rx.ne2 rfl rfl ⟨by omega, by omega⟩ ⟨by omega, by omega⟩ (fun b10 => ?_) (fun b10 => ?_)
            · refine Rx.walk 2 (pc' := 141) (L' := [some (.ref 36), some (.ref 93), some (.ref 94), some (.int (iz top)), some (.int (iz i)), some (.int (iz s)), w6]) (st' := [.int (iz (-10)), .int (iz s)]) (h' := cxW (u2 z 36 1 sz) (uf (uf f 93 lt) 94 g) C T rc tl) rfl ?_
              refine Rx.ne2 rfl rfl ⟨by omega, by omega⟩ ⟨by omega, by omega⟩ (fun b11 => ?_) (fun b11 => ?_)
              · rw [if_neg (by omega), if_neg (by omega), if_neg (by omega)] at hok2
                have ht2 : 2 ≤ top := hlen2 (by rw [hlen]; have h3 := hok2.1; have h4 := stA_len g (top - 1).toNat; have h5 : 2 ≤ (stA g (top - 1).toNat).length + 1 := h3; omega)
                rw [stA_s (show 1 ≤ top - 1 by omega)] at hok2 hW
                rw [rnW_op (by omega) (by omega)] at hW
                replace hok2 : (s = -8 ∨ s = -9 → (g (top - 1) = 0 ∨ g (top - 1) = 1) ∧ (g (top - 1 - 1) = 0 ∨ g (top - 1 - 1) = 1)) ∧ okW lt (crem cd (i + 1) (sz - (i + 1)).toNat) false (rk s (g (top - 1 - 1)) (g (top - 1)) :: stA g (top - 1 - 1).toNat) := hok2.2
                have hy := hg (top - 1 - 1) (by omega) (by omega)
                refine Rx.walk 2 (pc' := 161) (L' := [some (.ref 36), some (.ref 93), some (.ref 94), some (.int (iz top)), some (.int (iz i)), some (.int (iz s)), w6]) (st' := [.int (iz 2), .int (iz top)]) (h' := cxW (u2 z 36 1 sz) (uf (uf f 93 lt) 94 g) C T rc tl) rfl ?_
                refine Rx.ge2 rfl rfl ⟨by omega, by omega⟩ ⟨by omega, by omega⟩ (fun b12 => ?_) (fun b12 => by omega)
                refine Rx.iinc (b := -1) rfl rfl rfl ?_
                refine Rx.walk 0 (pc' := 169) (L' := [some (.ref 36), some (.ref 93), some (.ref 94), some (.int (iz (top + (-1)))), some (.int (iz i)), some (.int (iz s)), w6]) (st' := []) (h' := cxW (u2 z 36 1 sz) (uf (uf f 93 lt) 94 g) C T rc tl) rfl ?_
                refine Rx.walk 0 (pc' := 169) (L' := [some (.ref 36), some (.ref 93), some (.ref 94), some (.int (iz (top - 1))), some (.int (iz i)), some (.int (iz s)), w6]) (st' := []) (h' := cxW (u2 z 36 1 sz) (uf (uf f 93 lt) 94 g) C T rc tl) rfl ?_
                refine Rx.walk 3 (pc' := 172) (L' := [some (.ref 36), some (.ref 93), some (.ref 94), some (.int (iz (top - 1))), some (.int (iz i)), some (.int (iz s)), w6]) (st' := [.int (iz 1), .int (iz (top - 1)), .ref 94]) (h' := cxW (u2 z 36 1 sz) (uf (uf f 93 lt) 94 g) C T rc tl) rfl ?_
                refine Rx.isub rfl ?_
                refine Rx.walk 4 (pc' := 178) (L' := [some (.ref 36), some (.ref 93), some (.ref 94), some (.int (iz (top - 1))), some (.int (iz i)), some (.int (iz s)), w6]) (st' := [.int (iz 1), .int (iz (top - 1)), .ref 94, .int (iz s), .int (iz ((top - 1) - 1)), .ref 94]) (h' := cxW (u2 z 36 1 sz) (uf (uf f 93 lt) 94 g) C T rc tl) rfl ?_
                refine Rx.isub rfl ?_
                refine Rx.ial (g := g) rfl rfl (by omega) (by omega) (by omega) ?_
                refine Rx.walk 2 (pc' := 182) (L' := [some (.ref 36), some (.ref 93), some (.ref 94), some (.int (iz (top - 1))), some (.int (iz i)), some (.int (iz s)), w6]) (st' := [.int (iz (top - 1)), .ref 94, .int (iz (g ((top - 1) - 1))), .int (iz s), .int (iz ((top - 1) - 1)), .ref 94]) (h' := cxW (u2 z 36 1 sz) (uf (uf f 93 lt) 94 g) C T rc tl) rfl ?_
                refine Rx.ial (g := g) rfl rfl (by omega) (by omega) (by omega) ?_
                refine Rx.callx (m' := m_X6_reckon) (as := [.int (iz s), .int (iz (g ((top - 1) - 1))), .int (iz (g (top - 1)))]) (rest := [.int (iz ((top - 1) - 1)), .ref 94]) rfl (x_reckon _ (cxW (u2 z 36 1 sz) (uf (uf f 93 lt) 94 g) C T rc tl)  s (g ((top - 1) - 1)) (g (top - 1)) ⟨by omega, by omega⟩ hy hx hok2.1) (fun v15 h16 q17 => ?_)
                obtain ⟨r_13, rfl, rfl, f14⟩ := q17
                refine Rx.walk 0 (pc' := 186) (L' := [some (.ref 36), some (.ref 93), some (.ref 94), some (.int (iz (top - 1))), some (.int (iz i)), some (.int (iz s)), w6]) (st' := [.int (iz r_13), .int (iz ((top - 1) - 1)), .ref 94]) (h' := cxW (u2 z 36 1 sz) (uf (uf f 93 lt) 94 g) C T rc tl) rfl ?_
                refine Rx.ias (g := g) (h' := cxW (u2 z 36 1 sz) (uf (uf f 93 lt) 94 (iu g ((top - 1) - 1) r_13)) C T rc tl) rfl rfl (by omega) (by omega) (by omega) rfl ?_
                refine Rx.iinc (b := 1) rfl rfl rfl ?_
                refine Rx.walk 0 (pc' := 190) (L' := [some (.ref 36), some (.ref 93), some (.ref 94), some (.int (iz (top - 1))), some (.int (iz (i + 1))), some (.int (iz s)), w6]) (st' := []) (h' := cxW (u2 z 36 1 sz) (uf (uf f 93 lt) 94 (iu g ((top - 1) - 1) r_13)) C T rc tl) rfl ?_
                refine Rx.walk 1 (pc' := 5) (L' := [some (.ref 36), some (.ref 93), some (.ref 94), some (.int (iz (top - 1))), some (.int (iz (i + 1))), some (.int (iz s)), w6]) (st' := []) (h' := cxW (u2 z 36 1 sz) (uf (uf f 93 lt) 94 (iu g ((top - 1) - 1) r_13)) C T rc tl) rfl ?_
                exact ih (i + 1) (top - 1) (iu g ((top - 1) - 1) r_13) (some (.int (iz s))) w6 ⟨by omega, by omega⟩ ⟨by omega, by omega⟩ (by have q := inB_iu (t := top - 1 - 1) (v := r_13) (g := g) (by rw [f14]; exact rk_b hy) (fun j a c => hg j a (by omega)); rw [show top - 1 - 1 + 1 = top - 1 by omega] at q; exact q) (by have q := stA_push (g := g) (t := top - 1 - 1) (v := r_13) (by omega); rw [show top - 1 - 1 + 1 = top - 1 by omega] at q; rw [q, f14]; exact hok2.2) (by have q := stA_push (g := g) (t := top - 1 - 1) (v := r_13) (by omega); rw [show top - 1 - 1 + 1 = top - 1 by omega] at q; rw [q, f14]; exact hW) (by omega) 
              · have hsE : s = -10 := by omega
                rw [hsE, rnW_not] at hW
                rw [if_neg (by omega), if_neg (by omega), if_pos hsE] at hok2
                replace hok2 : (g (top - 1) = 0 ∨ g (top - 1) = 1) ∧ okW lt (crem cd (i + 1) (sz - (i + 1)).toNat) false ((1 - g (top - 1)) :: stA g (top - 1).toNat) := hok2
                refine Rx.walk 3 (pc' := 147) (L' := [some (.ref 36), some (.ref 93), some (.ref 94), some (.int (iz top)), some (.int (iz i)), some (.int (iz s)), w6]) (st' := [.int (iz 1), .int (iz top), .ref 94]) (h' := cxW (u2 z 36 1 sz) (uf (uf f 93 lt) 94 g) C T rc tl) rfl ?_
                refine Rx.isub rfl ?_
                refine Rx.walk 4 (pc' := 152) (L' := [some (.ref 36), some (.ref 93), some (.ref 94), some (.int (iz top)), some (.int (iz i)), some (.int (iz s)), w6]) (st' := [.int (iz 1), .int (iz top), .ref 94, .int (iz 1), .int (iz (top - 1)), .ref 94]) (h' := cxW (u2 z 36 1 sz) (uf (uf f 93 lt) 94 g) C T rc tl) rfl ?_
                refine Rx.isub rfl ?_
                refine Rx.ial (g := g) rfl rfl (by omega) (by omega) (by omega) ?_
                refine Rx.isub rfl ?_
                refine Rx.ias (g := g) (h' := cxW (u2 z 36 1 sz) (uf (uf f 93 lt) 94 (iu g (top - 1) (1 - (g (top - 1))))) C T rc tl) rfl rfl (by omega) (by omega) (by omega) rfl ?_
                refine Rx.walk 1 (pc' := 187) (L' := [some (.ref 36), some (.ref 93), some (.ref 94), some (.int (iz top)), some (.int (iz i)), some (.int (iz s)), w6]) (st' := []) (h' := cxW (u2 z 36 1 sz) (uf (uf f 93 lt) 94 (iu g (top - 1) (1 - (g (top - 1))))) C T rc tl) rfl ?_
                refine Rx.iinc (b := 1) rfl rfl rfl ?_
                refine Rx.walk 0 (pc' := 190) (L' := [some (.ref 36), some (.ref 93), some (.ref 94), some (.int (iz top)), some (.int (iz (i + 1))), some (.int (iz s)), w6]) (st' := []) (h' := cxW (u2 z 36 1 sz) (uf (uf f 93 lt) 94 (iu g (top - 1) (1 - (g (top - 1))))) C T rc tl) rfl ?_
                refine Rx.walk 1 (pc' := 5) (L' := [some (.ref 36), some (.ref 93), some (.ref 94), some (.int (iz top)), some (.int (iz (i + 1))), some (.int (iz s)), w6]) (st' := []) (h' := cxW (u2 z 36 1 sz) (uf (uf f 93 lt) 94 (iu g (top - 1) (1 - (g (top - 1))))) C T rc tl) rfl ?_
                exact ih (i + 1) top (iu g (top - 1) (1 - (g (top - 1)))) (some (.int (iz s))) w6 ⟨by omega, by omega⟩ ⟨by omega, by omega⟩ (by have q := inB_iu (t := top - 1) (v := 1 - g (top - 1)) (g := g) ⟨by omega, by omega⟩ (fun j a c => hg j a (by omega)); rw [show top - 1 + 1 = top by omega] at q; exact q) (by have q := stA_push (g := g) (t := top - 1) (v := 1 - g (top - 1)) (by omega); rw [show top - 1 + 1 = top by omega] at q; rw [q]; exact hok2.2) (by have q := stA_push (g := g) (t := top - 1) (v := 1 - g (top - 1)) (by omega); rw [show top - 1 + 1 = top by omega] at q; rw [q]; exact hW) (by omega) 
            · have hsE : s = -11 := by omega
              rw [hsE, rnW_unl] at hW
              rw [if_neg (by omega), if_pos hsE] at hok2
              replace hok2 : okW lt (crem cd (i + 1) (sz - (i + 1)).toNat) (decide (g (top - 1) = 0)) (stA g (top - 1).toNat) := hok2
              refine Rx.iinc (b := -1) rfl rfl rfl ?_
              refine Rx.walk 0 (pc' := 120) (L' := [some (.ref 36), some (.ref 93), some (.ref 94), some (.int (iz (top + (-1)))), some (.int (iz i)), some (.int (iz s)), w6]) (st' := []) (h' := cxW (u2 z 36 1 sz) (uf (uf f 93 lt) 94 g) C T rc tl) rfl ?_
              refine Rx.walk 0 (pc' := 120) (L' := [some (.ref 36), some (.ref 93), some (.ref 94), some (.int (iz (top - 1))), some (.int (iz i)), some (.int (iz s)), w6]) (st' := []) (h' := cxW (u2 z 36 1 sz) (uf (uf f 93 lt) 94 g) C T rc tl) rfl ?_
              refine Rx.walk 2 (pc' := 122) (L' := [some (.ref 36), some (.ref 93), some (.ref 94), some (.int (iz (top - 1))), some (.int (iz i)), some (.int (iz s)), w6]) (st' := [.int (iz (top - 1)), .ref 94]) (h' := cxW (u2 z 36 1 sz) (uf (uf f 93 lt) 94 g) C T rc tl) rfl ?_
              refine Rx.ial (g := g) rfl rfl (by omega) (by omega) (by omega) ?_
              refine Rx.ne1 rfl rfl ⟨by omega, by omega⟩ (fun b18 => ?_) (fun b18 => ?_)
              · refine Rx.iinc (b := 1) rfl rfl rfl ?_
                refine Rx.walk 0 (pc' := 190) (L' := [some (.ref 36), some (.ref 93), some (.ref 94), some (.int (iz (top - 1))), some (.int (iz (i + 1))), some (.int (iz s)), w6]) (st' := []) (h' := cxW (u2 z 36 1 sz) (uf (uf f 93 lt) 94 g) C T rc tl) rfl ?_
                refine Rx.walk 1 (pc' := 5) (L' := [some (.ref 36), some (.ref 93), some (.ref 94), some (.int (iz (top - 1))), some (.int (iz (i + 1))), some (.int (iz s)), w6]) (st' := []) (h' := cxW (u2 z 36 1 sz) (uf (uf f 93 lt) 94 g) C T rc tl) rfl ?_
                have hbn : ¬ g (top - 1) = 0 := by omega
                exact ih (i + 1) (top - 1) g (some (.int (iz s))) w6 ⟨by omega, by omega⟩ ⟨by omega, by omega⟩ (fun j a c => hg j a (by omega)) (by rw [decide_eq_false hbn] at hok2; exact hok2) (by rw [decide_eq_false hbn] at hW; exact hW) (by omega) 
              · refine Rx.walk 2 (pc' := 129) (L' := [some (.ref 36), some (.ref 93), some (.ref 94), some (.int (iz (top - 1))), some (.int (iz i)), some (.int (iz s)), w6]) (st' := [.int (iz i), .ref 36]) (h' := cxW (u2 z 36 1 sz) (uf (uf f 93 lt) 94 g) C T rc tl) rfl ?_
                refine Rx.callx (m' := m_X6_nextAnswer) (as := [.ref 36, .int (iz i)]) (rest := []) rfl (x_nextA36 _ z (uf (uf f 93 lt) 94 g) C T rc tl  sz ln cd i hrc hsz hcb ⟨by omega, by omega⟩) (fun v23 h24 q25 => ?_)
                obtain ⟨r_19, rfl, rfl, f20, f21, f22⟩ := q25
                refine Rx.walk 0 (pc' := 132) (L' := [some (.ref 36), some (.ref 93), some (.ref 94), some (.int (iz (top - 1))), some (.int (iz i)), some (.int (iz s)), w6]) (st' := [.int (iz r_19)]) (h' := cxW (u2 z 36 1 sz) (uf (uf f 93 lt) 94 g) C T rc tl) rfl ?_
                refine Rx.walk 2 (pc' := 187) (L' := [some (.ref 36), some (.ref 93), some (.ref 94), some (.int (iz (top - 1))), some (.int (iz r_19)), some (.int (iz s)), w6]) (st' := []) (h' := cxW (u2 z 36 1 sz) (uf (uf f 93 lt) 94 g) C T rc tl) rfl ?_
                refine Rx.iinc (b := 1) rfl rfl rfl ?_
                refine Rx.walk 0 (pc' := 190) (L' := [some (.ref 36), some (.ref 93), some (.ref 94), some (.int (iz (top - 1))), some (.int (iz (r_19 + 1))), some (.int (iz s)), w6]) (st' := []) (h' := cxW (u2 z 36 1 sz) (uf (uf f 93 lt) 94 g) C T rc tl) rfl ?_
                refine Rx.walk 1 (pc' := 5) (L' := [some (.ref 36), some (.ref 93), some (.ref 94), some (.int (iz (top - 1))), some (.int (iz (r_19 + 1))), some (.int (iz s)), w6]) (st' := []) (h' := cxW (u2 z 36 1 sz) (uf (uf f 93 lt) 94 g) C T rc tl) rfl ?_
                have hbz : g (top - 1) = 0 := by omega
                have hri : r_19 ≠ i := fun q => by have q2 := f21 (by omega); rw [q] at q2; omega
                have hsk := rnW_na (L := lt) (cd := cd) (sz := sz) (r := r_19) (st := stA g (top - 1).toNat) (by omega) f21 (r_19 - (i + 1)).toNat (i + 1) (by omega) (fun j a c => f22 j (by omega) c)
                exact ih (r_19 + 1) (top - 1) g (some (.int (iz s))) w6 ⟨by omega, by omega⟩ ⟨by omega, by omega⟩ (fun j a c => hg j a (by omega)) (by rw [← hsk.2]; rw [decide_eq_true hbz] at hok2; exact hok2) (by rw [← hsk.1]; rw [decide_eq_true hbz] at hW; exact hW) (by omega) 
          · have hsE : s = -12 := by omega
            rw [hsE, rnW_ans] at hW
            refine Rx.walk 3 (pc' := 107) (L' := [some (.ref 36), some (.ref 93), some (.ref 94), some (.int (iz top)), some (.int (iz i)), some (.int (iz s)), w6]) (st' := [.int (iz 1), .int (iz top), .ref 94]) (h' := cxW (u2 z 36 1 sz) (uf (uf f 93 lt) 94 g) C T rc tl) rfl ?_
            refine Rx.isub rfl ?_
            refine Rx.ial (g := g) rfl rfl (by omega) (by omega) (by omega) ?_
            refine Rx.ret rfl ?_
            exact hx0 _ _ hW.symm
        · rw [okW_let (by omega)] at hok
          rw [rnW_let (by omega)] at hW
          have hok1 := hok.1
          have hok2 := hok.2
          have hlb := hL (-13 - s) (by omega) (by omega)
          refine Rx.walk 2 (pc' := 49) (L' := [some (.ref 36), some (.ref 93), some (.ref 94), some (.int (iz top)), some (.int (iz i)), some (.int (iz s)), w6]) (st' := [.int (iz s), .int (iz (-13))]) (h' := cxW (u2 z 36 1 sz) (uf (uf f 93 lt) 94 g) C T rc tl) rfl ?_
          refine Rx.isub rfl ?_
          refine Rx.walk 4 (pc' := 55) (L' := [some (.ref 36), some (.ref 93), some (.ref 94), some (.int (iz top)), some (.int (iz i)), some (.int (iz s)), some (.int (iz ((-13) - s)))]) (st' := [.int (iz 161), .int (iz top)]) (h' := cxW (u2 z 36 1 sz) (uf (uf f 93 lt) 94 g) C T rc tl) rfl ?_
          refine Rx.ge2 rfl rfl ⟨by omega, by omega⟩ ⟨by omega, by omega⟩ (fun b26 => by omega) (fun b26 => ?_)
          refine Rx.walk 3 (pc' := 62) (L' := [some (.ref 36), some (.ref 93), some (.ref 94), some (.int (iz top)), some (.int (iz i)), some (.int (iz s)), some (.int (iz ((-13) - s)))]) (st' := [.int (iz 6), .int (iz ((-13) - s))]) (h' := cxW (u2 z 36 1 sz) (uf (uf f 93 lt) 94 g) C T rc tl) rfl ?_
          refine Rx.lt2 rfl rfl ⟨by omega, by omega⟩ ⟨by omega, by omega⟩ (fun b27 => ?_) (fun b27 => by omega)
          refine Rx.walk 3 (pc' := 71) (L' := [some (.ref 36), some (.ref 93), some (.ref 94), some (.int (iz top)), some (.int (iz i)), some (.int (iz s)), some (.int (iz ((-13) - s)))]) (st' := [.int (iz s), .int (iz top), .ref 94]) (h' := cxW (u2 z 36 1 sz) (uf (uf f 93 lt) 94 g) C T rc tl) rfl ?_
          refine Rx.lt1 rfl rfl ⟨by omega, by omega⟩ (fun b28 => ?_) (fun b28 => by omega)
          refine Rx.walk 2 (pc' := 82) (L' := [some (.ref 36), some (.ref 93), some (.ref 94), some (.int (iz top)), some (.int (iz i)), some (.int (iz s)), some (.int (iz ((-13) - s)))]) (st' := [.int (iz ((-13) - s)), .ref 93, .int (iz top), .ref 94]) (h' := cxW (u2 z 36 1 sz) (uf (uf f 93 lt) 94 g) C T rc tl) rfl ?_
          refine Rx.ial (g := lt) rfl rfl (by omega) (by omega) (by omega) ?_
          refine Rx.ias (g := g) (h' := cxW (u2 z 36 1 sz) (uf (uf f 93 lt) 94 (iu g top (lt ((-13) - s)))) C T rc tl) rfl rfl (by omega) (by omega) (by omega) rfl ?_
          refine Rx.iinc (b := 1) rfl rfl rfl ?_
          refine Rx.walk 0 (pc' := 87) (L' := [some (.ref 36), some (.ref 93), some (.ref 94), some (.int (iz (top + 1))), some (.int (iz i)), some (.int (iz s)), some (.int (iz ((-13) - s)))]) (st' := []) (h' := cxW (u2 z 36 1 sz) (uf (uf f 93 lt) 94 (iu g top (lt ((-13) - s)))) C T rc tl) rfl ?_
          refine Rx.walk 1 (pc' := 187) (L' := [some (.ref 36), some (.ref 93), some (.ref 94), some (.int (iz (top + 1))), some (.int (iz i)), some (.int (iz s)), some (.int (iz ((-13) - s)))]) (st' := []) (h' := cxW (u2 z 36 1 sz) (uf (uf f 93 lt) 94 (iu g top (lt ((-13) - s)))) C T rc tl) rfl ?_
          refine Rx.iinc (b := 1) rfl rfl rfl ?_
          refine Rx.walk 0 (pc' := 190) (L' := [some (.ref 36), some (.ref 93), some (.ref 94), some (.int (iz (top + 1))), some (.int (iz (i + 1))), some (.int (iz s)), some (.int (iz ((-13) - s)))]) (st' := []) (h' := cxW (u2 z 36 1 sz) (uf (uf f 93 lt) 94 (iu g top (lt ((-13) - s)))) C T rc tl) rfl ?_
          refine Rx.walk 1 (pc' := 5) (L' := [some (.ref 36), some (.ref 93), some (.ref 94), some (.int (iz (top + 1))), some (.int (iz (i + 1))), some (.int (iz s)), some (.int (iz ((-13) - s)))]) (st' := []) (h' := cxW (u2 z 36 1 sz) (uf (uf f 93 lt) 94 (iu g top (lt ((-13) - s)))) C T rc tl) rfl ?_
          exact ih (i + 1) (top + 1) (iu g top (lt ((-13) - s))) (some (.int (iz s))) (some (.int (iz ((-13) - s)))) ⟨by omega, by omega⟩ ⟨by omega, by omega⟩ (inB_iu hlb hg) (by rw [stA_push (by omega)]; exact hok2) (by rw [stA_push (by omega)]; exact hW) (by omega) 
set_option maxRecDepth 100000 in
set_option maxHeartbeats 4000000 in
theorem x_worth36 (d : Nat) (z : Nat → Nat → Int) (f : Nat → Int → Int) (C : Nat → CuR) (T : Nat → TsR) (rc : Nat → Nat) (tl : AmH)  (sz : Int) (ln : Nat) (cd : Int → Int) (lt : Int → Int) (g : Int → Int) (hrc : 98 ≤ rc 36 ∧ am_nth tl (rc 36 - 98) = some (.inl (.int, ln, .inl (av cd)))) (hsz : 0 ≤ sz ∧ sz ≤ 161 ∧ sz = (ln : Int)) (hcb : ∀ j : Int, 0 ≤ j → j < sz → sgB (cd j)) (hL : bdL lt) (hok : okW lt (crem cd 0 sz.toNat) false []) : Rx (d + 2) m_X6_worth 0 (am_ent [.ref 36, .ref 93, .ref 94] 7) [] (cxW (u2 z 36 1 sz) (uf (uf f 93 lt) 94 g) C T rc tl) (fun rv h => ∃ r : Int, ∃ g' : Int → Int, rv = some (.int (iz r)) ∧ h = cxW (u2 z 36 1 sz) (uf (uf f 93 lt) 94 g') C T rc tl ∧ r = rnW lt (crem cd 0 sz.toNat) false []) := by
  refine Rx.walk 0 (pc' := 0) (L' := [some (.ref 36), some (.ref 93), some (.ref 94), none, none, none, none]) (st' := []) (h' := cxW (u2 z 36 1 sz) (uf (uf f 93 lt) 94 g) C T rc tl) rfl ?_
  refine Rx.walk 4 (pc' := 5) (L' := [some (.ref 36), some (.ref 93), some (.ref 94), some (.int (iz 0)), some (.int (iz 0)), none, none]) (st' := []) (h' := cxW (u2 z 36 1 sz) (uf (uf f 93 lt) 94 g) C T rc tl) rfl ?_
  refine x_worth_l36 _ z f C T rc tl  sz ln cd lt (rnW lt (crem cd 0 sz.toNat) false []) hrc hsz hcb hL _ ?_ ((sz + 1 - 0) + 1 : Int).toNat 0 0 g none none ⟨by omega, by omega⟩ ⟨by omega, by omega⟩ (fun j a c => by exfalso; omega) (by rw [show sz - 0 = sz by omega]; exact hok) (by rw [show sz - 0 = sz by omega]; rfl) (by omega) 
  intro r_1 g_2 f3
  show (fun (rv : Option Value) (h : AmH) => ∃ r : Int, ∃ g' : Int → Int, rv = some (.int (iz r)) ∧ h = cxW (u2 z 36 1 sz) (uf (uf f 93 lt) 94 g') C T rc tl ∧ r = rnW lt (crem cd 0 sz.toNat) false []) (some (Value.int (iz r_1))) (cxW (u2 z 36 1 sz) (uf (uf f 93 lt) 94 g_2) C T rc tl)
  exact ⟨_, _, rfl, rfl, f3⟩
set_option maxRecDepth 100000 in
set_option maxHeartbeats 4000000 in
theorem x_nextA_l38 (d : Nat) (z : Nat → Nat → Int) (f : Nat → Int → Int) (C : Nat → CuR) (T : Nat → TsR) (rc : Nat → Nat) (tl : AmH)  (i0 : Int) (sz : Int) (ln : Nat) (cd : Int → Int) (hrc : 98 ≤ rc 38 ∧ am_nth tl (rc 38 - 98) = some (.inl (.int, ln, .inl (av cd)))) (hsz : 0 ≤ sz ∧ sz ≤ 161 ∧ sz = (ln : Int)) (hcb : ∀ j : Int, 0 ≤ j → j < sz → sgB (cd j)) (P : Option Value → AmH → Prop) (hx0 : ∀ (r : Int), (i0 ≤ r ∧ r ≤ sz) → (r < sz → cd r = -12) → (∀ j : Int, i0 ≤ j → j < r → cd j ≠ -12) → P (some (.int (iz r))) (cxW (u2 z 38 1 sz) f C T rc tl)) : ∀ (kF : Nat) (i : Int), (0 ≤ i0 ∧ i0 ≤ i ∧ i ≤ sz) → (∀ j : Int, i0 ≤ j → j < i → cd j ≠ -12) → (sz - i) < (kF : Int) → Rx (d) m_X6_nextAnswer 2 [some (.ref 38), some (.int (iz i0)), some (.int (iz i))] [] (cxW (u2 z 38 1 sz) f C T rc tl) P := by
  obtain ⟨hz0, hz1, hz2⟩ := id hsz
  intro kF
  induction kF with
  | zero =>
    intro i hi hj hk
    exfalso; omega
  | succ kF ih =>
    intro i hi hj hk
    refine Rx.walk 3 (pc' := 7) (L' := [some (.ref 38), some (.int (iz i0)), some (.int (iz i))]) (st' := [.int (iz sz), .int (iz i)]) (h' := cxW (u2 z 38 1 sz) f C T rc tl) rfl ?_
    refine Rx.ge2 rfl rfl ⟨by omega, by omega⟩ ⟨by omega, by omega⟩ (fun b1 => ?_) (fun b1 => ?_)
    · refine Rx.walk 2 (pc' := 33) (L' := [some (.ref 38), some (.int (iz i0)), some (.int (iz i))]) (st' := [.int (iz sz)]) (h' := cxW (u2 z 38 1 sz) f C T rc tl) rfl ?_
      refine Rx.ret rfl ?_
      exact hx0 _ ⟨by omega, by omega⟩ (fun q => by first | (rw [← hs]; omega) | (exfalso; omega)) (fun j a c => hj j a (by omega))
    · refine Rx.walk 3 (pc' := 15) (L' := [some (.ref 38), some (.int (iz i0)), some (.int (iz i))]) (st' := [.int (iz i), .ref (rc 38)]) (h' := cxW (u2 z 38 1 sz) f C T rc tl) rfl ?_
      refine Rx.ial (g := cd) rfl (cW_tl hrc.1 hrc.2) (by omega) (by omega) (by omega) ?_
      obtain ⟨hsb, hsc⟩ := hcb i (by omega) (by omega)
      obtain ⟨s, hs⟩ : ∃ s, s = cd i := ⟨_, rfl⟩
      rw [← hs] at hsb hsc ⊢
      refine Rx.walk 1 (pc' := 18) (L' := [some (.ref 38), some (.int (iz i0)), some (.int (iz i))]) (st' := [.int (iz (-12)), .int (iz s)]) (h' := cxW (u2 z 38 1 sz) f C T rc tl) rfl ?_
      refine Rx.ne2 rfl rfl ⟨by omega, by omega⟩ ⟨by omega, by omega⟩ (fun b2 => ?_) (fun b2 => ?_)
      · refine Rx.iinc (b := 1) rfl rfl rfl ?_
        refine Rx.walk 0 (pc' := 26) (L' := [some (.ref 38), some (.int (iz i0)), some (.int (iz (i + 1)))]) (st' := []) (h' := cxW (u2 z 38 1 sz) f C T rc tl) rfl ?_
        refine Rx.walk 1 (pc' := 2) (L' := [some (.ref 38), some (.int (iz i0)), some (.int (iz (i + 1)))]) (st' := []) (h' := cxW (u2 z 38 1 sz) f C T rc tl) rfl ?_
        exact ih (i + 1) ⟨by omega, by omega, by omega⟩ (fun j a c => by rcases Int.lt_or_le j i with q | q; exact hj j a q; (obtain rfl : j = i := (by omega); rw [← hs]; omega)) (by first | assumption | omega) 
      · refine Rx.walk 1 (pc' := 22) (L' := [some (.ref 38), some (.int (iz i0)), some (.int (iz i))]) (st' := [.int (iz i)]) (h' := cxW (u2 z 38 1 sz) f C T rc tl) rfl ?_
        refine Rx.ret rfl ?_
        exact hx0 _ ⟨by omega, by omega⟩ (fun q => by first | (rw [← hs]; omega) | (exfalso; omega)) (fun j a c => hj j a (by omega))
set_option maxRecDepth 100000 in
set_option maxHeartbeats 4000000 in
theorem x_nextA38 (d : Nat) (z : Nat → Nat → Int) (f : Nat → Int → Int) (C : Nat → CuR) (T : Nat → TsR) (rc : Nat → Nat) (tl : AmH)  (sz : Int) (ln : Nat) (cd : Int → Int) (i : Int) (hrc : 98 ≤ rc 38 ∧ am_nth tl (rc 38 - 98) = some (.inl (.int, ln, .inl (av cd)))) (hsz : 0 ≤ sz ∧ sz ≤ 161 ∧ sz = (ln : Int)) (hcb : ∀ j : Int, 0 ≤ j → j < sz → sgB (cd j)) (hi : 0 ≤ i ∧ i ≤ sz) : Rx (d) m_X6_nextAnswer 0 (am_ent [.ref 38, .int (iz i)] 3) [] (cxW (u2 z 38 1 sz) f C T rc tl) (fun rv h => ∃ r : Int, rv = some (.int (iz r)) ∧ h = cxW (u2 z 38 1 sz) f C T rc tl ∧ (i ≤ r ∧ r ≤ sz) ∧ (r < sz → cd r = -12) ∧ (∀ j : Int, i ≤ j → j < r → cd j ≠ -12)) := by
  refine Rx.walk 0 (pc' := 0) (L' := [some (.ref 38), some (.int (iz i)), none]) (st' := []) (h' := cxW (u2 z 38 1 sz) f C T rc tl) rfl ?_
  refine Rx.walk 2 (pc' := 2) (L' := [some (.ref 38), some (.int (iz i)), some (.int (iz i))]) (st' := []) (h' := cxW (u2 z 38 1 sz) f C T rc tl) rfl ?_
  refine x_nextA_l38 _ z f C T rc tl  i sz ln cd hrc hsz hcb _ ?_ ((sz - i) + 1 : Int).toNat i ⟨by omega, by omega, by omega⟩ (fun j a c => by exfalso; omega) (by omega) 
  intro r_1 f2 f3 f4
  show (fun (rv : Option Value) (h : AmH) => ∃ r : Int, rv = some (.int (iz r)) ∧ h = cxW (u2 z 38 1 sz) f C T rc tl ∧ (i ≤ r ∧ r ≤ sz) ∧ (r < sz → cd r = -12) ∧ (∀ j : Int, i ≤ j → j < r → cd j ≠ -12)) (some (Value.int (iz r_1))) (cxW (u2 z 38 1 sz) f C T rc tl)
  exact ⟨_, rfl, rfl, f2, f3, f4⟩
set_option maxRecDepth 100000 in
set_option maxHeartbeats 4000000 in
theorem x_worth_l38 (d : Nat) (z : Nat → Nat → Int) (f : Nat → Int → Int) (C : Nat → CuR) (T : Nat → TsR) (rc : Nat → Nat) (tl : AmH)  (sz : Int) (ln : Nat) (cd : Int → Int) (lt : Int → Int) (W : Int) (hrc : 98 ≤ rc 38 ∧ am_nth tl (rc 38 - 98) = some (.inl (.int, ln, .inl (av cd)))) (hsz : 0 ≤ sz ∧ sz ≤ 161 ∧ sz = (ln : Int)) (hcb : ∀ j : Int, 0 ≤ j → j < sz → sgB (cd j)) (hL : bdL lt) (P : Option Value → AmH → Prop) (hx0 : ∀ (r : Int) (g' : Int → Int), (r = W) → P (some (.int (iz r))) (cxW (u2 z 38 1 sz) (uf (uf f 93 lt) 94 g') C T rc tl)) : ∀ (kF : Nat) (i : Int) (top : Int) (g : Int → Int) (w5 : Option Value) (w6 : Option Value), (0 ≤ i ∧ i ≤ sz + 1) → (0 ≤ top ∧ top ≤ i) → (∀ j : Int, 0 ≤ j → j < top → inB (g j)) → (okW lt (crem cd i (sz - i).toNat) false (stA g top.toNat)) → (W = rnW lt (crem cd i (sz - i).toNat) false (stA g top.toNat)) → (sz + 1 - i) < (kF : Int) → Rx (d + 2) m_X6_worth 5 [some (.ref 38), some (.ref 93), some (.ref 94), some (.int (iz top)), some (.int (iz i)), w5, w6] [] (cxW (u2 z 38 1 sz) (uf (uf f 93 lt) 94 g) C T rc tl) P := by
  obtain ⟨hz0, hz1, hz2⟩ := id hsz
  intro kF
  induction kF with
  | zero =>
    intro i top g w5 w6 hi ht hg hok hW hk
    exfalso; omega
  | succ kF ih =>
    intro i top g w5 w6 hi ht hg hok hW hk
    refine Rx.walk 3 (pc' := 11) (L' := [some (.ref 38), some (.ref 93), some (.ref 94), some (.int (iz top)), some (.int (iz i)), w5, w6]) (st' := [.int (iz sz), .int (iz i)]) (h' := cxW (u2 z 38 1 sz) (uf (uf f 93 lt) 94 g) C T rc tl) rfl ?_
    refine Rx.ge2 rfl rfl ⟨by omega, by omega⟩ ⟨by omega, by omega⟩ (fun b1 => ?_) (fun b1 => ?_)
    · refine Rx.walk 1 (pc' := 194) (L' := [some (.ref 38), some (.ref 93), some (.ref 94), some (.int (iz top)), some (.int (iz i)), w5, w6]) (st' := [.int (iz 0)]) (h' := cxW (u2 z 38 1 sz) (uf (uf f 93 lt) 94 g) C T rc tl) rfl ?_
      refine Rx.ret rfl ?_
      exact hx0 _ _ (by rw [crem_z (by omega)] at hW; exact hW.symm)
    · refine Rx.walk 3 (pc' := 20) (L' := [some (.ref 38), some (.ref 93), some (.ref 94), some (.int (iz top)), some (.int (iz i)), w5, w6]) (st' := [.ref (rc 38), .int (iz i)]) (h' := cxW (u2 z 38 1 sz) (uf (uf f 93 lt) 94 g) C T rc tl) rfl ?_
      refine Rx.alS rfl (cW_tl hrc.1 hrc.2) ?_
      refine Rx.ge2 rfl rfl ⟨by omega, by omega⟩ ⟨by omega, by omega⟩ (fun b2 => by omega) (fun b2 => ?_)
      rw [crem_s (show i < sz by omega)] at hok hW
      refine Rx.walk 3 (pc' := 30) (L' := [some (.ref 38), some (.ref 93), some (.ref 94), some (.int (iz top)), some (.int (iz i)), w5, w6]) (st' := [.int (iz i), .ref (rc 38)]) (h' := cxW (u2 z 38 1 sz) (uf (uf f 93 lt) 94 g) C T rc tl) rfl ?_
      refine Rx.ial (g := cd) rfl (cW_tl hrc.1 hrc.2) (by omega) (by omega) (by omega) ?_
      obtain ⟨hsb, hsc⟩ := hcb i (by omega) (by omega)
      obtain ⟨s, hs⟩ : ∃ s, s = cd i := ⟨_, rfl⟩
      rw [← hs] at hsb hsc hok hW ⊢
      refine Rx.walk 2 (pc' := 35) (L' := [some (.ref 38), some (.ref 93), some (.ref 94), some (.int (iz top)), some (.int (iz i)), some (.int (iz s)), w6]) (st' := [.int (iz s)]) (h' := cxW (u2 z 38 1 sz) (uf (uf f 93 lt) 94 g) C T rc tl) rfl ?_
      refine Rx.ge1 rfl rfl ⟨by omega, by omega⟩ (fun b3 => ?_) (fun b3 => ?_)
      · rw [okW_num (by omega)] at hok
        rw [rnW_num (by omega)] at hW
        have hok1 := hok.1
        have hok2 := hok.2
        refine Rx.walk 2 (pc' := 49) (L' := [some (.ref 38), some (.ref 93), some (.ref 94), some (.int (iz top)), some (.int (iz i)), some (.int (iz s)), w6]) (st' := [.int (iz s), .int (iz (-13))]) (h' := cxW (u2 z 38 1 sz) (uf (uf f 93 lt) 94 g) C T rc tl) rfl ?_
        refine Rx.isub rfl ?_
        refine Rx.walk 4 (pc' := 55) (L' := [some (.ref 38), some (.ref 93), some (.ref 94), some (.int (iz top)), some (.int (iz i)), some (.int (iz s)), some (.int (iz ((-13) - s)))]) (st' := [.int (iz 161), .int (iz top)]) (h' := cxW (u2 z 38 1 sz) (uf (uf f 93 lt) 94 g) C T rc tl) rfl ?_
        refine Rx.ge2 rfl rfl ⟨by omega, by omega⟩ ⟨by omega, by omega⟩ (fun b4 => by omega) (fun b4 => ?_)
        refine Rx.walk 3 (pc' := 62) (L' := [some (.ref 38), some (.ref 93), some (.ref 94), some (.int (iz top)), some (.int (iz i)), some (.int (iz s)), some (.int (iz ((-13) - s)))]) (st' := [.int (iz 6), .int (iz ((-13) - s))]) (h' := cxW (u2 z 38 1 sz) (uf (uf f 93 lt) 94 g) C T rc tl) rfl ?_
        refine Rx.lt2 rfl rfl ⟨by omega, by omega⟩ ⟨by omega, by omega⟩ (fun b5 => ?_) (fun b5 => by omega)
        refine Rx.walk 3 (pc' := 71) (L' := [some (.ref 38), some (.ref 93), some (.ref 94), some (.int (iz top)), some (.int (iz i)), some (.int (iz s)), some (.int (iz ((-13) - s)))]) (st' := [.int (iz s), .int (iz top), .ref 94]) (h' := cxW (u2 z 38 1 sz) (uf (uf f 93 lt) 94 g) C T rc tl) rfl ?_
        refine Rx.lt1 rfl rfl ⟨by omega, by omega⟩ (fun b6 => by omega) (fun b6 => ?_)
        refine Rx.walk 2 (pc' := 83) (L' := [some (.ref 38), some (.ref 93), some (.ref 94), some (.int (iz top)), some (.int (iz i)), some (.int (iz s)), some (.int (iz ((-13) - s)))]) (st' := [.int (iz s), .int (iz top), .ref 94]) (h' := cxW (u2 z 38 1 sz) (uf (uf f 93 lt) 94 g) C T rc tl) rfl ?_
        refine Rx.ias (g := g) (h' := cxW (u2 z 38 1 sz) (uf (uf f 93 lt) 94 (iu g top s)) C T rc tl) rfl rfl (by omega) (by omega) (by omega) rfl ?_
        refine Rx.iinc (b := 1) rfl rfl rfl ?_
        refine Rx.walk 0 (pc' := 87) (L' := [some (.ref 38), some (.ref 93), some (.ref 94), some (.int (iz (top + 1))), some (.int (iz i)), some (.int (iz s)), some (.int (iz ((-13) - s)))]) (st' := []) (h' := cxW (u2 z 38 1 sz) (uf (uf f 93 lt) 94 (iu g top s)) C T rc tl) rfl ?_
        refine Rx.walk 1 (pc' := 187) (L' := [some (.ref 38), some (.ref 93), some (.ref 94), some (.int (iz (top + 1))), some (.int (iz i)), some (.int (iz s)), some (.int (iz ((-13) - s)))]) (st' := []) (h' := cxW (u2 z 38 1 sz) (uf (uf f 93 lt) 94 (iu g top s)) C T rc tl) rfl ?_
        refine Rx.iinc (b := 1) rfl rfl rfl ?_
        refine Rx.walk 0 (pc' := 190) (L' := [some (.ref 38), some (.ref 93), some (.ref 94), some (.int (iz (top + 1))), some (.int (iz (i + 1))), some (.int (iz s)), some (.int (iz ((-13) - s)))]) (st' := []) (h' := cxW (u2 z 38 1 sz) (uf (uf f 93 lt) 94 (iu g top s)) C T rc tl) rfl ?_
        refine Rx.walk 1 (pc' := 5) (L' := [some (.ref 38), some (.ref 93), some (.ref 94), some (.int (iz (top + 1))), some (.int (iz (i + 1))), some (.int (iz s)), some (.int (iz ((-13) - s)))]) (st' := []) (h' := cxW (u2 z 38 1 sz) (uf (uf f 93 lt) 94 (iu g top s)) C T rc tl) rfl ?_
        exact ih (i + 1) (top + 1) (iu g top s) (some (.int (iz s))) (some (.int (iz ((-13) - s)))) ⟨by omega, by omega⟩ ⟨by omega, by omega⟩ (inB_iu (show inB s from ⟨by omega, by omega⟩) hg) (by rw [stA_push (by omega)]; exact hok2) (by rw [stA_push (by omega)]; exact hW) (by omega) 
      · refine Rx.walk 2 (pc' := 42) (L' := [some (.ref 38), some (.ref 93), some (.ref 94), some (.int (iz top)), some (.int (iz i)), some (.int (iz s)), w6]) (st' := [.int (iz (-13)), .int (iz s)]) (h' := cxW (u2 z 38 1 sz) (uf (uf f 93 lt) 94 g) C T rc tl) rfl ?_
        refine Rx.gt2 rfl rfl ⟨by omega, by omega⟩ ⟨by omega, by omega⟩ (fun b7 => ?_) (fun b7 => ?_)
        · rw [okW_lo (by omega) (by omega)] at hok
          have hlen := stA_len g top.toNat
          have ht1 : 1 ≤ top := by have := hok.1; omega
          have hlen2 : 2 ≤ (stA g top.toNat).length → 2 ≤ top := fun q => by omega
          rw [stA_s ht1] at hok hW
          have hok2 := hok.2
          have hx := hg (top - 1) (by omega) (by omega)
          obtain ⟨hxa, hxb⟩ := id hx
          refine Rx.walk 2 (pc' := 92) (L' := [some (.ref 38), some (.ref 93), some (.ref 94), some (.int (iz top)), some (.int (iz i)), some (.int (iz s)), w6]) (st' := [.int (iz 1), .int (iz top)]) (h' := cxW (u2 z 38 1 sz) (uf (uf f 93 lt) 94 g) C T rc tl) rfl ?_
          refine Rx.ge2 rfl rfl ⟨by omega, by omega⟩ ⟨by omega, by omega⟩ (fun b8 => ?_) (fun b8 => by omega)
          refine Rx.walk 2 (pc' := 101) (L' := [some (.ref 38), some (.ref 93), some (.ref 94), some (.int (iz top)), some (.int (iz i)), some (.int (iz s)), w6]) (st' := [.int (iz (-12)), .int (iz s)]) (h' := cxW (u2 z 38 1 sz) (uf (uf f 93 lt) 94 g) C T rc tl) rfl ?_
          refine Rx.ne2 rfl rfl ⟨by omega, by omega⟩ ⟨by omega, by omega⟩ (fun b9 => ?_) (fun b9 => ?_)
          · refine Rx.walk 2 (pc' := 114) (L' := [some (.ref 38), some (.ref 93), some (.ref 94), some (.int (iz top)), some (.int (iz i)), some (.int (iz s)), w6]) (st' := [.int (iz (-11)), .int (iz s)]) (h' := cxW (u2 z 38 1 sz) (uf (uf f 93 lt) 94 g) C T rc tl) rfl ?_
            refine Rx.ne2 rfl rfl ⟨by omega, by omega⟩ ⟨by omega, by omega⟩ (fun b10 => ?_) (fun b10 => ?_)
            · refine Rx.walk 2 (pc' := 141) (L' := [some (.ref 38), some (.ref 93), some (.ref 94), some (.int (iz top)), some (.int (iz i)), some (.int (iz s)), w6]) (st' := [.int (iz (-10)), .int (iz s)]) (h' := cxW (u2 z 38 1 sz) (uf (uf f 93 lt) 94 g) C T rc tl) rfl ?_
              refine Rx.ne2 rfl rfl ⟨by omega, by omega⟩ ⟨by omega, by omega⟩ (fun b11 => ?_) (fun b11 => ?_)
              · rw [if_neg (by omega), if_neg (by omega), if_neg (by omega)] at hok2
                have ht2 : 2 ≤ top := hlen2 (by rw [hlen]; have h3 := hok2.1; have h4 := stA_len g (top - 1).toNat; have h5 : 2 ≤ (stA g (top - 1).toNat).length + 1 := h3; omega)
                rw [stA_s (show 1 ≤ top - 1 by omega)] at hok2 hW
                rw [rnW_op (by omega) (by omega)] at hW
                replace hok2 : (s = -8 ∨ s = -9 → (g (top - 1) = 0 ∨ g (top - 1) = 1) ∧ (g (top - 1 - 1) = 0 ∨ g (top - 1 - 1) = 1)) ∧ okW lt (crem cd (i + 1) (sz - (i + 1)).toNat) false (rk s (g (top - 1 - 1)) (g (top - 1)) :: stA g (top - 1 - 1).toNat) := hok2.2
                have hy := hg (top - 1 - 1) (by omega) (by omega)
                refine Rx.walk 2 (pc' := 161) (L' := [some (.ref 38), some (.ref 93), some (.ref 94), some (.int (iz top)), some (.int (iz i)), some (.int (iz s)), w6]) (st' := [.int (iz 2), .int (iz top)]) (h' := cxW (u2 z 38 1 sz) (uf (uf f 93 lt) 94 g) C T rc tl) rfl ?_
                refine Rx.ge2 rfl rfl ⟨by omega, by omega⟩ ⟨by omega, by omega⟩ (fun b12 => ?_) (fun b12 => by omega)
                refine Rx.iinc (b := -1) rfl rfl rfl ?_
                refine Rx.walk 0 (pc' := 169) (L' := [some (.ref 38), some (.ref 93), some (.ref 94), some (.int (iz (top + (-1)))), some (.int (iz i)), some (.int (iz s)), w6]) (st' := []) (h' := cxW (u2 z 38 1 sz) (uf (uf f 93 lt) 94 g) C T rc tl) rfl ?_
                refine Rx.walk 0 (pc' := 169) (L' := [some (.ref 38), some (.ref 93), some (.ref 94), some (.int (iz (top - 1))), some (.int (iz i)), some (.int (iz s)), w6]) (st' := []) (h' := cxW (u2 z 38 1 sz) (uf (uf f 93 lt) 94 g) C T rc tl) rfl ?_
                refine Rx.walk 3 (pc' := 172) (L' := [some (.ref 38), some (.ref 93), some (.ref 94), some (.int (iz (top - 1))), some (.int (iz i)), some (.int (iz s)), w6]) (st' := [.int (iz 1), .int (iz (top - 1)), .ref 94]) (h' := cxW (u2 z 38 1 sz) (uf (uf f 93 lt) 94 g) C T rc tl) rfl ?_
                refine Rx.isub rfl ?_
                refine Rx.walk 4 (pc' := 178) (L' := [some (.ref 38), some (.ref 93), some (.ref 94), some (.int (iz (top - 1))), some (.int (iz i)), some (.int (iz s)), w6]) (st' := [.int (iz 1), .int (iz (top - 1)), .ref 94, .int (iz s), .int (iz ((top - 1) - 1)), .ref 94]) (h' := cxW (u2 z 38 1 sz) (uf (uf f 93 lt) 94 g) C T rc tl) rfl ?_
                refine Rx.isub rfl ?_
                refine Rx.ial (g := g) rfl rfl (by omega) (by omega) (by omega) ?_
                refine Rx.walk 2 (pc' := 182) (L' := [some (.ref 38), some (.ref 93), some (.ref 94), some (.int (iz (top - 1))), some (.int (iz i)), some (.int (iz s)), w6]) (st' := [.int (iz (top - 1)), .ref 94, .int (iz (g ((top - 1) - 1))), .int (iz s), .int (iz ((top - 1) - 1)), .ref 94]) (h' := cxW (u2 z 38 1 sz) (uf (uf f 93 lt) 94 g) C T rc tl) rfl ?_
                refine Rx.ial (g := g) rfl rfl (by omega) (by omega) (by omega) ?_
                refine Rx.callx (m' := m_X6_reckon) (as := [.int (iz s), .int (iz (g ((top - 1) - 1))), .int (iz (g (top - 1)))]) (rest := [.int (iz ((top - 1) - 1)), .ref 94]) rfl (x_reckon _ (cxW (u2 z 38 1 sz) (uf (uf f 93 lt) 94 g) C T rc tl)  s (g ((top - 1) - 1)) (g (top - 1)) ⟨by omega, by omega⟩ hy hx hok2.1) (fun v15 h16 q17 => ?_)
                obtain ⟨r_13, rfl, rfl, f14⟩ := q17
                refine Rx.walk 0 (pc' := 186) (L' := [some (.ref 38), some (.ref 93), some (.ref 94), some (.int (iz (top - 1))), some (.int (iz i)), some (.int (iz s)), w6]) (st' := [.int (iz r_13), .int (iz ((top - 1) - 1)), .ref 94]) (h' := cxW (u2 z 38 1 sz) (uf (uf f 93 lt) 94 g) C T rc tl) rfl ?_
                refine Rx.ias (g := g) (h' := cxW (u2 z 38 1 sz) (uf (uf f 93 lt) 94 (iu g ((top - 1) - 1) r_13)) C T rc tl) rfl rfl (by omega) (by omega) (by omega) rfl ?_
                refine Rx.iinc (b := 1) rfl rfl rfl ?_
                refine Rx.walk 0 (pc' := 190) (L' := [some (.ref 38), some (.ref 93), some (.ref 94), some (.int (iz (top - 1))), some (.int (iz (i + 1))), some (.int (iz s)), w6]) (st' := []) (h' := cxW (u2 z 38 1 sz) (uf (uf f 93 lt) 94 (iu g ((top - 1) - 1) r_13)) C T rc tl) rfl ?_
                refine Rx.walk 1 (pc' := 5) (L' := [some (.ref 38), some (.ref 93), some (.ref 94), some (.int (iz (top - 1))), some (.int (iz (i + 1))), some (.int (iz s)), w6]) (st' := []) (h' := cxW (u2 z 38 1 sz) (uf (uf f 93 lt) 94 (iu g ((top - 1) - 1) r_13)) C T rc tl) rfl ?_
                exact ih (i + 1) (top - 1) (iu g ((top - 1) - 1) r_13) (some (.int (iz s))) w6 ⟨by omega, by omega⟩ ⟨by omega, by omega⟩ (by have q := inB_iu (t := top - 1 - 1) (v := r_13) (g := g) (by rw [f14]; exact rk_b hy) (fun j a c => hg j a (by omega)); rw [show top - 1 - 1 + 1 = top - 1 by omega] at q; exact q) (by have q := stA_push (g := g) (t := top - 1 - 1) (v := r_13) (by omega); rw [show top - 1 - 1 + 1 = top - 1 by omega] at q; rw [q, f14]; exact hok2.2) (by have q := stA_push (g := g) (t := top - 1 - 1) (v := r_13) (by omega); rw [show top - 1 - 1 + 1 = top - 1 by omega] at q; rw [q, f14]; exact hW) (by omega) 
              · have hsE : s = -10 := by omega
                rw [hsE, rnW_not] at hW
                rw [if_neg (by omega), if_neg (by omega), if_pos hsE] at hok2
                replace hok2 : (g (top - 1) = 0 ∨ g (top - 1) = 1) ∧ okW lt (crem cd (i + 1) (sz - (i + 1)).toNat) false ((1 - g (top - 1)) :: stA g (top - 1).toNat) := hok2
                refine Rx.walk 3 (pc' := 147) (L' := [some (.ref 38), some (.ref 93), some (.ref 94), some (.int (iz top)), some (.int (iz i)), some (.int (iz s)), w6]) (st' := [.int (iz 1), .int (iz top), .ref 94]) (h' := cxW (u2 z 38 1 sz) (uf (uf f 93 lt) 94 g) C T rc tl) rfl ?_
                refine Rx.isub rfl ?_
                refine Rx.walk 4 (pc' := 152) (L' := [some (.ref 38), some (.ref 93), some (.ref 94), some (.int (iz top)), some (.int (iz i)), some (.int (iz s)), w6]) (st' := [.int (iz 1), .int (iz top), .ref 94, .int (iz 1), .int (iz (top - 1)), .ref 94]) (h' := cxW (u2 z 38 1 sz) (uf (uf f 93 lt) 94 g) C T rc tl) rfl ?_
                refine Rx.isub rfl ?_
                refine Rx.ial (g := g) rfl rfl (by omega) (by omega) (by omega) ?_
                refine Rx.isub rfl ?_
                refine Rx.ias (g := g) (h' := cxW (u2 z 38 1 sz) (uf (uf f 93 lt) 94 (iu g (top - 1) (1 - (g (top - 1))))) C T rc tl) rfl rfl (by omega) (by omega) (by omega) rfl ?_
                refine Rx.walk 1 (pc' := 187) (L' := [some (.ref 38), some (.ref 93), some (.ref 94), some (.int (iz top)), some (.int (iz i)), some (.int (iz s)), w6]) (st' := []) (h' := cxW (u2 z 38 1 sz) (uf (uf f 93 lt) 94 (iu g (top - 1) (1 - (g (top - 1))))) C T rc tl) rfl ?_
                refine Rx.iinc (b := 1) rfl rfl rfl ?_
                refine Rx.walk 0 (pc' := 190) (L' := [some (.ref 38), some (.ref 93), some (.ref 94), some (.int (iz top)), some (.int (iz (i + 1))), some (.int (iz s)), w6]) (st' := []) (h' := cxW (u2 z 38 1 sz) (uf (uf f 93 lt) 94 (iu g (top - 1) (1 - (g (top - 1))))) C T rc tl) rfl ?_
                refine Rx.walk 1 (pc' := 5) (L' := [some (.ref 38), some (.ref 93), some (.ref 94), some (.int (iz top)), some (.int (iz (i + 1))), some (.int (iz s)), w6]) (st' := []) (h' := cxW (u2 z 38 1 sz) (uf (uf f 93 lt) 94 (iu g (top - 1) (1 - (g (top - 1))))) C T rc tl) rfl ?_
                exact ih (i + 1) top (iu g (top - 1) (1 - (g (top - 1)))) (some (.int (iz s))) w6 ⟨by omega, by omega⟩ ⟨by omega, by omega⟩ (by have q := inB_iu (t := top - 1) (v := 1 - g (top - 1)) (g := g) ⟨by omega, by omega⟩ (fun j a c => hg j a (by omega)); rw [show top - 1 + 1 = top by omega] at q; exact q) (by have q := stA_push (g := g) (t := top - 1) (v := 1 - g (top - 1)) (by omega); rw [show top - 1 + 1 = top by omega] at q; rw [q]; exact hok2.2) (by have q := stA_push (g := g) (t := top - 1) (v := 1 - g (top - 1)) (by omega); rw [show top - 1 + 1 = top by omega] at q; rw [q]; exact hW) (by omega) 
            · have hsE : s = -11 := by omega
              rw [hsE, rnW_unl] at hW
              rw [if_neg (by omega), if_pos hsE] at hok2
              replace hok2 : okW lt (crem cd (i + 1) (sz - (i + 1)).toNat) (decide (g (top - 1) = 0)) (stA g (top - 1).toNat) := hok2
              refine Rx.iinc (b := -1) rfl rfl rfl ?_
              refine Rx.walk 0 (pc' := 120) (L' := [some (.ref 38), some (.ref 93), some (.ref 94), some (.int (iz (top + (-1)))), some (.int (iz i)), some (.int (iz s)), w6]) (st' := []) (h' := cxW (u2 z 38 1 sz) (uf (uf f 93 lt) 94 g) C T rc tl) rfl ?_
              refine Rx.walk 0 (pc' := 120) (L' := [some (.ref 38), some (.ref 93), some (.ref 94), some (.int (iz (top - 1))), some (.int (iz i)), some (.int (iz s)), w6]) (st' := []) (h' := cxW (u2 z 38 1 sz) (uf (uf f 93 lt) 94 g) C T rc tl) rfl ?_
              refine Rx.walk 2 (pc' := 122) (L' := [some (.ref 38), some (.ref 93), some (.ref 94), some (.int (iz (top - 1))), some (.int (iz i)), some (.int (iz s)), w6]) (st' := [.int (iz (top - 1)), .ref 94]) (h' := cxW (u2 z 38 1 sz) (uf (uf f 93 lt) 94 g) C T rc tl) rfl ?_
              refine Rx.ial (g := g) rfl rfl (by omega) (by omega) (by omega) ?_
              refine Rx.ne1 rfl rfl ⟨by omega, by omega⟩ (fun b18 => ?_) (fun b18 => ?_)
              · refine Rx.iinc (b := 1) rfl rfl rfl ?_
                refine Rx.walk 0 (pc' := 190) (L' := [some (.ref 38), some (.ref 93), some (.ref 94), some (.int (iz (top - 1))), some (.int (iz (i + 1))), some (.int (iz s)), w6]) (st' := []) (h' := cxW (u2 z 38 1 sz) (uf (uf f 93 lt) 94 g) C T rc tl) rfl ?_
                refine Rx.walk 1 (pc' := 5) (L' := [some (.ref 38), some (.ref 93), some (.ref 94), some (.int (iz (top - 1))), some (.int (iz (i + 1))), some (.int (iz s)), w6]) (st' := []) (h' := cxW (u2 z 38 1 sz) (uf (uf f 93 lt) 94 g) C T rc tl) rfl ?_
                have hbn : ¬ g (top - 1) = 0 := by omega
                exact ih (i + 1) (top - 1) g (some (.int (iz s))) w6 ⟨by omega, by omega⟩ ⟨by omega, by omega⟩ (fun j a c => hg j a (by omega)) (by rw [decide_eq_false hbn] at hok2; exact hok2) (by rw [decide_eq_false hbn] at hW; exact hW) (by omega) 
              · refine Rx.walk 2 (pc' := 129) (L' := [some (.ref 38), some (.ref 93), some (.ref 94), some (.int (iz (top - 1))), some (.int (iz i)), some (.int (iz s)), w6]) (st' := [.int (iz i), .ref 38]) (h' := cxW (u2 z 38 1 sz) (uf (uf f 93 lt) 94 g) C T rc tl) rfl ?_
                refine Rx.callx (m' := m_X6_nextAnswer) (as := [.ref 38, .int (iz i)]) (rest := []) rfl (x_nextA38 _ z (uf (uf f 93 lt) 94 g) C T rc tl  sz ln cd i hrc hsz hcb ⟨by omega, by omega⟩) (fun v23 h24 q25 => ?_)
                obtain ⟨r_19, rfl, rfl, f20, f21, f22⟩ := q25
                refine Rx.walk 0 (pc' := 132) (L' := [some (.ref 38), some (.ref 93), some (.ref 94), some (.int (iz (top - 1))), some (.int (iz i)), some (.int (iz s)), w6]) (st' := [.int (iz r_19)]) (h' := cxW (u2 z 38 1 sz) (uf (uf f 93 lt) 94 g) C T rc tl) rfl ?_
                refine Rx.walk 2 (pc' := 187) (L' := [some (.ref 38), some (.ref 93), some (.ref 94), some (.int (iz (top - 1))), some (.int (iz r_19)), some (.int (iz s)), w6]) (st' := []) (h' := cxW (u2 z 38 1 sz) (uf (uf f 93 lt) 94 g) C T rc tl) rfl ?_
                refine Rx.iinc (b := 1) rfl rfl rfl ?_
                refine Rx.walk 0 (pc' := 190) (L' := [some (.ref 38), some (.ref 93), some (.ref 94), some (.int (iz (top - 1))), some (.int (iz (r_19 + 1))), some (.int (iz s)), w6]) (st' := []) (h' := cxW (u2 z 38 1 sz) (uf (uf f 93 lt) 94 g) C T rc tl) rfl ?_
                refine Rx.walk 1 (pc' := 5) (L' := [some (.ref 38), some (.ref 93), some (.ref 94), some (.int (iz (top - 1))), some (.int (iz (r_19 + 1))), some (.int (iz s)), w6]) (st' := []) (h' := cxW (u2 z 38 1 sz) (uf (uf f 93 lt) 94 g) C T rc tl) rfl ?_
                have hbz : g (top - 1) = 0 := by omega
                have hri : r_19 ≠ i := fun q => by have q2 := f21 (by omega); rw [q] at q2; omega
                have hsk := rnW_na (L := lt) (cd := cd) (sz := sz) (r := r_19) (st := stA g (top - 1).toNat) (by omega) f21 (r_19 - (i + 1)).toNat (i + 1) (by omega) (fun j a c => f22 j (by omega) c)
                exact ih (r_19 + 1) (top - 1) g (some (.int (iz s))) w6 ⟨by omega, by omega⟩ ⟨by omega, by omega⟩ (fun j a c => hg j a (by omega)) (by rw [← hsk.2]; rw [decide_eq_true hbz] at hok2; exact hok2) (by rw [← hsk.1]; rw [decide_eq_true hbz] at hW; exact hW) (by omega) 
          · have hsE : s = -12 := by omega
            rw [hsE, rnW_ans] at hW
            refine Rx.walk 3 (pc' := 107) (L' := [some (.ref 38), some (.ref 93), some (.ref 94), some (.int (iz top)), some (.int (iz i)), some (.int (iz s)), w6]) (st' := [.int (iz 1), .int (iz top), .ref 94]) (h' := cxW (u2 z 38 1 sz) (uf (uf f 93 lt) 94 g) C T rc tl) rfl ?_
            refine Rx.isub rfl ?_
            refine Rx.ial (g := g) rfl rfl (by omega) (by omega) (by omega) ?_
            refine Rx.ret rfl ?_
            exact hx0 _ _ hW.symm
        · rw [okW_let (by omega)] at hok
          rw [rnW_let (by omega)] at hW
          have hok1 := hok.1
          have hok2 := hok.2
          have hlb := hL (-13 - s) (by omega) (by omega)
          refine Rx.walk 2 (pc' := 49) (L' := [some (.ref 38), some (.ref 93), some (.ref 94), some (.int (iz top)), some (.int (iz i)), some (.int (iz s)), w6]) (st' := [.int (iz s), .int (iz (-13))]) (h' := cxW (u2 z 38 1 sz) (uf (uf f 93 lt) 94 g) C T rc tl) rfl ?_
          refine Rx.isub rfl ?_
          refine Rx.walk 4 (pc' := 55) (L' := [some (.ref 38), some (.ref 93), some (.ref 94), some (.int (iz top)), some (.int (iz i)), some (.int (iz s)), some (.int (iz ((-13) - s)))]) (st' := [.int (iz 161), .int (iz top)]) (h' := cxW (u2 z 38 1 sz) (uf (uf f 93 lt) 94 g) C T rc tl) rfl ?_
          refine Rx.ge2 rfl rfl ⟨by omega, by omega⟩ ⟨by omega, by omega⟩ (fun b26 => by omega) (fun b26 => ?_)
          refine Rx.walk 3 (pc' := 62) (L' := [some (.ref 38), some (.ref 93), some (.ref 94), some (.int (iz top)), some (.int (iz i)), some (.int (iz s)), some (.int (iz ((-13) - s)))]) (st' := [.int (iz 6), .int (iz ((-13) - s))]) (h' := cxW (u2 z 38 1 sz) (uf (uf f 93 lt) 94 g) C T rc tl) rfl ?_
          refine Rx.lt2 rfl rfl ⟨by omega, by omega⟩ ⟨by omega, by omega⟩ (fun b27 => ?_) (fun b27 => by omega)
          refine Rx.walk 3 (pc' := 71) (L' := [some (.ref 38), some (.ref 93), some (.ref 94), some (.int (iz top)), some (.int (iz i)), some (.int (iz s)), some (.int (iz ((-13) - s)))]) (st' := [.int (iz s), .int (iz top), .ref 94]) (h' := cxW (u2 z 38 1 sz) (uf (uf f 93 lt) 94 g) C T rc tl) rfl ?_
          refine Rx.lt1 rfl rfl ⟨by omega, by omega⟩ (fun b28 => ?_) (fun b28 => by omega)
          refine Rx.walk 2 (pc' := 82) (L' := [some (.ref 38), some (.ref 93), some (.ref 94), some (.int (iz top)), some (.int (iz i)), some (.int (iz s)), some (.int (iz ((-13) - s)))]) (st' := [.int (iz ((-13) - s)), .ref 93, .int (iz top), .ref 94]) (h' := cxW (u2 z 38 1 sz) (uf (uf f 93 lt) 94 g) C T rc tl) rfl ?_
          refine Rx.ial (g := lt) rfl rfl (by omega) (by omega) (by omega) ?_
          refine Rx.ias (g := g) (h' := cxW (u2 z 38 1 sz) (uf (uf f 93 lt) 94 (iu g top (lt ((-13) - s)))) C T rc tl) rfl rfl (by omega) (by omega) (by omega) rfl ?_
          refine Rx.iinc (b := 1) rfl rfl rfl ?_
          refine Rx.walk 0 (pc' := 87) (L' := [some (.ref 38), some (.ref 93), some (.ref 94), some (.int (iz (top + 1))), some (.int (iz i)), some (.int (iz s)), some (.int (iz ((-13) - s)))]) (st' := []) (h' := cxW (u2 z 38 1 sz) (uf (uf f 93 lt) 94 (iu g top (lt ((-13) - s)))) C T rc tl) rfl ?_
          refine Rx.walk 1 (pc' := 187) (L' := [some (.ref 38), some (.ref 93), some (.ref 94), some (.int (iz (top + 1))), some (.int (iz i)), some (.int (iz s)), some (.int (iz ((-13) - s)))]) (st' := []) (h' := cxW (u2 z 38 1 sz) (uf (uf f 93 lt) 94 (iu g top (lt ((-13) - s)))) C T rc tl) rfl ?_
          refine Rx.iinc (b := 1) rfl rfl rfl ?_
          refine Rx.walk 0 (pc' := 190) (L' := [some (.ref 38), some (.ref 93), some (.ref 94), some (.int (iz (top + 1))), some (.int (iz (i + 1))), some (.int (iz s)), some (.int (iz ((-13) - s)))]) (st' := []) (h' := cxW (u2 z 38 1 sz) (uf (uf f 93 lt) 94 (iu g top (lt ((-13) - s)))) C T rc tl) rfl ?_
          refine Rx.walk 1 (pc' := 5) (L' := [some (.ref 38), some (.ref 93), some (.ref 94), some (.int (iz (top + 1))), some (.int (iz (i + 1))), some (.int (iz s)), some (.int (iz ((-13) - s)))]) (st' := []) (h' := cxW (u2 z 38 1 sz) (uf (uf f 93 lt) 94 (iu g top (lt ((-13) - s)))) C T rc tl) rfl ?_
          exact ih (i + 1) (top + 1) (iu g top (lt ((-13) - s))) (some (.int (iz s))) (some (.int (iz ((-13) - s)))) ⟨by omega, by omega⟩ ⟨by omega, by omega⟩ (inB_iu hlb hg) (by rw [stA_push (by omega)]; exact hok2) (by rw [stA_push (by omega)]; exact hW) (by omega) 
set_option maxRecDepth 100000 in
set_option maxHeartbeats 4000000 in
theorem x_worth38 (d : Nat) (z : Nat → Nat → Int) (f : Nat → Int → Int) (C : Nat → CuR) (T : Nat → TsR) (rc : Nat → Nat) (tl : AmH)  (sz : Int) (ln : Nat) (cd : Int → Int) (lt : Int → Int) (g : Int → Int) (hrc : 98 ≤ rc 38 ∧ am_nth tl (rc 38 - 98) = some (.inl (.int, ln, .inl (av cd)))) (hsz : 0 ≤ sz ∧ sz ≤ 161 ∧ sz = (ln : Int)) (hcb : ∀ j : Int, 0 ≤ j → j < sz → sgB (cd j)) (hL : bdL lt) (hok : okW lt (crem cd 0 sz.toNat) false []) : Rx (d + 2) m_X6_worth 0 (am_ent [.ref 38, .ref 93, .ref 94] 7) [] (cxW (u2 z 38 1 sz) (uf (uf f 93 lt) 94 g) C T rc tl) (fun rv h => ∃ r : Int, ∃ g' : Int → Int, rv = some (.int (iz r)) ∧ h = cxW (u2 z 38 1 sz) (uf (uf f 93 lt) 94 g') C T rc tl ∧ r = rnW lt (crem cd 0 sz.toNat) false []) := by
  refine Rx.walk 0 (pc' := 0) (L' := [some (.ref 38), some (.ref 93), some (.ref 94), none, none, none, none]) (st' := []) (h' := cxW (u2 z 38 1 sz) (uf (uf f 93 lt) 94 g) C T rc tl) rfl ?_
  refine Rx.walk 4 (pc' := 5) (L' := [some (.ref 38), some (.ref 93), some (.ref 94), some (.int (iz 0)), some (.int (iz 0)), none, none]) (st' := []) (h' := cxW (u2 z 38 1 sz) (uf (uf f 93 lt) 94 g) C T rc tl) rfl ?_
  refine x_worth_l38 _ z f C T rc tl  sz ln cd lt (rnW lt (crem cd 0 sz.toNat) false []) hrc hsz hcb hL _ ?_ ((sz + 1 - 0) + 1 : Int).toNat 0 0 g none none ⟨by omega, by omega⟩ ⟨by omega, by omega⟩ (fun j a c => by exfalso; omega) (by rw [show sz - 0 = sz by omega]; exact hok) (by rw [show sz - 0 = sz by omega]; rfl) (by omega) 
  intro r_1 g_2 f3
  show (fun (rv : Option Value) (h : AmH) => ∃ r : Int, ∃ g' : Int → Int, rv = some (.int (iz r)) ∧ h = cxW (u2 z 38 1 sz) (uf (uf f 93 lt) 94 g') C T rc tl ∧ r = rnW lt (crem cd 0 sz.toNat) false []) (some (Value.int (iz r_1))) (cxW (u2 z 38 1 sz) (uf (uf f 93 lt) 94 g_2) C T rc tl)
  exact ⟨_, _, rfl, rfl, f3⟩
set_option maxRecDepth 100000 in
set_option maxHeartbeats 4000000 in
theorem x_nextA_l40 (d : Nat) (z : Nat → Nat → Int) (f : Nat → Int → Int) (C : Nat → CuR) (T : Nat → TsR) (rc : Nat → Nat) (tl : AmH)  (i0 : Int) (sz : Int) (ln : Nat) (cd : Int → Int) (hrc : 98 ≤ rc 40 ∧ am_nth tl (rc 40 - 98) = some (.inl (.int, ln, .inl (av cd)))) (hsz : 0 ≤ sz ∧ sz ≤ 161 ∧ sz = (ln : Int)) (hcb : ∀ j : Int, 0 ≤ j → j < sz → sgB (cd j)) (P : Option Value → AmH → Prop) (hx0 : ∀ (r : Int), (i0 ≤ r ∧ r ≤ sz) → (r < sz → cd r = -12) → (∀ j : Int, i0 ≤ j → j < r → cd j ≠ -12) → P (some (.int (iz r))) (cxW (u2 z 40 1 sz) f C T rc tl)) : ∀ (kF : Nat) (i : Int), (0 ≤ i0 ∧ i0 ≤ i ∧ i ≤ sz) → (∀ j : Int, i0 ≤ j → j < i → cd j ≠ -12) → (sz - i) < (kF : Int) → Rx (d) m_X6_nextAnswer 2 [some (.ref 40), some (.int (iz i0)), some (.int (iz i))] [] (cxW (u2 z 40 1 sz) f C T rc tl) P := by
  obtain ⟨hz0, hz1, hz2⟩ := id hsz
  intro kF
  induction kF with
  | zero =>
    intro i hi hj hk
    exfalso; omega
  | succ kF ih =>
    intro i hi hj hk
    refine Rx.walk 3 (pc' := 7) (L' := [some (.ref 40), some (.int (iz i0)), some (.int (iz i))]) (st' := [.int (iz sz), .int (iz i)]) (h' := cxW (u2 z 40 1 sz) f C T rc tl) rfl ?_
    refine Rx.ge2 rfl rfl ⟨by omega, by omega⟩ ⟨by omega, by omega⟩ (fun b1 => ?_) (fun b1 => ?_)
    · refine Rx.walk 2 (pc' := 33) (L' := [some (.ref 40), some (.int (iz i0)), some (.int (iz i))]) (st' := [.int (iz sz)]) (h' := cxW (u2 z 40 1 sz) f C T rc tl) rfl ?_
      refine Rx.ret rfl ?_
      exact hx0 _ ⟨by omega, by omega⟩ (fun q => by first | (rw [← hs]; omega) | (exfalso; omega)) (fun j a c => hj j a (by omega))
    · refine Rx.walk 3 (pc' := 15) (L' := [some (.ref 40), some (.int (iz i0)), some (.int (iz i))]) (st' := [.int (iz i), .ref (rc 40)]) (h' := cxW (u2 z 40 1 sz) f C T rc tl) rfl ?_
      refine Rx.ial (g := cd) rfl (cW_tl hrc.1 hrc.2) (by omega) (by omega) (by omega) ?_
      obtain ⟨hsb, hsc⟩ := hcb i (by omega) (by omega)
      obtain ⟨s, hs⟩ : ∃ s, s = cd i := ⟨_, rfl⟩
      rw [← hs] at hsb hsc ⊢
      refine Rx.walk 1 (pc' := 18) (L' := [some (.ref 40), some (.int (iz i0)), some (.int (iz i))]) (st' := [.int (iz (-12)), .int (iz s)]) (h' := cxW (u2 z 40 1 sz) f C T rc tl) rfl ?_
      refine Rx.ne2 rfl rfl ⟨by omega, by omega⟩ ⟨by omega, by omega⟩ (fun b2 => ?_) (fun b2 => ?_)
      · refine Rx.iinc (b := 1) rfl rfl rfl ?_
        refine Rx.walk 0 (pc' := 26) (L' := [some (.ref 40), some (.int (iz i0)), some (.int (iz (i + 1)))]) (st' := []) (h' := cxW (u2 z 40 1 sz) f C T rc tl) rfl ?_
        refine Rx.walk 1 (pc' := 2) (L' := [some (.ref 40), some (.int (iz i0)), some (.int (iz (i + 1)))]) (st' := []) (h' := cxW (u2 z 40 1 sz) f C T rc tl) rfl ?_
        exact ih (i + 1) ⟨by omega, by omega, by omega⟩ (fun j a c => by rcases Int.lt_or_le j i with q | q; exact hj j a q; (obtain rfl : j = i := (by omega); rw [← hs]; omega)) (by first | assumption | omega) 
      · refine Rx.walk 1 (pc' := 22) (L' := [some (.ref 40), some (.int (iz i0)), some (.int (iz i))]) (st' := [.int (iz i)]) (h' := cxW (u2 z 40 1 sz) f C T rc tl) rfl ?_
        refine Rx.ret rfl ?_
        exact hx0 _ ⟨by omega, by omega⟩ (fun q => by first | (rw [← hs]; omega) | (exfalso; omega)) (fun j a c => hj j a (by omega))
set_option maxRecDepth 100000 in
set_option maxHeartbeats 4000000 in
theorem x_nextA40 (d : Nat) (z : Nat → Nat → Int) (f : Nat → Int → Int) (C : Nat → CuR) (T : Nat → TsR) (rc : Nat → Nat) (tl : AmH)  (sz : Int) (ln : Nat) (cd : Int → Int) (i : Int) (hrc : 98 ≤ rc 40 ∧ am_nth tl (rc 40 - 98) = some (.inl (.int, ln, .inl (av cd)))) (hsz : 0 ≤ sz ∧ sz ≤ 161 ∧ sz = (ln : Int)) (hcb : ∀ j : Int, 0 ≤ j → j < sz → sgB (cd j)) (hi : 0 ≤ i ∧ i ≤ sz) : Rx (d) m_X6_nextAnswer 0 (am_ent [.ref 40, .int (iz i)] 3) [] (cxW (u2 z 40 1 sz) f C T rc tl) (fun rv h => ∃ r : Int, rv = some (.int (iz r)) ∧ h = cxW (u2 z 40 1 sz) f C T rc tl ∧ (i ≤ r ∧ r ≤ sz) ∧ (r < sz → cd r = -12) ∧ (∀ j : Int, i ≤ j → j < r → cd j ≠ -12)) := by
  refine Rx.walk 0 (pc' := 0) (L' := [some (.ref 40), some (.int (iz i)), none]) (st' := []) (h' := cxW (u2 z 40 1 sz) f C T rc tl) rfl ?_
  refine Rx.walk 2 (pc' := 2) (L' := [some (.ref 40), some (.int (iz i)), some (.int (iz i))]) (st' := []) (h' := cxW (u2 z 40 1 sz) f C T rc tl) rfl ?_
  refine x_nextA_l40 _ z f C T rc tl  i sz ln cd hrc hsz hcb _ ?_ ((sz - i) + 1 : Int).toNat i ⟨by omega, by omega, by omega⟩ (fun j a c => by exfalso; omega) (by omega) 
  intro r_1 f2 f3 f4
  show (fun (rv : Option Value) (h : AmH) => ∃ r : Int, rv = some (.int (iz r)) ∧ h = cxW (u2 z 40 1 sz) f C T rc tl ∧ (i ≤ r ∧ r ≤ sz) ∧ (r < sz → cd r = -12) ∧ (∀ j : Int, i ≤ j → j < r → cd j ≠ -12)) (some (Value.int (iz r_1))) (cxW (u2 z 40 1 sz) f C T rc tl)
  exact ⟨_, rfl, rfl, f2, f3, f4⟩
set_option maxRecDepth 100000 in
set_option maxHeartbeats 4000000 in
theorem x_worth_l40 (d : Nat) (z : Nat → Nat → Int) (f : Nat → Int → Int) (C : Nat → CuR) (T : Nat → TsR) (rc : Nat → Nat) (tl : AmH)  (sz : Int) (ln : Nat) (cd : Int → Int) (lt : Int → Int) (W : Int) (hrc : 98 ≤ rc 40 ∧ am_nth tl (rc 40 - 98) = some (.inl (.int, ln, .inl (av cd)))) (hsz : 0 ≤ sz ∧ sz ≤ 161 ∧ sz = (ln : Int)) (hcb : ∀ j : Int, 0 ≤ j → j < sz → sgB (cd j)) (hL : bdL lt) (P : Option Value → AmH → Prop) (hx0 : ∀ (r : Int) (g' : Int → Int), (r = W) → P (some (.int (iz r))) (cxW (u2 z 40 1 sz) (uf (uf f 93 lt) 94 g') C T rc tl)) : ∀ (kF : Nat) (i : Int) (top : Int) (g : Int → Int) (w5 : Option Value) (w6 : Option Value), (0 ≤ i ∧ i ≤ sz + 1) → (0 ≤ top ∧ top ≤ i) → (∀ j : Int, 0 ≤ j → j < top → inB (g j)) → (okW lt (crem cd i (sz - i).toNat) false (stA g top.toNat)) → (W = rnW lt (crem cd i (sz - i).toNat) false (stA g top.toNat)) → (sz + 1 - i) < (kF : Int) → Rx (d + 2) m_X6_worth 5 [some (.ref 40), some (.ref 93), some (.ref 94), some (.int (iz top)), some (.int (iz i)), w5, w6] [] (cxW (u2 z 40 1 sz) (uf (uf f 93 lt) 94 g) C T rc tl) P := by
  obtain ⟨hz0, hz1, hz2⟩ := id hsz
  intro kF
  induction kF with
  | zero =>
    intro i top g w5 w6 hi ht hg hok hW hk
    exfalso; omega
  | succ kF ih =>
    intro i top g w5 w6 hi ht hg hok hW hk
    refine Rx.walk 3 (pc' := 11) (L' := [some (.ref 40), some (.ref 93), some (.ref 94), some (.int (iz top)), some (.int (iz i)), w5, w6]) (st' := [.int (iz sz), .int (iz i)]) (h' := cxW (u2 z 40 1 sz) (uf (uf f 93 lt) 94 g) C T rc tl) rfl ?_
    refine Rx.ge2 rfl rfl ⟨by omega, by omega⟩ ⟨by omega, by omega⟩ (fun b1 => ?_) (fun b1 => ?_)
    · refine Rx.walk 1 (pc' := 194) (L' := [some (.ref 40), some (.ref 93), some (.ref 94), some (.int (iz top)), some (.int (iz i)), w5, w6]) (st' := [.int (iz 0)]) (h' := cxW (u2 z 40 1 sz) (uf (uf f 93 lt) 94 g) C T rc tl) rfl ?_
      refine Rx.ret rfl ?_
      exact hx0 _ _ (by rw [crem_z (by omega)] at hW; exact hW.symm)
    · refine Rx.walk 3 (pc' := 20) (L' := [some (.ref 40), some (.ref 93), some (.ref 94), some (.int (iz top)), some (.int (iz i)), w5, w6]) (st' := [.ref (rc 40), .int (iz i)]) (h' := cxW (u2 z 40 1 sz) (uf (uf f 93 lt) 94 g) C T rc tl) rfl ?_
      refine Rx.alS rfl (cW_tl hrc.1 hrc.2) ?_
      refine Rx.ge2 rfl rfl ⟨by omega, by omega⟩ ⟨by omega, by omega⟩ (fun b2 => by omega) (fun b2 => ?_)
      rw [crem_s (show i < sz by omega)] at hok hW
      refine Rx.walk 3 (pc' := 30) (L' := [some (.ref 40), some (.ref 93), some (.ref 94), some (.int (iz top)), some (.int (iz i)), w5, w6]) (st' := [.int (iz i), .ref (rc 40)]) (h' := cxW (u2 z 40 1 sz) (uf (uf f 93 lt) 94 g) C T rc tl) rfl ?_
      refine Rx.ial (g := cd) rfl (cW_tl hrc.1 hrc.2) (by omega) (by omega) (by omega) ?_
      obtain ⟨hsb, hsc⟩ := hcb i (by omega) (by omega)
      obtain ⟨s, hs⟩ : ∃ s, s = cd i := ⟨_, rfl⟩
      rw [← hs] at hsb hsc hok hW ⊢
      refine Rx.walk 2 (pc' := 35) (L' := [some (.ref 40), some (.ref 93), some (.ref 94), some (.int (iz top)), some (.int (iz i)), some (.int (iz s)), w6]) (st' := [.int (iz s)]) (h' := cxW (u2 z 40 1 sz) (uf (uf f 93 lt) 94 g) C T rc tl) rfl ?_
      refine Rx.ge1 rfl rfl ⟨by omega, by omega⟩ (fun b3 => ?_) (fun b3 => ?_)
      · rw [okW_num (by omega)] at hok
        rw [rnW_num (by omega)] at hW
        have hok1 := hok.1
        have hok2 := hok.2
        refine Rx.walk 2 (pc' := 49) (L' := [some (.ref 40), some (.ref 93), some (.ref 94), some (.int (iz top)), some (.int (iz i)), some (.int (iz s)), w6]) (st' := [.int (iz s), .int (iz (-13))]) (h' := cxW (u2 z 40 1 sz) (uf (uf f 93 lt) 94 g) C T rc tl) rfl ?_
        refine Rx.isub rfl ?_
        refine Rx.walk 4 (pc' := 55) (L' := [some (.ref 40), some (.ref 93), some (.ref 94), some (.int (iz top)), some (.int (iz i)), some (.int (iz s)), some (.int (iz ((-13) - s)))]) (st' := [.int (iz 161), .int (iz top)]) (h' := cxW (u2 z 40 1 sz) (uf (uf f 93 lt) 94 g) C T rc tl) rfl ?_
        refine Rx.ge2 rfl rfl ⟨by omega, by omega⟩ ⟨by omega, by omega⟩ (fun b4 => by omega) (fun b4 => ?_)
        refine Rx.walk 3 (pc' := 62) (L' := [some (.ref 40), some (.ref 93), some (.ref 94), some (.int (iz top)), some (.int (iz i)), some (.int (iz s)), some (.int (iz ((-13) - s)))]) (st' := [.int (iz 6), .int (iz ((-13) - s))]) (h' := cxW (u2 z 40 1 sz) (uf (uf f 93 lt) 94 g) C T rc tl) rfl ?_
        refine Rx.lt2 rfl rfl ⟨by omega, by omega⟩ ⟨by omega, by omega⟩ (fun b5 => ?_) (fun b5 => by omega)
        refine Rx.walk 3 (pc' := 71) (L' := [some (.ref 40), some (.ref 93), some (.ref 94), some (.int (iz top)), some (.int (iz i)), some (.int (iz s)), some (.int (iz ((-13) - s)))]) (st' := [.int (iz s), .int (iz top), .ref 94]) (h' := cxW (u2 z 40 1 sz) (uf (uf f 93 lt) 94 g) C T rc tl) rfl ?_
        refine Rx.lt1 rfl rfl ⟨by omega, by omega⟩ (fun b6 => by omega) (fun b6 => ?_)
        refine Rx.walk 2 (pc' := 83) (L' := [some (.ref 40), some (.ref 93), some (.ref 94), some (.int (iz top)), some (.int (iz i)), some (.int (iz s)), some (.int (iz ((-13) - s)))]) (st' := [.int (iz s), .int (iz top), .ref 94]) (h' := cxW (u2 z 40 1 sz) (uf (uf f 93 lt) 94 g) C T rc tl) rfl ?_
        refine Rx.ias (g := g) (h' := cxW (u2 z 40 1 sz) (uf (uf f 93 lt) 94 (iu g top s)) C T rc tl) rfl rfl (by omega) (by omega) (by omega) rfl ?_
        refine Rx.iinc (b := 1) rfl rfl rfl ?_
        refine Rx.walk 0 (pc' := 87) (L' := [some (.ref 40), some (.ref 93), some (.ref 94), some (.int (iz (top + 1))), some (.int (iz i)), some (.int (iz s)), some (.int (iz ((-13) - s)))]) (st' := []) (h' := cxW (u2 z 40 1 sz) (uf (uf f 93 lt) 94 (iu g top s)) C T rc tl) rfl ?_
        refine Rx.walk 1 (pc' := 187) (L' := [some (.ref 40), some (.ref 93), some (.ref 94), some (.int (iz (top + 1))), some (.int (iz i)), some (.int (iz s)), some (.int (iz ((-13) - s)))]) (st' := []) (h' := cxW (u2 z 40 1 sz) (uf (uf f 93 lt) 94 (iu g top s)) C T rc tl) rfl ?_
        refine Rx.iinc (b := 1) rfl rfl rfl ?_
        refine Rx.walk 0 (pc' := 190) (L' := [some (.ref 40), some (.ref 93), some (.ref 94), some (.int (iz (top + 1))), some (.int (iz (i + 1))), some (.int (iz s)), some (.int (iz ((-13) - s)))]) (st' := []) (h' := cxW (u2 z 40 1 sz) (uf (uf f 93 lt) 94 (iu g top s)) C T rc tl) rfl ?_
        refine Rx.walk 1 (pc' := 5) (L' := [some (.ref 40), some (.ref 93), some (.ref 94), some (.int (iz (top + 1))), some (.int (iz (i + 1))), some (.int (iz s)), some (.int (iz ((-13) - s)))]) (st' := []) (h' := cxW (u2 z 40 1 sz) (uf (uf f 93 lt) 94 (iu g top s)) C T rc tl) rfl ?_
        exact ih (i + 1) (top + 1) (iu g top s) (some (.int (iz s))) (some (.int (iz ((-13) - s)))) ⟨by omega, by omega⟩ ⟨by omega, by omega⟩ (inB_iu (show inB s from ⟨by omega, by omega⟩) hg) (by rw [stA_push (by omega)]; exact hok2) (by rw [stA_push (by omega)]; exact hW) (by omega) 
      · refine Rx.walk 2 (pc' := 42) (L' := [some (.ref 40), some (.ref 93), some (.ref 94), some (.int (iz top)), some (.int (iz i)), some (.int (iz s)), w6]) (st' := [.int (iz (-13)), .int (iz s)]) (h' := cxW (u2 z 40 1 sz) (uf (uf f 93 lt) 94 g) C T rc tl) rfl ?_
        refine Rx.gt2 rfl rfl ⟨by omega, by omega⟩ ⟨by omega, by omega⟩ (fun b7 => ?_) (fun b7 => ?_)
        · rw [okW_lo (by omega) (by omega)] at hok
          have hlen := stA_len g top.toNat
          have ht1 : 1 ≤ top := by have := hok.1; omega
          have hlen2 : 2 ≤ (stA g top.toNat).length → 2 ≤ top := fun q => by omega
          rw [stA_s ht1] at hok hW
          have hok2 := hok.2
          have hx := hg (top - 1) (by omega) (by omega)
          obtain ⟨hxa, hxb⟩ := id hx
          refine Rx.walk 2 (pc' := 92) (L' := [some (.ref 40), some (.ref 93), some (.ref 94), some (.int (iz top)), some (.int (iz i)), some (.int (iz s)), w6]) (st' := [.int (iz 1), .int (iz top)]) (h' := cxW (u2 z 40 1 sz) (uf (uf f 93 lt) 94 g) C T rc tl) rfl ?_
          refine Rx.ge2 rfl rfl ⟨by omega, by omega⟩ ⟨by omega, by omega⟩ (fun b8 => ?_) (fun b8 => by omega)
          refine Rx.walk 2 (pc' := 101) (L' := [some (.ref 40), some (.ref 93), some (.ref 94), some (.int (iz top)), some (.int (iz i)), some (.int (iz s)), w6]) (st' := [.int (iz (-12)), .int (iz s)]) (h' := cxW (u2 z 40 1 sz) (uf (uf f 93 lt) 94 g) C T rc tl) rfl ?_
          refine Rx.ne2 rfl rfl ⟨by omega, by omega⟩ ⟨by omega, by omega⟩ (fun b9 => ?_) (fun b9 => ?_)
          · refine Rx.walk 2 (pc' := 114) (L' := [some (.ref 40), some (.ref 93), some (.ref 94), some (.int (iz top)), some (.int (iz i)), some (.int (iz s)), w6]) (st' := [.int (iz (-11)), .int (iz s)]) (h' := cxW (u2 z 40 1 sz) (uf (uf f 93 lt) 94 g) C T rc tl) rfl ?_
            refine Rx.ne2 rfl rfl ⟨by omega, by omega⟩ ⟨by omega, by omega⟩ (fun b10 => ?_) (fun b10 => ?_)
            · refine Rx.walk 2 (pc' := 141) (L' := [some (.ref 40), some (.ref 93), some (.ref 94), some (.int (iz top)), some (.int (iz i)), some (.int (iz s)), w6]) (st' := [.int (iz (-10)), .int (iz s)]) (h' := cxW (u2 z 40 1 sz) (uf (uf f 93 lt) 94 g) C T rc tl) rfl ?_
              refine Rx.ne2 rfl rfl ⟨by omega, by omega⟩ ⟨by omega, by omega⟩ (fun b11 => ?_) (fun b11 => ?_)
              · rw [if_neg (by omega), if_neg (by omega), if_neg (by omega)] at hok2
                have ht2 : 2 ≤ top := hlen2 (by rw [hlen]; have h3 := hok2.1; have h4 := stA_len g (top - 1).toNat; have h5 : 2 ≤ (stA g (top - 1).toNat).length + 1 := h3; omega)
                rw [stA_s (show 1 ≤ top - 1 by omega)] at hok2 hW
                rw [rnW_op (by omega) (by omega)] at hW
                replace hok2 : (s = -8 ∨ s = -9 → (g (top - 1) = 0 ∨ g (top - 1) = 1) ∧ (g (top - 1 - 1) = 0 ∨ g (top - 1 - 1) = 1)) ∧ okW lt (crem cd (i + 1) (sz - (i + 1)).toNat) false (rk s (g (top - 1 - 1)) (g (top - 1)) :: stA g (top - 1 - 1).toNat) := hok2.2
                have hy := hg (top - 1 - 1) (by omega) (by omega)
                refine Rx.walk 2 (pc' := 161) (L' := [some (.ref 40), some (.ref 93), some (.ref 94), some (.int (iz top)), some (.int (iz i)), some (.int (iz s)), w6]) (st' := [.int (iz 2), .int (iz top)]) (h' := cxW (u2 z 40 1 sz) (uf (uf f 93 lt) 94 g) C T rc tl) rfl ?_
                refine Rx.ge2 rfl rfl ⟨by omega, by omega⟩ ⟨by omega, by omega⟩ (fun b12 => ?_) (fun b12 => by omega)
                refine Rx.iinc (b := -1) rfl rfl rfl ?_
                refine Rx.walk 0 (pc' := 169) (L' := [some (.ref 40), some (.ref 93), some (.ref 94), some (.int (iz (top + (-1)))), some (.int (iz i)), some (.int (iz s)), w6]) (st' := []) (h' := cxW (u2 z 40 1 sz) (uf (uf f 93 lt) 94 g) C T rc tl) rfl ?_
                refine Rx.walk 0 (pc' := 169) (L' := [some (.ref 40), some (.ref 93), some (.ref 94), some (.int (iz (top - 1))), some (.int (iz i)), some (.int (iz s)), w6]) (st' := []) (h' := cxW (u2 z 40 1 sz) (uf (uf f 93 lt) 94 g) C T rc tl) rfl ?_
                refine Rx.walk 3 (pc' := 172) (L' := [some (.ref 40), some (.ref 93), some (.ref 94), some (.int (iz (top - 1))), some (.int (iz i)), some (.int (iz s)), w6]) (st' := [.int (iz 1), .int (iz (top - 1)), .ref 94]) (h' := cxW (u2 z 40 1 sz) (uf (uf f 93 lt) 94 g) C T rc tl) rfl ?_
                refine Rx.isub rfl ?_
                refine Rx.walk 4 (pc' := 178) (L' := [some (.ref 40), some (.ref 93), some (.ref 94), some (.int (iz (top - 1))), some (.int (iz i)), some (.int (iz s)), w6]) (st' := [.int (iz 1), .int (iz (top - 1)), .ref 94, .int (iz s), .int (iz ((top - 1) - 1)), .ref 94]) (h' := cxW (u2 z 40 1 sz) (uf (uf f 93 lt) 94 g) C T rc tl) rfl ?_
                refine Rx.isub rfl ?_
                refine Rx.ial (g := g) rfl rfl (by omega) (by omega) (by omega) ?_
                refine Rx.walk 2 (pc' := 182) (L' := [some (.ref 40), some (.ref 93), some (.ref 94), some (.int (iz (top - 1))), some (.int (iz i)), some (.int (iz s)), w6]) (st' := [.int (iz (top - 1)), .ref 94, .int (iz (g ((top - 1) - 1))), .int (iz s), .int (iz ((top - 1) - 1)), .ref 94]) (h' := cxW (u2 z 40 1 sz) (uf (uf f 93 lt) 94 g) C T rc tl) rfl ?_
                refine Rx.ial (g := g) rfl rfl (by omega) (by omega) (by omega) ?_
                refine Rx.callx (m' := m_X6_reckon) (as := [.int (iz s), .int (iz (g ((top - 1) - 1))), .int (iz (g (top - 1)))]) (rest := [.int (iz ((top - 1) - 1)), .ref 94]) rfl (x_reckon _ (cxW (u2 z 40 1 sz) (uf (uf f 93 lt) 94 g) C T rc tl)  s (g ((top - 1) - 1)) (g (top - 1)) ⟨by omega, by omega⟩ hy hx hok2.1) (fun v15 h16 q17 => ?_)
                obtain ⟨r_13, rfl, rfl, f14⟩ := q17
                refine Rx.walk 0 (pc' := 186) (L' := [some (.ref 40), some (.ref 93), some (.ref 94), some (.int (iz (top - 1))), some (.int (iz i)), some (.int (iz s)), w6]) (st' := [.int (iz r_13), .int (iz ((top - 1) - 1)), .ref 94]) (h' := cxW (u2 z 40 1 sz) (uf (uf f 93 lt) 94 g) C T rc tl) rfl ?_
                refine Rx.ias (g := g) (h' := cxW (u2 z 40 1 sz) (uf (uf f 93 lt) 94 (iu g ((top - 1) - 1) r_13)) C T rc tl) rfl rfl (by omega) (by omega) (by omega) rfl ?_
                refine Rx.iinc (b := 1) rfl rfl rfl ?_
                refine Rx.walk 0 (pc' := 190) (L' := [some (.ref 40), some (.ref 93), some (.ref 94), some (.int (iz (top - 1))), some (.int (iz (i + 1))), some (.int (iz s)), w6]) (st' := []) (h' := cxW (u2 z 40 1 sz) (uf (uf f 93 lt) 94 (iu g ((top - 1) - 1) r_13)) C T rc tl) rfl ?_
                refine Rx.walk 1 (pc' := 5) (L' := [some (.ref 40), some (.ref 93), some (.ref 94), some (.int (iz (top - 1))), some (.int (iz (i + 1))), some (.int (iz s)), w6]) (st' := []) (h' := cxW (u2 z 40 1 sz) (uf (uf f 93 lt) 94 (iu g ((top - 1) - 1) r_13)) C T rc tl) rfl ?_
                exact ih (i + 1) (top - 1) (iu g ((top - 1) - 1) r_13) (some (.int (iz s))) w6 ⟨by omega, by omega⟩ ⟨by omega, by omega⟩ (by have q := inB_iu (t := top - 1 - 1) (v := r_13) (g := g) (by rw [f14]; exact rk_b hy) (fun j a c => hg j a (by omega)); rw [show top - 1 - 1 + 1 = top - 1 by omega] at q; exact q) (by have q := stA_push (g := g) (t := top - 1 - 1) (v := r_13) (by omega); rw [show top - 1 - 1 + 1 = top - 1 by omega] at q; rw [q, f14]; exact hok2.2) (by have q := stA_push (g := g) (t := top - 1 - 1) (v := r_13) (by omega); rw [show top - 1 - 1 + 1 = top - 1 by omega] at q; rw [q, f14]; exact hW) (by omega) 
              · have hsE : s = -10 := by omega
                rw [hsE, rnW_not] at hW
                rw [if_neg (by omega), if_neg (by omega), if_pos hsE] at hok2
                replace hok2 : (g (top - 1) = 0 ∨ g (top - 1) = 1) ∧ okW lt (crem cd (i + 1) (sz - (i + 1)).toNat) false ((1 - g (top - 1)) :: stA g (top - 1).toNat) := hok2
                refine Rx.walk 3 (pc' := 147) (L' := [some (.ref 40), some (.ref 93), some (.ref 94), some (.int (iz top)), some (.int (iz i)), some (.int (iz s)), w6]) (st' := [.int (iz 1), .int (iz top), .ref 94]) (h' := cxW (u2 z 40 1 sz) (uf (uf f 93 lt) 94 g) C T rc tl) rfl ?_
                refine Rx.isub rfl ?_
                refine Rx.walk 4 (pc' := 152) (L' := [some (.ref 40), some (.ref 93), some (.ref 94), some (.int (iz top)), some (.int (iz i)), some (.int (iz s)), w6]) (st' := [.int (iz 1), .int (iz top), .ref 94, .int (iz 1), .int (iz (top - 1)), .ref 94]) (h' := cxW (u2 z 40 1 sz) (uf (uf f 93 lt) 94 g) C T rc tl) rfl ?_
                refine Rx.isub rfl ?_
                refine Rx.ial (g := g) rfl rfl (by omega) (by omega) (by omega) ?_
                refine Rx.isub rfl ?_
                refine Rx.ias (g := g) (h' := cxW (u2 z 40 1 sz) (uf (uf f 93 lt) 94 (iu g (top - 1) (1 - (g (top - 1))))) C T rc tl) rfl rfl (by omega) (by omega) (by omega) rfl ?_
                refine Rx.walk 1 (pc' := 187) (L' := [some (.ref 40), some (.ref 93), some (.ref 94), some (.int (iz top)), some (.int (iz i)), some (.int (iz s)), w6]) (st' := []) (h' := cxW (u2 z 40 1 sz) (uf (uf f 93 lt) 94 (iu g (top - 1) (1 - (g (top - 1))))) C T rc tl) rfl ?_
                refine Rx.iinc (b := 1) rfl rfl rfl ?_
                refine Rx.walk 0 (pc' := 190) (L' := [some (.ref 40), some (.ref 93), some (.ref 94), some (.int (iz top)), some (.int (iz (i + 1))), some (.int (iz s)), w6]) (st' := []) (h' := cxW (u2 z 40 1 sz) (uf (uf f 93 lt) 94 (iu g (top - 1) (1 - (g (top - 1))))) C T rc tl) rfl ?_
                refine Rx.walk 1 (pc' := 5) (L' := [some (.ref 40), some (.ref 93), some (.ref 94), some (.int (iz top)), some (.int (iz (i + 1))), some (.int (iz s)), w6]) (st' := []) (h' := cxW (u2 z 40 1 sz) (uf (uf f 93 lt) 94 (iu g (top - 1) (1 - (g (top - 1))))) C T rc tl) rfl ?_
                exact ih (i + 1) top (iu g (top - 1) (1 - (g (top - 1)))) (some (.int (iz s))) w6 ⟨by omega, by omega⟩ ⟨by omega, by omega⟩ (by have q := inB_iu (t := top - 1) (v := 1 - g (top - 1)) (g := g) ⟨by omega, by omega⟩ (fun j a c => hg j a (by omega)); rw [show top - 1 + 1 = top by omega] at q; exact q) (by have q := stA_push (g := g) (t := top - 1) (v := 1 - g (top - 1)) (by omega); rw [show top - 1 + 1 = top by omega] at q; rw [q]; exact hok2.2) (by have q := stA_push (g := g) (t := top - 1) (v := 1 - g (top - 1)) (by omega); rw [show top - 1 + 1 = top by omega] at q; rw [q]; exact hW) (by omega) 
            · have hsE : s = -11 := by omega
              rw [hsE, rnW_unl] at hW
              rw [if_neg (by omega), if_pos hsE] at hok2
              replace hok2 : okW lt (crem cd (i + 1) (sz - (i + 1)).toNat) (decide (g (top - 1) = 0)) (stA g (top - 1).toNat) := hok2
              refine Rx.iinc (b := -1) rfl rfl rfl ?_
              refine Rx.walk 0 (pc' := 120) (L' := [some (.ref 40), some (.ref 93), some (.ref 94), some (.int (iz (top + (-1)))), some (.int (iz i)), some (.int (iz s)), w6]) (st' := []) (h' := cxW (u2 z 40 1 sz) (uf (uf f 93 lt) 94 g) C T rc tl) rfl ?_
              refine Rx.walk 0 (pc' := 120) (L' := [some (.ref 40), some (.ref 93), some (.ref 94), some (.int (iz (top - 1))), some (.int (iz i)), some (.int (iz s)), w6]) (st' := []) (h' := cxW (u2 z 40 1 sz) (uf (uf f 93 lt) 94 g) C T rc tl) rfl ?_
              refine Rx.walk 2 (pc' := 122) (L' := [some (.ref 40), some (.ref 93), some (.ref 94), some (.int (iz (top - 1))), some (.int (iz i)), some (.int (iz s)), w6]) (st' := [.int (iz (top - 1)), .ref 94]) (h' := cxW (u2 z 40 1 sz) (uf (uf f 93 lt) 94 g) C T rc tl) rfl ?_
              refine Rx.ial (g := g) rfl rfl (by omega) (by omega) (by omega) ?_
              refine Rx.ne1 rfl rfl ⟨by omega, by omega⟩ (fun b18 => ?_) (fun b18 => ?_)
              · refine Rx.iinc (b := 1) rfl rfl rfl ?_
                refine Rx.walk 0 (pc' := 190) (L' := [some (.ref 40), some (.ref 93), some (.ref 94), some (.int (iz (top - 1))), some (.int (iz (i + 1))), some (.int (iz s)), w6]) (st' := []) (h' := cxW (u2 z 40 1 sz) (uf (uf f 93 lt) 94 g) C T rc tl) rfl ?_
                refine Rx.walk 1 (pc' := 5) (L' := [some (.ref 40), some (.ref 93), some (.ref 94), some (.int (iz (top - 1))), some (.int (iz (i + 1))), some (.int (iz s)), w6]) (st' := []) (h' := cxW (u2 z 40 1 sz) (uf (uf f 93 lt) 94 g) C T rc tl) rfl ?_
                have hbn : ¬ g (top - 1) = 0 := by omega
                exact ih (i + 1) (top - 1) g (some (.int (iz s))) w6 ⟨by omega, by omega⟩ ⟨by omega, by omega⟩ (fun j a c => hg j a (by omega)) (by rw [decide_eq_false hbn] at hok2; exact hok2) (by rw [decide_eq_false hbn] at hW; exact hW) (by omega) 
              · refine Rx.walk 2 (pc' := 129) (L' := [some (.ref 40), some (.ref 93), some (.ref 94), some (.int (iz (top - 1))), some (.int (iz i)), some (.int (iz s)), w6]) (st' := [.int (iz i), .ref 40]) (h' := cxW (u2 z 40 1 sz) (uf (uf f 93 lt) 94 g) C T rc tl) rfl ?_
                refine Rx.callx (m' := m_X6_nextAnswer) (as := [.ref 40, .int (iz i)]) (rest := []) rfl (x_nextA40 _ z (uf (uf f 93 lt) 94 g) C T rc tl  sz ln cd i hrc hsz hcb ⟨by omega, by omega⟩) (fun v23 h24 q25 => ?_)
                obtain ⟨r_19, rfl, rfl, f20, f21, f22⟩ := q25
                refine Rx.walk 0 (pc' := 132) (L' := [some (.ref 40), some (.ref 93), some (.ref 94), some (.int (iz (top - 1))), some (.int (iz i)), some (.int (iz s)), w6]) (st' := [.int (iz r_19)]) (h' := cxW (u2 z 40 1 sz) (uf (uf f 93 lt) 94 g) C T rc tl) rfl ?_
                refine Rx.walk 2 (pc' := 187) (L' := [some (.ref 40), some (.ref 93), some (.ref 94), some (.int (iz (top - 1))), some (.int (iz r_19)), some (.int (iz s)), w6]) (st' := []) (h' := cxW (u2 z 40 1 sz) (uf (uf f 93 lt) 94 g) C T rc tl) rfl ?_
                refine Rx.iinc (b := 1) rfl rfl rfl ?_
                refine Rx.walk 0 (pc' := 190) (L' := [some (.ref 40), some (.ref 93), some (.ref 94), some (.int (iz (top - 1))), some (.int (iz (r_19 + 1))), some (.int (iz s)), w6]) (st' := []) (h' := cxW (u2 z 40 1 sz) (uf (uf f 93 lt) 94 g) C T rc tl) rfl ?_
                refine Rx.walk 1 (pc' := 5) (L' := [some (.ref 40), some (.ref 93), some (.ref 94), some (.int (iz (top - 1))), some (.int (iz (r_19 + 1))), some (.int (iz s)), w6]) (st' := []) (h' := cxW (u2 z 40 1 sz) (uf (uf f 93 lt) 94 g) C T rc tl) rfl ?_
                have hbz : g (top - 1) = 0 := by omega
                have hri : r_19 ≠ i := fun q => by have q2 := f21 (by omega); rw [q] at q2; omega
                have hsk := rnW_na (L := lt) (cd := cd) (sz := sz) (r := r_19) (st := stA g (top - 1).toNat) (by omega) f21 (r_19 - (i + 1)).toNat (i + 1) (by omega) (fun j a c => f22 j (by omega) c)
                exact ih (r_19 + 1) (top - 1) g (some (.int (iz s))) w6 ⟨by omega, by omega⟩ ⟨by omega, by omega⟩ (fun j a c => hg j a (by omega)) (by rw [← hsk.2]; rw [decide_eq_true hbz] at hok2; exact hok2) (by rw [← hsk.1]; rw [decide_eq_true hbz] at hW; exact hW) (by omega) 
          · have hsE : s = -12 := by omega
            rw [hsE, rnW_ans] at hW
            refine Rx.walk 3 (pc' := 107) (L' := [some (.ref 40), some (.ref 93), some (.ref 94), some (.int (iz top)), some (.int (iz i)), some (.int (iz s)), w6]) (st' := [.int (iz 1), .int (iz top), .ref 94]) (h' := cxW (u2 z 40 1 sz) (uf (uf f 93 lt) 94 g) C T rc tl) rfl ?_
            refine Rx.isub rfl ?_
            refine Rx.ial (g := g) rfl rfl (by omega) (by omega) (by omega) ?_
            refine Rx.ret rfl ?_
            exact hx0 _ _ hW.symm
        · rw [okW_let (by omega)] at hok
          rw [rnW_let (by omega)] at hW
          have hok1 := hok.1
          have hok2 := hok.2
          have hlb := hL (-13 - s) (by omega) (by omega)
          refine Rx.walk 2 (pc' := 49) (L' := [some (.ref 40), some (.ref 93), some (.ref 94), some (.int (iz top)), some (.int (iz i)), some (.int (iz s)), w6]) (st' := [.int (iz s), .int (iz (-13))]) (h' := cxW (u2 z 40 1 sz) (uf (uf f 93 lt) 94 g) C T rc tl) rfl ?_
          refine Rx.isub rfl ?_
          refine Rx.walk 4 (pc' := 55) (L' := [some (.ref 40), some (.ref 93), some (.ref 94), some (.int (iz top)), some (.int (iz i)), some (.int (iz s)), some (.int (iz ((-13) - s)))]) (st' := [.int (iz 161), .int (iz top)]) (h' := cxW (u2 z 40 1 sz) (uf (uf f 93 lt) 94 g) C T rc tl) rfl ?_
          refine Rx.ge2 rfl rfl ⟨by omega, by omega⟩ ⟨by omega, by omega⟩ (fun b26 => by omega) (fun b26 => ?_)
          refine Rx.walk 3 (pc' := 62) (L' := [some (.ref 40), some (.ref 93), some (.ref 94), some (.int (iz top)), some (.int (iz i)), some (.int (iz s)), some (.int (iz ((-13) - s)))]) (st' := [.int (iz 6), .int (iz ((-13) - s))]) (h' := cxW (u2 z 40 1 sz) (uf (uf f 93 lt) 94 g) C T rc tl) rfl ?_
          refine Rx.lt2 rfl rfl ⟨by omega, by omega⟩ ⟨by omega, by omega⟩ (fun b27 => ?_) (fun b27 => by omega)
          refine Rx.walk 3 (pc' := 71) (L' := [some (.ref 40), some (.ref 93), some (.ref 94), some (.int (iz top)), some (.int (iz i)), some (.int (iz s)), some (.int (iz ((-13) - s)))]) (st' := [.int (iz s), .int (iz top), .ref 94]) (h' := cxW (u2 z 40 1 sz) (uf (uf f 93 lt) 94 g) C T rc tl) rfl ?_
          refine Rx.lt1 rfl rfl ⟨by omega, by omega⟩ (fun b28 => ?_) (fun b28 => by omega)
          refine Rx.walk 2 (pc' := 82) (L' := [some (.ref 40), some (.ref 93), some (.ref 94), some (.int (iz top)), some (.int (iz i)), some (.int (iz s)), some (.int (iz ((-13) - s)))]) (st' := [.int (iz ((-13) - s)), .ref 93, .int (iz top), .ref 94]) (h' := cxW (u2 z 40 1 sz) (uf (uf f 93 lt) 94 g) C T rc tl) rfl ?_
          refine Rx.ial (g := lt) rfl rfl (by omega) (by omega) (by omega) ?_
          refine Rx.ias (g := g) (h' := cxW (u2 z 40 1 sz) (uf (uf f 93 lt) 94 (iu g top (lt ((-13) - s)))) C T rc tl) rfl rfl (by omega) (by omega) (by omega) rfl ?_
          refine Rx.iinc (b := 1) rfl rfl rfl ?_
          refine Rx.walk 0 (pc' := 87) (L' := [some (.ref 40), some (.ref 93), some (.ref 94), some (.int (iz (top + 1))), some (.int (iz i)), some (.int (iz s)), some (.int (iz ((-13) - s)))]) (st' := []) (h' := cxW (u2 z 40 1 sz) (uf (uf f 93 lt) 94 (iu g top (lt ((-13) - s)))) C T rc tl) rfl ?_
          refine Rx.walk 1 (pc' := 187) (L' := [some (.ref 40), some (.ref 93), some (.ref 94), some (.int (iz (top + 1))), some (.int (iz i)), some (.int (iz s)), some (.int (iz ((-13) - s)))]) (st' := []) (h' := cxW (u2 z 40 1 sz) (uf (uf f 93 lt) 94 (iu g top (lt ((-13) - s)))) C T rc tl) rfl ?_
          refine Rx.iinc (b := 1) rfl rfl rfl ?_
          refine Rx.walk 0 (pc' := 190) (L' := [some (.ref 40), some (.ref 93), some (.ref 94), some (.int (iz (top + 1))), some (.int (iz (i + 1))), some (.int (iz s)), some (.int (iz ((-13) - s)))]) (st' := []) (h' := cxW (u2 z 40 1 sz) (uf (uf f 93 lt) 94 (iu g top (lt ((-13) - s)))) C T rc tl) rfl ?_
          refine Rx.walk 1 (pc' := 5) (L' := [some (.ref 40), some (.ref 93), some (.ref 94), some (.int (iz (top + 1))), some (.int (iz (i + 1))), some (.int (iz s)), some (.int (iz ((-13) - s)))]) (st' := []) (h' := cxW (u2 z 40 1 sz) (uf (uf f 93 lt) 94 (iu g top (lt ((-13) - s)))) C T rc tl) rfl ?_
          exact ih (i + 1) (top + 1) (iu g top (lt ((-13) - s))) (some (.int (iz s))) (some (.int (iz ((-13) - s)))) ⟨by omega, by omega⟩ ⟨by omega, by omega⟩ (inB_iu hlb hg) (by rw [stA_push (by omega)]; exact hok2) (by rw [stA_push (by omega)]; exact hW) (by omega) 
set_option maxRecDepth 100000 in
set_option maxHeartbeats 4000000 in
theorem x_worth40 (d : Nat) (z : Nat → Nat → Int) (f : Nat → Int → Int) (C : Nat → CuR) (T : Nat → TsR) (rc : Nat → Nat) (tl : AmH)  (sz : Int) (ln : Nat) (cd : Int → Int) (lt : Int → Int) (g : Int → Int) (hrc : 98 ≤ rc 40 ∧ am_nth tl (rc 40 - 98) = some (.inl (.int, ln, .inl (av cd)))) (hsz : 0 ≤ sz ∧ sz ≤ 161 ∧ sz = (ln : Int)) (hcb : ∀ j : Int, 0 ≤ j → j < sz → sgB (cd j)) (hL : bdL lt) (hok : okW lt (crem cd 0 sz.toNat) false []) : Rx (d + 2) m_X6_worth 0 (am_ent [.ref 40, .ref 93, .ref 94] 7) [] (cxW (u2 z 40 1 sz) (uf (uf f 93 lt) 94 g) C T rc tl) (fun rv h => ∃ r : Int, ∃ g' : Int → Int, rv = some (.int (iz r)) ∧ h = cxW (u2 z 40 1 sz) (uf (uf f 93 lt) 94 g') C T rc tl ∧ r = rnW lt (crem cd 0 sz.toNat) false []) := by
  refine Rx.walk 0 (pc' := 0) (L' := [some (.ref 40), some (.ref 93), some (.ref 94), none, none, none, none]) (st' := []) (h' := cxW (u2 z 40 1 sz) (uf (uf f 93 lt) 94 g) C T rc tl) rfl ?_
  refine Rx.walk 4 (pc' := 5) (L' := [some (.ref 40), some (.ref 93), some (.ref 94), some (.int (iz 0)), some (.int (iz 0)), none, none]) (st' := []) (h' := cxW (u2 z 40 1 sz) (uf (uf f 93 lt) 94 g) C T rc tl) rfl ?_
  refine x_worth_l40 _ z f C T rc tl  sz ln cd lt (rnW lt (crem cd 0 sz.toNat) false []) hrc hsz hcb hL _ ?_ ((sz + 1 - 0) + 1 : Int).toNat 0 0 g none none ⟨by omega, by omega⟩ ⟨by omega, by omega⟩ (fun j a c => by exfalso; omega) (by rw [show sz - 0 = sz by omega]; exact hok) (by rw [show sz - 0 = sz by omega]; rfl) (by omega) 
  intro r_1 g_2 f3
  show (fun (rv : Option Value) (h : AmH) => ∃ r : Int, ∃ g' : Int → Int, rv = some (.int (iz r)) ∧ h = cxW (u2 z 40 1 sz) (uf (uf f 93 lt) 94 g') C T rc tl ∧ r = rnW lt (crem cd 0 sz.toNat) false []) (some (Value.int (iz r_1))) (cxW (u2 z 40 1 sz) (uf (uf f 93 lt) 94 g_2) C T rc tl)
  exact ⟨_, _, rfl, rfl, f3⟩
set_option maxRecDepth 100000 in
set_option maxHeartbeats 4000000 in
theorem x_nextA_l42 (d : Nat) (z : Nat → Nat → Int) (f : Nat → Int → Int) (C : Nat → CuR) (T : Nat → TsR) (rc : Nat → Nat) (tl : AmH)  (i0 : Int) (sz : Int) (ln : Nat) (cd : Int → Int) (hrc : 98 ≤ rc 42 ∧ am_nth tl (rc 42 - 98) = some (.inl (.int, ln, .inl (av cd)))) (hsz : 0 ≤ sz ∧ sz ≤ 161 ∧ sz = (ln : Int)) (hcb : ∀ j : Int, 0 ≤ j → j < sz → sgB (cd j)) (P : Option Value → AmH → Prop) (hx0 : ∀ (r : Int), (i0 ≤ r ∧ r ≤ sz) → (r < sz → cd r = -12) → (∀ j : Int, i0 ≤ j → j < r → cd j ≠ -12) → P (some (.int (iz r))) (cxW (u2 z 42 1 sz) f C T rc tl)) : ∀ (kF : Nat) (i : Int), (0 ≤ i0 ∧ i0 ≤ i ∧ i ≤ sz) → (∀ j : Int, i0 ≤ j → j < i → cd j ≠ -12) → (sz - i) < (kF : Int) → Rx (d) m_X6_nextAnswer 2 [some (.ref 42), some (.int (iz i0)), some (.int (iz i))] [] (cxW (u2 z 42 1 sz) f C T rc tl) P := by
  obtain ⟨hz0, hz1, hz2⟩ := id hsz
  intro kF
  induction kF with
  | zero =>
    intro i hi hj hk
    exfalso; omega
  | succ kF ih =>
    intro i hi hj hk
    refine Rx.walk 3 (pc' := 7) (L' := [some (.ref 42), some (.int (iz i0)), some (.int (iz i))]) (st' := [.int (iz sz), .int (iz i)]) (h' := cxW (u2 z 42 1 sz) f C T rc tl) rfl ?_
    refine Rx.ge2 rfl rfl ⟨by omega, by omega⟩ ⟨by omega, by omega⟩ (fun b1 => ?_) (fun b1 => ?_)
    · refine Rx.walk 2 (pc' := 33) (L' := [some (.ref 42), some (.int (iz i0)), some (.int (iz i))]) (st' := [.int (iz sz)]) (h' := cxW (u2 z 42 1 sz) f C T rc tl) rfl ?_
      refine Rx.ret rfl ?_
      exact hx0 _ ⟨by omega, by omega⟩ (fun q => by first | (rw [← hs]; omega) | (exfalso; omega)) (fun j a c => hj j a (by omega))
    · refine Rx.walk 3 (pc' := 15) (L' := [some (.ref 42), some (.int (iz i0)), some (.int (iz i))]) (st' := [.int (iz i), .ref (rc 42)]) (h' := cxW (u2 z 42 1 sz) f C T rc tl) rfl ?_
      refine Rx.ial (g := cd) rfl (cW_tl hrc.1 hrc.2) (by omega) (by omega) (by omega) ?_
      obtain ⟨hsb, hsc⟩ := hcb i (by omega) (by omega)
      obtain ⟨s, hs⟩ : ∃ s, s = cd i := ⟨_, rfl⟩
      rw [← hs] at hsb hsc ⊢
      refine Rx.walk 1 (pc' := 18) (L' := [some (.ref 42), some (.int (iz i0)), some (.int (iz i))]) (st' := [.int (iz (-12)), .int (iz s)]) (h' := cxW (u2 z 42 1 sz) f C T rc tl) rfl ?_
      refine Rx.ne2 rfl rfl ⟨by omega, by omega⟩ ⟨by omega, by omega⟩ (fun b2 => ?_) (fun b2 => ?_)
      · refine Rx.iinc (b := 1) rfl rfl rfl ?_
        refine Rx.walk 0 (pc' := 26) (L' := [some (.ref 42), some (.int (iz i0)), some (.int (iz (i + 1)))]) (st' := []) (h' := cxW (u2 z 42 1 sz) f C T rc tl) rfl ?_
        refine Rx.walk 1 (pc' := 2) (L' := [some (.ref 42), some (.int (iz i0)), some (.int (iz (i + 1)))]) (st' := []) (h' := cxW (u2 z 42 1 sz) f C T rc tl) rfl ?_
        exact ih (i + 1) ⟨by omega, by omega, by omega⟩ (fun j a c => by rcases Int.lt_or_le j i with q | q; exact hj j a q; (obtain rfl : j = i := (by omega); rw [← hs]; omega)) (by first | assumption | omega) 
      · refine Rx.walk 1 (pc' := 22) (L' := [some (.ref 42), some (.int (iz i0)), some (.int (iz i))]) (st' := [.int (iz i)]) (h' := cxW (u2 z 42 1 sz) f C T rc tl) rfl ?_
        refine Rx.ret rfl ?_
        exact hx0 _ ⟨by omega, by omega⟩ (fun q => by first | (rw [← hs]; omega) | (exfalso; omega)) (fun j a c => hj j a (by omega))
set_option maxRecDepth 100000 in
set_option maxHeartbeats 4000000 in
theorem x_nextA42 (d : Nat) (z : Nat → Nat → Int) (f : Nat → Int → Int) (C : Nat → CuR) (T : Nat → TsR) (rc : Nat → Nat) (tl : AmH)  (sz : Int) (ln : Nat) (cd : Int → Int) (i : Int) (hrc : 98 ≤ rc 42 ∧ am_nth tl (rc 42 - 98) = some (.inl (.int, ln, .inl (av cd)))) (hsz : 0 ≤ sz ∧ sz ≤ 161 ∧ sz = (ln : Int)) (hcb : ∀ j : Int, 0 ≤ j → j < sz → sgB (cd j)) (hi : 0 ≤ i ∧ i ≤ sz) : Rx (d) m_X6_nextAnswer 0 (am_ent [.ref 42, .int (iz i)] 3) [] (cxW (u2 z 42 1 sz) f C T rc tl) (fun rv h => ∃ r : Int, rv = some (.int (iz r)) ∧ h = cxW (u2 z 42 1 sz) f C T rc tl ∧ (i ≤ r ∧ r ≤ sz) ∧ (r < sz → cd r = -12) ∧ (∀ j : Int, i ≤ j → j < r → cd j ≠ -12)) := by
  refine Rx.walk 0 (pc' := 0) (L' := [some (.ref 42), some (.int (iz i)), none]) (st' := []) (h' := cxW (u2 z 42 1 sz) f C T rc tl) rfl ?_
  refine Rx.walk 2 (pc' := 2) (L' := [some (.ref 42), some (.int (iz i)), some (.int (iz i))]) (st' := []) (h' := cxW (u2 z 42 1 sz) f C T rc tl) rfl ?_
  refine x_nextA_l42 _ z f C T rc tl  i sz ln cd hrc hsz hcb _ ?_ ((sz - i) + 1 : Int).toNat i ⟨by omega, by omega, by omega⟩ (fun j a c => by exfalso; omega) (by omega) 
  intro r_1 f2 f3 f4
  show (fun (rv : Option Value) (h : AmH) => ∃ r : Int, rv = some (.int (iz r)) ∧ h = cxW (u2 z 42 1 sz) f C T rc tl ∧ (i ≤ r ∧ r ≤ sz) ∧ (r < sz → cd r = -12) ∧ (∀ j : Int, i ≤ j → j < r → cd j ≠ -12)) (some (Value.int (iz r_1))) (cxW (u2 z 42 1 sz) f C T rc tl)
  exact ⟨_, rfl, rfl, f2, f3, f4⟩
set_option maxRecDepth 100000 in
set_option maxHeartbeats 4000000 in
theorem x_worth_l42 (d : Nat) (z : Nat → Nat → Int) (f : Nat → Int → Int) (C : Nat → CuR) (T : Nat → TsR) (rc : Nat → Nat) (tl : AmH)  (sz : Int) (ln : Nat) (cd : Int → Int) (lt : Int → Int) (W : Int) (hrc : 98 ≤ rc 42 ∧ am_nth tl (rc 42 - 98) = some (.inl (.int, ln, .inl (av cd)))) (hsz : 0 ≤ sz ∧ sz ≤ 161 ∧ sz = (ln : Int)) (hcb : ∀ j : Int, 0 ≤ j → j < sz → sgB (cd j)) (hL : bdL lt) (P : Option Value → AmH → Prop) (hx0 : ∀ (r : Int) (g' : Int → Int), (r = W) → P (some (.int (iz r))) (cxW (u2 z 42 1 sz) (uf (uf f 93 lt) 94 g') C T rc tl)) : ∀ (kF : Nat) (i : Int) (top : Int) (g : Int → Int) (w5 : Option Value) (w6 : Option Value), (0 ≤ i ∧ i ≤ sz + 1) → (0 ≤ top ∧ top ≤ i) → (∀ j : Int, 0 ≤ j → j < top → inB (g j)) → (okW lt (crem cd i (sz - i).toNat) false (stA g top.toNat)) → (W = rnW lt (crem cd i (sz - i).toNat) false (stA g top.toNat)) → (sz + 1 - i) < (kF : Int) → Rx (d + 2) m_X6_worth 5 [some (.ref 42), some (.ref 93), some (.ref 94), some (.int (iz top)), some (.int (iz i)), w5, w6] [] (cxW (u2 z 42 1 sz) (uf (uf f 93 lt) 94 g) C T rc tl) P := by
  obtain ⟨hz0, hz1, hz2⟩ := id hsz
  intro kF
  induction kF with
  | zero =>
    intro i top g w5 w6 hi ht hg hok hW hk
    exfalso; omega
  | succ kF ih =>
    intro i top g w5 w6 hi ht hg hok hW hk
    refine Rx.walk 3 (pc' := 11) (L' := [some (.ref 42), some (.ref 93), some (.ref 94), some (.int (iz top)), some (.int (iz i)), w5, w6]) (st' := [.int (iz sz), .int (iz i)]) (h' := cxW (u2 z 42 1 sz) (uf (uf f 93 lt) 94 g) C T rc tl) rfl ?_
    refine Rx.ge2 rfl rfl ⟨by omega, by omega⟩ ⟨by omega, by omega⟩ (fun b1 => ?_) (fun b1 => ?_)
    · refine Rx.walk 1 (pc' := 194) (L' := [some (.ref 42), some (.ref 93), some (.ref 94), some (.int (iz top)), some (.int (iz i)), w5, w6]) (st' := [.int (iz 0)]) (h' := cxW (u2 z 42 1 sz) (uf (uf f 93 lt) 94 g) C T rc tl) rfl ?_
      refine Rx.ret rfl ?_
      exact hx0 _ _ (by rw [crem_z (by omega)] at hW; exact hW.symm)
    · refine Rx.walk 3 (pc' := 20) (L' := [some (.ref 42), some (.ref 93), some (.ref 94), some (.int (iz top)), some (.int (iz i)), w5, w6]) (st' := [.ref (rc 42), .int (iz i)]) (h' := cxW (u2 z 42 1 sz) (uf (uf f 93 lt) 94 g) C T rc tl) rfl ?_
      refine Rx.alS rfl (cW_tl hrc.1 hrc.2) ?_
      refine Rx.ge2 rfl rfl ⟨by omega, by omega⟩ ⟨by omega, by omega⟩ (fun b2 => by omega) (fun b2 => ?_)
      rw [crem_s (show i < sz by omega)] at hok hW
      refine Rx.walk 3 (pc' := 30) (L' := [some (.ref 42), some (.ref 93), some (.ref 94), some (.int (iz top)), some (.int (iz i)), w5, w6]) (st' := [.int (iz i), .ref (rc 42)]) (h' := cxW (u2 z 42 1 sz) (uf (uf f 93 lt) 94 g) C T rc tl) rfl ?_
      refine Rx.ial (g := cd) rfl (cW_tl hrc.1 hrc.2) (by omega) (by omega) (by omega) ?_
      obtain ⟨hsb, hsc⟩ := hcb i (by omega) (by omega)
      obtain ⟨s, hs⟩ : ∃ s, s = cd i := ⟨_, rfl⟩
      rw [← hs] at hsb hsc hok hW ⊢
      refine Rx.walk 2 (pc' := 35) (L' := [some (.ref 42), some (.ref 93), some (.ref 94), some (.int (iz top)), some (.int (iz i)), some (.int (iz s)), w6]) (st' := [.int (iz s)]) (h' := cxW (u2 z 42 1 sz) (uf (uf f 93 lt) 94 g) C T rc tl) rfl ?_
      refine Rx.ge1 rfl rfl ⟨by omega, by omega⟩ (fun b3 => ?_) (fun b3 => ?_)
      · rw [okW_num (by omega)] at hok
        rw [rnW_num (by omega)] at hW
        have hok1 := hok.1
        have hok2 := hok.2
        refine Rx.walk 2 (pc' := 49) (L' := [some (.ref 42), some (.ref 93), some (.ref 94), some (.int (iz top)), some (.int (iz i)), some (.int (iz s)), w6]) (st' := [.int (iz s), .int (iz (-13))]) (h' := cxW (u2 z 42 1 sz) (uf (uf f 93 lt) 94 g) C T rc tl) rfl ?_
        refine Rx.isub rfl ?_
        refine Rx.walk 4 (pc' := 55) (L' := [some (.ref 42), some (.ref 93), some (.ref 94), some (.int (iz top)), some (.int (iz i)), some (.int (iz s)), some (.int (iz ((-13) - s)))]) (st' := [.int (iz 161), .int (iz top)]) (h' := cxW (u2 z 42 1 sz) (uf (uf f 93 lt) 94 g) C T rc tl) rfl ?_
        refine Rx.ge2 rfl rfl ⟨by omega, by omega⟩ ⟨by omega, by omega⟩ (fun b4 => by omega) (fun b4 => ?_)
        refine Rx.walk 3 (pc' := 62) (L' := [some (.ref 42), some (.ref 93), some (.ref 94), some (.int (iz top)), some (.int (iz i)), some (.int (iz s)), some (.int (iz ((-13) - s)))]) (st' := [.int (iz 6), .int (iz ((-13) - s))]) (h' := cxW (u2 z 42 1 sz) (uf (uf f 93 lt) 94 g) C T rc tl) rfl ?_
        refine Rx.lt2 rfl rfl ⟨by omega, by omega⟩ ⟨by omega, by omega⟩ (fun b5 => ?_) (fun b5 => by omega)
        refine Rx.walk 3 (pc' := 71) (L' := [some (.ref 42), some (.ref 93), some (.ref 94), some (.int (iz top)), some (.int (iz i)), some (.int (iz s)), some (.int (iz ((-13) - s)))]) (st' := [.int (iz s), .int (iz top), .ref 94]) (h' := cxW (u2 z 42 1 sz) (uf (uf f 93 lt) 94 g) C T rc tl) rfl ?_
        refine Rx.lt1 rfl rfl ⟨by omega, by omega⟩ (fun b6 => by omega) (fun b6 => ?_)
        refine Rx.walk 2 (pc' := 83) (L' := [some (.ref 42), some (.ref 93), some (.ref 94), some (.int (iz top)), some (.int (iz i)), some (.int (iz s)), some (.int (iz ((-13) - s)))]) (st' := [.int (iz s), .int (iz top), .ref 94]) (h' := cxW (u2 z 42 1 sz) (uf (uf f 93 lt) 94 g) C T rc tl) rfl ?_
        refine Rx.ias (g := g) (h' := cxW (u2 z 42 1 sz) (uf (uf f 93 lt) 94 (iu g top s)) C T rc tl) rfl rfl (by omega) (by omega) (by omega) rfl ?_
        refine Rx.iinc (b := 1) rfl rfl rfl ?_
        refine Rx.walk 0 (pc' := 87) (L' := [some (.ref 42), some (.ref 93), some (.ref 94), some (.int (iz (top + 1))), some (.int (iz i)), some (.int (iz s)), some (.int (iz ((-13) - s)))]) (st' := []) (h' := cxW (u2 z 42 1 sz) (uf (uf f 93 lt) 94 (iu g top s)) C T rc tl) rfl ?_
        refine Rx.walk 1 (pc' := 187) (L' := [some (.ref 42), some (.ref 93), some (.ref 94), some (.int (iz (top + 1))), some (.int (iz i)), some (.int (iz s)), some (.int (iz ((-13) - s)))]) (st' := []) (h' := cxW (u2 z 42 1 sz) (uf (uf f 93 lt) 94 (iu g top s)) C T rc tl) rfl ?_
        refine Rx.iinc (b := 1) rfl rfl rfl ?_
        refine Rx.walk 0 (pc' := 190) (L' := [some (.ref 42), some (.ref 93), some (.ref 94), some (.int (iz (top + 1))), some (.int (iz (i + 1))), some (.int (iz s)), some (.int (iz ((-13) - s)))]) (st' := []) (h' := cxW (u2 z 42 1 sz) (uf (uf f 93 lt) 94 (iu g top s)) C T rc tl) rfl ?_
        refine Rx.walk 1 (pc' := 5) (L' := [some (.ref 42), some (.ref 93), some (.ref 94), some (.int (iz (top + 1))), some (.int (iz (i + 1))), some (.int (iz s)), some (.int (iz ((-13) - s)))]) (st' := []) (h' := cxW (u2 z 42 1 sz) (uf (uf f 93 lt) 94 (iu g top s)) C T rc tl) rfl ?_
        exact ih (i + 1) (top + 1) (iu g top s) (some (.int (iz s))) (some (.int (iz ((-13) - s)))) ⟨by omega, by omega⟩ ⟨by omega, by omega⟩ (inB_iu (show inB s from ⟨by omega, by omega⟩) hg) (by rw [stA_push (by omega)]; exact hok2) (by rw [stA_push (by omega)]; exact hW) (by omega) 
      · refine Rx.walk 2 (pc' := 42) (L' := [some (.ref 42), some (.ref 93), some (.ref 94), some (.int (iz top)), some (.int (iz i)), some (.int (iz s)), w6]) (st' := [.int (iz (-13)), .int (iz s)]) (h' := cxW (u2 z 42 1 sz) (uf (uf f 93 lt) 94 g) C T rc tl) rfl ?_
        refine Rx.gt2 rfl rfl ⟨by omega, by omega⟩ ⟨by omega, by omega⟩ (fun b7 => ?_) (fun b7 => ?_)
        · rw [okW_lo (by omega) (by omega)] at hok
          have hlen := stA_len g top.toNat
          have ht1 : 1 ≤ top := by have := hok.1; omega
          have hlen2 : 2 ≤ (stA g top.toNat).length → 2 ≤ top := fun q => by omega
          rw [stA_s ht1] at hok hW
          have hok2 := hok.2
          have hx := hg (top - 1) (by omega) (by omega)
          obtain ⟨hxa, hxb⟩ := id hx
          refine Rx.walk 2 (pc' := 92) (L' := [some (.ref 42), some (.ref 93), some (.ref 94), some (.int (iz top)), some (.int (iz i)), some (.int (iz s)), w6]) (st' := [.int (iz 1), .int (iz top)]) (h' := cxW (u2 z 42 1 sz) (uf (uf f 93 lt) 94 g) C T rc tl) rfl ?_
          refine Rx.ge2 rfl rfl ⟨by omega, by omega⟩ ⟨by omega, by omega⟩ (fun b8 => ?_) (fun b8 => by omega)
          refine Rx.walk 2 (pc' := 101) (L' := [some (.ref 42), some (.ref 93), some (.ref 94), some (.int (iz top)), some (.int (iz i)), some (.int (iz s)), w6]) (st' := [.int (iz (-12)), .int (iz s)]) (h' := cxW (u2 z 42 1 sz) (uf (uf f 93 lt) 94 g) C T rc tl) rfl ?_
          refine Rx.ne2 rfl rfl ⟨by omega, by omega⟩ ⟨by omega, by omega⟩ (fun b9 => ?_) (fun b9 => ?_)
          · refine Rx.walk 2 (pc' := 114) (L' := [some (.ref 42), some (.ref 93), some (.ref 94), some (.int (iz top)), some (.int (iz i)), some (.int (iz s)), w6]) (st' := [.int (iz (-11)), .int (iz s)]) (h' := cxW (u2 z 42 1 sz) (uf (uf f 93 lt) 94 g) C T rc tl) rfl ?_
            refine Rx.ne2 rfl rfl ⟨by omega, by omega⟩ ⟨by omega, by omega⟩ (fun b10 => ?_) (fun b10 => ?_)
            · refine Rx.walk 2 (pc' := 141) (L' := [some (.ref 42), some (.ref 93), some (.ref 94), some (.int (iz top)), some (.int (iz i)), some (.int (iz s)), w6]) (st' := [.int (iz (-10)), .int (iz s)]) (h' := cxW (u2 z 42 1 sz) (uf (uf f 93 lt) 94 g) C T rc tl) rfl ?_
              refine Rx.ne2 rfl rfl ⟨by omega, by omega⟩ ⟨by omega, by omega⟩ (fun b11 => ?_) (fun b11 => ?_)
              · rw [if_neg (by omega), if_neg (by omega), if_neg (by omega)] at hok2
                have ht2 : 2 ≤ top := hlen2 (by rw [hlen]; have h3 := hok2.1; have h4 := stA_len g (top - 1).toNat; have h5 : 2 ≤ (stA g (top - 1).toNat).length + 1 := h3; omega)
                rw [stA_s (show 1 ≤ top - 1 by omega)] at hok2 hW
                rw [rnW_op (by omega) (by omega)] at hW
                replace hok2 : (s = -8 ∨ s = -9 → (g (top - 1) = 0 ∨ g (top - 1) = 1) ∧ (g (top - 1 - 1) = 0 ∨ g (top - 1 - 1) = 1)) ∧ okW lt (crem cd (i + 1) (sz - (i + 1)).toNat) false (rk s (g (top - 1 - 1)) (g (top - 1)) :: stA g (top - 1 - 1).toNat) := hok2.2
                have hy := hg (top - 1 - 1) (by omega) (by omega)
                refine Rx.walk 2 (pc' := 161) (L' := [some (.ref 42), some (.ref 93), some (.ref 94), some (.int (iz top)), some (.int (iz i)), some (.int (iz s)), w6]) (st' := [.int (iz 2), .int (iz top)]) (h' := cxW (u2 z 42 1 sz) (uf (uf f 93 lt) 94 g) C T rc tl) rfl ?_
                refine Rx.ge2 rfl rfl ⟨by omega, by omega⟩ ⟨by omega, by omega⟩ (fun b12 => ?_) (fun b12 => by omega)
                refine Rx.iinc (b := -1) rfl rfl rfl ?_
                refine Rx.walk 0 (pc' := 169) (L' := [some (.ref 42), some (.ref 93), some (.ref 94), some (.int (iz (top + (-1)))), some (.int (iz i)), some (.int (iz s)), w6]) (st' := []) (h' := cxW (u2 z 42 1 sz) (uf (uf f 93 lt) 94 g) C T rc tl) rfl ?_
                refine Rx.walk 0 (pc' := 169) (L' := [some (.ref 42), some (.ref 93), some (.ref 94), some (.int (iz (top - 1))), some (.int (iz i)), some (.int (iz s)), w6]) (st' := []) (h' := cxW (u2 z 42 1 sz) (uf (uf f 93 lt) 94 g) C T rc tl) rfl ?_
                refine Rx.walk 3 (pc' := 172) (L' := [some (.ref 42), some (.ref 93), some (.ref 94), some (.int (iz (top - 1))), some (.int (iz i)), some (.int (iz s)), w6]) (st' := [.int (iz 1), .int (iz (top - 1)), .ref 94]) (h' := cxW (u2 z 42 1 sz) (uf (uf f 93 lt) 94 g) C T rc tl) rfl ?_
                refine Rx.isub rfl ?_
                refine Rx.walk 4 (pc' := 178) (L' := [some (.ref 42), some (.ref 93), some (.ref 94), some (.int (iz (top - 1))), some (.int (iz i)), some (.int (iz s)), w6]) (st' := [.int (iz 1), .int (iz (top - 1)), .ref 94, .int (iz s), .int (iz ((top - 1) - 1)), .ref 94]) (h' := cxW (u2 z 42 1 sz) (uf (uf f 93 lt) 94 g) C T rc tl) rfl ?_
                refine Rx.isub rfl ?_
                refine Rx.ial (g := g) rfl rfl (by omega) (by omega) (by omega) ?_
                refine Rx.walk 2 (pc' := 182) (L' := [some (.ref 42), some (.ref 93), some (.ref 94), some (.int (iz (top - 1))), some (.int (iz i)), some (.int (iz s)), w6]) (st' := [.int (iz (top - 1)), .ref 94, .int (iz (g ((top - 1) - 1))), .int (iz s), .int (iz ((top - 1) - 1)), .ref 94]) (h' := cxW (u2 z 42 1 sz) (uf (uf f 93 lt) 94 g) C T rc tl) rfl ?_
                refine Rx.ial (g := g) rfl rfl (by omega) (by omega) (by omega) ?_
                refine Rx.callx (m' := m_X6_reckon) (as := [.int (iz s), .int (iz (g ((top - 1) - 1))), .int (iz (g (top - 1)))]) (rest := [.int (iz ((top - 1) - 1)), .ref 94]) rfl (x_reckon _ (cxW (u2 z 42 1 sz) (uf (uf f 93 lt) 94 g) C T rc tl)  s (g ((top - 1) - 1)) (g (top - 1)) ⟨by omega, by omega⟩ hy hx hok2.1) (fun v15 h16 q17 => ?_)
                obtain ⟨r_13, rfl, rfl, f14⟩ := q17
                refine Rx.walk 0 (pc' := 186) (L' := [some (.ref 42), some (.ref 93), some (.ref 94), some (.int (iz (top - 1))), some (.int (iz i)), some (.int (iz s)), w6]) (st' := [.int (iz r_13), .int (iz ((top - 1) - 1)), .ref 94]) (h' := cxW (u2 z 42 1 sz) (uf (uf f 93 lt) 94 g) C T rc tl) rfl ?_
                refine Rx.ias (g := g) (h' := cxW (u2 z 42 1 sz) (uf (uf f 93 lt) 94 (iu g ((top - 1) - 1) r_13)) C T rc tl) rfl rfl (by omega) (by omega) (by omega) rfl ?_
                refine Rx.iinc (b := 1) rfl rfl rfl ?_
                refine Rx.walk 0 (pc' := 190) (L' := [some (.ref 42), some (.ref 93), some (.ref 94), some (.int (iz (top - 1))), some (.int (iz (i + 1))), some (.int (iz s)), w6]) (st' := []) (h' := cxW (u2 z 42 1 sz) (uf (uf f 93 lt) 94 (iu g ((top - 1) - 1) r_13)) C T rc tl) rfl ?_
                refine Rx.walk 1 (pc' := 5) (L' := [some (.ref 42), some (.ref 93), some (.ref 94), some (.int (iz (top - 1))), some (.int (iz (i + 1))), some (.int (iz s)), w6]) (st' := []) (h' := cxW (u2 z 42 1 sz) (uf (uf f 93 lt) 94 (iu g ((top - 1) - 1) r_13)) C T rc tl) rfl ?_
                exact ih (i + 1) (top - 1) (iu g ((top - 1) - 1) r_13) (some (.int (iz s))) w6 ⟨by omega, by omega⟩ ⟨by omega, by omega⟩ (by have q := inB_iu (t := top - 1 - 1) (v := r_13) (g := g) (by rw [f14]; exact rk_b hy) (fun j a c => hg j a (by omega)); rw [show top - 1 - 1 + 1 = top - 1 by omega] at q; exact q) (by have q := stA_push (g := g) (t := top - 1 - 1) (v := r_13) (by omega); rw [show top - 1 - 1 + 1 = top - 1 by omega] at q; rw [q, f14]; exact hok2.2) (by have q := stA_push (g := g) (t := top - 1 - 1) (v := r_13) (by omega); rw [show top - 1 - 1 + 1 = top - 1 by omega] at q; rw [q, f14]; exact hW) (by omega) 
              · have hsE : s = -10 := by omega
                rw [hsE, rnW_not] at hW
                rw [if_neg (by omega), if_neg (by omega), if_pos hsE] at hok2
                replace hok2 : (g (top - 1) = 0 ∨ g (top - 1) = 1) ∧ okW lt (crem cd (i + 1) (sz - (i + 1)).toNat) false ((1 - g (top - 1)) :: stA g (top - 1).toNat) := hok2
                refine Rx.walk 3 (pc' := 147) (L' := [some (.ref 42), some (.ref 93), some (.ref 94), some (.int (iz top)), some (.int (iz i)), some (.int (iz s)), w6]) (st' := [.int (iz 1), .int (iz top), .ref 94]) (h' := cxW (u2 z 42 1 sz) (uf (uf f 93 lt) 94 g) C T rc tl) rfl ?_
                refine Rx.isub rfl ?_
                refine Rx.walk 4 (pc' := 152) (L' := [some (.ref 42), some (.ref 93), some (.ref 94), some (.int (iz top)), some (.int (iz i)), some (.int (iz s)), w6]) (st' := [.int (iz 1), .int (iz top), .ref 94, .int (iz 1), .int (iz (top - 1)), .ref 94]) (h' := cxW (u2 z 42 1 sz) (uf (uf f 93 lt) 94 g) C T rc tl) rfl ?_
                refine Rx.isub rfl ?_
                refine Rx.ial (g := g) rfl rfl (by omega) (by omega) (by omega) ?_
                refine Rx.isub rfl ?_
                refine Rx.ias (g := g) (h' := cxW (u2 z 42 1 sz) (uf (uf f 93 lt) 94 (iu g (top - 1) (1 - (g (top - 1))))) C T rc tl) rfl rfl (by omega) (by omega) (by omega) rfl ?_
                refine Rx.walk 1 (pc' := 187) (L' := [some (.ref 42), some (.ref 93), some (.ref 94), some (.int (iz top)), some (.int (iz i)), some (.int (iz s)), w6]) (st' := []) (h' := cxW (u2 z 42 1 sz) (uf (uf f 93 lt) 94 (iu g (top - 1) (1 - (g (top - 1))))) C T rc tl) rfl ?_
                refine Rx.iinc (b := 1) rfl rfl rfl ?_
                refine Rx.walk 0 (pc' := 190) (L' := [some (.ref 42), some (.ref 93), some (.ref 94), some (.int (iz top)), some (.int (iz (i + 1))), some (.int (iz s)), w6]) (st' := []) (h' := cxW (u2 z 42 1 sz) (uf (uf f 93 lt) 94 (iu g (top - 1) (1 - (g (top - 1))))) C T rc tl) rfl ?_
                refine Rx.walk 1 (pc' := 5) (L' := [some (.ref 42), some (.ref 93), some (.ref 94), some (.int (iz top)), some (.int (iz (i + 1))), some (.int (iz s)), w6]) (st' := []) (h' := cxW (u2 z 42 1 sz) (uf (uf f 93 lt) 94 (iu g (top - 1) (1 - (g (top - 1))))) C T rc tl) rfl ?_
                exact ih (i + 1) top (iu g (top - 1) (1 - (g (top - 1)))) (some (.int (iz s))) w6 ⟨by omega, by omega⟩ ⟨by omega, by omega⟩ (by have q := inB_iu (t := top - 1) (v := 1 - g (top - 1)) (g := g) ⟨by omega, by omega⟩ (fun j a c => hg j a (by omega)); rw [show top - 1 + 1 = top by omega] at q; exact q) (by have q := stA_push (g := g) (t := top - 1) (v := 1 - g (top - 1)) (by omega); rw [show top - 1 + 1 = top by omega] at q; rw [q]; exact hok2.2) (by have q := stA_push (g := g) (t := top - 1) (v := 1 - g (top - 1)) (by omega); rw [show top - 1 + 1 = top by omega] at q; rw [q]; exact hW) (by omega) 
            · have hsE : s = -11 := by omega
              rw [hsE, rnW_unl] at hW
              rw [if_neg (by omega), if_pos hsE] at hok2
              replace hok2 : okW lt (crem cd (i + 1) (sz - (i + 1)).toNat) (decide (g (top - 1) = 0)) (stA g (top - 1).toNat) := hok2
              refine Rx.iinc (b := -1) rfl rfl rfl ?_
              refine Rx.walk 0 (pc' := 120) (L' := [some (.ref 42), some (.ref 93), some (.ref 94), some (.int (iz (top + (-1)))), some (.int (iz i)), some (.int (iz s)), w6]) (st' := []) (h' := cxW (u2 z 42 1 sz) (uf (uf f 93 lt) 94 g) C T rc tl) rfl ?_
              refine Rx.walk 0 (pc' := 120) (L' := [some (.ref 42), some (.ref 93), some (.ref 94), some (.int (iz (top - 1))), some (.int (iz i)), some (.int (iz s)), w6]) (st' := []) (h' := cxW (u2 z 42 1 sz) (uf (uf f 93 lt) 94 g) C T rc tl) rfl ?_
              refine Rx.walk 2 (pc' := 122) (L' := [some (.ref 42), some (.ref 93), some (.ref 94), some (.int (iz (top - 1))), some (.int (iz i)), some (.int (iz s)), w6]) (st' := [.int (iz (top - 1)), .ref 94]) (h' := cxW (u2 z 42 1 sz) (uf (uf f 93 lt) 94 g) C T rc tl) rfl ?_
              refine Rx.ial (g := g) rfl rfl (by omega) (by omega) (by omega) ?_
              refine Rx.ne1 rfl rfl ⟨by omega, by omega⟩ (fun b18 => ?_) (fun b18 => ?_)
              · refine Rx.iinc (b := 1) rfl rfl rfl ?_
                refine Rx.walk 0 (pc' := 190) (L' := [some (.ref 42), some (.ref 93), some (.ref 94), some (.int (iz (top - 1))), some (.int (iz (i + 1))), some (.int (iz s)), w6]) (st' := []) (h' := cxW (u2 z 42 1 sz) (uf (uf f 93 lt) 94 g) C T rc tl) rfl ?_
                refine Rx.walk 1 (pc' := 5) (L' := [some (.ref 42), some (.ref 93), some (.ref 94), some (.int (iz (top - 1))), some (.int (iz (i + 1))), some (.int (iz s)), w6]) (st' := []) (h' := cxW (u2 z 42 1 sz) (uf (uf f 93 lt) 94 g) C T rc tl) rfl ?_
                have hbn : ¬ g (top - 1) = 0 := by omega
                exact ih (i + 1) (top - 1) g (some (.int (iz s))) w6 ⟨by omega, by omega⟩ ⟨by omega, by omega⟩ (fun j a c => hg j a (by omega)) (by rw [decide_eq_false hbn] at hok2; exact hok2) (by rw [decide_eq_false hbn] at hW; exact hW) (by omega) 
              · refine Rx.walk 2 (pc' := 129) (L' := [some (.ref 42), some (.ref 93), some (.ref 94), some (.int (iz (top - 1))), some (.int (iz i)), some (.int (iz s)), w6]) (st' := [.int (iz i), .ref 42]) (h' := cxW (u2 z 42 1 sz) (uf (uf f 93 lt) 94 g) C T rc tl) rfl ?_
                refine Rx.callx (m' := m_X6_nextAnswer) (as := [.ref 42, .int (iz i)]) (rest := []) rfl (x_nextA42 _ z (uf (uf f 93 lt) 94 g) C T rc tl  sz ln cd i hrc hsz hcb ⟨by omega, by omega⟩) (fun v23 h24 q25 => ?_)
                obtain ⟨r_19, rfl, rfl, f20, f21, f22⟩ := q25
                refine Rx.walk 0 (pc' := 132) (L' := [some (.ref 42), some (.ref 93), some (.ref 94), some (.int (iz (top - 1))), some (.int (iz i)), some (.int (iz s)), w6]) (st' := [.int (iz r_19)]) (h' := cxW (u2 z 42 1 sz) (uf (uf f 93 lt) 94 g) C T rc tl) rfl ?_
                refine Rx.walk 2 (pc' := 187) (L' := [some (.ref 42), some (.ref 93), some (.ref 94), some (.int (iz (top - 1))), some (.int (iz r_19)), some (.int (iz s)), w6]) (st' := []) (h' := cxW (u2 z 42 1 sz) (uf (uf f 93 lt) 94 g) C T rc tl) rfl ?_
                refine Rx.iinc (b := 1) rfl rfl rfl ?_
                refine Rx.walk 0 (pc' := 190) (L' := [some (.ref 42), some (.ref 93), some (.ref 94), some (.int (iz (top - 1))), some (.int (iz (r_19 + 1))), some (.int (iz s)), w6]) (st' := []) (h' := cxW (u2 z 42 1 sz) (uf (uf f 93 lt) 94 g) C T rc tl) rfl ?_
                refine Rx.walk 1 (pc' := 5) (L' := [some (.ref 42), some (.ref 93), some (.ref 94), some (.int (iz (top - 1))), some (.int (iz (r_19 + 1))), some (.int (iz s)), w6]) (st' := []) (h' := cxW (u2 z 42 1 sz) (uf (uf f 93 lt) 94 g) C T rc tl) rfl ?_
                have hbz : g (top - 1) = 0 := by omega
                have hri : r_19 ≠ i := fun q => by have q2 := f21 (by omega); rw [q] at q2; omega
                have hsk := rnW_na (L := lt) (cd := cd) (sz := sz) (r := r_19) (st := stA g (top - 1).toNat) (by omega) f21 (r_19 - (i + 1)).toNat (i + 1) (by omega) (fun j a c => f22 j (by omega) c)
                exact ih (r_19 + 1) (top - 1) g (some (.int (iz s))) w6 ⟨by omega, by omega⟩ ⟨by omega, by omega⟩ (fun j a c => hg j a (by omega)) (by rw [← hsk.2]; rw [decide_eq_true hbz] at hok2; exact hok2) (by rw [← hsk.1]; rw [decide_eq_true hbz] at hW; exact hW) (by omega) 
          · have hsE : s = -12 := by omega
            rw [hsE, rnW_ans] at hW
            refine Rx.walk 3 (pc' := 107) (L' := [some (.ref 42), some (.ref 93), some (.ref 94), some (.int (iz top)), some (.int (iz i)), some (.int (iz s)), w6]) (st' := [.int (iz 1), .int (iz top), .ref 94]) (h' := cxW (u2 z 42 1 sz) (uf (uf f 93 lt) 94 g) C T rc tl) rfl ?_
            refine Rx.isub rfl ?_
            refine Rx.ial (g := g) rfl rfl (by omega) (by omega) (by omega) ?_
            refine Rx.ret rfl ?_
            exact hx0 _ _ hW.symm
        · rw [okW_let (by omega)] at hok
          rw [rnW_let (by omega)] at hW
          have hok1 := hok.1
          have hok2 := hok.2
          have hlb := hL (-13 - s) (by omega) (by omega)
          refine Rx.walk 2 (pc' := 49) (L' := [some (.ref 42), some (.ref 93), some (.ref 94), some (.int (iz top)), some (.int (iz i)), some (.int (iz s)), w6]) (st' := [.int (iz s), .int (iz (-13))]) (h' := cxW (u2 z 42 1 sz) (uf (uf f 93 lt) 94 g) C T rc tl) rfl ?_
          refine Rx.isub rfl ?_
          refine Rx.walk 4 (pc' := 55) (L' := [some (.ref 42), some (.ref 93), some (.ref 94), some (.int (iz top)), some (.int (iz i)), some (.int (iz s)), some (.int (iz ((-13) - s)))]) (st' := [.int (iz 161), .int (iz top)]) (h' := cxW (u2 z 42 1 sz) (uf (uf f 93 lt) 94 g) C T rc tl) rfl ?_
          refine Rx.ge2 rfl rfl ⟨by omega, by omega⟩ ⟨by omega, by omega⟩ (fun b26 => by omega) (fun b26 => ?_)
          refine Rx.walk 3 (pc' := 62) (L' := [some (.ref 42), some (.ref 93), some (.ref 94), some (.int (iz top)), some (.int (iz i)), some (.int (iz s)), some (.int (iz ((-13) - s)))]) (st' := [.int (iz 6), .int (iz ((-13) - s))]) (h' := cxW (u2 z 42 1 sz) (uf (uf f 93 lt) 94 g) C T rc tl) rfl ?_
          refine Rx.lt2 rfl rfl ⟨by omega, by omega⟩ ⟨by omega, by omega⟩ (fun b27 => ?_) (fun b27 => by omega)
          refine Rx.walk 3 (pc' := 71) (L' := [some (.ref 42), some (.ref 93), some (.ref 94), some (.int (iz top)), some (.int (iz i)), some (.int (iz s)), some (.int (iz ((-13) - s)))]) (st' := [.int (iz s), .int (iz top), .ref 94]) (h' := cxW (u2 z 42 1 sz) (uf (uf f 93 lt) 94 g) C T rc tl) rfl ?_
          refine Rx.lt1 rfl rfl ⟨by omega, by omega⟩ (fun b28 => ?_) (fun b28 => by omega)
          refine Rx.walk 2 (pc' := 82) (L' := [some (.ref 42), some (.ref 93), some (.ref 94), some (.int (iz top)), some (.int (iz i)), some (.int (iz s)), some (.int (iz ((-13) - s)))]) (st' := [.int (iz ((-13) - s)), .ref 93, .int (iz top), .ref 94]) (h' := cxW (u2 z 42 1 sz) (uf (uf f 93 lt) 94 g) C T rc tl) rfl ?_
          refine Rx.ial (g := lt) rfl rfl (by omega) (by omega) (by omega) ?_
          refine Rx.ias (g := g) (h' := cxW (u2 z 42 1 sz) (uf (uf f 93 lt) 94 (iu g top (lt ((-13) - s)))) C T rc tl) rfl rfl (by omega) (by omega) (by omega) rfl ?_
          refine Rx.iinc (b := 1) rfl rfl rfl ?_
          refine Rx.walk 0 (pc' := 87) (L' := [some (.ref 42), some (.ref 93), some (.ref 94), some (.int (iz (top + 1))), some (.int (iz i)), some (.int (iz s)), some (.int (iz ((-13) - s)))]) (st' := []) (h' := cxW (u2 z 42 1 sz) (uf (uf f 93 lt) 94 (iu g top (lt ((-13) - s)))) C T rc tl) rfl ?_
          refine Rx.walk 1 (pc' := 187) (L' := [some (.ref 42), some (.ref 93), some (.ref 94), some (.int (iz (top + 1))), some (.int (iz i)), some (.int (iz s)), some (.int (iz ((-13) - s)))]) (st' := []) (h' := cxW (u2 z 42 1 sz) (uf (uf f 93 lt) 94 (iu g top (lt ((-13) - s)))) C T rc tl) rfl ?_
          refine Rx.iinc (b := 1) rfl rfl rfl ?_
          refine Rx.walk 0 (pc' := 190) (L' := [some (.ref 42), some (.ref 93), some (.ref 94), some (.int (iz (top + 1))), some (.int (iz (i + 1))), some (.int (iz s)), some (.int (iz ((-13) - s)))]) (st' := []) (h' := cxW (u2 z 42 1 sz) (uf (uf f 93 lt) 94 (iu g top (lt ((-13) - s)))) C T rc tl) rfl ?_
          refine Rx.walk 1 (pc' := 5) (L' := [some (.ref 42), some (.ref 93), some (.ref 94), some (.int (iz (top + 1))), some (.int (iz (i + 1))), some (.int (iz s)), some (.int (iz ((-13) - s)))]) (st' := []) (h' := cxW (u2 z 42 1 sz) (uf (uf f 93 lt) 94 (iu g top (lt ((-13) - s)))) C T rc tl) rfl ?_
          exact ih (i + 1) (top + 1) (iu g top (lt ((-13) - s))) (some (.int (iz s))) (some (.int (iz ((-13) - s)))) ⟨by omega, by omega⟩ ⟨by omega, by omega⟩ (inB_iu hlb hg) (by rw [stA_push (by omega)]; exact hok2) (by rw [stA_push (by omega)]; exact hW) (by omega) 
set_option maxRecDepth 100000 in
set_option maxHeartbeats 4000000 in
theorem x_worth42 (d : Nat) (z : Nat → Nat → Int) (f : Nat → Int → Int) (C : Nat → CuR) (T : Nat → TsR) (rc : Nat → Nat) (tl : AmH)  (sz : Int) (ln : Nat) (cd : Int → Int) (lt : Int → Int) (g : Int → Int) (hrc : 98 ≤ rc 42 ∧ am_nth tl (rc 42 - 98) = some (.inl (.int, ln, .inl (av cd)))) (hsz : 0 ≤ sz ∧ sz ≤ 161 ∧ sz = (ln : Int)) (hcb : ∀ j : Int, 0 ≤ j → j < sz → sgB (cd j)) (hL : bdL lt) (hok : okW lt (crem cd 0 sz.toNat) false []) : Rx (d + 2) m_X6_worth 0 (am_ent [.ref 42, .ref 93, .ref 94] 7) [] (cxW (u2 z 42 1 sz) (uf (uf f 93 lt) 94 g) C T rc tl) (fun rv h => ∃ r : Int, ∃ g' : Int → Int, rv = some (.int (iz r)) ∧ h = cxW (u2 z 42 1 sz) (uf (uf f 93 lt) 94 g') C T rc tl ∧ r = rnW lt (crem cd 0 sz.toNat) false []) := by
  refine Rx.walk 0 (pc' := 0) (L' := [some (.ref 42), some (.ref 93), some (.ref 94), none, none, none, none]) (st' := []) (h' := cxW (u2 z 42 1 sz) (uf (uf f 93 lt) 94 g) C T rc tl) rfl ?_
  refine Rx.walk 4 (pc' := 5) (L' := [some (.ref 42), some (.ref 93), some (.ref 94), some (.int (iz 0)), some (.int (iz 0)), none, none]) (st' := []) (h' := cxW (u2 z 42 1 sz) (uf (uf f 93 lt) 94 g) C T rc tl) rfl ?_
  refine x_worth_l42 _ z f C T rc tl  sz ln cd lt (rnW lt (crem cd 0 sz.toNat) false []) hrc hsz hcb hL _ ?_ ((sz + 1 - 0) + 1 : Int).toNat 0 0 g none none ⟨by omega, by omega⟩ ⟨by omega, by omega⟩ (fun j a c => by exfalso; omega) (by rw [show sz - 0 = sz by omega]; exact hok) (by rw [show sz - 0 = sz by omega]; rfl) (by omega) 
  intro r_1 g_2 f3
  show (fun (rv : Option Value) (h : AmH) => ∃ r : Int, ∃ g' : Int → Int, rv = some (.int (iz r)) ∧ h = cxW (u2 z 42 1 sz) (uf (uf f 93 lt) 94 g') C T rc tl ∧ r = rnW lt (crem cd 0 sz.toNat) false []) (some (Value.int (iz r_1))) (cxW (u2 z 42 1 sz) (uf (uf f 93 lt) 94 g_2) C T rc tl)
  exact ⟨_, _, rfl, rfl, f3⟩

/-! the baker, as numbers: coins handed back, coins put in by a rule, a customer served, rows and days -/
def bkF (w : Int → Int) (e l : Int) : Int := if w e ≤ l then e else 0
def bkG (w : Int → Int) (p0 p1 t l : Int) : Int := max (bkF w (p0 % 5) l) (max (bkF w (p1 % 5) l) (bkF w t l))
def hbk (w : Int → Int) : Nat → Int → Int → Int → Int → Int × Int × Int × Int
  | 0, p0, p1, t, l => (if l ≤ 0 then 1 else 0, p0, p1, t)
  | k + 1, p0, p1, t, l => if l ≤ 0 then (1, p0, p1, t) else if bkG w p0 p1 t l = 0 then (0, p0, p1, t) else if bkF w (p0 % 5) l = bkG w p0 p1 t l then hbk w k (p0 / 5) p1 t (l - w (bkG w p0 p1 t l)) else if bkF w (p1 % 5) l = bkG w p0 p1 t l then hbk w k p0 (p1 / 5) t (l - w (bkG w p0 p1 t l)) else hbk w k p0 p1 0 (l - w (bkG w p0 p1 t l))
section Bk1
variable {w : Int → Int} {p0 p1 t l : Int} {k : Nat}
theorem hbk_0 (h : l ≤ 0) : hbk w k p0 p1 t l = (1, p0, p1, t) := by
  cases k with
  | zero => show (if l ≤ 0 then (1 : Int) else 0, p0, p1, t) = _; rw [if_pos h]
  | succ k => show (if _ then _ else _) = _; rw [if_pos h]
theorem hbk_z (h : ¬ l ≤ 0) : hbk w 0 p0 p1 t l = (0, p0, p1, t) := by
  show (if l ≤ 0 then (1 : Int) else 0, p0, p1, t) = _; rw [if_neg h]
theorem hbk_f (h : ¬ l ≤ 0) (h0 : bkG w p0 p1 t l = 0) : hbk w (k + 1) p0 p1 t l = (0, p0, p1, t) := by
  show (if _ then _ else _) = _; rw [if_neg h, if_pos h0]
theorem hbk_a (h : ¬ l ≤ 0) (h0 : bkG w p0 p1 t l ≠ 0) (h1 : bkF w (p0 % 5) l = bkG w p0 p1 t l) : hbk w (k + 1) p0 p1 t l = hbk w k (p0 / 5) p1 t (l - w (bkG w p0 p1 t l)) := by
  show (if _ then _ else _) = _; rw [if_neg h, if_neg h0, if_pos h1]
theorem hbk_b (h : ¬ l ≤ 0) (h0 : bkG w p0 p1 t l ≠ 0) (h1 : bkF w (p0 % 5) l ≠ bkG w p0 p1 t l) (h2 : bkF w (p1 % 5) l = bkG w p0 p1 t l) : hbk w (k + 1) p0 p1 t l = hbk w k p0 (p1 / 5) t (l - w (bkG w p0 p1 t l)) := by
  show (if _ then _ else _) = _; rw [if_neg h, if_neg h0, if_neg h1, if_pos h2]
theorem hbk_c (h : ¬ l ≤ 0) (h0 : bkG w p0 p1 t l ≠ 0) (h1 : bkF w (p0 % 5) l ≠ bkG w p0 p1 t l) (h2 : bkF w (p1 % 5) l ≠ bkG w p0 p1 t l) : hbk w (k + 1) p0 p1 t l = hbk w k p0 p1 0 (l - w (bkG w p0 p1 t l)) := by
  show (if _ then _ else _) = _; rw [if_neg h, if_neg h0, if_neg h1, if_neg h2]
theorem bkF_c (w : Int → Int) (e l : Int) : (w e ≤ l ∧ bkF w e l = e) ∨ (l < w e ∧ bkF w e l = 0) := by
  unfold bkF
  split
  · exact Or.inl ⟨by assumption, rfl⟩
  · exact Or.inr ⟨by omega, rfl⟩
/-- the greatest that fits: worth no more than what is due -/
theorem bkG_w (hp0 : 0 ≤ p0) (hp1 : 0 ≤ p1) (ht0 : 0 ≤ t) (ht4 : t ≤ 4) (h : bkG w p0 p1 t l ≠ 0) : w (bkG w p0 p1 t l) ≤ l ∧ 1 ≤ bkG w p0 p1 t l ∧ bkG w p0 p1 t l ≤ 4 := by
  have a := bkF_c w (p0 % 5) l
  have b := bkF_c w (p1 % 5) l
  have c := bkF_c w t l
  have e : bkG w p0 p1 t l = bkF w (p0 % 5) l ∨ bkG w p0 p1 t l = bkF w (p1 % 5) l ∨ bkG w p0 p1 t l = bkF w t l := by unfold bkG; omega
  rcases e with e | e | e
  · rw [e] at h ⊢
    rcases a with a | a
    · rw [a.2] at h ⊢; exact ⟨a.1, by omega, by omega⟩
    · exact absurd a.2 h
  · rw [e] at h ⊢
    rcases b with a | a
    · rw [a.2] at h ⊢; exact ⟨a.1, by omega, by omega⟩
    · exact absurd a.2 h
  · rw [e] at h ⊢
    rcases c with a | a
    · rw [a.2] at h ⊢; exact ⟨a.1, by omega, by omega⟩
    · exact absurd a.2 h
end Bk1
/-- what lies in a pipe is worth -/
def wsm (w : Int → Int) (p : Int) : Int := w (p % 5) + w (p / 5 % 5) + w (p / 5 / 5 % 5) + w (p / 5 / 5 / 5 % 5) + w (p / 5 / 5 / 5 / 5 % 5)
def ltB (w : Int → Int) (e i pp po : Int) : Int → Int := fun j => if j = 0 then w e else if j = 1 then w (pp % 5) else if j = 2 then ht pp else if j = 3 then i else if j = 4 then wsm w pp else ht po
theorem ltB_eq {w L : Int → Int} {e i pp po : Int} (h0 : L 0 = w e) (h1 : L 1 = w (pp % 5)) (h2 : L 2 = ht pp) (h3 : L 3 = i) (h4 : L 4 = wsm w pp) (h5 : L 5 = ht po) : ∀ j : Int, 0 ≤ j → j < 6 → L j = ltB w e i pp po j := fun j a b => by
  rcases (show j = 0 ∨ j = 1 ∨ j = 2 ∨ j = 3 ∨ j = 4 ∨ j = 5 by omega) with q | q | q | q | q | q <;> subst q
  · exact h0
  · exact h1
  · exact h2
  · exact h3
  · exact h4
  · exact h5
theorem wsm_b {w : Int → Int} (hw : wOK w) {p : Int} (h : 0 ≤ p) : 0 ≤ wsm w p ∧ wsm w p ≤ 495 := by
  have a := hw.2 (p % 5) (by omega) (by omega)
  have b := hw.2 (p / 5 % 5) (by omega) (by omega)
  have c := hw.2 (p / 5 / 5 % 5) (by omega) (by omega)
  have d := hw.2 (p / 5 / 5 / 5 % 5) (by omega) (by omega)
  have e := hw.2 (p / 5 / 5 / 5 / 5 % 5) (by omega) (by omega)
  unfold wsm
  omega
theorem bdL_eq {L L' : Int → Int} (h : ∀ j : Int, 0 ≤ j → j < 6 → L j = L' j) (hL : bdL L) : bdL L' := fun j a b => by rw [← h j a b]; exact hL j a b
theorem ltB_b {w : Int → Int} (hw : wOK w) {e i pp po : Int} (he : 0 ≤ e ∧ e ≤ 4) (hi : 0 ≤ i ∧ i ≤ 1) (hp : 0 ≤ pp) : bdL (ltB w e i pp po) := fun j a b => by
  have q1 := hw.2 e he.1 he.2
  have q2 := hw.2 (pp % 5) (by omega) (by omega)
  have q3 := ht_c pp
  have q4 := wsm_b hw hp
  have q5 := ht_c po
  unfold ltB inB
  repeat' split
  all_goals omega
theorem rnW_congr {L L' : Int → Int} (hL : ∀ j : Int, 0 ≤ j → j < 6 → L j = L' j) : ∀ (c : List Int) (k : Bool) (st : List Int), okW L c k st → rnW L c k st = rnW L' c k st
  | [], _, _, _ => rfl
  | s :: r, true, st, h => by
    rw [rnW_k, rnW_k]
    rw [okW_k] at h
    exact rnW_congr hL r _ st h
  | s :: r, false, st, h => by
    by_cases h0 : 0 ≤ s
    · rw [okW_num h0] at h
      rw [rnW_num h0, rnW_num h0]
      exact rnW_congr hL r _ _ h.2
    · by_cases h1 : s ≤ -13
      · rw [okW_let h1] at h
        rw [rnW_let h1, rnW_let h1, ← hL (-13 - s) (by omega) (by omega)]
        exact rnW_congr hL r _ _ h.2
      · rw [okW_lo (by omega) (by omega)] at h
        obtain ⟨hl, h⟩ := h
        match st, hl with
        | x :: t, _ =>
          by_cases h2 : s = -12
          · subst h2; rw [rnW_ans, rnW_ans]
          · rw [if_neg h2] at h
            by_cases h3 : s = -11
            · subst h3
              rw [if_pos rfl] at h
              rw [rnW_unl, rnW_unl]
              exact rnW_congr hL r _ _ h
            · rw [if_neg h3] at h
              by_cases h4 : s = -10
              · subst h4
                rw [if_pos rfl] at h
                rw [rnW_not, rnW_not]
                exact rnW_congr hL r _ _ h.2
              · rw [if_neg h4] at h
                obtain ⟨h5, h6, h7⟩ := h
                match t, h5 with
                | y :: u, _ =>
                  rw [rnW_op (by omega) (by omega), rnW_op (by omega) (by omega)]
                  exact rnW_congr hL r _ _ h7
/-- what a rule answers: its code, run -/
def ruV (V : (Int → Int) → Int) (c : List Int) : Prop := ∀ L, bdL L → okW L c false [] ∧ V L = rnW L c false [] ∧ inB (V L)
theorem ruV_congr {V : (Int → Int) → Int} {c : List Int} (h : ruV V c) {L L' : Int → Int} (hL : bdL L) (e : ∀ j : Int, 0 ≤ j → j < 6 → L j = L' j) : V L = V L' := by
  rw [(h L hL).2.1, (h L' (bdL_eq e hL)).2.1]
  exact rnW_congr e c false [] (h L hL).1
theorem ruleL_V {n : Int} {b : Int → Int} (h : (ruleL n b 161 0).1 = true) : ruV (fun L => fnd L (ruleL n b 161 0).2.2.2) (ruleL n b 161 0).2.2.1 := fun L hL => by
  obtain ⟨a, c, d⟩ := ruleL_ev hL 161 0 [] h
  exact ⟨c, a.symm, d⟩
/-- the pipe that a rule chooses for a coin -/
def chP (V : (Int → Int) → Int) (w : Int → Int) (pi len e p0 p1 : Int) : Int := if ht p0 < len then (if 1 < pi ∧ ht p1 < len then (if V (ltB w e 0 p0 p1) < V (ltB w e 1 p1 p0) then 1 else 0) else 0) else (if 1 < pi ∧ ht p1 < len then 1 else -1)
theorem chP_c (V : (Int → Int) → Int) (w : Int → Int) (pi len e p0 p1 : Int) : (chP V w pi len e p0 p1 = 0 ∧ ht p0 < len) ∨ (chP V w pi len e p0 p1 = 1 ∧ 1 < pi ∧ ht p1 < len) ∨ chP V w pi len e p0 p1 = -1 := by
  unfold chP
  split
  · split
    · split
      · exact Or.inr (Or.inl ⟨rfl, by omega, by omega⟩)
      · exact Or.inl ⟨rfl, by assumption⟩
    · exact Or.inl ⟨rfl, by assumption⟩
  · split
    · exact Or.inr (Or.inl ⟨rfl, by omega, by omega⟩)
    · exact Or.inr (Or.inr rfl)
def puB (V : (Int → Int) → Int) (w : Int → Int) (pi len : Int) : List Int → Int → Int → Int × Int × Int
  | [], p0, p1 => (1, p0, p1)
  | e :: r, p0, p1 => if chP V w pi len e p0 p1 = -1 then (0, p0, p1) else if chP V w pi len e p0 p1 = 0 then puB V w pi len r (p0 * 5 + e) p1 else puB V w pi len r p0 (p1 * 5 + e)
/-- served by a rule: spare and hand that the customer gives, the till; -1: not served -/
def tbV (V : (Int → Int) → Int) (w : Int → Int) (pi len : Int) (H : Option (Int × List Int)) (p0 p1 t : Int) : Int := match H with
  | none => -1
  | some x => if (hbk w 11 p0 p1 t x.1).1 = 0 then -1 else if (puB V w pi len x.2 (hbk w 11 p0 p1 t x.1).2.1 (hbk w 11 p0 p1 t x.1).2.2.1).1 = 0 then -1 else tn (puB V w pi len x.2 (hbk w 11 p0 p1 t x.1).2.1 (hbk w 11 p0 p1 t x.1).2.2.1).2.1 (puB V w pi len x.2 (hbk w 11 p0 p1 t x.1).2.1 (hbk w 11 p0 p1 t x.1).2.2.1).2.2 (hbk w 11 p0 p1 t x.1).2.2.2
def tbN (V : (Int → Int) → Int) (w : Int → Int) (pi len : Int) (H : Option (Int × List Int)) (v : Int) : Int := tbV V w pi len H (v / 16 / 3125) (v / 16 % 3125) (dgt (v % 16))
def hdOK (K : Int) (H : Option (Int × List Int)) : Prop := ∀ s l, H = some (s, l) → (0 ≤ s ∧ s < 400) ∧ l.length ≤ 4 ∧ ∀ x ∈ l, 1 ≤ x ∧ x ≤ K
/-- customers one behind another, how many are served -/
def srB (TB : Int → Int → Int) : List Int → Int → Int
  | [], _ => 0
  | c :: r, v => if TB c v = -1 then srB TB r v else srB TB r (TB c v) + 1
def drX (x : Int) : Int := x * 6364136223846793005 + 1442695040888963407
def drC (M x : Int) : Int := drX x % 18446744073709551616 / 8589934592 % M
def dyB (TB : Int → Int → Int) (M : Int) : Nat → Int → Int → Int
  | 0, _, _ => 0
  | k + 1, x, v => if TB (drC M x) v = -1 then dyB TB M k (drX x) v else dyB TB M k (drX x) (TB (drC M x) v) + 1
section Bk2
variable {K len pi : Int} {w : Int → Int}
theorem hbk_okS (hlen : 0 ≤ len) : ∀ (k : Nat) (p0 p1 t l : Int), okS K len pi (p0, p1, t, 0) → K ≤ 4 → okS K len pi ((hbk w k p0 p1 t l).2.1, (hbk w k p0 p1 t l).2.2.1, (hbk w k p0 p1 t l).2.2.2, 0)
  | 0, p0, p1, t, l, h, _ => h
  | k + 1, p0, p1, t, l, h, hK => by
    obtain ⟨h0, h1, h2, h3, h4⟩ := h
    have h0 : okP K len p0 := h0
    have h1 : okP K len p1 := h1
    have h2 : 0 ≤ t := h2
    have h3 : t ≤ K := h3
    have h4 : pi = 1 → p1 = 0 := h4
    have b0 := okP_b h0
    have b1 := okP_b h1
    by_cases hl : l ≤ 0
    · rw [hbk_0 hl]; exact ⟨h0, h1, h2, h3, h4⟩
    · by_cases hg : bkG w p0 p1 t l = 0
      · rw [hbk_f hl hg]; exact ⟨h0, h1, h2, h3, h4⟩
      · have gw := bkG_w b0.1 b1.1 h2 (by omega) hg
        by_cases a : bkF w (p0 % 5) l = bkG w p0 p1 t l
        · rw [hbk_a hl hg a]
          have c := bkF_c w (p0 % 5) l
          exact hbk_okS hlen k _ _ _ _ ⟨(okP_pop h0 (by omega)).1, h1, h2, h3, h4⟩ hK
        · by_cases b : bkF w (p1 % 5) l = bkG w p0 p1 t l
          · rw [hbk_b hl hg a b]
            have c := bkF_c w (p1 % 5) l
            exact hbk_okS hlen k _ _ _ _ ⟨h0, (okP_pop h1 (by omega)).1, h2, h3, fun q => by show p1 / 5 = 0; rw [h4 q]; rfl⟩ hK
          · rw [hbk_c hl hg a b]
            exact hbk_okS hlen k _ _ _ _ ⟨h0, h1, Int.le_refl 0, by show 0 ≤ K; omega, h4⟩ hK
theorem puB_okS {V : (Int → Int) → Int} (h5 : len ≤ 5) (hK : K ≤ 4) : ∀ (l : List Int) (p0 p1 : Int), (∀ x ∈ l, 1 ≤ x ∧ x ≤ K) → okP K len p0 → okP K len p1 → (pi = 1 → p1 = 0) → okP K len (puB V w pi len l p0 p1).2.1 ∧ okP K len (puB V w pi len l p0 p1).2.2 ∧ (pi = 1 → (puB V w pi len l p0 p1).2.2 = 0)
  | [], p0, p1, _, h0, h1, h2 => ⟨h0, h1, h2⟩
  | e :: r, p0, p1, hl, h0, h1, h2 => by
    have he := hl e (List.mem_cons_self ..)
    have hr := fun x hx => hl x (List.mem_cons_of_mem e hx)
    have c := chP_c V w pi len e p0 p1
    show okP K len (if _ then _ else _ : Int × Int × Int).2.1 ∧ okP K len (if _ then _ else _ : Int × Int × Int).2.2 ∧ (pi = 1 → (if _ then _ else _ : Int × Int × Int).2.2 = 0)
    by_cases a : chP V w pi len e p0 p1 = -1
    · rw [if_pos a]; exact ⟨h0, h1, h2⟩
    · rw [if_neg a]
      by_cases b : chP V w pi len e p0 p1 = 0
      · rw [if_pos b]
        exact puB_okS h5 hK r _ _ hr (okP_push h0 (by omega) h5 he.1 he.2 hK) h1 h2
      · rw [if_neg b]
        exact puB_okS h5 hK r _ _ hr h0 (okP_push h1 (by omega) h5 he.1 he.2 hK) (fun q => by omega)
theorem tbN_vT {V : (Int → Int) → Int} {H : Option (Int × List Int)} (hl0 : 0 ≤ len) (h5 : len ≤ 5) (hK0 : 0 ≤ K) (hK : K ≤ 4) (hH : hdOK K H) {v : Int} (hv : vT K len pi v) : tbN V w pi len H v = -1 ∨ vT K len pi (tbN V w pi len H v) := by
  obtain ⟨p0, p1, t, e, k0, k1, t0, t1, hp⟩ := hv
  have b0 := okP_b k0
  have b1 := okP_b k1
  have e3 := tn_0 (p0 := p0) b1.1 b1.2.1 t0 (show t ≤ 4 by omega)
  unfold tbN
  rw [e, e3.1, e3.2.1, e3.2.2, dgt_tw t0 (by omega)]
  cases H with
  | none => exact Or.inl rfl
  | some x =>
    have hx := hH x.1 x.2 rfl
    show (if _ then _ else _ : Int) = -1 ∨ vT K len pi (if _ then _ else _ : Int)
    split
    · exact Or.inl rfl
    · split
      · exact Or.inl rfl
      · obtain ⟨s0, s1, s2, s3, s4⟩ := hbk_okS (w := w) hl0 11 p0 p1 t x.1 ⟨k0, k1, t0, t1, hp⟩ hK
        obtain ⟨u0, u1, u2⟩ := puB_okS (V := V) (w := w) h5 hK x.2 _ _ hx.2.2 s0 s1 s4
        exact Or.inr ⟨_, _, _, rfl, u0, u1, s2, s3, u2⟩
end Bk2

/-! the model's marks: states seen, their ends kept -/
def tbit (t : Int) : Int := if t = 0 then 0 else 1
theorem tbit_c (t : Int) : (t = 0 ∧ tbit t = 0) ∨ (t ≠ 0 ∧ tbit t = 1) := by
  unfold tbit
  split
  · exact Or.inl ⟨by assumption, rfl⟩
  · exact Or.inr ⟨by assumption, rfl⟩
def mkD (a0 a1 : Int → Int) (j : Int) : SS := (a0 (j / 12000), a1 (j / 2000 % 6), j / 400 % 5, j % 400)
def phM (j : Int) : Int := 2 * (j / 12000 + j / 2000 % 6) + tbit (j / 400 % 5)
section Memo
variable (W : SS → Int → Prop) (a0 a1 : Int → Int) (mv : Int)
def mcp (rm : Int) (rs : Int → Int) (j : Int) : Prop := ∀ v, W (mkD a0 a1 j) v → hasR rm rs v
def mmP (ph : Int) (mk : Int → Int) (rm : Int) (rs : Int → Int) : Prop := ∀ j : Int, 0 ≤ j → j < 72000 → mk j = mv → phM j ≤ ph → mcp W a0 a1 rm rs j
def mmX (Wc : Int → Prop) (mk : Int → Int) (rm : Int) (rs : Int → Int) (mk' : Int → Int) (rm' : Int) (rs' : Int → Int) : Prop := krX Wc rm rs rm' rs' ∧ (∀ j : Int, 0 ≤ j → j < 72000 → mk' j = mv → mk j = mv ∨ mcp W a0 a1 rm' rs' j) ∧ (∀ j : Int, 0 ≤ j → j < 72000 → 0 ≤ mk' j ∧ mk' j ≤ mv)
end Memo
section MemoL
variable {W : SS → Int → Prop} {a0 a1 : Int → Int} {mv : Int} {Wc Wd : Int → Prop} {mk mk' mk'' : Int → Int} {rm rm' rm'' : Int} {rs rs' rs'' : Int → Int} {ph ph' : Int}
theorem mcp_x {j : Int} (h : mcp W a0 a1 rm rs j) (x : krX Wc rm rs rm' rs') : mcp W a0 a1 rm' rs' j := fun v hv => hasR_x (h v hv) x
theorem mmX_rf (hI : krI rm rs) (hb : ∀ j : Int, 0 ≤ j → j < 72000 → 0 ≤ mk j ∧ mk j ≤ mv) : mmX W a0 a1 mv Wc mk rm rs mk rm rs := ⟨krX_rf hI, fun _ _ _ h => Or.inl h, hb⟩
theorem mmX_tr (h : mmX W a0 a1 mv Wc mk rm rs mk' rm' rs') (h' : mmX W a0 a1 mv Wc mk' rm' rs' mk'' rm'' rs'') : mmX W a0 a1 mv Wc mk rm rs mk'' rm'' rs'' := ⟨krX_tr h.1 h'.1, fun j j0 j1 e => (h'.2.1 j j0 j1 e).elim (fun q => (h.2.1 j j0 j1 q).imp id (fun y => mcp_x y h'.1)) Or.inr, h'.2.2⟩
theorem mmX_im (h : mmX W a0 a1 mv Wc mk rm rs mk' rm' rs') (hW : ∀ v, Wc v → Wd v) : mmX W a0 a1 mv Wd mk rm rs mk' rm' rs' := ⟨krX_im h.1 hW, h.2⟩
theorem mmP_x (h : mmP W a0 a1 mv ph mk rm rs) (x : mmX W a0 a1 mv Wc mk rm rs mk' rm' rs') : mmP W a0 a1 mv ph mk' rm' rs' := fun j j0 j1 e p => (x.2.1 j j0 j1 e).elim (fun q => mcp_x (h j j0 j1 q p) x.1) id
theorem mmP_le (h : mmP W a0 a1 mv ph mk rm rs) (hp : ph' ≤ ph) : mmP W a0 a1 mv ph' mk rm rs := fun j j0 j1 e p => h j j0 j1 e (by omega)
theorem mmP_mk {j : Int} (h : mmP W a0 a1 mv ph mk rm rs) (hj : phM j = ph) : mmP W a0 a1 mv (ph - 1) (iu mk j mv) rm rs := fun i i0 i1 e p => by
  have hne : i ≠ j := fun q => by rw [q] at p; omega
  rw [iu_ne _ _ hne] at e
  exact h i i0 i1 e (by omega)
/-- a state is marked, and its ends are kept behind that -/
theorem mmX_mk {j : Int} (h : mmX W a0 a1 mv Wc (iu mk j mv) rm rs mk' rm' rs') (hc : mcp W a0 a1 rm' rs' j) : mmX W a0 a1 mv Wc mk rm rs mk' rm' rs' := ⟨h.1, fun i i0 i1 e => by
  by_cases q : i = j
  · rw [q]; exact Or.inr hc
  · have := h.2.1 i i0 i1 e
    rw [iu_ne _ _ q] at this
    exact this, h.2.2⟩
end MemoL
def stp0 (w : Int → Int) (tr : Int) (s s' : SS) : Prop := (0 < s.1 % 5 ∧ w (s.1 % 5) ≤ s.2.2.2 ∧ s' = (s.1 / 5, s.2.1, s.2.2.1, s.2.2.2 - w (s.1 % 5))) ∨ (0 < s.1 % 5 ∧ s.2.2.1 = 0 ∧ 0 < tr ∧ s' = (s.1 / 5, s.2.1, s.1 % 5, s.2.2.2))
def stp1 (w : Int → Int) (tr : Int) (s s' : SS) : Prop := (0 < s.2.1 % 5 ∧ w (s.2.1 % 5) ≤ s.2.2.2 ∧ s' = (s.1, s.2.1 / 5, s.2.2.1, s.2.2.2 - w (s.2.1 % 5))) ∨ (0 < s.2.1 % 5 ∧ s.2.2.1 = 0 ∧ 0 < tr ∧ s' = (s.1, s.2.1 / 5, s.2.1 % 5, s.2.2.2))
theorem stp_012 {w : Int → Int} {tr : Int} {s s' : SS} : stp w tr s s' ↔ s.2.2.2 ≠ 0 ∧ ((0 < s.2.2.1 ∧ w s.2.2.1 ≤ s.2.2.2 ∧ s' = (s.1, s.2.1, 0, s.2.2.2 - w s.2.2.1)) ∨ stp0 w tr s s' ∨ stp1 w tr s s') := by
  unfold stp stp0 stp1
  constructor
  · rintro ⟨h, a | a | a | a | a⟩
    · exact ⟨h, Or.inl a⟩
    · exact ⟨h, Or.inr (Or.inl (Or.inl a))⟩
    · exact ⟨h, Or.inr (Or.inl (Or.inr a))⟩
    · exact ⟨h, Or.inr (Or.inr (Or.inl a))⟩
    · exact ⟨h, Or.inr (Or.inr (Or.inr a))⟩
  · rintro ⟨h, a | (a | a) | (a | a)⟩
    · exact ⟨h, Or.inl a⟩
    · exact ⟨h, Or.inr (Or.inl a)⟩
    · exact ⟨h, Or.inr (Or.inr (Or.inl a))⟩
    · exact ⟨h, Or.inr (Or.inr (Or.inr (Or.inl a)))⟩
    · exact ⟨h, Or.inr (Or.inr (Or.inr (Or.inr a)))⟩
/-- a pipe's lower parts -/
def pfx (a : Int → Int) (p : Int) : Prop := a (ht p) = p ∧ ∀ h : Int, 0 ≤ h → h < ht p → a h = a (h + 1) / 5
theorem ht_div {p : Int} (h0 : 1 ≤ p) (h1 : p < 3125) : ht (p / 5) = ht p - 1 := by
  have := ht_c p
  have := ht_c (p / 5)
  omega
theorem pfx_d {a : Int → Int} {p : Int} (h : pfx a p) (h0 : 1 ≤ p) (h1 : p < 3125) : pfx a (p / 5) := by
  have e := ht_div h0 h1
  have hc := ht_c p
  refine ⟨?_, fun x x0 x1 => h.2 x x0 (by omega)⟩
  rw [e, h.2 (ht p - 1) (by omega) (by omega), show ht p - 1 + 1 = ht p by omega, h.1]
theorem mkD_at {a0 a1 : Int → Int} {p0 p1 t l r : Int} (h0 : pfx a0 p0) (h1 : pfx a1 p1) (ht0 : 0 ≤ t) (ht4 : t ≤ 4) (hl0 : 0 ≤ l) (hl4 : l < 400) (hr : r = t - 1) {j : Int} (hj : j = (((ht p0 * 6 + ht p1) * 5 + r) + 1) * 400 + l) : 0 ≤ j ∧ j < 72000 ∧ mkD a0 a1 j = (p0, p1, t, l) ∧ phM j = 2 * (ht p0 + ht p1) + tbit t := by
  have c0 := ht_c p0
  have c1 := ht_c p1
  have b0 : 0 ≤ ht p0 ∧ ht p0 ≤ 5 := by omega
  have b1 : 0 ≤ ht p1 ∧ ht p1 ≤ 5 := by omega
  clear c0 c1
  have e1 : j / 12000 = ht p0 := by omega
  have e2 : j / 2000 % 6 = ht p1 := by omega
  have e3 : j / 400 % 5 = t := by omega
  have e4 : j % 400 = l := by omega
  refine ⟨by omega, by omega, ?_, ?_⟩
  · unfold mkD
    rw [e1, e2, e3, e4, h0.1, h1.1]
  · unfold phM
    rw [e1, e2, e3]

/-! a row of customers: what is come to behind all, and whether -/
section ThR
variable (w : Int → Int) (K tr len pi : Int) (prs : Int → Int) (cns : Int → Int → Int)
def nxC (c : Int) (U : Int → Prop) : Int → Prop := nxU w K tr len pi (prs c) (cns c) U
def thR : List Int → (Int → Prop) → Int → Prop
  | [], U, r => (r = 1 ∧ ∃ v, U v) ∨ (r = 0 ∧ ∀ v, ¬ U v)
  | c :: l, U, r => (tooM 200 (nxC w K tr len pi prs cns c U) ∧ r = -2) ∨ (¬ tooM 200 (nxC w K tr len pi prs cns c U) ∧ thR l (nxC w K tr len pi prs cns c U) r)
def thU : List Int → (Int → Prop) → Int → Prop
  | [], U => U
  | c :: l, U => thU l (nxC w K tr len pi prs cns c U)
end ThR
section ThRL
variable {w : Int → Int} {K tr len pi : Int} {prs : Int → Int} {cns : Int → Int → Int} {U : Int → Prop} {c r r' : Int} {l : List Int} {S : List Int}
theorem thR_uq : ∀ {l : List Int} {U : Int → Prop}, thR w K tr len pi prs cns l U r → thR w K tr len pi prs cns l U r' → r = r'
  | [], U, h, h' => by
    rcases h with ⟨a, v, b⟩ | ⟨a, b⟩ <;> rcases h' with ⟨a', v', b'⟩ | ⟨a', b'⟩
    · omega
    · exact absurd b (b' v)
    · exact absurd b' (b v')
    · omega
  | c :: l, U, h, h' => by
    rcases h with ⟨a, b⟩ | ⟨a, b⟩ <;> rcases h' with ⟨a', b'⟩ | ⟨a', b'⟩
    · omega
    · exact absurd a a'
    · exact absurd a' a
    · exact thR_uq b b'
theorem thR_h (h : tooM 200 (nxC w K tr len pi prs cns c U)) : thR w K tr len pi prs cns (c :: l) U (-2) := Or.inl ⟨h, rfl⟩
theorem thR_s (h : ∀ v, v ∈ S ↔ nxC w K tr len pi prs cns c U v) (hS : S.length ≤ 200) (hr : thR w K tr len pi prs cns l (fun v => v ∈ S) r) : thR w K tr len pi prs cns (c :: l) U r := by
  have e : (fun v => v ∈ S) = nxC w K tr len pi prs cns c U := funext fun v => propext (h v)
  rw [e] at hr
  exact Or.inr ⟨tooM_no (fun v hv => (h v).mpr hv) hS, hr⟩
theorem thR_1 (h : 0 < S.length) : thR w K tr len pi prs cns [] (fun v => v ∈ S) 1 := by
  cases S with
  | nil => cases h
  | cons a S => exact Or.inl ⟨rfl, a, List.mem_cons_self⟩
theorem thR_0 (h : S.length = 0) : thR w K tr len pi prs cns [] (fun v => v ∈ S) 0 := by
  cases S with
  | nil => exact Or.inr ⟨rfl, fun v hv => by cases hv⟩
  | cons a S => cases h
theorem thU_s (h : ∀ v, v ∈ S ↔ nxC w K tr len pi prs cns c U v) : thU w K tr len pi prs cns (c :: l) U = thU w K tr len pi prs cns l (fun v => v ∈ S) := by
  have e : (fun v => v ∈ S) = nxC w K tr len pi prs cns c U := funext fun v => propext (h v)
  rw [e]
  rfl
theorem thR_st {S : List Int} {a : Int} (h : ∀ v, v ∈ S ↔ v = a) : (fun v => v ∈ S) = (fun v => v = a) := funext fun v => propext (h v)
theorem thR_r : ∀ {l : List Int} {U : Int → Prop}, thR w K tr len pi prs cns l U r → r = 1 ∨ r = 0 ∨ r = -2
  | [], U, h => by
    rcases h with ⟨a, -⟩ | ⟨a, -⟩
    · exact Or.inl a
    · exact Or.inr (Or.inl a)
  | c :: l, U, h => by
    rcases h with ⟨-, b⟩ | ⟨-, b⟩
    · exact Or.inr (Or.inr b)
    · exact thR_r b
theorem thU_vT (hK0 : 0 ≤ K) (hK : K ≤ 4) (h5 : len ≤ 5) : ∀ {l : List Int} {U : Int → Prop}, (∀ v, U v → vT K len pi v) → ∀ v, thU w K tr len pi prs cns l U v → vT K len pi v
  | [], _, h, v, hv => h v hv
  | c :: l, U, h, v, hv => thU_vT hK0 hK h5 (l := l) (U := nxC w K tr len pi prs cns c U) (fun x hx => by
      obtain ⟨u, h1, h2⟩ := hx
      exact resN_vT hK0 hK h5 (h u h1) h2) v hv
end ThRL
/-- all customers told: their records are their gifts -/
def cuA (C : Nat → CuR) (w : Int → Int) (K M : Int) (prs : Int → Int) (cns : Int → Int → Int) : Prop := 0 ≤ M ∧ M ≤ 4 ∧ ∀ c : Int, 0 ≤ c → c < M → cuI (C c.toNat) ∧ cuG (C c.toNat) w K (prs c) (cns c)
def tsA (T : Nat → TsR) : Prop := ∀ j : Nat, j < 7 → tsB j (T j).2.1
theorem tsI_len {t : Nat} {sz : Int} {sl ho ti : Int → Int} (h : tsI t sz sl ho ti) (ht : tlm t = 200) : (lsI sz.toNat ti).length ≤ 200 := by
  rw [lsI_len]
  have := h.2.1
  omega
theorem tsI_B {t : Nat} {sz : Int} {sl ho ti : Int → Int} (h : tsI t sz sl ho ti) : tsB t sl := h.2.2.1

/-! texts: bytes b, length n; positions -/
def tOK (n : Int) (b : Int → Int) : Prop := 0 ≤ n ∧ n ≤ 160 ∧ ∀ i, 0 ≤ i → i < n → 1 ≤ b i ∧ b i ≤ 255
/-- the first place from a on at which no blank stands -/
def sk (n : Int) (b : Int → Int) : Nat → Int → Int
  | 0, a => a
  | k + 1, a => if a < n ∧ b a = 32 then sk n b k (a + 1) else a
def sks (n : Int) (b : Int → Int) (a : Int) : Int := sk n b (n - a).toNat a
def sg (n : Int) (b : Int → Int) (a : Int) : Int := if a < n then b a else -1
theorem sks_sp {n : Int} {b : Int → Int} {a : Int} (h : a < n) (hb : b a = 32) : sks n b a = sks n b (a + 1) := by
  unfold sks
  rw [show (n - a).toNat = (n - (a + 1)).toNat + 1 by omega]
  show (if a < n ∧ b a = 32 then sk n b (n - (a + 1)).toNat (a + 1) else a) = _
  rw [if_pos ⟨h, hb⟩]
theorem sks_at {n : Int} {b : Int → Int} {a : Int} (h : ¬ (a < n ∧ b a = 32)) : sks n b a = a := by
  unfold sks
  cases (n - a).toNat with
  | zero => rfl
  | succ k =>
    show (if a < n ∧ b a = 32 then sk n b k (a + 1) else a) = a
    rw [if_neg h]
theorem sks_props (n : Int) (b : Int → Int) : ∀ (k : Nat) (a : Int), (n - a).toNat < k → a ≤ sks n b a ∧ (a ≤ n → sks n b a ≤ n) ∧ ¬ (sks n b a < n ∧ b (sks n b a) = 32) := by
  intro k
  induction k with
  | zero => intro a h; omega
  | succ k ih =>
    intro a h
    by_cases q : a < n ∧ b a = 32
    · rw [sks_sp q.1 q.2]
      have := ih (a + 1) (by omega)
      exact ⟨by omega, fun _ => this.2.1 (by omega), this.2.2⟩
    · rw [sks_at q]
      exact ⟨by omega, fun x => x, q⟩
theorem sks_le (n : Int) (b : Int → Int) (a : Int) : a ≤ sks n b a := (sks_props n b _ a (Nat.lt_succ_self _)).1
theorem sks_n {n : Int} (b : Int → Int) {a : Int} (h : a ≤ n) : sks n b a ≤ n := (sks_props n b _ a (Nat.lt_succ_self _)).2.1 h
theorem sks_sks (n : Int) (b : Int → Int) (a : Int) : sks n b (sks n b a) = sks n b a := sks_at (sks_props n b _ a (Nat.lt_succ_self _)).2.2
theorem sg_lt {n : Int} {b : Int → Int} {a : Int} (h : a < n) : sg n b a = b a := if_pos h
theorem sg_ge {n : Int} {b : Int → Int} {a : Int} (h : n ≤ a) : sg n b a = -1 := if_neg (by omega)
theorem sg_bI {n : Int} {b : Int → Int} {a : Int} (hT : tOK n b) (h0 : 0 ≤ a) : -1 ≤ sg n b a ∧ sg n b a ≤ 255 := by
  unfold sg
  split
  · have := hT.2.2 a h0 (by assumption)
    omega
  · omega
def isD (n : Int) (b : Int → Int) (a : Int) : Bool := decide (a < n ∧ 48 ≤ b a ∧ b a ≤ 57)
theorem isD_t {n : Int} {b : Int → Int} {a : Int} : isD n b a = true ↔ a < n ∧ 48 ≤ b a ∧ b a ≤ 57 := by
  unfold isD
  exact decide_eq_true_iff
theorem isD_f {n : Int} {b : Int → Int} {a : Int} : isD n b a = false ↔ ¬ (a < n ∧ 48 ≤ b a ∧ b a ≤ 57) := by
  unfold isD
  exact decide_eq_false_iff_not
/-- a byte with its sign -/
def sgb (x : Int) : Int := if x < 128 then x else x - 256
theorem sgb_255 {x : Int} (h : 0 ≤ x) (h2 : x ≤ 255) : sgb x % 256 = x := by
  unfold sgb
  split <;> omega
theorem sgb_b {x : Int} (h : 0 ≤ x) (h2 : x ≤ 255) : -128 ≤ sgb x ∧ sgb x < 128 := by
  unfold sgb
  split <;> omega
theorem sgb_k {x k : Int} (h : 0 ≤ x) (h2 : x ≤ 255) (hk : 0 ≤ k) (hk2 : k < 128) : sgb x = k ↔ x = k := by
  unfold sgb
  split <;> omega
/-- the model's bytes g from bg on are b -/
def mOK (n bg sz : Int) (g b : Int → Int) : Prop := 0 ≤ bg ∧ bg + n ≤ sz ∧ ∀ i, 0 ≤ i → i < n → g (bg + i) = sgb (b i)
/-- k digits at most from p on, v what stands before them -/
def dg (n : Int) (b : Int → Int) : Nat → Int → Int → Int × Int
  | 0, p, v => (p, v)
  | k + 1, p, v => if isD n b p = true then dg n b k (p + 1) (10 * v + b p - 48) else (p, v)
theorem dg_t {n : Int} {b : Int → Int} {k : Nat} {p v : Int} (h : isD n b p = true) : dg n b (k + 1) p v = dg n b k (p + 1) (10 * v + b p - 48) := by
  show (if isD n b p = true then _ else _) = _
  rw [if_pos h]
theorem dg_f {n : Int} {b : Int → Int} {k : Nat} {p v : Int} (h : isD n b p = false) : dg n b k p v = (p, v) := by
  cases k with
  | zero => rfl
  | succ k =>
    show (if isD n b p = true then _ else _) = _
    rw [if_neg (by rw [h]; decide)]
theorem dg_props {n : Int} {b : Int → Int} : ∀ (k : Nat) (p v : Int), p ≤ n → 0 ≤ v → p ≤ (dg n b k p v).1 ∧ (dg n b k p v).1 ≤ n ∧ 0 ≤ (dg n b k p v).2 ∧ (dg n b k p v).1 ≤ p + k
  | 0, p, v, h, hv => ⟨Int.le_refl _, h, hv, by show p ≤ p + ((0 : Nat) : Int); omega⟩
  | k + 1, p, v, h, hv => by
    by_cases q : isD n b p = true
    · have q2 := isD_t.mp q
      rw [dg_t q]
      have := dg_props (n := n) (b := b) k (p + 1) (10 * v + b p - 48) (by omega) (by omega)
      omega
    · rw [dg_f (by simpa using q)]
      exact ⟨Int.le_refl _, h, hv, by show p ≤ p + ((k + 1 : Nat) : Int); omega⟩
theorem dg_0 {n : Int} {b : Int → Int} {p v : Int} (hv : 0 ≤ v) : (dg n b 0 p v).2 ≤ 1 * v + 0 := by show v ≤ 1 * v + 0; omega
theorem dg_1 {n : Int} {b : Int → Int} {p v : Int} (hv : 0 ≤ v) : (dg n b 1 p v).2 ≤ 10 * v + 9 := by
  by_cases q : isD n b p = true
  · have q2 := isD_t.mp q
    rw [dg_t q]
    have := dg_0 (n := n) (b := b) (p := p + 1) (v := 10 * v + b p - 48) (by omega)
    omega
  · rw [dg_f (by simpa using q)]
    show v ≤ 10 * v + 9
    omega
theorem dg_2 {n : Int} {b : Int → Int} {p v : Int} (hv : 0 ≤ v) : (dg n b 2 p v).2 ≤ 100 * v + 99 := by
  by_cases q : isD n b p = true
  · have q2 := isD_t.mp q
    rw [dg_t q]
    have := dg_1 (n := n) (b := b) (p := p + 1) (v := 10 * v + b p - 48) (by omega)
    omega
  · rw [dg_f (by simpa using q)]
    show v ≤ 100 * v + 99
    omega
theorem dg_3 {n : Int} {b : Int → Int} {p v : Int} (hv : 0 ≤ v) : (dg n b 3 p v).2 ≤ 1000 * v + 999 := by
  by_cases q : isD n b p = true
  · have q2 := isD_t.mp q
    rw [dg_t q]
    have := dg_2 (n := n) (b := b) (p := p + 1) (v := 10 * v + b p - 48) (by omega)
    omega
  · rw [dg_f (by simpa using q)]
    show v ≤ 1000 * v + 999
    omega
theorem dg_4 {n : Int} {b : Int → Int} {p v : Int} (hv : 0 ≤ v) : (dg n b 4 p v).2 ≤ 10000 * v + 9999 := by
  by_cases q : isD n b p = true
  · have q2 := isD_t.mp q
    rw [dg_t q]
    have := dg_3 (n := n) (b := b) (p := p + 1) (v := 10 * v + b p - 48) (by omega)
    omega
  · rw [dg_f (by simpa using q)]
    show v ≤ 10000 * v + 9999
    omega
/-- two digits at most, none behind, between least and most -/
def nmP (n : Int) (b : Int → Int) (lo hi a : Int) : Int × Option Int :=
  if isD n b (sks n b a) = true then
    (if isD n b (dg n b 2 (sks n b a) 0).1 = true then ((dg n b 2 (sks n b a) 0).1, none)
    else if lo ≤ (dg n b 2 (sks n b a) 0).2 ∧ (dg n b 2 (sks n b a) 0).2 ≤ hi then ((dg n b 2 (sks n b a) 0).1, some (dg n b 2 (sks n b a) 0).2)
    else ((dg n b 2 (sks n b a) 0).1 - 1, none))
  else (sks n b a, none)
theorem mOK_at {n bg sz : Int} {g b : Int → Int} (hM : mOK n bg sz g b) (hT : tOK n b) {a : Int} (h0 : 0 ≤ a) (h1 : a < n) : 1 ≤ b a ∧ b a ≤ 255 ∧ ((b a < 128 ∧ g (bg + a) = b a) ∨ (128 ≤ b a ∧ g (bg + a) = b a - 256)) := by
  have y := hM.2.2 a h0 h1
  have y2 := hT.2.2 a h0 h1
  unfold sgb at y
  split at y <;> omega
theorem iz_and255' {x c : Int} (h : x % 256 = c) : iz x &&& iz 255 = iz c := by rw [iz_and255, h]

/-! orders of customers as numbers (printed by wip/whole/genord0.py) -/
def p2 (e : Int) : Int := if e = 0 then 1 else if e = 1 then 2 else if e = 2 then 4 else 8
def hb (s e : Int) : Int := s / p2 e % 2
def orB (s e : Int) : Int := if hb s e = 1 then s else s + p2 e
theorem f4 {a : Int} (h0 : 0 ≤ a) (h1 : a < 4) : ∃ x : Fin 4, a = ((x : Nat) : Int) := by
  obtain ⟨n, rfl⟩ := Int.eq_ofNat_of_zero_le h0
  exact ⟨⟨n, by omega⟩, rfl⟩
theorem f16 {a : Int} (h0 : 0 ≤ a) (h1 : a < 16) : ∃ x : Fin 16, a = ((x : Nat) : Int) := by
  obtain ⟨n, rfl⟩ := Int.eq_ofNat_of_zero_le h0
  exact ⟨⟨n, by omega⟩, rfl⟩
theorem p2_shl {e : Int} (h0 : 0 ≤ e) (h1 : e < 4) : iz 1 <<< (iz e &&& 31) = iz (p2 e) := by
  obtain ⟨x, rfl⟩ := f4 h0 h1
  revert x
  decide
theorem orB_or {s e : Int} (s0 : 0 ≤ s) (s1 : s < 16) (h0 : 0 ≤ e) (h1 : e < 4) : iz s ||| iz (p2 e) = iz (orB s e) := by
  obtain ⟨x, rfl⟩ := f4 h0 h1
  obtain ⟨y, rfl⟩ := f16 s0 s1
  revert x y
  decide
theorem hb_shr {s e : Int} (s0 : 0 ≤ s) (s1 : s < 16) (h0 : 0 ≤ e) (h1 : e < 4) : (iz s >>> (iz e &&& 31)) &&& iz 1 = iz (hb s e) := by
  obtain ⟨x, rfl⟩ := f4 h0 h1
  obtain ⟨y, rfl⟩ := f16 s0 s1
  revert x y
  decide
theorem hb_b (s e : Int) : 0 ≤ hb s e ∧ hb s e ≤ 1 := by
  unfold hb
  omega
theorem orB_b {s e : Int} (s0 : 0 ≤ s) (s1 : s < 16) (h0 : 0 ≤ e) (h1 : e < 4) : 0 ≤ orB s e ∧ orB s e < 16 := by
  obtain ⟨x, rfl⟩ := f4 h0 h1
  obtain ⟨y, rfl⟩ := f16 s0 s1
  revert x y
  decide
theorem hb0 (a : Int) : hb 0 a = 0 := by
  unfold hb
  rw [Int.zero_ediv]
  rfl
theorem hb1 {a b : Int} (a0 : 0 ≤ a) (a1 : a < 4) (b0 : 0 ≤ b) (b1 : b < 4) : hb (orB 0 a) b = 1 ↔ b = a := by
  obtain ⟨a, rfl⟩ := f4 a0 a1
  obtain ⟨b, rfl⟩ := f4 b0 b1
  revert a b
  decide
theorem hb2 {a b c : Int} (a0 : 0 ≤ a) (a1 : a < 4) (b0 : 0 ≤ b) (b1 : b < 4) (c0 : 0 ≤ c) (c1 : c < 4) : hb (orB (orB 0 a) b) c = 1 ↔ c = a ∨ c = b := by
  obtain ⟨a, rfl⟩ := f4 a0 a1
  obtain ⟨b, rfl⟩ := f4 b0 b1
  obtain ⟨c, rfl⟩ := f4 c0 c1
  revert a b c
  decide +kernel
theorem hb3 {a b c e : Int} (a0 : 0 ≤ a) (a1 : a < 4) (b0 : 0 ≤ b) (b1 : b < 4) (c0 : 0 ≤ c) (c1 : c < 4) (e0 : 0 ≤ e) (e1 : e < 4) : hb (orB (orB (orB 0 a) b) c) e = 1 ↔ e = a ∨ e = b ∨ e = c := by
  obtain ⟨a, rfl⟩ := f4 a0 a1
  obtain ⟨b, rfl⟩ := f4 b0 b1
  obtain ⟨c, rfl⟩ := f4 c0 c1
  obtain ⟨e, rfl⟩ := f4 e0 e1
  revert a b c e
  decide +kernel
theorem bc1 {a : Int} (a0 : 0 ≤ a) (a1 : a < 4) : bc (orB 0 a) = 1 := by
  obtain ⟨a, rfl⟩ := f4 a0 a1
  revert a
  decide
theorem bc2 {a b : Int} (a0 : 0 ≤ a) (a1 : a < 4) (b0 : 0 ≤ b) (b1 : b < 4) : bc (orB (orB 0 a) b) = 2 ↔ b ≠ a := by
  obtain ⟨a, rfl⟩ := f4 a0 a1
  obtain ⟨b, rfl⟩ := f4 b0 b1
  revert a b
  decide
theorem bc3 {a b c : Int} (a0 : 0 ≤ a) (a1 : a < 4) (b0 : 0 ≤ b) (b1 : b < 4) (c0 : 0 ≤ c) (c1 : c < 4) : bc (orB (orB (orB 0 a) b) c) = 3 ↔ b ≠ a ∧ c ≠ a ∧ c ≠ b := by
  obtain ⟨a, rfl⟩ := f4 a0 a1
  obtain ⟨b, rfl⟩ := f4 b0 b1
  obtain ⟨c, rfl⟩ := f4 c0 c1
  revert a b c
  decide +kernel
theorem bc4 {a b c e : Int} (a0 : 0 ≤ a) (a1 : a < 4) (b0 : 0 ≤ b) (b1 : b < 4) (c0 : 0 ≤ c) (c1 : c < 4) (e0 : 0 ≤ e) (e1 : e < 4) : bc (orB (orB (orB (orB 0 a) b) c) e) = 4 ↔ b ≠ a ∧ c ≠ a ∧ c ≠ b ∧ e ≠ a ∧ e ≠ b ∧ e ≠ c := by
  obtain ⟨a, rfl⟩ := f4 a0 a1
  obtain ⟨b, rfl⟩ := f4 b0 b1
  obtain ⟨c, rfl⟩ := f4 c0 c1
  obtain ⟨e, rfl⟩ := f4 e0 e1
  revert a b c e
  decide +kernel
theorem bc_b {x : Int} : 0 ≤ bc x ∧ bc x ≤ 4 := by
  unfold bc
  omega
/-- the order that a number says -/
def ordL (m : Nat) (row : Int) : List Int := match m with
  | 1 => [row % 10]
  | 2 => [row / 10 % 10, row % 10]
  | 3 => [row / 10 / 10 % 10, row / 10 % 10, row % 10]
  | 4 => [row / 10 / 10 / 10 % 10, row / 10 / 10 % 10, row / 10 % 10, row % 10]
  | _ => []
def tenP (m : Nat) : Int := match m with
  | 0 => 1
  | 1 => 10
  | 2 => 100
  | 3 => 1000
  | _ => 10000
def ordOK (m : Nat) (row : Int) : Prop := 1 ≤ m ∧ 0 ≤ row ∧ row < tenP m ∧ (∀ x ∈ ordL m row, x < m) ∧ (ordL m row).Pairwise (· ≠ ·)
/-- an order as a number -/
def numL (l : List Int) : Int := l.foldl (fun a x => a * 10 + x) 0
/-- all orders of m, rising -/
def pmL (m : Nat) : List (List Int) := match m with
  | 1 => [[0]]
  | 2 => [[0, 1], [1, 0]]
  | 3 => [[0, 1, 2], [0, 2, 1], [1, 0, 2], [1, 2, 0], [2, 0, 1], [2, 1, 0]]
  | 4 => [[0, 1, 2, 3], [0, 1, 3, 2], [0, 2, 1, 3], [0, 2, 3, 1], [0, 3, 1, 2], [0, 3, 2, 1], [1, 0, 2, 3], [1, 0, 3, 2], [1, 2, 0, 3], [1, 2, 3, 0], [1, 3, 0, 2], [1, 3, 2, 0], [2, 0, 1, 3], [2, 0, 3, 1], [2, 1, 0, 3], [2, 1, 3, 0], [2, 3, 0, 1], [2, 3, 1, 0], [3, 0, 1, 2], [3, 0, 2, 1], [3, 1, 0, 2], [3, 1, 2, 0], [3, 2, 0, 1], [3, 2, 1, 0]]
  | _ => []
def pm (m t : Nat) : List Int := (pmL m).getD t []
def rowL (m : Nat) : List Int := (pmL m).map numL
def ordB (m : Nat) (row : Int) : Bool := (ordL m row).all (fun x => decide (x < m)) && decide ((ordL m row).Pairwise (· ≠ ·))
theorem ordB_iff {m : Nat} {row : Int} : ordB m row = true ↔ (∀ x ∈ ordL m row, x < m) ∧ (ordL m row).Pairwise (· ≠ ·) := by
  unfold ordB
  rw [Bool.and_eq_true, List.all_eq_true, decide_eq_true_iff]
  constructor
  · rintro ⟨a, b⟩
    exact ⟨fun x hx => by simpa using a x hx, b⟩
  · rintro ⟨a, b⟩
    exact ⟨fun x hx => by simpa using a x hx, b⟩
theorem ord_all1 : ∀ n : Nat, n < 10 → (ordB 1 (n : Int) = true → (n : Int) ∈ rowL 1) := by decide +kernel
theorem ord_row1 : ∀ l ∈ pmL 1, ordOK 1 (numL l) ∧ ordL 1 (numL l) = l := by
  unfold ordOK
  decide +kernel
theorem ord_all2 : ∀ n : Nat, n < 100 → (ordB 2 (n : Int) = true → (n : Int) ∈ rowL 2) := by decide +kernel
theorem ord_row2 : ∀ l ∈ pmL 2, ordOK 2 (numL l) ∧ ordL 2 (numL l) = l := by
  unfold ordOK
  decide +kernel
theorem ord_all3 : ∀ n : Nat, n < 1000 → (ordB 3 (n : Int) = true → (n : Int) ∈ rowL 3) := by decide +kernel
theorem ord_row3 : ∀ l ∈ pmL 3, ordOK 3 (numL l) ∧ ordL 3 (numL l) = l := by
  unfold ordOK
  decide +kernel
theorem ord_all4 : ∀ a : Nat, a < 100 → ∀ b : Nat, b < 100 → (ordB 4 ((100 * a + b : Nat) : Int) = true → ((100 * a + b : Nat) : Int) ∈ rowL 4) := by decide +kernel
theorem ord_row4 : ∀ l ∈ pmL 4, ordOK 4 (numL l) ∧ ordL 4 (numL l) = l := by
  unfold ordOK
  decide +kernel
theorem ordOK_row {m : Nat} {row : Int} (hm : m ≤ 4) (h : ordOK m row) : row ∈ rowL m := by
  obtain ⟨h1, h2, h3, h4⟩ := h
  obtain ⟨n, rfl⟩ := Int.eq_ofNat_of_zero_le h2
  have hb := ordB_iff.mpr h4
  rcases (show m = 1 ∨ m = 2 ∨ m = 3 ∨ m = 4 by omega) with rfl | rfl | rfl | rfl
  · exact ord_all1 n (by have h3 : (n : Int) < 10 := h3; omega) hb
  · exact ord_all2 n (by have h3 : (n : Int) < 100 := h3; omega) hb
  · exact ord_all3 n (by have h3 : (n : Int) < 1000 := h3; omega) hb
  · have h3 : (n : Int) < 10000 := h3
    have := ord_all4 (n / 100) (by omega) (n % 100) (by omega)
    rw [show 100 * (n / 100) + n % 100 = n by omega] at this
    exact this hb
theorem row_ordOK {m : Nat} {l : List Int} (h1 : 1 ≤ m) (hm : m ≤ 4) (h : l ∈ pmL m) : ordOK m (numL l) ∧ ordL m (numL l) = l := by
  rcases (show m = 1 ∨ m = 2 ∨ m = 3 ∨ m = 4 by omega) with rfl | rfl | rfl | rfl
  · exact ord_row1 l h
  · exact ord_row2 l h
  · exact ord_row3 l h
  · exact ord_row4 l h
theorem rowL_srt : ∀ m, m ≤ 4 → (rowL m).Pairwise (· < ·) := by decide +kernel
/-- rows that are orders are the orders, in their order -/
theorem ordOK_iff {m : Nat} {row : Int} (h1 : 1 ≤ m) (hm : m ≤ 4) : ordOK m row ↔ ∃ l ∈ pmL m, row = numL l := by
  constructor
  · intro h
    obtain ⟨l, hl, e⟩ := List.mem_map.mp (ordOK_row hm h)
    exact ⟨l, hl, e.symm⟩
  · rintro ⟨l, hl, rfl⟩
    exact (row_ordOK h1 hm hl).1

/-! tills as numbers: a pipe is its digits to the base 5 (the top the lowest), the tray one digit -/
def ht (p : Int) : Int := if p < 5 then (if p = 0 then 0 else 1) else if p < 25 then 2 else if p < 125 then 3 else if p < 625 then 4 else 5
theorem ht_c (p : Int) : (p = 0 ∧ ht p = 0) ∨ (p < 5 ∧ p ≠ 0 ∧ ht p = 1) ∨ (5 ≤ p ∧ p < 25 ∧ ht p = 2) ∨ (25 ≤ p ∧ p < 125 ∧ ht p = 3) ∨ (125 ≤ p ∧ p < 625 ∧ ht p = 4) ∨ (625 ≤ p ∧ ht p = 5) := by
  unfold ht
  repeat' split
  all_goals omega
def tw (t : Int) : Int := if t = 0 then 0 else if t = 1 then 1 else if t = 2 then 2 else if t = 3 then 4 else 8
theorem tw_c {t : Int} (h0 : 0 ≤ t) (h4 : t ≤ 4) : (t = 0 ∧ tw t = 0) ∨ (t = 1 ∧ tw t = 1) ∨ (t = 2 ∧ tw t = 2) ∨ (t = 3 ∧ tw t = 4) ∨ (t = 4 ∧ tw t = 8) := by
  unfold tw
  repeat' split
  all_goals omega
def tn (p0 p1 t : Int) : Int := (p0 * 3125 + p1) * 16 + tw t
def bc (x : Int) : Int := x % 2 + x / 2 % 2 + x / 4 % 2 + x / 8 % 2
/-- how many lie above the highest coin of a digit -/
def cabF (k : Int) : Nat → Int → Int → Int
  | 0, _, _ => -1
  | n + 1, a, p => if 0 < p then (if p % 5 = k + 1 then a else cabF k n (a + 1) (p / 5)) else -1
def cab (p k : Int) : Int := cabF k 5 0 p
theorem tn_0 {p0 p1 t : Int} (h0 : 0 ≤ p1) (h1 : p1 < 3125) (h2 : 0 ≤ t) (h3 : t ≤ 4) : tn p0 p1 t / 16 / 3125 = p0 ∧ tn p0 p1 t / 16 % 3125 = p1 ∧ tn p0 p1 t % 16 = tw t := by
  have := tw_c h2 h3
  unfold tn
  omega

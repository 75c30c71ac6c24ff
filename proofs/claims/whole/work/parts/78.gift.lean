/-! what a customer gives, kind by kind (the model) -/
def sG (gv : Int → Int) : Nat → Int
  | 0 => 0
  | k + 1 => sG gv k + gv k
theorem hG_len {gv : Int → Int} : ∀ {k : Nat}, (∀ i : Int, 0 ≤ i → i < k → 0 ≤ gv i) → ((hG gv k).length : Int) = sG gv k
  | 0, _ => rfl
  | k + 1, h => by
    show (((List.replicate (gv k).toNat ((k : Int) + 1) ++ hG gv k).length : Nat) : Int) = sG gv k + gv k
    rw [List.length_append, List.length_replicate]
    have := hG_len (gv := gv) (k := k) (fun i h0 h1 => h i h0 (by omega))
    have := h k (by omega) (by omega)
    push_cast
    omega
theorem gl_hG {gv : Int → Int} {K : Int} (h : 1 ≤ K) : gl gv (K - 1) (gv (K - 1)) = hG gv K.toNat := by
  unfold gl
  rw [if_neg (by omega), show K.toNat = (K - 1).toNat + 1 by omega]
  show _ = List.replicate (gv ((K - 1).toNat : Int)).toNat (((K - 1).toNat : Int) + 1) ++ hG gv (K - 1).toNat
  rw [show ((K - 1).toNat : Int) = K - 1 by omega]
theorem hG_congr {gv gv' : Int → Int} : ∀ {k : Nat}, (∀ i : Int, 0 ≤ i → i < k → gv i = gv' i) → hG gv k = hG gv' k
  | 0, _ => rfl
  | k + 1, h => by
    show List.replicate (gv k).toNat ((k : Int) + 1) ++ hG gv k = List.replicate (gv' k).toNat ((k : Int) + 1) ++ hG gv' k
    rw [h k (by omega) (by omega), hG_congr (fun i h0 h1 => h i h0 (by omega))]
theorem sG_congr {gv gv' : Int → Int} : ∀ {k : Nat}, (∀ i : Int, 0 ≤ i → i < k → gv i = gv' i) → sG gv k = sG gv' k
  | 0, _ => rfl
  | k + 1, h => by
    show sG gv k + gv k = sG gv' k + gv' k
    rw [h k (by omega) (by omega), sG_congr (fun i h0 h1 => h i h0 (by omega))]
section GP
variable (W : List Int → Int → Int → Prop) (K pr : Int) (cn va : Int → Int)
/-- kinds K - r .. are still to be given -/
def gP : Nat → (Int → Int) → Int → Int → Prop
  | 0, gv, sum, v => pr ≤ sum ∧ W (hG gv K.toNat) (sum - pr) v
  | r + 1, gv, sum, v => ∃ n : Int, 0 ≤ n ∧ n ≤ cn (K - 1 - r) ∧ gP r (iu gv (K - 1 - r) n) (sum + n * va (K - 1 - r)) v
def sR : Nat → Int
  | 0 => 0
  | r + 1 => cn (K - 1 - r) + sR r
def pC : Nat → Int
  | 0 => 1
  | r + 1 => (cn (K - 1 - r) + 1) * pC r
end GP
theorem gP_congr {W : List Int → Int → Int → Prop} {K pr : Int} {cn va : Int → Int} : ∀ {r : Nat} {gv gv' : Int → Int} {sum v : Int}, (r : Int) ≤ K → (∀ i : Int, 0 ≤ i → i < K - r → gv i = gv' i) → gP W K pr cn va r gv sum v → gP W K pr cn va r gv' sum v
  | 0, gv, gv', sum, v, hr, h, ⟨a, b⟩ => ⟨a, by rw [← hG_congr (gv := gv) (gv' := gv') (fun i h0 h1 => h i h0 (by push_cast; omega))]; exact b⟩
  | r + 1, gv, gv', sum, v, hr, h, ⟨n, n0, n1, n2⟩ => ⟨n, n0, n1, gP_congr (by push_cast at hr; omega) (fun i h0 h1 => by
      by_cases e : i = K - 1 - r
      · rw [e, iu_at, iu_at]
      · rw [iu_ne _ _ e, iu_ne _ _ e]; exact h i h0 (by push_cast; omega)) n2⟩
theorem pC_pos {K : Int} {cn : Int → Int} : ∀ {r : Nat}, (r : Int) ≤ K → (∀ k : Int, 0 ≤ k → k < K → 0 ≤ cn k) → 1 ≤ pC K cn r
  | 0, _, _ => Int.le_refl _
  | r + 1, hr, h => by
    have a := pC_pos (K := K) (cn := cn) (r := r) (by push_cast at hr; omega) h
    have b := h (K - 1 - r) (by push_cast at hr; omega) (by omega)
    show 1 ≤ (cn (K - 1 - r) + 1) * pC K cn r
    have := Int.mul_le_mul (show (1 : Int) ≤ cn (K - 1 - r) + 1 by omega) a (by omega) (by omega)
    omega
theorem pfx_ex {p : Int} (h0 : 0 ≤ p) (h1 : p < 3125) : ∃ a, pfx a p := by
  have hc := ht_c p
  refine ⟨fun h => if h = ht p then p else if h = ht p - 1 then p / 5 else if h = ht p - 2 then p / 5 / 5 else if h = ht p - 3 then p / 5 / 5 / 5 else if h = ht p - 4 then p / 5 / 5 / 5 / 5 else p / 5 / 5 / 5 / 5 / 5, by simp, fun h a b => ?_⟩
  rcases (show h = ht p - 1 ∨ h = ht p - 2 ∨ h = ht p - 3 ∨ h = ht p - 4 ∨ h = ht p - 5 by omega) with e | e | e | e | e
  · rw [e]
    simp only []
    rw [if_neg (by omega), if_pos trivial, if_pos (by omega)]
  · rw [e]
    simp only []
    rw [if_neg (by omega), if_neg (by omega), if_pos trivial, if_neg (by omega), if_pos (by omega)]
  · rw [e]
    simp only []
    rw [if_neg (by omega), if_neg (by omega), if_neg (by omega), if_pos trivial, if_neg (by omega), if_neg (by omega), if_pos (by omega)]
  · rw [e]
    simp only []
    rw [if_neg (by omega), if_neg (by omega), if_neg (by omega), if_neg (by omega), if_pos trivial, if_neg (by omega), if_neg (by omega), if_neg (by omega), if_pos (by omega)]
  · rw [e]
    simp only []
    rw [if_neg (by omega), if_neg (by omega), if_neg (by omega), if_neg (by omega), if_neg (by omega), if_neg (by omega), if_neg (by omega), if_neg (by omega), if_neg (by omega), if_pos (by omega)]

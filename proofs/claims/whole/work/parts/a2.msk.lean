/-! hands by masks: all gifts of a purse, each once -/
def sbL : List Int → Nat → List Int
  | [], _ => []
  | x :: l, m => if m % 2 = 1 then x :: sbL l (m / 2) else sbL l (m / 2)
/-- the same hand stands under another mask: x the coin ahead, b whether it was taken -/
def dpL : List Int → Nat → Int → Nat → Bool
  | [], _, _, _ => false
  | y :: l, m, x, b => (m % 2 == 1 && y == x && b == 0) || dpL l (m / 2) y (m % 2)
def hand (a b c d : Nat) : List Int := List.replicate d 4 ++ (List.replicate c 3 ++ (List.replicate b 2 ++ (List.replicate a 1 ++ [])))
def gfts (a b c d : Nat) : List (List Int) := (List.range (a + 1)).flatMap (fun a => (List.range (b + 1)).flatMap (fun b => (List.range (c + 1)).flatMap (fun c => (List.range (d + 1)).map (fun d => hand a b c d))))
def okA (a b c d : Nat) : Bool := (List.range (2 ^ (a + b + c + d))).all (fun m => (gfts a b c d).contains (sbL (hand a b c d) m)) && (gfts a b c d).all (fun g => g == [] || (List.range (2 ^ (a + b + c + d))).any (fun m => !(dpL (hand a b c d) m 0 1) && sbL (hand a b c d) m == g))
theorem okA_all : ∀ a : Fin 5, ∀ b : Fin 5, ∀ c : Fin 5, ∀ d : Fin 5, (a : Nat) + b + c + d ≤ 4 → okA a b c d = true := by decide +kernel
theorem gfts_mem {a b c d : Nat} {l : List Int} : l ∈ gfts a b c d ↔ ∃ a' b' c' d', a' ≤ a ∧ b' ≤ b ∧ c' ≤ c ∧ d' ≤ d ∧ l = hand a' b' c' d' := by
  unfold gfts
  simp only [List.mem_flatMap, List.mem_range, List.mem_map]
  constructor
  · rintro ⟨a', ha, b', hb, c', hc, d', hd, rfl⟩
    exact ⟨a', b', c', d', by omega, by omega, by omega, by omega, rfl⟩
  · rintro ⟨a', b', c', d', ha, hb, hc, hd, rfl⟩
    exact ⟨a', by omega, b', by omega, c', by omega, d', by omega, rfl⟩
/-- the counts of the four kinds -/
def cu4 (gv : Int → Int) (K k : Int) : Nat := if k < K then (gv k).toNat else 0
theorem hG_hand (gv : Int → Int) {K : Int} (h1 : 1 ≤ K) (h4 : K ≤ 4) : hG gv K.toNat = hand (cu4 gv K 0) (cu4 gv K 1) (cu4 gv K 2) (cu4 gv K 3) := by
  rcases (show K = 1 ∨ K = 2 ∨ K = 3 ∨ K = 4 by omega) with rfl | rfl | rfl | rfl <;> rfl
theorem hand_len (a b c d : Nat) : (hand a b c d).length = a + b + c + d := by
  unfold hand
  simp only [List.length_append, List.length_replicate, List.length_nil]
  omega
section Mk
variable {K : Int} {cn : Int → Int} {L : List Int}
theorem cu4_le {gv : Int → Int} (h : gOK K cn gv) {k : Int} (k0 : 0 ≤ k) : cu4 gv K k ≤ cu4 cn K k := by
  unfold cu4
  split
  · have := h k k0 (by assumption); omega
  · omega
theorem cu4_gv {a b c d : Nat} (ha : a ≤ cu4 cn K 0) (hb : b ≤ cu4 cn K 1) (hc : c ≤ cu4 cn K 2) (hd : d ≤ cu4 cn K 3) (h4 : K ≤ 4) : ∃ gv, gOK K cn gv ∧ cu4 gv K 0 = a ∧ cu4 gv K 1 = b ∧ cu4 gv K 2 = c ∧ cu4 gv K 3 = d := by
  unfold cu4 at *
  refine ⟨fun k => if k = 0 then a else if k = 1 then b else if k = 2 then c else d, fun k k0 k1 => ?_, ?_, ?_, ?_, ?_⟩
  · rcases (show k = 0 ∨ k = 1 ∨ k = 2 ∨ k = 3 by omega) with rfl | rfl | rfl | rfl
    · rw [if_pos k1] at ha; simp; omega
    · rw [if_pos k1] at hb; simp; omega
    · rw [if_pos k1] at hc; simp; omega
    · rw [if_pos k1] at hd; simp; omega
  · split <;> simp_all
  · split <;> simp_all
  · split <;> simp_all
  · split <;> simp_all
theorem mk_ok (h1 : 1 ≤ K) (h4 : K ≤ 4) (hL : L = hG cn K.toNat) (hl : L.length ≤ 4) : okA (cu4 cn K 0) (cu4 cn K 1) (cu4 cn K 2) (cu4 cn K 3) = true ∧ L = hand (cu4 cn K 0) (cu4 cn K 1) (cu4 cn K 2) (cu4 cn K 3) ∧ L.length = cu4 cn K 0 + cu4 cn K 1 + cu4 cn K 2 + cu4 cn K 3 := by
  have e := hL.trans (hG_hand cn h1 h4)
  have el := congrArg List.length e
  rw [hand_len] at el
  exact ⟨okA_all ⟨cu4 cn K 0, by omega⟩ ⟨cu4 cn K 1, by omega⟩ ⟨cu4 cn K 2, by omega⟩ ⟨cu4 cn K 3, by omega⟩ (by show cu4 cn K 0 + cu4 cn K 1 + cu4 cn K 2 + cu4 cn K 3 ≤ 4; omega), e, el⟩
/-- what a mask takes is a gift -/
theorem mk_gift (h1 : 1 ≤ K) (h4 : K ≤ 4) (hL : L = hG cn K.toNat) (hl : L.length ≤ 4) {m : Nat} (hm : m < 2 ^ L.length) : ∃ gv, gOK K cn gv ∧ sbL L m = hG gv K.toNat := by
  obtain ⟨o, e, el⟩ := mk_ok h1 h4 hL hl
  unfold okA at o
  rw [Bool.and_eq_true, List.all_eq_true] at o
  have q := o.1 m (List.mem_range.mpr (by rw [← el]; exact hm))
  rw [List.contains_iff_mem, gfts_mem, ← e] at q
  obtain ⟨a, b, c, d, ha, hb, hc, hd, eq⟩ := q
  obtain ⟨gv, g1, g2, g3, g4, g5⟩ := cu4_gv ha hb hc hd h4
  exact ⟨gv, g1, by rw [eq, hG_hand gv h1 h4, g2, g3, g4, g5]⟩
/-- each gift is taken by a mask of its own -/
theorem gift_mk (h1 : 1 ≤ K) (h4 : K ≤ 4) (hL : L = hG cn K.toNat) (hl : L.length ≤ 4) {gv : Int → Int} (hg : gOK K cn gv) (hn : hG gv K.toNat ≠ []) : ∃ m : Nat, 1 ≤ m ∧ m < 2 ^ L.length ∧ dpL L m 0 1 = false ∧ sbL L m = hG gv K.toNat := by
  obtain ⟨o, e, el⟩ := mk_ok h1 h4 hL hl
  unfold okA at o
  rw [Bool.and_eq_true, List.all_eq_true, List.all_eq_true] at o
  have q := o.2 (hG gv K.toNat) (gfts_mem.mpr ⟨_, _, _, _, cu4_le hg (by omega), cu4_le hg (by omega), cu4_le hg (by omega), cu4_le hg (by omega), hG_hand gv h1 h4⟩)
  rw [Bool.or_eq_true, List.any_eq_true] at q
  rcases q with q | ⟨m, m1, m2⟩
  · exact absurd (by simpa using q) hn
  · rw [← e] at m2
    rw [Bool.and_eq_true] at m2
    have m3 : sbL L m = hG gv K.toNat := by simpa using m2.2
    refine ⟨m, ?_, by rw [el]; exact List.mem_range.mp m1, by simpa using m2.1, m3⟩
    rcases Nat.eq_zero_or_pos m with z | z
    · subst z
      have z0 : ∀ L : List Int, sbL L 0 = [] := fun L => by
        induction L with
        | nil => rfl
        | cons x l ih => show (if 0 % 2 = 1 then _ else sbL l (0 / 2)) = []; rw [if_neg (by decide)]; exact ih
      rw [z0] at m3
      exact absurd m3.symm hn
    · exact z
end Mk
/-! the masks as the class goes through them -/
def sbM (P : Int → Int) (mask : Int) : Nat → List Int
  | 0 => []
  | i + 1 => sbM P mask i ++ (if hb mask i = 1 then [P i] else [])
def dpM (P : Int → Int) (mask : Int) : Nat → Prop
  | 0 => False
  | i + 1 => dpM P mask i ∨ (1 ≤ i ∧ hb mask i = 1 ∧ P i = P ((i : Int) - 1) ∧ hb mask ((i : Int) - 1) = 0)
theorem sb_eq (P : Int → Int) {mask : Int} (m0 : 0 ≤ mask) (m1 : mask < 16) {n : Nat} (hn : n ≤ 4) : sbM P mask n = sbL (lsI n P) mask.toNat := by
  rcases (show n = 0 ∨ n = 1 ∨ n = 2 ∨ n = 3 ∨ n = 4 by omega) with rfl | rfl | rfl | rfl | rfl <;> rcases (show mask = 0 ∨ mask = 1 ∨ mask = 2 ∨ mask = 3 ∨ mask = 4 ∨ mask = 5 ∨ mask = 6 ∨ mask = 7 ∨ mask = 8 ∨ mask = 9 ∨ mask = 10 ∨ mask = 11 ∨ mask = 12 ∨ mask = 13 ∨ mask = 14 ∨ mask = 15 by omega) with rfl | rfl | rfl | rfl | rfl | rfl | rfl | rfl | rfl | rfl | rfl | rfl | rfl | rfl | rfl | rfl <;> rfl
theorem dp_eq (P : Int → Int) {mask : Int} (m0 : 0 ≤ mask) (m1 : mask < 16) {n : Nat} (hn : n ≤ 4) : dpM P mask n ↔ dpL (lsI n P) mask.toNat 0 1 = true := by
  rcases (show n = 0 ∨ n = 1 ∨ n = 2 ∨ n = 3 ∨ n = 4 by omega) with rfl | rfl | rfl | rfl | rfl <;> rcases (show mask = 0 ∨ mask = 1 ∨ mask = 2 ∨ mask = 3 ∨ mask = 4 ∨ mask = 5 ∨ mask = 6 ∨ mask = 7 ∨ mask = 8 ∨ mask = 9 ∨ mask = 10 ∨ mask = 11 ∨ mask = 12 ∨ mask = 13 ∨ mask = 14 ∨ mask = 15 by omega) with rfl | rfl | rfl | rfl | rfl | rfl | rfl | rfl | rfl | rfl | rfl | rfl | rfl | rfl | rfl | rfl <;> simp [dpM, dpL, lsI, List.range, List.range.loop, hb, p2]
theorem sbM_mem {P : Int → Int} {mask x : Int} : ∀ {n : Nat}, x ∈ sbM P mask n → ∃ i : Int, 0 ≤ i ∧ i < n ∧ x = P i
  | 0, h => by cases h
  | n + 1, h => by
    rcases List.mem_append.mp h with q | q
    · obtain ⟨i, i0, i1, e⟩ := sbM_mem q
      exact ⟨i, i0, by omega, e⟩
    · split at q
      · rw [List.mem_singleton] at q
        exact ⟨n, by omega, by omega, q⟩
      · cases q
theorem sbM_len {P : Int → Int} {mask : Int} : ∀ {n : Nat}, (sbM P mask n).length ≤ n
  | 0 => Nat.le_refl _
  | n + 1 => by
    show (sbM P mask n ++ (if hb mask n = 1 then [P n] else [])).length ≤ n + 1
    rw [List.length_append]
    have := sbM_len (P := P) (mask := mask) (n := n)
    split <;> simp <;> omega

/-! hands by masks: all gifts of a purse, each once -/
def sbL : List Int → Nat → List Int
  | [], _ => []
  | x :: l, m => if m % 2 = 1 then x :: sbL l (m / 2) else sbL l (m / 2)
/-- the same hand stands under another mask: x the coin ahead, b whether it was taken -/
def dpL : List Int → Nat → Int → Nat → Bool
  | [], _, _, _ => false
  | y :: l, m, x, b => (m % 2 == 1 && y == x && b == 0) || dpL l (m / 2) y (m % 2)
def hand (a b c d : Nat) : List Int := List.replicate d 4 ++ (List.replicate c 3 ++ (List.replicate b 2 ++ (List.replicate a 1 ++ [])))
def gfts (a b c d : Nat) : List (List Int) := (List.range (a + 1)).flatMap (fun a => (List.range (b + 1)).flatMap (fun b => (List.range (c + 1)).flatMap (fun c => (List.range (d + 1)).map (fun d => hand a b c d))))
def okA (a b c d : Nat) : Bool := (List.range (2 ^ (a + b + c + d))).all (fun m => (gfts a b c d).contains (sbL (hand a b c d) m)) && (gfts a b c d).all (fun g => g == [] || (List.range (2 ^ (a + b + c + d))).any (fun m => !(dpL (hand a b c d) m 0 1) && sbL (hand a b c d) m == g))
theorem okA_all : ∀ a : Fin 5, ∀ b : Fin 5, ∀ c : Fin 5, ∀ d : Fin 5, (a : Nat) + b + c + d ≤ 4 → okA a b c d = true := by decide +kernel
theorem gfts_mem {a b c d : Nat} {l : List Int} : l ∈ gfts a b c d ↔ ∃ a' b' c' d', a' ≤ a ∧ b' ≤ b ∧ c' ≤ c ∧ d' ≤ d ∧ l = hand a' b' c' d' := by
  unfold gfts
  simp only [List.mem_flatMap, List.mem_range, List.mem_map]
  constructor
  · rintro ⟨a', ha, b', hb, c', hc, d', hd, rfl⟩
    exact ⟨a', b', c', d', by omega, by omega, by omega, by omega, rfl⟩
  · rintro ⟨a', b', c', d', ha, hb, hc, hd, rfl⟩
    exact ⟨a', by omega, b', by omega, c', by omega, d', by omega, rfl⟩
/-- the counts of the four kinds -/
def cu4 (gv : Int → Int) (K k : Int) : Nat := if k < K then (gv k).toNat else 0
theorem hG_hand (gv : Int → Int) {K : Int} (h1 : 1 ≤ K) (h4 : K ≤ 4) : hG gv K.toNat = hand (cu4 gv K 0) (cu4 gv K 1) (cu4 gv K 2) (cu4 gv K 3) := by
  rcases (show K = 1 ∨ K = 2 ∨ K = 3 ∨ K = 4 by omega) with rfl | rfl | rfl | rfl <;> rfl
theorem hand_len (a b c d : Nat) : (hand a b c d).length = a + b + c + d := by
  unfold hand
  simp only [List.length_append, List.length_replicate, List.length_nil]
  omega
section Mk
variable {K : Int} {cn : Int → Int} {L : List Int}
theorem cu4_le {gv : Int → Int} (h : gOK K cn gv) {k : Int} (k0 : 0 ≤ k) : cu4 gv K k ≤ cu4 cn K k := by
  unfold cu4
  split
  · have := h k k0 (by assumption); omega
  · omega
theorem cu4_gv {a b c d : Nat} (hcn : ∀ k : Int, 0 ≤ k → k < K → 0 ≤ cn k) (ha : a ≤ cu4 cn K 0) (hb : b ≤ cu4 cn K 1) (hc : c ≤ cu4 cn K 2) (hd : d ≤ cu4 cn K 3) (h4 : K ≤ 4) : ∃ gv, gOK K cn gv ∧ cu4 gv K 0 = a ∧ cu4 gv K 1 = b ∧ cu4 gv K 2 = c ∧ cu4 gv K 3 = d := by
  unfold cu4 at *
  refine ⟨fun k => if k = 0 then a else if k = 1 then b else if k = 2 then c else d, fun k k0 k1 => ?_, ?_, ?_, ?_, ?_⟩
  · rcases (show k = 0 ∨ k = 1 ∨ k = 2 ∨ k = 3 by omega) with rfl | rfl | rfl | rfl
    · rw [if_pos k1] at ha; have := hcn _ k0 k1; simp; omega
    · rw [if_pos k1] at hb; have := hcn _ k0 k1; simp; omega
    · rw [if_pos k1] at hc; have := hcn _ k0 k1; simp; omega
    · rw [if_pos k1] at hd; have := hcn _ k0 k1; simp; omega
  · split <;> simp_all
  · split <;> simp_all
  · split <;> simp_all
  · split <;> simp_all
theorem mk_ok (h1 : 1 ≤ K) (h4 : K ≤ 4) (hL : L = hG cn K.toNat) (hl : L.length ≤ 4) : okA (cu4 cn K 0) (cu4 cn K 1) (cu4 cn K 2) (cu4 cn K 3) = true ∧ L = hand (cu4 cn K 0) (cu4 cn K 1) (cu4 cn K 2) (cu4 cn K 3) ∧ L.length = cu4 cn K 0 + cu4 cn K 1 + cu4 cn K 2 + cu4 cn K 3 := by
  have e := hL.trans (hG_hand cn h1 h4)
  have el := congrArg List.length e
  rw [hand_len] at el
  exact ⟨okA_all ⟨cu4 cn K 0, by omega⟩ ⟨cu4 cn K 1, by omega⟩ ⟨cu4 cn K 2, by omega⟩ ⟨cu4 cn K 3, by omega⟩ (by show cu4 cn K 0 + cu4 cn K 1 + cu4 cn K 2 + cu4 cn K 3 ≤ 4; omega), e, el⟩
/-- what a mask takes is a gift -/
theorem mk_gift (hcn : ∀ k : Int, 0 ≤ k → k < K → 0 ≤ cn k) (h1 : 1 ≤ K) (h4 : K ≤ 4) (hL : L = hG cn K.toNat) (hl : L.length ≤ 4) {m : Nat} (hm : m < 2 ^ L.length) : ∃ gv, gOK K cn gv ∧ sbL L m = hG gv K.toNat := by
  obtain ⟨o, e, el⟩ := mk_ok h1 h4 hL hl
  unfold okA at o
  rw [Bool.and_eq_true, List.all_eq_true] at o
  have q := o.1 m (List.mem_range.mpr (by rw [← el]; exact hm))
  rw [List.contains_iff_mem, gfts_mem, ← e] at q
  obtain ⟨a, b, c, d, ha, hb, hc, hd, eq⟩ := q
  obtain ⟨gv, g1, g2, g3, g4, g5⟩ := cu4_gv hcn ha hb hc hd h4
  exact ⟨gv, g1, by rw [eq, hG_hand gv h1 h4, g2, g3, g4, g5]⟩
/-- each gift is taken by a mask of its own -/
theorem gift_mk (h1 : 1 ≤ K) (h4 : K ≤ 4) (hL : L = hG cn K.toNat) (hl : L.length ≤ 4) {gv : Int → Int} (hg : gOK K cn gv) (hn : hG gv K.toNat ≠ []) : ∃ m : Nat, 1 ≤ m ∧ m < 2 ^ L.length ∧ dpL L m 0 1 = false ∧ sbL L m = hG gv K.toNat := by
  obtain ⟨o, e, el⟩ := mk_ok h1 h4 hL hl
  unfold okA at o
  rw [Bool.and_eq_true, List.all_eq_true, List.all_eq_true] at o
  have q := o.2 (hG gv K.toNat) (gfts_mem.mpr ⟨_, _, _, _, cu4_le hg (by omega), cu4_le hg (by omega), cu4_le hg (by omega), cu4_le hg (by omega), hG_hand gv h1 h4⟩)
  rw [Bool.or_eq_true, List.any_eq_true] at q
  rcases q with q | ⟨m, m1, m2⟩
  · exact absurd (by simpa using q) hn
  · rw [← e] at m2
    rw [Bool.and_eq_true] at m2
    have m3 : sbL L m = hG gv K.toNat := by simpa using m2.2
    refine ⟨m, ?_, by rw [el]; exact List.mem_range.mp m1, by simpa using m2.1, m3⟩
    rcases Nat.eq_zero_or_pos m with z | z
    · subst z
      have z0 : ∀ L : List Int, sbL L 0 = [] := fun L => by
        induction L with
        | nil => rfl
        | cons x l ih => show (if 0 % 2 = 1 then _ else sbL l (0 / 2)) = []; rw [if_neg (by decide)]; exact ih
      rw [z0] at m3
      exact absurd m3.symm hn
    · exact z
end Mk
/-! the masks as the class goes through them -/
def sbM (P : Int → Int) (mask : Int) : Nat → List Int
  | 0 => []
  | i + 1 => sbM P mask i ++ (if hb mask i = 1 then [P i] else [])
def dpM (P : Int → Int) (mask : Int) : Nat → Prop
  | 0 => False
  | i + 1 => dpM P mask i ∨ (1 ≤ i ∧ hb mask i = 1 ∧ P i = P ((i : Int) - 1) ∧ hb mask ((i : Int) - 1) = 0)
theorem sb_eq (P : Int → Int) {mask : Int} (m0 : 0 ≤ mask) (m1 : mask < 16) {n : Nat} (hn : n ≤ 4) : sbM P mask n = sbL (lsI n P) mask.toNat := by
  rcases (show n = 0 ∨ n = 1 ∨ n = 2 ∨ n = 3 ∨ n = 4 by omega) with rfl | rfl | rfl | rfl | rfl <;> rcases (show mask = 0 ∨ mask = 1 ∨ mask = 2 ∨ mask = 3 ∨ mask = 4 ∨ mask = 5 ∨ mask = 6 ∨ mask = 7 ∨ mask = 8 ∨ mask = 9 ∨ mask = 10 ∨ mask = 11 ∨ mask = 12 ∨ mask = 13 ∨ mask = 14 ∨ mask = 15 by omega) with rfl | rfl | rfl | rfl | rfl | rfl | rfl | rfl | rfl | rfl | rfl | rfl | rfl | rfl | rfl | rfl <;> rfl
theorem dp_eq (P : Int → Int) {mask : Int} (m0 : 0 ≤ mask) (m1 : mask < 16) {n : Nat} (hn : n ≤ 4) : dpM P mask n ↔ dpL (lsI n P) mask.toNat 0 1 = true := by
  rcases (show n = 0 ∨ n = 1 ∨ n = 2 ∨ n = 3 ∨ n = 4 by omega) with rfl | rfl | rfl | rfl | rfl <;> rcases (show mask = 0 ∨ mask = 1 ∨ mask = 2 ∨ mask = 3 ∨ mask = 4 ∨ mask = 5 ∨ mask = 6 ∨ mask = 7 ∨ mask = 8 ∨ mask = 9 ∨ mask = 10 ∨ mask = 11 ∨ mask = 12 ∨ mask = 13 ∨ mask = 14 ∨ mask = 15 by omega) with rfl | rfl | rfl | rfl | rfl | rfl | rfl | rfl | rfl | rfl | rfl | rfl | rfl | rfl | rfl | rfl <;> simp [dpM, dpL, lsI, List.range, List.range.loop, hb, p2]
theorem sbM_mem {P : Int → Int} {mask x : Int} : ∀ {n : Nat}, x ∈ sbM P mask n → ∃ i : Int, 0 ≤ i ∧ i < n ∧ x = P i
  | 0, h => by cases h
  | n + 1, h => by
    rcases List.mem_append.mp h with q | q
    · obtain ⟨i, i0, i1, e⟩ := sbM_mem q
      exact ⟨i, i0, by omega, e⟩
    · split at q
      · rw [List.mem_singleton] at q
        exact ⟨n, by omega, by omega, q⟩
      · cases q
theorem sbM_len {P : Int → Int} {mask : Int} : ∀ {n : Nat}, (sbM P mask n).length ≤ n
  | 0 => Nat.le_refl _
  | n + 1 => by
    show (sbM P mask n ++ (if hb mask n = 1 then [P n] else [])).length ≤ n + 1
    rw [List.length_append]
    have := sbM_len (P := P) (mask := mask) (n := n)
    split <;> simp <;> omega
/-! a customer's record: its sets as hands -/
theorem lsI_add (g : Int → Int) (a : Nat) : ∀ b : Nat, lsI (a + b) g = lsI a g ++ lsI b (fun j => g ((a : Int) + j))
  | 0 => by show lsI a g = lsI a g ++ []; rw [List.append_nil]
  | b + 1 => by
    rw [← Nat.add_assoc, lsI_succ, lsI_add g a b, lsI_succ, List.append_assoc]
    congr 3
theorem lex_ls {n : Nat} {g h : Int → Int} {i : Nat} (hi : i < n) (he : ∀ j : Int, 0 ≤ j → j < i → g j = h j) (hne : g i ≠ h i) : lexG (lsI n g) (lsI n h) ↔ h i < g i := by
  obtain ⟨b, rfl⟩ : ∃ b, n = i + (b + 1) := ⟨n - i - 1, by omega⟩
  rw [lsI_add g i (b + 1), lsI_add h i (b + 1), lsI_congr (g := g) (h := h) (fun j a c => he j (by omega) (by omega)), lex_pre, lsI_cons, lsI_cons]
  show (h ((i : Int) + 0) < g ((i : Int) + 0) ∨ _) ↔ _
  rw [Int.add_zero]
  constructor
  · rintro (q | ⟨q, _⟩)
    · exact q
    · exact absurd q hne
  · exact Or.inl
def rcI (w : Int → Int) (prc se : Int) (hd hz sp : Int → Int) (ch : Int) (L : List (List Int)) : Prop := se = L.length ∧ (∀ s : Nat, s < L.length → hz s = ((L.getD s []).length : Int) ∧ lsI (L.getD s []).length (fun i => hd ((s : Int) * 4 + i)) = L.getD s [] ∧ sp s = wL w (L.getD s []) - prc) ∧ (∀ l ∈ L, (1 ≤ l.length ∧ l.length ≤ 4) ∧ (∀ x ∈ l, 1 ≤ x ∧ x ≤ 4) ∧ prc ≤ wL w l) ∧ ((ch = -1 ∧ L = []) ∨ ∃ s : Nat, ch = s ∧ s < L.length ∧ bsH w (fun x => x ∈ L) (L.getD s []))
theorem rcI_0 {w : Int → Int} {prc : Int} {hd hz sp : Int → Int} : rcI w prc 0 hd hz sp (-1) [] := ⟨rfl, fun s h => absurd h (by simp), fun l h => absurd h (by simp), Or.inl ⟨rfl, rfl⟩⟩
theorem getD_mem {L : List (List Int)} {s : Nat} (h : s < L.length) : L.getD s [] ∈ L := by
  rw [List.getD_eq_getElem?_getD, List.getElem?_eq_getElem h]
  exact List.getElem_mem h
theorem getD_app {L : List (List Int)} {l : List Int} {s : Nat} (h : s < L.length) : (L ++ [l]).getD s [] = L.getD s [] := by
  rw [List.getD_eq_getElem?_getD, List.getD_eq_getElem?_getD, List.getElem?_append_left h]
theorem getD_lst {L : List (List Int)} {l : List Int} : (L ++ [l]).getD L.length [] = l := by
  rw [List.getD_eq_getElem?_getD, List.getElem?_append_right (Nat.le_refl _)]
  simp
theorem getD_ex {L : List (List Int)} {l : List Int} (h : l ∈ L) : ∃ s : Nat, s < L.length ∧ L.getD s [] = l := by
  obtain ⟨s, hs, e⟩ := List.getElem_of_mem h
  exact ⟨s, hs, by rw [List.getD_eq_getElem?_getD, List.getElem?_eq_getElem hs]; exact e⟩
/-- hands behind the sets may change -/
theorem rcI_u {w : Int → Int} {prc se : Int} {hd hd' hz sp : Int → Int} {ch : Int} {L : List (List Int)} (h : rcI w prc se hd hz sp ch L) (he : ∀ x : Int, 0 ≤ x → x < se * 4 → hd' x = hd x) : rcI w prc se hd' hz sp ch L := by
  obtain ⟨a, b, c, d⟩ := h
  refine ⟨a, fun s hs => ?_, c, d⟩
  obtain ⟨b1, b2, b3⟩ := b s hs
  have hl := (c _ (getD_mem hs)).1.2
  refine ⟨b1, ?_, b3⟩
  exact (lsI_congr (n := (L.getD s []).length) (g := fun i => hd' ((s : Int) * 4 + i)) (h := fun i => hd ((s : Int) * 4 + i)) (fun i i0 i1 => he _ (by omega) (by omega))).trans b2
/-- one more set, chosen or not -/
theorem rcI_n {w : Int → Int} {prc se : Int} {hd hz sp : Int → Int} {ch ch' : Int} {L : List (List Int)} {l : List Int} (h : rcI w prc se hd hz sp ch L) (hl : (1 ≤ l.length ∧ l.length ≤ 4) ∧ (∀ x ∈ l, 1 ≤ x ∧ x ≤ 4) ∧ prc ≤ wL w l) (hd1 : lsI l.length (fun i => hd (se * 4 + i)) = l) (hc : (ch' = se ∧ (ch = -1 ∨ ∃ s : Nat, ch = s ∧ s < L.length ∧ betL w l (L.getD s []))) ∨ (ch' = ch ∧ ∃ s : Nat, ch = s ∧ s < L.length ∧ ¬ betL w l (L.getD s []))) : rcI w prc (se + 1) hd (iu hz se (l.length : Int)) (iu sp se (wL w l - prc)) ch' (L ++ [l]) := by
  obtain ⟨a, b, c, d⟩ := h
  have hm : ∀ x, x ∈ L ++ [l] ↔ x ∈ L ∨ x = l := fun x => by rw [List.mem_append, List.mem_singleton]
  refine ⟨by rw [List.length_append, a]; rfl, fun s hs => ?_, fun x hx => ?_, ?_⟩
  · rw [List.length_append] at hs
    have hs : s < L.length + 1 := hs
    rcases (show s < L.length ∨ s = L.length by omega) with q | q
    · rw [getD_app q, iu_ne _ _ (by omega), iu_ne _ _ (by omega)]
      exact b s q
    · subst q
      rw [getD_lst, ← a, iu_at, iu_at]
      exact ⟨rfl, hd1, rfl⟩
  · rcases (hm x).mp hx with q | q
    · exact c x q
    · rw [q]; exact hl
  · refine Or.inr ?_
    rcases hc with ⟨e, q⟩ | ⟨e, s, e1, e2, e3⟩
    · refine ⟨L.length, by omega, by rw [List.length_append]; exact Nat.lt_succ_self _, ?_⟩
      rw [getD_lst]
      refine bsH_c ?_ (fun x => (hm x).symm)
      rcases d with ⟨d1, d2⟩ | ⟨s', d1, d2, d3⟩
      · exact bsH_1 (fun x hx => by rw [d2] at hx; cases hx)
      · rcases q with q | ⟨s, e1, e2, e3⟩
        · omega
        · have : s = s' := by omega
          subst this
          exact bsH_n d3 e3
    · refine ⟨s, by omega, by rw [List.length_append]; exact Nat.lt_succ_of_lt e2, ?_⟩
      rw [getD_app e2]
      refine bsH_c ?_ (fun x => (hm x).symm)
      rcases d with ⟨d1, d2⟩ | ⟨s', d1, d2, d3⟩
      · rw [d2] at e2; simp at e2
      · have : s = s' := by omega
        subst this
        exact bsH_k d3 e3

/-! gifts: which is better, which is given by rules -/
def wL (w : Int → Int) : List Int → Int
  | [] => 0
  | x :: l => w x + wL w l
theorem wL_app (w : Int → Int) : ∀ (a b : List Int), wL w (a ++ b) = wL w a + wL w b
  | [], b => by show wL w b = 0 + wL w b; omega
  | x :: a, b => by show w x + wL w (a ++ b) = w x + wL w a + wL w b; rw [wL_app w a b]; omega
theorem wL_rep (w : Int → Int) (d : Int) : ∀ n : Nat, wL w (List.replicate n d) = n * w d
  | 0 => by simp [wL]
  | n + 1 => by
    rw [List.replicate_succ]
    show w d + wL w (List.replicate n d) = ((n + 1 : Nat) : Int) * w d
    rw [wL_rep w d n, Int.natCast_add, Int.add_mul]
    omega
theorem wL_hG (w : Int → Int) {gv : Int → Int} : ∀ {k : Nat}, (∀ i : Int, 0 ≤ i → i < k → 0 ≤ gv i) → wL w (hG gv k) = sW gv (fun j => w (j + 1)) k
  | 0, _ => rfl
  | k + 1, h => by
    show wL w (List.replicate (gv k).toNat ((k : Int) + 1) ++ hG gv k) = sW gv (fun j => w (j + 1)) k + gv k * w ((k : Int) + 1)
    rw [wL_app, wL_rep, wL_hG w (fun i a b => h i a (by omega)), Int.toNat_of_nonneg (h k (by omega) (by omega))]
    omega
/-- the first that differs is greater -/
def lexG : List Int → List Int → Prop
  | x :: a, y :: b => y < x ∨ (x = y ∧ lexG a b)
  | [], _ => False
  | _ :: _, [] => False
theorem lexG_tr : ∀ {a b c : List Int}, lexG a b → lexG b c → lexG a c
  | [], _, _, h, _ => h.elim
  | _ :: _, [], _, h, _ => h.elim
  | _ :: _, _ :: _, [], _, h => h.elim
  | x :: a, y :: b, z :: c, h, h' => by
    rcases h with h | ⟨rfl, h⟩ <;> rcases h' with h' | ⟨rfl, h'⟩
    · exact Or.inl (by omega)
    · exact Or.inl h
    · exact Or.inl h'
    · exact Or.inr ⟨rfl, lexG_tr h h'⟩
theorem lexG_ir : ∀ {a : List Int}, ¬ lexG a a
  | [], h => h
  | x :: a, h => by
    rcases h with h | ⟨_, h⟩
    · omega
    · exact lexG_ir h
theorem lexG_tt : ∀ {a b : List Int}, a.length = b.length → a = b ∨ lexG a b ∨ lexG b a
  | [], [], _ => Or.inl rfl
  | [], _ :: _, h => by simp at h
  | _ :: _, [], h => by simp at h
  | x :: a, y :: b, h => by
    rcases Int.lt_trichotomy x y with q | q | q
    · exact Or.inr (Or.inr (Or.inl q))
    · subst q
      rcases lexG_tt (a := a) (b := b) (by simpa using h) with z | z | z
      · exact Or.inl (by rw [z])
      · exact Or.inr (Or.inl (Or.inr ⟨rfl, z⟩))
      · exact Or.inr (Or.inr (Or.inr ⟨rfl, z⟩))
    · exact Or.inr (Or.inl (Or.inl q))
def betL (w : Int → Int) (a b : List Int) : Prop := wL w a < wL w b ∨ (wL w a = wL w b ∧ (a.length < b.length ∨ (a.length = b.length ∧ lexG a b)))
section Bet
variable {w : Int → Int} {a b c : List Int}
theorem betL_tr (h : betL w a b) (h' : betL w b c) : betL w a c := by
  rcases h with h | ⟨h1, h | ⟨h2, h⟩⟩ <;> rcases h' with h' | ⟨h1', h' | ⟨h2', h'⟩⟩
  · exact Or.inl (by omega)
  · exact Or.inl (by omega)
  · exact Or.inl (by omega)
  · exact Or.inl (by omega)
  · exact Or.inr ⟨by omega, Or.inl (by omega)⟩
  · exact Or.inr ⟨by omega, Or.inl (by omega)⟩
  · exact Or.inl (by omega)
  · exact Or.inr ⟨by omega, Or.inl (by omega)⟩
  · exact Or.inr ⟨by omega, Or.inr ⟨by omega, lexG_tr h h'⟩⟩
theorem betL_ir : ¬ betL w a a := by
  rintro (h | ⟨_, h | ⟨_, h⟩⟩)
  · omega
  · omega
  · exact lexG_ir h
theorem betL_tt : a = b ∨ betL w a b ∨ betL w b a := by
  rcases Int.lt_trichotomy (wL w a) (wL w b) with q | q | q
  · exact Or.inr (Or.inl (Or.inl q))
  · rcases Nat.lt_trichotomy a.length b.length with z | z | z
    · exact Or.inr (Or.inl (Or.inr ⟨q, Or.inl z⟩))
    · rcases lexG_tt z with y | y | y
      · exact Or.inl y
      · exact Or.inr (Or.inl (Or.inr ⟨q, Or.inr ⟨z, y⟩⟩))
      · exact Or.inr (Or.inr (Or.inr ⟨q.symm, Or.inr ⟨z.symm, y⟩⟩))
    · exact Or.inr (Or.inr (Or.inr ⟨q.symm, Or.inl z⟩))
  · exact Or.inr (Or.inr (Or.inl q))
end Bet
/-- the best of a set of hands -/
def bsH (w : Int → Int) (S : List Int → Prop) (h : List Int) : Prop := S h ∧ ∀ l, S l → l = h ∨ betL w h l
theorem bsH_uq {w : Int → Int} {S : List Int → Prop} {h h' : List Int} (a : bsH w S h) (b : bsH w S h') : h = h' := by
  rcases a.2 h' b.1 with q | q
  · exact q.symm
  · rcases b.2 h a.1 with z | z
    · exact z
    · exact absurd (betL_tr q z) betL_ir
theorem bsH_c {w : Int → Int} {S S' : List Int → Prop} {h : List Int} (a : bsH w S h) (e : ∀ l, S l ↔ S' l) : bsH w S' h := ⟨(e _).mp a.1, fun l hl => a.2 l ((e l).mpr hl)⟩
/-- one more: better, or not -/
theorem bsH_n {w : Int → Int} {S : List Int → Prop} {h l : List Int} (a : bsH w S h) (hl : betL w l h) : bsH w (fun x => S x ∨ x = l) l := ⟨Or.inr rfl, fun x hx => by
  rcases hx with hx | hx
  · rcases a.2 x hx with q | q
    · rw [q]; exact Or.inr hl
    · exact Or.inr (betL_tr hl q)
  · exact Or.inl hx⟩
theorem bsH_k {w : Int → Int} {S : List Int → Prop} {h l : List Int} (a : bsH w S h) (hl : ¬ betL w l h) : bsH w (fun x => S x ∨ x = l) h := ⟨Or.inl a.1, fun x hx => by
  rcases hx with hx | hx
  · exact a.2 x hx
  · subst hx
    rcases betL_tt (w := w) (a := x) (b := h) with q | q | q
    · exact Or.inl q
    · exact absurd q hl
    · exact Or.inr q⟩
theorem bsH_1 {w : Int → Int} {S : List Int → Prop} {l : List Int} (h : ∀ x, ¬ S x) : bsH w (fun x => S x ∨ x = l) l := ⟨Or.inr rfl, fun x hx => hx.elim (fun q => absurd q (h x)) Or.inl⟩
/-- gifts that are enough, as hands -/
def giS (w : Int → Int) (K pr : Int) (cn : Int → Int) (l : List Int) : Prop := ∃ gv, gOK K cn gv ∧ pr ≤ sW gv (fun k => w (k + 1)) K.toNat ∧ l = hG gv K.toNat
/-! hands by counts -/
theorem lex_pre (l : List Int) {a b : List Int} : lexG (l ++ a) (l ++ b) ↔ lexG a b := by
  induction l with
  | nil => exact Iff.rfl
  | cons x l ih =>
    show (x < x ∨ (x = x ∧ lexG (l ++ a) (l ++ b))) ↔ _
    rw [ih]
    constructor
    · rintro (h | h)
      · omega
      · exact h.2
    · intro h
      exact Or.inr ⟨rfl, h⟩
def cdG (g b : Int → Int) : Nat → Prop
  | 0 => False
  | k + 1 => b k < g k ∨ (g k = b k ∧ cdG g b k)
theorem cdG_lex {g b : Int → Int} : ∀ {k : Nat}, (∀ i : Int, 0 ≤ i → i < k → 0 ≤ g i ∧ 0 ≤ b i) → (hG g k).length = (hG b k).length → (cdG g b k ↔ lexG (hG g k) (hG b k))
  | 0, _, _ => Iff.rfl
  | k + 1, h, hl => by
    have hk := h k (by omega) (by omega)
    have h' : ∀ i : Int, 0 ≤ i → i < (k : Int) → 0 ≤ g i ∧ 0 ≤ b i := fun i a c => h i a (by omega)
    show (b k < g k ∨ (g k = b k ∧ cdG g b k)) ↔ lexG (List.replicate (g k).toNat ((k : Int) + 1) ++ hG g k) (List.replicate (b k).toNat ((k : Int) + 1) ++ hG b k)
    have hl : (List.replicate (g k).toNat ((k : Int) + 1) ++ hG g k).length = (List.replicate (b k).toNat ((k : Int) + 1) ++ hG b k).length := hl
    rw [List.length_append, List.length_append, List.length_replicate, List.length_replicate] at hl
    have key : ∀ {u v : Int → Int}, 0 ≤ u k → u k < v k → (u k).toNat + (hG u k).length = (v k).toNat + (hG v k).length → lexG (List.replicate (v k).toNat ((k : Int) + 1) ++ hG v k) (List.replicate (u k).toNat ((k : Int) + 1) ++ hG u k) := by
      intro u v u0 uv ul
      obtain ⟨d, hd⟩ : ∃ d : Nat, (v k).toNat = (u k).toNat + (d + 1) := ⟨(v k).toNat - (u k).toNat - 1, by omega⟩
      rw [hd, ← List.replicate_append_replicate, List.append_assoc, lex_pre]
      match hu : hG u k, ul with
      | [], ul => simp at ul; omega
      | y :: e, _ =>
        have := hG_d (gv := u) (k := k) (e := y) (by rw [hu]; simp)
        rw [List.replicate_succ]
        exact Or.inl (by omega)
    constructor
    · rintro (q | ⟨q, z⟩)
      · exact key hk.2 q hl.symm
      · rw [q, lex_pre]
        exact (cdG_lex h' (by rw [q] at hl; omega)).mp z
    · intro z
      rcases Int.lt_trichotomy (g k) (b k) with q | q | q
      · exact absurd (lexG_tr z (key hk.1 q hl)) lexG_ir
      · rw [q, lex_pre] at z
        exact Or.inr ⟨q, (cdG_lex h' (by rw [q] at hl; omega)).mpr z⟩
      · exact Or.inl q
theorem cdG_ir {g : Int → Int} : ∀ {k : Nat}, ¬ cdG g g k
  | 0, h => h
  | k + 1, h => by
    rcases h with h | h
    · omega
    · exact cdG_ir h.2
/-- gifts by counts -/
theorem betL_cnt {w g b : Int → Int} {K : Nat} (h : ∀ i : Int, 0 ≤ i → i < K → 0 ≤ g i ∧ 0 ≤ b i) : betL w (hG g K) (hG b K) ↔ (sW g (fun j => w (j + 1)) K < sW b (fun j => w (j + 1)) K ∨ (sW g (fun j => w (j + 1)) K = sW b (fun j => w (j + 1)) K ∧ (sG g K < sG b K ∨ (sG g K = sG b K ∧ cdG g b K)))) := by
  have e1 := wL_hG w (gv := g) (k := K) (fun i a c => (h i a c).1)
  have e2 := wL_hG w (gv := b) (k := K) (fun i a c => (h i a c).2)
  have l1 := hG_len (gv := g) (k := K) (fun i a c => (h i a c).1)
  have l2 := hG_len (gv := b) (k := K) (fun i a c => (h i a c).2)
  unfold betL
  rw [e1, e2]
  constructor
  · rintro (q | ⟨q, z | ⟨z, y⟩⟩)
    · exact Or.inl q
    · exact Or.inr ⟨q, Or.inl (by omega)⟩
    · exact Or.inr ⟨q, Or.inr ⟨by omega, (cdG_lex h z).mpr y⟩⟩
  · rintro (q | ⟨q, z | ⟨z, y⟩⟩)
    · exact Or.inl q
    · exact Or.inr ⟨q, Or.inl (by omega)⟩
    · exact Or.inr ⟨q, Or.inr ⟨by omega, (cdG_lex h (by omega)).mp y⟩⟩
theorem cnt_hG {gv : Int → Int} : ∀ {k : Nat} {d : Int}, 0 ≤ d → (((hG gv k).count (d + 1) : Nat) : Int) = if d < k then ((gv d).toNat : Int) else 0
  | 0, d, h => by rw [if_neg (by omega)]; rfl
  | k + 1, d, h => by
    show (((List.replicate (gv k).toNat ((k : Int) + 1) ++ hG gv k).count (d + 1) : Nat) : Int) = _
    have ih := cnt_hG (gv := gv) (k := k) h
    rw [List.count_append, List.count_replicate]
    by_cases q : (k : Int) = d
    · subst q
      rw [if_pos (by simp), if_pos (by omega)]
      rw [if_neg (by omega)] at ih
      omega
    · rw [if_neg (by simp; omega)]
      by_cases z : d < (k : Int)
      · rw [if_pos z] at ih
        rw [if_pos (by omega)]
        omega
      · rw [if_neg z] at ih
        rw [if_neg (by omega)]
        omega

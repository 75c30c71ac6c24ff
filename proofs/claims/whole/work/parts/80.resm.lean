/-! RESULTS, one meaning for class and model -/
def sW (gv wk : Int → Int) : Nat → Int
  | 0 => 0
  | k + 1 => sW gv wk k + gv k * wk k
theorem sW_congr {gv gv' wk : Int → Int} : ∀ {k : Nat}, (∀ i : Int, 0 ≤ i → i < k → gv i = gv' i) → sW gv wk k = sW gv' wk k
  | 0, _ => rfl
  | k + 1, h => by
    show sW gv wk k + gv k * wk k = sW gv' wk k + gv' k * wk k
    rw [h k (by omega) (by omega), sW_congr (fun i h0 h1 => h i h0 (by omega))]
theorem sW_iu {gv wk : Int → Int} {k n : Int} (h : 0 ≤ k) : sW (iu gv k n) wk (k + 1).toNat = sW gv wk k.toNat + n * wk k := by
  rw [show (k + 1).toNat = k.toNat + 1 by omega]
  show sW (iu gv k n) wk k.toNat + iu gv k n (k.toNat : Int) * wk (k.toNat : Int) = _
  rw [Int.toNat_of_nonneg h, iu_at, sW_congr (gv := iu gv k n) (gv' := gv) (fun i h0 h1 => iu_ne _ _ (by omega))]
/-- gifts: what is given of each kind -/
def gOK (K : Int) (cn gv : Int → Int) : Prop := ∀ k : Int, 0 ≤ k → k < K → 0 ≤ gv k ∧ gv k ≤ cn k
theorem gP_ex {W : List Int → Int → Int → Prop} {K pr : Int} {cn va : Int → Int} (v : Int) : ∀ (r : Nat) (gv : Int → Int), (r : Int) ≤ K → (gP W K pr cn va r gv (sW gv va (K - r).toNat) v ↔ ∃ gv' : Int → Int, (∀ k : Int, 0 ≤ k → k < K - r → gv' k = gv k) ∧ (∀ k : Int, K - r ≤ k → k < K → 0 ≤ gv' k ∧ gv' k ≤ cn k) ∧ pr ≤ sW gv' va K.toNat ∧ W (hG gv' K.toNat) (sW gv' va K.toNat - pr) v)
  | 0, gv, hr => by
    rw [show (K - ((0 : Nat) : Int)).toNat = K.toNat by congr 1; push_cast; omega]
    constructor
    · rintro ⟨a, b⟩
      exact ⟨gv, fun k _ _ => rfl, fun k h0 h1 => by push_cast at h0; omega, a, b⟩
    · rintro ⟨gv', h1, -, h3, h4⟩
      have e : ∀ i : Int, 0 ≤ i → i < (K.toNat : Nat) → gv' i = gv i := fun i h0 hi => h1 i h0 (by push_cast; omega)
      rw [sW_congr e, hG_congr e] at h4
      rw [sW_congr e] at h3
      exact ⟨h3, h4⟩
  | r + 1, gv, hr => by
    have hr' : (r : Int) ≤ K := by push_cast at hr; omega
    have ek : (K - 1 - (r : Int)) = K - ((r + 1 : Nat) : Int) := by push_cast; omega
    constructor
    · rintro ⟨n, n0, n1, n2⟩
      have e := sW_iu (gv := gv) (wk := va) (k := K - 1 - r) (n := n) (by push_cast at hr; omega)
      rw [show (K - 1 - (r : Int) + 1).toNat = (K - r).toNat by congr 1; omega, show (K - 1 - (r : Int)).toNat = (K - ((r + 1 : Nat) : Int)).toNat by rw [ek]] at e
      rw [← e] at n2
      obtain ⟨gv', h1, h2, h3, h4⟩ := (gP_ex v r (iu gv (K - 1 - r) n) hr').mp n2
      refine ⟨gv', fun k k0 k1 => ?_, fun k k0 k1 => ?_, h3, h4⟩
      · rw [h1 k k0 (by push_cast at k1; omega), iu_ne _ _ (by push_cast at k1; omega)]
      · by_cases q : k = K - 1 - r
        · rw [h1 k (by push_cast at hr; omega) (by omega), q, iu_at]; exact ⟨n0, n1⟩
        · exact h2 k (by push_cast at k0; omega) k1
    · rintro ⟨gv', h1, h2, h3, h4⟩
      have hb := h2 (K - 1 - r) (by push_cast; omega) (by omega)
      refine ⟨gv' (K - 1 - r), hb.1, hb.2, ?_⟩
      have e := sW_iu (gv := gv) (wk := va) (k := K - 1 - r) (n := gv' (K - 1 - r)) (by push_cast at hr; omega)
      rw [show (K - 1 - (r : Int) + 1).toNat = (K - r).toNat by congr 1; omega, show (K - 1 - (r : Int)).toNat = (K - ((r + 1 : Nat) : Int)).toNat by rw [ek]] at e
      rw [← e]
      refine (gP_ex v r (iu gv (K - 1 - r) (gv' (K - 1 - r))) hr').mpr ⟨gv', fun k k0 k1 => ?_, fun k k0 k1 => h2 k (by push_cast; omega) k1, h3, h4⟩
      by_cases q : k = K - 1 - r
      · rw [q, iu_at]
      · rw [iu_ne _ _ q]; exact h1 k k0 (by push_cast; omega)
/-- RESULTS: p0 p1 t the till, pr the price, cn the purse -/
def RES (w : Int → Int) (K tr len pi p0 p1 t pr : Int) (cn : Int → Int) (v : Int) : Prop := ∃ gv : Int → Int, gOK K cn gv ∧ pr ≤ sW gv (fun k => w (k + 1)) K.toNat ∧ lvW w tr len pi (hG gv K.toNat) (p0, p1, t, sW gv (fun k => w (k + 1)) K.toNat - pr) v
theorem RES_gP {w va gv cn : Int → Int} {K tr len pi p0 p1 t pr v : Int} (hK : 0 ≤ K) (hva : ∀ k : Int, 0 ≤ k → k < K → va k = w (k + 1)) : RES w K tr len pi p0 p1 t pr cn v ↔ gP (fun hd l v => lvW w tr len pi hd (p0, p1, t, l) v) K pr cn va (K - 0).toNat gv 0 v := by
  have e : ∀ g : Int → Int, sW g (fun k => w (k + 1)) K.toNat = sW g va K.toNat := fun g => by
    have : ∀ n : Nat, (n : Int) ≤ K → sW g (fun k => w (k + 1)) n = sW g va n := fun n => by
      induction n with
      | zero => intro _; rfl
      | succ n ih =>
        intro h
        show sW g _ n + g n * w ((n : Int) + 1) = sW g va n + g n * va n
        rw [ih (by push_cast at h; omega), hva n (by omega) (by push_cast at h; omega)]
    exact this K.toNat (by omega)
  have hx := gP_ex (W := fun hd l v => lvW w tr len pi hd (p0, p1, t, l) v) (K := K) (pr := pr) (cn := cn) (va := va) v (K - 0).toNat gv (by omega)
  rw [show (K - ((K - 0).toNat : Int)).toNat = 0 by omega] at hx
  have hx : gP (fun hd l v => lvW w tr len pi hd (p0, p1, t, l) v) K pr cn va (K - 0).toNat gv 0 v ↔ _ := hx
  rw [hx]
  unfold RES gOK
  constructor
  · rintro ⟨g, h1, h2, h3⟩
    rw [e] at h2 h3
    exact ⟨g, fun k a b => by omega, fun k a b => h1 k (by omega) b, h2, h3⟩
  · rintro ⟨g, -, h1, h2, h3⟩
    refine ⟨g, fun k a b => h1 k (by omega) b, ?_, ?_⟩
    · rw [e]; exact h2
    · rw [e]; exact h3
/-- the class's sets of a customer are all its gifts -/
def cuG (X : CuR) (w : Int → Int) (K pr : Int) (cn : Int → Int) : Prop := (∀ s : Int, 0 ≤ s → s < X.2.2.2.1 → ∃ gv, gOK K cn gv ∧ pr ≤ sW gv (fun k => w (k + 1)) K.toNat ∧ hnd X s 0 = hG gv K.toNat ∧ X.2.2.2.2.2.2.1 s = sW gv (fun k => w (k + 1)) K.toNat - pr) ∧ (∀ gv, gOK K cn gv → pr ≤ sW gv (fun k => w (k + 1)) K.toNat → ∃ s : Int, 0 ≤ s ∧ s < X.2.2.2.1 ∧ hnd X s 0 = hG gv K.toNat ∧ X.2.2.2.2.2.2.1 s = sW gv (fun k => w (k + 1)) K.toNat - pr)
theorem resP_RES {w cn : Int → Int} {K tr len pi p0 p1 t pr : Int} {X : CuR} (h : cuG X w K pr cn) (v : Int) : resP w tr len pi p0 p1 t X v ↔ RES w K tr len pi p0 p1 t pr cn v := by
  constructor
  · rintro ⟨s, s0, s1, hs⟩
    obtain ⟨gv, a, b, c, d⟩ := h.1 s s0 s1
    rw [c, d] at hs
    exact ⟨gv, a, b, hs⟩
  · rintro ⟨gv, a, b, hv⟩
    obtain ⟨s, s0, s1, c, d⟩ := h.2 gv a b
    refine ⟨s, s0, s1, ?_⟩
    rw [c, d]
    exact hv

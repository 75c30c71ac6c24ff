/-! giving change: states as codes, breadth first -/
def wOK (w : Int → Int) : Prop := w 0 = 0 ∧ ∀ e : Int, 0 ≤ e → e ≤ 4 → 0 ≤ w e ∧ w e ≤ 99
/-- a pipe taken out coin by coin: what is left, what they are worth -/
def pyI (w R K : Int → Int) : Prop := 0 ≤ R 0 ∧ R 0 < 3125 ∧ K 0 = 0 ∧ ∀ i : Int, 0 ≤ i → i < 5 → R (i + 1) = R i / 5 ∧ K (i + 1) = K i + w (R i % 5)
theorem pyI_all {w R K : Int → Int} (hw : wOK w) (h : pyI w R K) : (R 1 = R 0 / 5 ∧ R 2 = R 1 / 5 ∧ R 3 = R 2 / 5 ∧ R 4 = R 3 / 5 ∧ R 5 = 0) ∧ (0 ≤ K 1 ∧ K 1 ≤ K 2 ∧ K 2 ≤ K 3 ∧ K 3 ≤ K 4 ∧ K 4 ≤ K 5 ∧ K 1 ≤ 99 ∧ K 2 ≤ 198 ∧ K 3 ≤ 297 ∧ K 4 ≤ 396 ∧ K 5 ≤ 495) := by
  obtain ⟨h0, h1, h2, h3⟩ := h
  have a0 := h3 0 (by omega) (by omega)
  have a1 := h3 1 (by omega) (by omega)
  have a2 := h3 2 (by omega) (by omega)
  have a3 := h3 3 (by omega) (by omega)
  have a4 := h3 4 (by omega) (by omega)
  simp only [show (0 : Int) + 1 = 1 from rfl, show (1 : Int) + 1 = 2 from rfl, show (2 : Int) + 1 = 3 from rfl, show (3 : Int) + 1 = 4 from rfl, show (4 : Int) + 1 = 5 from rfl] at a0 a1 a2 a3 a4
  have b0 := hw.2 (R 0 % 5) (by omega) (by omega)
  have b1 := hw.2 (R 1 % 5) (by omega) (by omega)
  have b2 := hw.2 (R 2 % 5) (by omega) (by omega)
  have b3 := hw.2 (R 3 % 5) (by omega) (by omega)
  have b4 := hw.2 (R 4 % 5) (by omega) (by omega)
  omega
theorem pyI_b {w R K : Int → Int} (hw : wOK w) (h : pyI w R K) {i : Int} (h0 : 0 ≤ i) (h5 : i ≤ 5) : 0 ≤ R i ∧ R i < 3125 ∧ 0 ≤ K i ∧ K i ≤ 495 ∧ K i ≤ K 5 ∧ (i = 5 → R i = 0) := by
  have a := pyI_all hw h
  obtain ⟨p0, p1, p2, -⟩ := h
  rcases (show i = 0 ∨ i = 1 ∨ i = 2 ∨ i = 3 ∨ i = 4 ∨ i = 5 by omega) with rfl | rfl | rfl | rfl | rfl | rfl <;> omega
section Codes
variable (w R0 R1 K0 K1 : Int → Int) (b tr : Int)
def lfC (c : Int) : Int := b + w (c % 5) - K0 (c / 30) - K1 (c / 5 % 6)
def stc (c c' : Int) : Prop := lfC w K0 K1 b c ≠ 0 ∧ ((0 < c % 5 ∧ w (c % 5) ≤ lfC w K0 K1 b c ∧ c' = c - c % 5) ∨ (0 < R0 (c / 30) % 5 ∧ w (R0 (c / 30) % 5) ≤ lfC w K0 K1 b c ∧ c' = c + 30) ∨ (0 < R0 (c / 30) % 5 ∧ c % 5 = 0 ∧ 0 < tr ∧ c' = c + 30 + R0 (c / 30) % 5) ∨ (0 < R1 (c / 5 % 6) % 5 ∧ w (R1 (c / 5 % 6) % 5) ≤ lfC w K0 K1 b c ∧ c' = c + 5) ∨ (0 < R1 (c / 5 % 6) % 5 ∧ c % 5 = 0 ∧ 0 < tr ∧ c' = c + 5 + R1 (c / 5 % 6) % 5))
end Codes
def rcc (E : Int → Int → Prop) : Nat → Int → Int → Prop
  | 0, c, c' => c' = c
  | n + 1, c, c' => ∃ m, rcc E n c m ∧ E m c'
/-- the queue: qd codes q, each stamped, moves mo (mx at most, rising), each come to in so many moves -/
def bfQ (E : Int → Int → Prop) (c0 st mx qd : Int) (q mo sm : Int → Int) : Prop := 0 ≤ qd ∧ qd ≤ 180 ∧ (∀ i : Int, 0 ≤ i → i < qd → 0 ≤ q i ∧ q i < 180 ∧ sm (q i) = st ∧ 0 ≤ mo (q i) ∧ mo (q i) ≤ mx ∧ rcc E (mo (q i)).toNat c0 (q i)) ∧ (∀ i j : Int, 0 ≤ i → i < j → j < qd → q i ≠ q j ∧ mo (q i) ≤ mo (q j)) ∧ (∀ c : Int, 0 ≤ c → c < 180 → 0 ≤ sm c ∧ sm c ≤ st ∧ (sm c = st → ∃ i : Int, 0 ≤ i ∧ i < qd ∧ q i = c))
def qx (qd : Int) (q mo : Int → Int) (qd' : Int) (q' mo' : Int → Int) : Prop := qd ≤ qd' ∧ ∀ i : Int, 0 ≤ i → i < qd → q' i = q i ∧ mo' (q i) = mo (q i)
def inQ (qd : Int) (q mo : Int → Int) (c m : Int) : Prop := ∃ j : Int, 0 ≤ j ∧ j < qd ∧ q j = c ∧ mo c ≤ m
theorem qx_rf (qd : Int) (q mo : Int → Int) : qx qd q mo qd q mo := ⟨Int.le_refl _, fun _ _ _ => ⟨rfl, rfl⟩⟩
theorem qx_tr {a a' a'' : Int} {q q' q'' mo mo' mo'' : Int → Int} (h : qx a q mo a' q' mo') (h' : qx a' q' mo' a'' q'' mo'') : qx a q mo a'' q'' mo'' := ⟨Int.le_trans h.1 h'.1, fun i h0 h1 => by
  have e1 := h.2 i h0 h1
  have e2 := h'.2 i h0 (by have := h.1; omega)
  rw [e1.1] at e2
  exact ⟨e2.1, e2.2.trans e1.2⟩⟩
theorem inQ_x {a a' : Int} {q q' mo mo' : Int → Int} {c m : Int} (h : inQ a q mo c m) (x : qx a q mo a' q' mo') : inQ a' q' mo' c m := by
  obtain ⟨j, j0, j1, rfl, j3⟩ := h
  have e := x.2 j j0 j1
  exact ⟨j, j0, by have := x.1; omega, e.1, by rw [e.2]; exact j3⟩
theorem bfQ_mx {E : Int → Int → Prop} {c0 st mx mx' qd : Int} {q mo sm : Int → Int} (h : bfQ E c0 st mx qd q mo sm) (hm : ∀ i : Int, 0 ≤ i → i < qd → mo (q i) ≤ mx') : bfQ E c0 st mx' qd q mo sm := ⟨h.1, h.2.1, fun i h0 h1 => by
  obtain ⟨a, b, c, d, -, f⟩ := h.2.2.1 i h0 h1
  exact ⟨a, b, c, d, hm i h0 h1, f⟩, h.2.2.2⟩
section BfQ
variable {E : Int → Int → Prop} {c0 st mx qd c : Int} {q mo sm : Int → Int}
theorem bfQ_old (h : bfQ E c0 st mx qd q mo sm) (hc0 : 0 ≤ c) (hc1 : c < 180) (hs : sm c = st) : inQ qd q mo c mx := by
  obtain ⟨i, h0, h1, rfl⟩ := (h.2.2.2.2 c hc0 hc1).2.2 hs
  exact ⟨i, h0, h1, rfl, (h.2.2.1 i h0 h1).2.2.2.2.1⟩
theorem bfQ_full (h : bfQ E c0 st mx qd q mo sm) (hc0 : 0 ≤ c) (hc1 : c < 180) (hs : sm c ≠ st) : qd < 180 := by
  obtain ⟨a1, a2, a3, a4, a5⟩ := h
  rcases Int.lt_or_le qd 180 with x | x
  · exact x
  · exfalso
    have := pigeon (n := 181) (m := 180) (g := fun i => if i = 180 then c else q i) (fun i h0 h1 => by
      show 0 ≤ (if i = 180 then c else q i) ∧ (if i = 180 then c else q i) < ((180 : Nat) : Int)
      split
      · omega
      · have := a3 i h0 (by omega); omega) (fun i j i0 i1 j0 j1 e => by
      have e : (if i = 180 then c else q i) = (if j = 180 then c else q j) := e
      split at e <;> split at e
      · omega
      · have := (a3 j j0 (by omega)).2.2.1; rw [← e] at this; exact absurd this hs
      · have := (a3 i i0 (by omega)).2.2.1; rw [e] at this; exact absurd this hs
      · rcases Int.lt_trichotomy i j with y | y | y
        · exact absurd e (a4 i j i0 y (by omega)).1
        · exact y
        · exact absurd e.symm (a4 j i j0 y (by omega)).1)
    omega
theorem bfQ_add (h : bfQ E c0 st mx qd q mo sm) (hc0 : 0 ≤ c) (hc1 : c < 180) (hs : sm c ≠ st) (hst : 0 ≤ st) (hm : 0 ≤ mx) (hr : rcc E mx.toNat c0 c) : bfQ E c0 st mx (qd + 1) (iu q qd c) (iu mo c mx) (iu sm c st) ∧ qx qd q mo (qd + 1) (iu q qd c) (iu mo c mx) ∧ inQ (qd + 1) (iu q qd c) (iu mo c mx) c mx := by
  have hq := bfQ_full h hc0 hc1 hs
  obtain ⟨a1, a2, a3, a4, a5⟩ := h
  have hne : ∀ i : Int, 0 ≤ i → i < qd → q i ≠ c := fun i h0 h1 e => hs (by rw [← e]; exact (a3 i h0 h1).2.2.1)
  refine ⟨⟨by omega, by omega, fun i h0 h1 => ?_, fun i j h0 h1 h2 => ?_, fun x x0 x1 => ?_⟩, ⟨by omega, fun i h0 h1 => ⟨iu_ne _ _ (by omega), iu_ne _ _ (hne i h0 h1)⟩⟩, ⟨qd, by omega, by omega, iu_at _ _ _, by rw [iu_at]; omega⟩⟩
  · by_cases e : i = qd
    · rw [e, iu_at, iu_at, iu_at]
      exact ⟨hc0, hc1, rfl, hm, Int.le_refl _, hr⟩
    · rw [iu_ne _ _ e]
      have n := hne i h0 (by omega)
      rw [iu_ne _ _ n, iu_ne _ _ n]
      exact a3 i h0 (by omega)
  · by_cases e : j = qd
    · have n := hne i h0 (by omega)
      rw [e, iu_at, iu_ne _ _ (by omega), iu_at, iu_ne _ _ n]
      exact ⟨n, (a3 i h0 (by omega)).2.2.2.2.1⟩
    · rw [iu_ne _ _ e, iu_ne _ _ (by omega), iu_ne _ _ (hne i h0 (by omega)), iu_ne _ _ (hne j (by omega) (by omega))]
      exact a4 i j h0 h1 (by omega)
  · by_cases e : x = c
    · rw [e, iu_at]
      exact ⟨hst, Int.le_refl _, fun _ => ⟨qd, by omega, by omega, iu_at _ _ _⟩⟩
    · rw [iu_ne _ _ e]
      obtain ⟨b1, b2, b3⟩ := a5 x x0 x1
      refine ⟨b1, b2, fun y => ?_⟩
      obtain ⟨i, i0, i1, i2⟩ := b3 y
      exact ⟨i, i0, by omega, by rw [iu_ne _ _ (by omega)]; exact i2⟩
end BfQ
/-- the search between two heads: hd codes done, their successors in the queue, ends found -/
def bfI (E : Int → Int → Prop) (lf : Int → Int) (c0 st hd qd ed : Int) (q mo sm en : Int → Int) : Prop := 0 ≤ hd ∧ hd ≤ qd ∧ 0 ≤ ed ∧ ed ≤ hd ∧ (∃ mx, 0 ≤ mx ∧ bfQ E c0 st mx qd q mo sm) ∧ inQ qd q mo c0 0 ∧ (∀ i : Int, 0 ≤ i → i < hd → ∀ c', E (q i) c' → inQ qd q mo c' (mo (q i) + 1)) ∧ (∀ j : Int, 0 ≤ j → j < qd → hd < qd → mo (q j) ≤ mo (q hd) + 1) ∧ (∀ i : Int, 0 ≤ i → i < hd → lf (q i) = 0 → ∃ e : Int, 0 ≤ e ∧ e < ed ∧ en e = q i) ∧ (∀ e : Int, 0 ≤ e → e < ed → ∃ i : Int, 0 ≤ i ∧ i < hd ∧ en e = q i ∧ lf (q i) = 0) ∧ (∀ e e' : Int, 0 ≤ e → e < e' → e' < ed → mo (en e) ≤ mo (en e'))
section BfI
variable {E : Int → Int → Prop} {lf : Int → Int} {c0 st hd qd ed : Int} {q mo sm en : Int → Int}
/-- a head at which nothing is left -/
theorem bfI_end (h : bfI E lf c0 st hd qd ed q mo sm en) (hq : hd < qd) (hl : lf (q hd) = 0) (hE : ∀ c', ¬ E (q hd) c') : bfI E lf c0 st (hd + 1) qd (ed + 1) q mo sm (iu en ed (q hd)) := by
  obtain ⟨a1, a2, a3, a4, ⟨mx, m0, a5⟩, a6, a7, a8, a9, a10, a11⟩ := h
  refine ⟨by omega, by omega, by omega, by omega, ⟨mx, m0, a5⟩, a6, fun i h0 h1 c' hc => ?_, fun j j0 j1 h1 => ?_, fun i h0 h1 h2 => ?_, fun e e0 e1 => ?_, fun e e' h0 h1 h2 => ?_⟩
  · by_cases e : i = hd
    · rw [e] at hc; exact absurd hc (hE c')
    · exact a7 i h0 (by omega) c' hc
  · have := a8 j j0 j1 hq
    have := (a5.2.2.2.1 hd (hd + 1) a1 (by omega) h1).2
    omega
  · by_cases e : i = hd
    · exact ⟨ed, by omega, by omega, by rw [iu_at, e]⟩
    · obtain ⟨x, x0, x1, x2⟩ := a9 i h0 (by omega) h2
      exact ⟨x, x0, by omega, by rw [iu_ne _ _ (by omega)]; exact x2⟩
  · by_cases h : e = ed
    · exact ⟨hd, by omega, by omega, by rw [h, iu_at], hl⟩
    · obtain ⟨x, x0, x1, x2, x3⟩ := a10 e e0 (by omega)
      exact ⟨x, x0, by omega, by rw [iu_ne _ _ h]; exact x2, x3⟩
  · by_cases h : e' = ed
    · obtain ⟨x, x0, x1, x2, x3⟩ := a10 e h0 (by omega)
      rw [h, iu_at, iu_ne _ _ (by omega), x2]
      exact (a5.2.2.2.1 x hd x0 x1 hq).2
    · rw [iu_ne _ _ h, iu_ne _ _ (by omega)]
      exact a11 e e' h0 h1 (by omega)
/-- a head whose successors came into the queue -/
theorem bfI_go {qd' : Int} {q' mo' sm' : Int → Int} (h : bfI E lf c0 st hd qd ed q mo sm en) (hq : hd < qd) (hl : lf (q hd) ≠ 0) (hQ : bfQ E c0 st (mo (q hd) + 1) qd' q' mo' sm') (hx : qx qd q mo qd' q' mo') (hE : ∀ c', E (q hd) c' → inQ qd' q' mo' c' (mo (q hd) + 1)) : bfI E lf c0 st (hd + 1) qd' ed q' mo' sm' en := by
  obtain ⟨a1, a2, a3, a4, ⟨mx, m0, a5⟩, a6, a7, a8, a9, a10, a11⟩ := h
  have hx1 := hx.1
  have hm : 0 ≤ mo (q hd) := (a5.2.2.1 hd a1 hq).2.2.2.1
  have hqq : ∀ i : Int, 0 ≤ i → i < hd + 1 → q' i = q i ∧ mo' (q i) = mo (q i) := fun i h0 h1 => hx.2 i h0 (by omega)
  refine ⟨by omega, by omega, by omega, by omega, ⟨_, by omega, hQ⟩, inQ_x a6 hx, fun i h0 h1 c' hc => ?_, fun j j0 j1 h1 => ?_, fun i h0 h1 h2 => ?_, fun e e0 e1 => ?_, fun e e' h0 h1 h2 => ?_⟩
  · obtain ⟨e1, e2⟩ := hqq i h0 h1
    rw [e1] at hc ⊢
    rw [e2]
    by_cases e : i = hd
    · rw [e] at hc ⊢; exact hE c' hc
    · exact inQ_x (a7 i h0 (by omega) c' hc) hx
  · obtain ⟨-, -, -, -, b5, -⟩ := hQ.2.2.1 j j0 j1
    have b6 := (hQ.2.2.2.1 hd (hd + 1) a1 (by omega) h1).2
    rw [(hqq hd a1 (by omega)).1, (hqq hd a1 (by omega)).2] at b6
    omega
  · obtain ⟨e1, e2⟩ := hqq i h0 h1
    rw [e1] at h2 ⊢
    by_cases e : i = hd
    · rw [e] at h2; exact absurd h2 hl
    · exact a9 i h0 (by omega) h2
  · obtain ⟨x, x0, x1, x2, x3⟩ := a10 e e0 e1
    exact ⟨x, x0, by omega, by rw [(hqq x x0 (by omega)).1]; exact x2, by rw [(hqq x x0 (by omega)).1]; exact x3⟩
  · obtain ⟨x, x0, x1, x2, x3⟩ := a10 e h0 (by omega)
    obtain ⟨y, y0, y1, y2, y3⟩ := a10 e' (by omega) h2
    have := a11 e e' h0 h1 h2
    rw [x2, y2] at this ⊢
    rw [(hqq x x0 (by omega)).2, (hqq y y0 (by omega)).2]
    exact this
/-- all done: whatever is come to lies in the queue, with no more moves -/
theorem bfI_all (h : bfI E lf c0 st hd qd ed q mo sm en) (hq : hd = qd) : ∀ (n : Nat) (c : Int), rcc E n c0 c → inQ qd q mo c n
  | 0, c, hc => by
    have hc : c = c0 := hc
    rw [hc]
    exact h.2.2.2.2.2.1
  | n + 1, c, hc => by
    obtain ⟨m, h1, h2⟩ := hc
    obtain ⟨j, j0, j1, rfl, j3⟩ := bfI_all h hq n m h1
    obtain ⟨i, i0, i1, i2, i3⟩ := h.2.2.2.2.2.2.1 j j0 (by omega) c h2
    exact ⟨i, i0, i1, i2, by push_cast; omega⟩
theorem bfI_ends (h : bfI E lf c0 st hd qd ed q mo sm en) (hq : hd = qd) (c : Int) : (∃ e : Int, 0 ≤ e ∧ e < ed ∧ en e = c) ↔ (∃ n, rcc E n c0 c) ∧ lf c = 0 := by
  constructor
  · rintro ⟨e, e0, e1, rfl⟩
    obtain ⟨i, i0, i1, i2, i3⟩ := h.2.2.2.2.2.2.2.2.2.1 e e0 e1
    obtain ⟨mx, m0, a5⟩ := h.2.2.2.2.1
    rw [i2]
    exact ⟨⟨_, (a5.2.2.1 i i0 (by omega)).2.2.2.2.2⟩, i3⟩
  · rintro ⟨⟨n, hn⟩, hl⟩
    obtain ⟨j, j0, j1, rfl, j3⟩ := bfI_all h hq n c hn
    exact h.2.2.2.2.2.2.2.2.1 j j0 (by omega) hl
theorem bfI_min (h : bfI E lf c0 st hd qd ed q mo sm en) (hq : hd = qd) (he : 0 < ed) : 0 ≤ mo (en 0) ∧ rcc E (mo (en 0)).toNat c0 (en 0) ∧ lf (en 0) = 0 ∧ ∀ (n : Nat) (c : Int), rcc E n c0 c → lf c = 0 → mo (en 0) ≤ n := by
  obtain ⟨i, i0, i1, i2, i3⟩ := h.2.2.2.2.2.2.2.2.2.1 0 (by omega) he
  obtain ⟨mx, m0, a5⟩ := h.2.2.2.2.1
  have b := a5.2.2.1 i i0 (by omega)
  rw [← i2] at b i3
  refine ⟨b.2.2.2.1, b.2.2.2.2.2, i3, fun n c hn hl => ?_⟩
  obtain ⟨j, j0, j1, rfl, j3⟩ := bfI_all h hq n c hn
  obtain ⟨e, e0, e1, e2⟩ := h.2.2.2.2.2.2.2.2.1 j j0 (by omega) hl
  have : mo (en 0) ≤ mo (en e) := by
    by_cases q : e = 0
    · rw [q]; exact Int.le_refl _
    · exact h.2.2.2.2.2.2.2.2.2.2 0 e (by omega) (by omega) e1
  rw [e2] at this
  omega
end BfI
theorem rcc_s {E : Int → Int → Prop} {m c0 u c' : Int} (hm : 0 ≤ m) (h : rcc E m.toNat c0 u) (hE : E u c') : rcc E (m + 1).toNat c0 c' := by
  rw [show (m + 1).toNat = m.toNat + 1 by omega]
  exact ⟨u, h, hE⟩
def phC (c : Int) : Int := 2 * (c / 30 + c / 5 % 6) - (if c % 5 = 0 then 0 else 1)
section Stc
variable {w R0 R1 K0 K1 : Int → Int} {b tr c c' : Int}
theorem stc_r (hw : wOK w) (h0 : pyI w R0 K0) (h1 : pyI w R1 K1) (c0 : 0 ≤ c) (c1 : c < 180) (h : stc w R0 R1 K0 K1 b tr c c') : 0 ≤ c' ∧ c' < 180 ∧ phC c + 1 ≤ phC c' := by
  have p0 := pyI_b hw h0 (i := c / 30) (by omega) (by omega)
  have p1 := pyI_b hw h1 (i := c / 5 % 6) (by omega) (by omega)
  unfold phC
  obtain ⟨-, h | h | h | h | h⟩ := h
  all_goals (split <;> split <;> omega)
theorem rcc_n (hw : wOK w) (h0 : pyI w R0 K0) (h1 : pyI w R1 K1) (c0 : 0 ≤ c) (c1 : c < 180) : ∀ (n : Nat) (c' : Int), rcc (stc w R0 R1 K0 K1 b tr) n c c' → 0 ≤ c' ∧ c' < 180 ∧ phC c + n ≤ phC c'
  | 0, c', h => by
    have h : c' = c := h
    subst h
    exact ⟨c0, c1, by omega⟩
  | n + 1, c', h => by
    obtain ⟨m, h2, h3⟩ := h
    obtain ⟨a, b, d⟩ := rcc_n hw h0 h1 c0 c1 n m h2
    have := stc_r hw h0 h1 a b h3
    refine ⟨this.1, this.2.1, ?_⟩
    have := this.2.2
    push_cast
    omega
theorem rcc_21 (hw : wOK w) (h0 : pyI w R0 K0) (h1 : pyI w R1 K1) (c0 : 0 ≤ c) (c1 : c < 5) {n : Nat} {c' : Int} (h : rcc (stc w R0 R1 K0 K1 b tr) n c c') : 0 ≤ c' ∧ c' < 180 ∧ n ≤ 21 := by
  obtain ⟨a, b, d⟩ := rcc_n hw h0 h1 c0 (by omega) n c' h
  refine ⟨a, b, ?_⟩
  unfold phC at d
  split at d <;> split at d <;> omega
theorem lfC_pos (hw : wOK w) (h0 : pyI w R0 K0) (h1 : pyI w R1 K1) (c0 : 0 ≤ c) (c1 : c < 180) : b - K0 5 - K1 5 ≤ lfC w K0 K1 b c := by
  have p0 := pyI_b hw h0 (i := c / 30) (by omega) (by omega)
  have p1 := pyI_b hw h1 (i := c / 5 % 6) (by omega) (by omega)
  have p2 := hw.2 (c % 5) (by omega) (by omega)
  unfold lfC
  omega
end Stc

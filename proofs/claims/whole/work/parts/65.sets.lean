/-! rows of ints as lists; sets of tills -/
def lsI (n : Nat) (g : Int → Int) : List Int := (List.range n).map (fun (i : Nat) => g (i : Int))
theorem lsI_succ (n : Nat) (g : Int → Int) : lsI (n + 1) g = lsI n g ++ [g (n : Int)] := by
  unfold lsI
  rw [List.range_succ, List.map_append]
  rfl
theorem lsI_len (n : Nat) (g : Int → Int) : (lsI n g).length = n := by
  unfold lsI
  rw [List.length_map, List.length_range]
theorem mem_lsI {n : Nat} {g : Int → Int} {v : Int} : v ∈ lsI n g ↔ ∃ i : Int, 0 ≤ i ∧ i < n ∧ g i = v := by
  unfold lsI
  rw [List.mem_map]
  constructor
  · rintro ⟨i, hi, rfl⟩
    rw [List.mem_range] at hi
    exact ⟨i, by omega, by omega, rfl⟩
  · rintro ⟨i, h0, h1, rfl⟩
    obtain ⟨j, rfl⟩ := Int.eq_ofNat_of_zero_le h0
    exact ⟨j, by rw [List.mem_range]; omega, rfl⟩
theorem lsI_congr {n : Nat} {g h : Int → Int} (e : ∀ i, 0 ≤ i → i < n → g i = h i) : lsI n g = lsI n h := by
  unfold lsI
  refine List.map_congr_left (fun i hi => ?_)
  rw [List.mem_range] at hi
  exact e i (by omega) (by omega)
theorem lsI_at {n : Nat} {g : Int → Int} {i : Nat} (h : i < n) : (lsI n g)[i]? = some (g i) := by
  unfold lsI
  rw [List.getElem?_map, List.getElem?_range h]
  rfl
theorem cnt_iu (g : Int → Int) (i x v : Int) : ∀ (n : Nat), 0 ≤ i → i < n → (lsI n (iu g i x)).count v + (if g i = v then 1 else 0) = (lsI n g).count v + (if x = v then 1 else 0)
  | 0, h0, h1 => by omega
  | n + 1, h0, h1 => by
    rw [lsI_succ, lsI_succ, List.count_append, List.count_append]
    by_cases e : i = (n : Int)
    · subst e
      rw [iu_at, lsI_congr (g := iu g (n : Int) x) (h := g) (fun j h2 h3 => iu_ne _ _ (by omega))]
      simp only [List.count_cons, List.count_nil, beq_iff_eq]
      omega
    · have := cnt_iu g i x v n h0 (by omega)
      rw [iu_ne _ _ (fun q => e q.symm)]
      omega
theorem nd_le : ∀ (l l' : List Int), l.Pairwise (· ≠ ·) → (∀ v ∈ l, v ∈ l') → l.length ≤ l'.length
  | [], _, _, _ => Nat.zero_le _
  | a :: l, l', hp, hs => by
    obtain ⟨h1, h2⟩ := List.pairwise_cons.mp hp
    have ha := hs a List.mem_cons_self
    have := nd_le l (l'.erase a) h2 (fun v hv => (List.mem_erase_of_ne (fun q => h1 v hv q.symm)).mpr (hs v (List.mem_cons_of_mem _ hv)))
    rw [List.length_erase_of_mem ha] at this
    have : 0 < l'.length := List.length_pos_of_mem ha
    rw [List.length_cons]
    omega
theorem lsI_nd {n : Nat} {g : Int → Int} (h : ∀ i j : Int, 0 ≤ i → i < j → j < n → g i ≠ g j) : (lsI n g).Pairwise (· ≠ ·) := by
  unfold lsI
  rw [List.pairwise_map]
  refine List.Pairwise.imp_of_mem (R := (· < ·)) (fun {a b} ha hb q => ?_) List.pairwise_lt_range
  rw [List.mem_range] at ha hb
  exact h a b (by omega) (by omega) (by omega)
theorem lsI_nd' {n : Nat} {g : Int → Int} (h : (lsI n g).Pairwise (· ≠ ·)) {i j : Int} (h0 : 0 ≤ i) (h1 : i < j) (h2 : j < n) : g i ≠ g j := by
  unfold lsI at h
  rw [List.pairwise_map, List.pairwise_iff_getElem] at h
  have := h i.toNat j.toNat (by rw [List.length_range]; omega) (by rw [List.length_range]; omega) (by omega)
  rw [List.getElem_range, List.getElem_range, Int.toNat_of_nonneg h0, Int.toNat_of_nonneg (by omega)] at this
  exact this
/-- many places, fewer values: two are the same -/
theorem pigeon {n m : Nat} {g : Int → Int} (hm : ∀ i : Int, 0 ≤ i → i < n → 0 ≤ g i ∧ g i < m) (hi : ∀ i j : Int, 0 ≤ i → i < n → 0 ≤ j → j < n → g i = g j → i = j) : n ≤ m := by
  have h := nd_le (lsI n g) (lsI m (fun i => i)) (lsI_nd (fun i j h0 h1 h2 q => by have := hi i j h0 (by omega) (by omega) h2 q; omega)) (fun v hv => by
    obtain ⟨i, h0, h1, rfl⟩ := mem_lsI.mp hv
    exact mem_lsI.mpr ⟨g i, (hm i h0 h1).1, (hm i h0 h1).2, rfl⟩)
  rwa [lsI_len, lsI_len] at h
/-- sorted rows are told by what is in them -/
theorem srt_uniq : ∀ {l l' : List Int}, l.Pairwise (· < ·) → l'.Pairwise (· < ·) → (∀ v, v ∈ l ↔ v ∈ l') → l = l'
  | [], [], _, _, _ => rfl
  | [], b :: l', _, _, h => absurd ((h b).mpr List.mem_cons_self) (by simp)
  | a :: l, [], _, _, h => absurd ((h a).mp List.mem_cons_self) (by simp)
  | a :: l, b :: l', h1, h2, h => by
    obtain ⟨p1, p2⟩ := List.pairwise_cons.mp h1
    obtain ⟨q1, q2⟩ := List.pairwise_cons.mp h2
    have e : a = b := by
      rcases List.mem_cons.mp ((h a).mp List.mem_cons_self) with x | x
      · exact x
      · rcases List.mem_cons.mp ((h b).mpr List.mem_cons_self) with y | y
        · exact y.symm
        · have := q1 a x
          have := p1 b y
          omega
    subst e
    refine congrArg (a :: ·) (srt_uniq p2 q2 (fun v => ⟨fun hv => ?_, fun hv => ?_⟩))
    · rcases List.mem_cons.mp ((h v).mp (List.mem_cons_of_mem _ hv)) with x | x
      · have := p1 v hv; omega
      · exact x
    · rcases List.mem_cons.mp ((h v).mpr (List.mem_cons_of_mem _ hv)) with x | x
      · have := q1 v hv; omega
      · exact x
theorem nd_len {l l' : List Int} (h1 : l.Pairwise (· ≠ ·)) (h2 : l'.Pairwise (· ≠ ·)) (h : ∀ v, v ∈ l ↔ v ∈ l') : l.length = l'.length := Nat.le_antisymm (nd_le _ _ h1 (fun v => (h v).mp)) (nd_le _ _ h2 (fun v => (h v).mpr))
/-- a value comes into a sorted row, once -/
def insS (v : Int) : List Int → List Int
  | [] => [v]
  | x :: l => if v < x then v :: x :: l else if v = x then x :: l else x :: insS v l
theorem mem_insS {v w : Int} : ∀ {l : List Int}, w ∈ insS v l ↔ w = v ∨ w ∈ l
  | [] => by simp [insS]
  | x :: l => by
    unfold insS
    split
    · simp
    · split
      · rename_i h; subst h; simp
      · rw [List.mem_cons, mem_insS, List.mem_cons]
        constructor
        · rintro (h | h | h)
          · exact Or.inr (Or.inl h)
          · exact Or.inl h
          · exact Or.inr (Or.inr h)
        · rintro (h | h | h)
          · exact Or.inr (Or.inl h)
          · exact Or.inl h
          · exact Or.inr (Or.inr h)
theorem srt_insS {v : Int} : ∀ {l : List Int}, l.Pairwise (· < ·) → (insS v l).Pairwise (· < ·)
  | [], _ => by simp [insS]
  | x :: l, h => by
    obtain ⟨h1, h2⟩ := List.pairwise_cons.mp h
    unfold insS
    split
    · refine List.pairwise_cons.mpr ⟨fun y hy => ?_, h⟩
      rcases List.mem_cons.mp hy with q | q
      · omega
      · have := h1 y q; omega
    · split
      · exact h
      · refine List.pairwise_cons.mpr ⟨fun y hy => ?_, srt_insS h2⟩
        rcases mem_insS.mp hy with q | q
        · omega
        · exact h1 y q
/-- what is in a row, sorted, each once -/
def sU (l : List Int) : List Int := l.foldr insS []
theorem mem_sU {v : Int} : ∀ {l : List Int}, v ∈ sU l ↔ v ∈ l
  | [] => Iff.rfl
  | x :: l => by
    show v ∈ insS x (sU l) ↔ _
    rw [mem_insS, mem_sU, List.mem_cons]
theorem srt_sU : ∀ (l : List Int), (sU l).Pairwise (· < ·)
  | [] => List.Pairwise.nil
  | _ :: l => srt_insS (srt_sU l)
theorem srt_nd {l : List Int} (h : l.Pairwise (· < ·)) : l.Pairwise (· ≠ ·) := h.imp (fun q => by omega)
theorem sU_len {l m : List Int} (h : m.Pairwise (· ≠ ·)) (hm : ∀ v, v ∈ m ↔ v ∈ l) : m.length = (sU l).length := nd_len h (srt_nd (srt_sU l)) (fun v => by rw [mem_sU, hm])
theorem sU_eq {l m : List Int} (h : m.Pairwise (· < ·)) (hm : ∀ v, v ∈ m ↔ v ∈ l) : m = sU l := srt_uniq h (srt_sU l) (fun v => by rw [mem_sU, hm])
/-! the hashed set -/
def hs (sh v : Int) : Int := (v * (-1640531535)) % 4294967296 / (2 ^ sh.toNat : Nat)
def vsl (sz : Int) (sl ho : Int → Int) (s : Int) : Prop := sl s < sz ∧ ho (sl s) = s
def tsI (t : Nat) (sz : Int) (sl ho ti : Int → Int) : Prop := 0 ≤ sz ∧ sz ≤ tlm t ∧ (∀ s : Int, 0 ≤ s → s < tsn t → 0 ≤ sl s ∧ sl s < tlm t) ∧ (∀ i : Int, 0 ≤ i → i < sz → 0 ≤ ho i ∧ ho i < tsn t ∧ sl (ho i) = i) ∧ (∀ i j : Int, 0 ≤ i → i < sz → 0 ≤ j → j < sz → ti i = ti j → i = j) ∧ (∀ i : Int, 0 ≤ i → i < sz → 0 ≤ ti i ∧ ti i < 2147483648) ∧ (∀ i : Int, 0 ≤ i → i < sz → ∃ k : Int, 0 ≤ k ∧ k < tsn t ∧ ho i = (hs (tsh t) (ti i) + k) % tsn t ∧ ∀ k' : Int, 0 ≤ k' → k' < k → vsl sz sl ho ((hs (tsh t) (ti i) + k') % tsn t))
def tsB (t : Nat) (sl : Int → Int) : Prop := ∀ s : Int, 0 ≤ s → s < tsn t → 0 ≤ sl s ∧ sl s < tlm t
theorem tsI_0 {t : Nat} {sl ho ti : Int → Int} (ht : t < 7) (h : tsB t sl) : tsI t 0 sl ho ti := by
  have := tcases ht
  exact ⟨by omega, by omega, h, fun i h0 h1 => by omega, fun i j h0 h1 => by omega, fun i h0 h1 => by omega, fun i h0 h1 => by omega⟩
theorem hs_b {t : Nat} (ht : t < 7) (v : Int) : 0 ≤ hs (tsh t) v ∧ hs (tsh t) v < tsn t := by
  rcases tcases ht with ⟨-, -, e2, -, e4⟩ | ⟨-, -, e2, -, e4⟩
  · rw [e2, e4]; unfold hs; rw [show ((2 ^ (23 : Int).toNat : Nat) : Int) = 8388608 from rfl]; omega
  · rw [e2, e4]; unfold hs; rw [show ((2 ^ (21 : Int).toNat : Nat) : Int) = 2097152 from rfl]; omega
theorem hs_ushr {t : Nat} (ht : t < 7) (v : Int) : ((iz (v * (-1640531535))).toUInt32 >>> ((iz (tsh t)).toUInt32 &&& Int32.toUInt32 31)).toInt32 = iz (hs (tsh t) v) := by
  rcases tcases ht with ⟨-, -, -, -, e4⟩ | ⟨-, -, -, -, e4⟩
  · rw [e4]; exact iz_ushr _ 23 (by decide)
  · rw [e4]; exact iz_ushr _ 21 (by decide)
theorem iz_andm {a : Int} (n : Nat) (k : Nat) (hk : k < 31) (hn : n = 2 ^ k) : iz a &&& iz ((n : Int) - 1) = iz (a % (n : Int)) := by
  subst hn
  apply Int32.toBitVec_inj.mp
  show BitVec.ofInt 32 a &&& BitVec.ofInt 32 _ = BitVec.ofInt 32 _
  apply BitVec.eq_of_toNat_eq
  rw [BitVec.toNat_and, BitVec.toNat_ofInt, BitVec.toNat_ofInt, BitVec.toNat_ofInt]
  have h1 : 0 < 2 ^ k := Nat.pow_pos (by decide)
  have h2 : 2 ^ k < 2 ^ 31 := Nat.pow_lt_pow_right (by decide) hk
  have h3 : 2 ^ 32 = 2 ^ k * 2 ^ (32 - k) := by rw [← Nat.pow_add]; congr 1; omega
  have e : ((((2 ^ k : Nat) : Int) - 1) % ((2 ^ 32 : Nat) : Int)).toNat = 2 ^ k - 1 := by
    generalize hX : 2 ^ k = X at *
    rw [Int.emod_eq_of_lt (by omega) (by omega)]
    omega
  rw [e, Nat.and_two_pow_sub_one_eq_mod]
  have e2 : (a % ((2 ^ 32 : Nat) : Int)) % ((2 ^ k : Nat) : Int) = a % ((2 ^ k : Nat) : Int) := by
    rw [h3]
    push_cast
    exact Int.emod_emod_of_dvd a ⟨_, rfl⟩
  generalize hY : (2 ^ 32 : Nat) = Y at *
  generalize hX : (2 ^ k : Nat) = X at *
  have f1 : 0 ≤ a % (Y : Int) := Int.emod_nonneg _ (by omega)
  have f2 : 0 ≤ a % (X : Int) := Int.emod_nonneg _ (by omega)
  have f3 : a % (X : Int) < X := Int.emod_lt_of_pos _ (by omega)
  obtain ⟨n, hn⟩ := Int.eq_ofNat_of_zero_le f1
  rw [hn] at e2 ⊢
  rw [Int.toNat_natCast, ← e2, Int.emod_eq_of_lt (a := ((n : Int) % (X : Int))) (by omega) (by omega)]
  rw [← Int.natCast_emod, Int.toNat_natCast]
theorem ts_and {t : Nat} (ht : t < 7) (a : Int) : iz a &&& iz ((tsn t : Int) - 1) = iz (a % (tsn t : Int)) := by
  rcases tcases ht with ⟨-, -, e2, -, -⟩ | ⟨-, -, e2, -, -⟩
  · rw [e2]; exact iz_andm 512 9 (by decide) (by decide)
  · rw [e2]; exact iz_andm 2048 11 (by decide) (by decide)
section TsI
variable {t : Nat} {sz till i : Int} {sl ho ti : Int → Int}
/-- a free slot behind taken ones that bear others: it isn't there -/
theorem tsI_new (h : tsI t sz sl ho ti) (h0 : 0 ≤ i) (h1 : i < tsn t) (hall : ∀ k' : Int, 0 ≤ k' → k' < i → vsl sz sl ho ((hs (tsh t) till + k') % tsn t) ∧ ti (sl ((hs (tsh t) till + k') % tsn t)) ≠ till) (hn : ¬ vsl sz sl ho ((hs (tsh t) till + i) % tsn t)) : ∀ j : Int, 0 ≤ j → j < sz → ti j ≠ till := by
  intro j j0 j1 e
  obtain ⟨a1, a2, a3, a4, a5, a6, a7⟩ := h
  obtain ⟨k, k0, k1, k2, k3⟩ := a7 j j0 j1
  rw [e] at k2 k3
  obtain ⟨b1, b2, b3⟩ := a4 j j0 j1
  rcases Int.lt_trichotomy k i with q | q | q
  · have := (hall k k0 q).2
    rw [← k2, b3] at this
    exact this e
  · subst q
    rw [← k2] at hn
    exact hn ⟨by rw [b3]; exact j1, by rw [b3]⟩
  · exact hn (k3 i h0 q)
theorem tsI_ins (ht : t < 7) (h : tsI t sz sl ho ti) (h0 : 0 ≤ i) (h1 : i < tsn t) (hall : ∀ k' : Int, 0 ≤ k' → k' < i → vsl sz sl ho ((hs (tsh t) till + k') % tsn t) ∧ ti (sl ((hs (tsh t) till + k') % tsn t)) ≠ till) (hn : ¬ vsl sz sl ho ((hs (tsh t) till + i) % tsn t)) (hs1 : sz < tlm t) (hv : 0 ≤ till ∧ till < 2147483648) {s : Int} (es : s = (hs (tsh t) till + i) % tsn t) : tsI t (sz + 1) (iu sl s sz) (iu ho sz s) (iu ti sz till) := by
  have hnew := tsI_new h h0 h1 hall hn
  have hb := hs_b ht till
  rw [← es] at hn
  have s0 : 0 ≤ s := by rw [es]; exact Int.emod_nonneg _ (by omega)
  have s1 : s < tsn t := by rw [es]; exact Int.emod_lt_of_pos _ (by omega)
  obtain ⟨a1, a2, a3, a4, a5, a6, a7⟩ := h
  have hkeep : ∀ x : Int, vsl sz sl ho x → 0 ≤ x → x < tsn t → vsl (sz + 1) (iu sl s sz) (iu ho sz s) x := fun x hx x0 x1 => by
    have hne : x ≠ s := fun q => hn (q ▸ hx)
    have := a3 x x0 x1
    unfold vsl
    rw [iu_ne _ _ hne, iu_ne _ _ (by have := hx.1; omega)]
    exact ⟨by have := hx.1; omega, hx.2⟩
  have hmod : ∀ y : Int, 0 ≤ y % (tsn t : Int) ∧ y % (tsn t : Int) < tsn t := fun y => ⟨Int.emod_nonneg _ (by omega), Int.emod_lt_of_pos _ (by omega)⟩
  refine ⟨by omega, by omega, fun x x0 x1 => ?_, fun x x0 x1 => ?_, fun x y x0 x1 y0 y1 q => ?_, fun x x0 x1 => ?_, fun x x0 x1 => ?_⟩
  · by_cases e : x = s
    · rw [e, iu_at]; omega
    · rw [iu_ne _ _ e]; exact a3 x x0 x1
  · by_cases e : x = sz
    · rw [e, iu_at]; exact ⟨s0, s1, iu_at _ _ _⟩
    · rw [iu_ne _ _ e]
      obtain ⟨b1, b2, b3⟩ := a4 x x0 (by omega)
      refine ⟨b1, b2, ?_⟩
      rw [iu_ne _ _ (fun q => hn (by rw [← q]; exact ⟨by rw [b3]; omega, by rw [b3]⟩))]
      exact b3
  · by_cases e : x = sz
    · by_cases e2 : y = sz
      · omega
      · rw [e, iu_at, iu_ne _ _ e2] at q
        exact absurd q.symm (hnew y y0 (by omega))
    · by_cases e2 : y = sz
      · rw [e2, iu_at, iu_ne _ _ e] at q
        exact absurd q (hnew x x0 (by omega))
      · rw [iu_ne _ _ e, iu_ne _ _ e2] at q
        exact a5 x y x0 (by omega) y0 (by omega) q
  · by_cases e : x = sz
    · rw [e, iu_at]; exact hv
    · rw [iu_ne _ _ e]; exact a6 x x0 (by omega)
  · by_cases e : x = sz
    · rw [e, iu_at, iu_at]
      exact ⟨i, h0, h1, es, fun k' k0 k1 => hkeep _ (hall k' k0 k1).1 (hmod _).1 (hmod _).2⟩
    · rw [iu_ne _ _ e, iu_ne _ _ e]
      obtain ⟨k, k0, k1, k2, k3⟩ := a7 x x0 (by omega)
      exact ⟨k, k0, k1, k2, fun k' q0 q1 => hkeep _ (k3 k' q0 q1) (hmod _).1 (hmod _).2⟩
/-- not all slots are taken -/
theorem tsI_full (ht : t < 7) (h : tsI t sz sl ho ti) (hall : ∀ k' : Int, 0 ≤ k' → k' < tsn t → vsl sz sl ho ((hs (tsh t) till + k') % tsn t)) : False := by
  obtain ⟨a1, a2, a3, a4, a5, a6, a7⟩ := h
  have hb := hs_b ht till
  have hc := tcases ht
  have hv : ∀ s : Int, 0 ≤ s → s < tsn t → vsl sz sl ho s := fun s s0 s1 => by
    by_cases q : hs (tsh t) till ≤ s
    · have := hall (s - hs (tsh t) till) (by omega) (by omega)
      rwa [show hs (tsh t) till + (s - hs (tsh t) till) = s by omega, Int.emod_eq_of_lt s0 s1] at this
    · have := hall (s - hs (tsh t) till + tsn t) (by omega) (by omega)
      rwa [show hs (tsh t) till + (s - hs (tsh t) till + tsn t) = s + tsn t by omega, Int.add_emod_right, Int.emod_eq_of_lt s0 s1] at this
  have := pigeon (n := tsn t) (m := sz.toNat) (g := sl) (fun s s0 s1 => ⟨(a3 s s0 s1).1, by have := (hv s s0 s1).1; omega⟩) (fun s s' s0 s1 s0' s1' q => by
    have e1 := (hv s s0 s1).2
    have e2 := (hv s' s0' s1').2
    rw [q] at e1
    rw [← e1, e2])
  omega
end TsI

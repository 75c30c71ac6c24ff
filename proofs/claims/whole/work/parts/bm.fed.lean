/-! feed and end (printed by wip/whole/genfed.py) -/
def byt (x : Int) (k : Nat) : Int := x / ((2 ^ (8 * k) : Nat) : Int) % 256
def byu (x : Int) (k : Nat) : Int := (x % 4294967296) / ((2 ^ (8 * k) : Nat) : Int)
def bys (x : Int) (k : Nat) : Int := x / ((2 ^ (8 * k) : Nat) : Int)
def byl (x : Int) : Nat → List Int
  | 0 => []
  | k + 1 => if byt x k = 0 then byl x k else byt x k :: byl x k
theorem byt_b (x : Int) (k : Nat) : 0 ≤ byt x k ∧ byt x k ≤ 255 := by unfold byt; omega
theorem byt_u (x : Int) {k : Nat} (h : k < 4) : byu x k % 256 = byt x k := by
  unfold byu byt
  rcases (show k = 0 ∨ k = 1 ∨ k = 2 ∨ k = 3 by omega) with q | q | q | q <;> subst q
  · show x % 4294967296 / 1 % 256 = x / 1 % 256; omega
  · show x % 4294967296 / 256 % 256 = x / 256 % 256; omega
  · show x % 4294967296 / 65536 % 256 = x / 65536 % 256; omega
  · show x % 4294967296 / 16777216 % 256 = x / 16777216 % 256; omega
theorem byu_sh {x s : Int} {k : Nat} (h : k < 4) (hs : s = 8 * (k : Int)) : ((iz x).toUInt32 >>> ((iz s).toUInt32 &&& Int32.toUInt32 31)).toInt32 = iz (byu x k) := by
  have := iz_ushr x (8 * k) (by omega)
  rw [hs, show (8 : Int) * (k : Int) = ((8 * k : Nat) : Int) by omega]; exact this
theorem bys_sh {x s : Int} {k : Nat} (hx : bI x) (h : k < 4) (hs : s = 8 * (k : Int)) : iz x >>> (iz s &&& 31) = iz (bys x k) := by
  have := iz_shr hx (8 * k) (by omega)
  rw [hs, show (8 : Int) * (k : Int) = ((8 * k : Nat) : Int) by omega]; exact this
theorem byt_bmod (x : Int) (k : Nat) : Int.bmod (bys x k) 256 = sgb (byt x k) := by
  unfold sgb byt bys
  generalize x / ((2 ^ (8 * k) : Nat) : Int) = y
  have h2 : Int.bmod y 256 = if y % 256 < 128 then y % 256 else y % 256 - 256 := rfl
  rw [h2]
theorem byl_in {x : Int} : ∀ {k : Nat} {y : Int}, y ∈ byl x k → 1 ≤ y ∧ y ≤ 255
  | 0, y, h => by cases h
  | k + 1, y, h => by
    unfold byl at h
    have := byt_b x k
    split at h
    · exact byl_in h
    · rcases List.mem_cons.mp h with q | q
      · omega
      · exact byl_in q
theorem byl_len {x : Int} : ∀ (k : Nat), (byl x k).length ≤ k
  | 0 => Nat.le_refl _
  | k + 1 => by
    have := byl_len (x := x) k
    unfold byl
    split
    · omega
    · rw [List.length_cons]; omega
theorem byl_0 {x : Int} {k : Nat} (h : byt x k = 0) : byl x (k + 1) = byl x k := if_pos h
theorem byl_1 {x : Int} {k : Nat} (h : byt x k ≠ 0) : byl x (k + 1) = byt x k :: byl x k := if_neg h
theorem gD_l {l1 l2 : List Int} {i : Nat} (h : i < l1.length) : (l1 ++ l2).getD i 0 = l1.getD i 0 := by rw [List.getD_eq_getElem?_getD, List.getD_eq_getElem?_getD, List.getElem?_append_left h]
theorem gD_r {l1 l2 : List Int} {i : Nat} (h : l1.length ≤ i) : (l1 ++ l2).getD i 0 = l2.getD (i - l1.length) 0 := by rw [List.getD_eq_getElem?_getD, List.getD_eq_getElem?_getD, List.getElem?_append_right h]
theorem gD_e {l : List Int} {i : Nat} (h : i < l.length) : l.getD i 0 = l[i] := by rw [List.getD_eq_getElem?_getD, List.getElem?_eq_getElem h]; rfl
/-- a row laid behind place n, as far as there is room -/
def apR (b0 b : Int → Int) (n : Int) (l : List Int) : Prop := (∀ j : Int, j < n → b j = b0 j) ∧ ∀ i : Nat, i < l.length → n + i < 160 → b (n + i) = l.getD i 0
theorem apR_0 (b : Int → Int) (n : Int) : apR b b n [] := ⟨fun _ _ => rfl, fun i h => by cases h⟩
theorem apR_app {b0 b1 b2 : Int → Int} {n m : Int} {l1 l2 : List Int} (h1 : apR b0 b1 n l1) (hm : m = n + l1.length) (h2 : apR b1 b2 m l2) : apR b0 b2 n (l1 ++ l2) := by
  subst hm
  refine ⟨fun j hj => by rw [h2.1 j (by omega)]; exact h1.1 j hj, fun i hi h6 => ?_⟩
  by_cases q : i < l1.length
  · rw [h2.1 _ (by omega), h1.2 i q h6, gD_l q]
  · rw [List.length_append] at hi
    have := h2.2 (i - l1.length) (by omega) (by omega)
    rw [show n + (l1.length : Int) + ((i - l1.length : Nat) : Int) = n + i by omega] at this
    rw [this, gD_r (by omega)]
theorem apR_1 {b : Int → Int} {n y : Int} : apR b (iu b n y) n [y] := ⟨fun j hj => iu_ne _ _ (by omega), fun i hi _ => by
  have : i = 0 := by simpa using hi
  subst this
  rw [show n + ((0 : Nat) : Int) = n by omega, iu_at]; rfl⟩
theorem apR_f {b : Int → Int} {n y : Int} (h : 160 ≤ n) : apR b b n [y] := ⟨fun _ _ => rfl, fun i hi h6 => by omega⟩
theorem apR_T {b0 b : Int → Int} {n : Int} {l : List Int} (hT : tOK n b0) (h : apR b0 b n l) (hl : ∀ y ∈ l, 1 ≤ y ∧ y ≤ 255) (h6 : n + l.length ≤ 160) : tOK (n + l.length) b := by
  refine ⟨by have := hT.1; omega, h6, fun i i0 i1 => ?_⟩
  by_cases q : i < n
  · rw [h.1 i q]; exact hT.2.2 i i0 q
  · have := h.2 (i - n).toNat (by omega) (by omega)
    rw [show n + ((i - n).toNat : Int) = i by omega] at this
    rw [this]
    refine hl _ ?_
    rw [gD_e (by omega : (i - n).toNat < l.length)]
    exact List.getElem_mem _
theorem apR_Tn {b0 b : Int → Int} {n : Int} {l : List Int} (hT : tOK n b0) (h : apR b0 b n l) : tOK n b := ⟨hT.1, hT.2.1, fun i i0 i1 => by rw [h.1 i i1]; exact hT.2.2 i i0 i1⟩
theorem apR_Mn {b0 b tb : Int → Int} {n : Int} {l : List Int} (hM : mOK n 0 160 tb b0) (h : apR b0 b n l) : mOK n 0 160 tb b := ⟨hM.1, hM.2.1, fun i i0 i1 => by rw [h.1 i i1]; exact hM.2.2 i i0 i1⟩
theorem apR_M {b0 b tb0 tb : Int → Int} {n : Int} {l : List Int} (hM : mOK n 0 160 tb0 b0) (h : apR b0 b n l) (h2 : apR tb0 tb n (l.map sgb)) (h6 : n + l.length ≤ 160) : mOK (n + l.length) 0 160 tb b := by
  refine ⟨by omega, by omega, fun i i0 i1 => ?_⟩
  rw [Int.zero_add]
  by_cases q : i < n
  · rw [h.1 i q, h2.1 i q]; have := hM.2.2 i i0 q; rw [Int.zero_add] at this; exact this
  · have e1 := h.2 (i - n).toNat (by omega) (by omega)
    have e2 := h2.2 (i - n).toNat (by rw [List.length_map]; omega) (by omega)
    rw [show n + ((i - n).toNat : Int) = i by omega] at e1 e2
    rw [e1, e2, gD_e (by omega : (i - n).toNat < l.length), gD_e (by rw [List.length_map]; omega : (i - n).toNat < (l.map sgb).length), List.getElem_map]
set_option maxRecDepth 100000 in
set_option maxHeartbeats 4000000 in
theorem x_append_l (d : Nat) (z : Nat → Nat → Int) (f : Nat → Int → Int) (C : Nat → CuR) (T : Nat → TsR) (rc : Nat → Nat) (tl : AmH)  (x : Int) (e0 : Int) (b0 : Int → Int) (he : 0 ≤ e0 ∧ e0 ≤ 1000) (P : Option Value → AmH → Prop) (hx0 : ∀ (r : Int) (b' : Int → Int), (r = e0 + (byl x 4).length) → (apR b0 b' e0 (byl x 4)) → P (some (.int (iz r))) (cxW z (uf f 2 b') C T rc tl)) : ∀ (kF : Nat) (e : Int) (s : Int) (b : Int → Int) (k : Nat) (l1 : List Int) (w5 : Option Value), (s = 8 * (k : Int) - 8) → (k ≤ 4) → (byl x 4 = l1 ++ byl x k) → (e = e0 + l1.length) → (apR b0 b e0 l1) → (k : Int) < (kF : Int) → Rx (d) m_X8_append 6 [some (.ref 1), some (.int (iz e0)), some (.int (iz x)), some (.int (iz e)), some (.int (iz s)), w5] [] (cxW z (uf f 2 b) C T rc tl) P := by
  intro kF
  induction kF with
  | zero =>
    intro e s b k l1 w5 hs hk4 hl hE hA hk
    exfalso; omega
  | succ kF ih =>
    intro e s b k l1 w5 hs hk4 hl hE hA hk
    refine Rx.walk 1 (pc' := 8) (L' := [some (.ref 1), some (.int (iz e0)), some (.int (iz x)), some (.int (iz e)), some (.int (iz s)), w5]) (st' := [.int (iz s)]) (h' := cxW z (uf f 2 b) C T rc tl) rfl ?_
    refine Rx.lt1 rfl rfl ⟨by omega, by omega⟩ (fun b1 => ?_) (fun b1 => ?_)
    · refine Rx.walk 1 (pc' := 55) (L' := [some (.ref 1), some (.int (iz e0)), some (.int (iz x)), some (.int (iz e)), some (.int (iz s)), w5]) (st' := [.int (iz e)]) (h' := cxW z (uf f 2 b) C T rc tl) rfl ?_
      refine Rx.ret rfl ?_
      exact hx0 _ _ (by have : k = 0 := (by omega); subst this; rw [hl]; show e = e0 + ((l1 ++ []).length : Int); rw [List.append_nil]; exact hE) (by have : k = 0 := (by omega); subst this; rw [hl]; show apR b0 b e0 (l1 ++ []); rw [List.append_nil]; exact hA)
    · obtain ⟨k, rfl⟩ : ∃ k2 : Nat, k = k2 + 1 := ⟨k - 1, by omega⟩
      have hbb := byt_b x k
      have hll := byl_len (x := x) 4
      have hl4 : l1.length ≤ 4 := by have := congrArg List.length hl; rw [List.length_append] at this; omega
      refine Rx.walk 2 (pc' := 14) (L' := [some (.ref 1), some (.int (iz e0)), some (.int (iz x)), some (.int (iz e)), some (.int (iz s)), w5]) (st' := [.int (iz s), .int (iz x)]) (h' := cxW z (uf f 2 b) C T rc tl) rfl ?_
      refine Rx.iushr (c := (byu x k)) rfl (byu_sh (by omega) (by omega)) ?_
      refine Rx.walk 1 (pc' := 18) (L' := [some (.ref 1), some (.int (iz e0)), some (.int (iz x)), some (.int (iz e)), some (.int (iz s)), w5]) (st' := [.int (iz 255), .int (iz (byu x k))]) (h' := cxW z (uf f 2 b) C T rc tl) rfl ?_
      refine Rx.iand (c := (byt x k)) rfl (iz_and255' (byt_u x (by omega))) ?_
      refine Rx.walk 2 (pc' := 23) (L' := [some (.ref 1), some (.int (iz e0)), some (.int (iz x)), some (.int (iz e)), some (.int (iz s)), some (.int (iz (byt x k)))]) (st' := [.int (iz (byt x k))]) (h' := cxW z (uf f 2 b) C T rc tl) rfl ?_
      refine Rx.eq1 rfl rfl ⟨by omega, by omega⟩ (fun b2 => ?_) (fun b2 => ?_)
      · refine Rx.iinc (b := -8) rfl rfl rfl ?_
        refine Rx.walk 0 (pc' := 51) (L' := [some (.ref 1), some (.int (iz e0)), some (.int (iz x)), some (.int (iz e)), some (.int (iz (s + (-8)))), some (.int (iz (byt x k)))]) (st' := []) (h' := cxW z (uf f 2 b) C T rc tl) rfl ?_
        refine Rx.walk 1 (pc' := 6) (L' := [some (.ref 1), some (.int (iz e0)), some (.int (iz x)), some (.int (iz e)), some (.int (iz (s + (-8)))), some (.int (iz (byt x k)))]) (st' := []) (h' := cxW z (uf f 2 b) C T rc tl) rfl ?_
        exact ih e (s + (-8)) b k l1 (some (.int (iz (byt x k)))) (by omega) (by omega) (by rw [hl, byl_0 (by omega)]) hE hA (by first | assumption | omega) 
      · refine Rx.walk 1 (pc' := 27) (L' := [some (.ref 1), some (.int (iz e0)), some (.int (iz x)), some (.int (iz e)), some (.int (iz s)), some (.int (iz (byt x k)))]) (st' := [.int (iz e)]) (h' := cxW z (uf f 2 b) C T rc tl) rfl ?_
        refine Rx.lt1 rfl rfl ⟨by omega, by omega⟩ (fun b3 => ?_) (fun b3 => ?_)
        · refine Rx.iinc (b := 1) rfl rfl rfl ?_
          refine Rx.walk 0 (pc' := 48) (L' := [some (.ref 1), some (.int (iz e0)), some (.int (iz x)), some (.int (iz (e + 1))), some (.int (iz s)), some (.int (iz (byt x k)))]) (st' := []) (h' := cxW z (uf f 2 b) C T rc tl) rfl ?_
          refine Rx.iinc (b := -8) rfl rfl rfl ?_
          refine Rx.walk 0 (pc' := 51) (L' := [some (.ref 1), some (.int (iz e0)), some (.int (iz x)), some (.int (iz (e + 1))), some (.int (iz (s + (-8)))), some (.int (iz (byt x k)))]) (st' := []) (h' := cxW z (uf f 2 b) C T rc tl) rfl ?_
          refine Rx.walk 1 (pc' := 6) (L' := [some (.ref 1), some (.int (iz e0)), some (.int (iz x)), some (.int (iz (e + 1))), some (.int (iz (s + (-8)))), some (.int (iz (byt x k)))]) (st' := []) (h' := cxW z (uf f 2 b) C T rc tl) rfl ?_
          exact ih (e + 1) (s + (-8)) b k (l1 ++ [byt x k]) (some (.int (iz (byt x k)))) (by omega) (by omega) (by rw [hl, byl_1 (by omega), List.append_assoc]; rfl) (by rw [List.length_append]; show e + 1 = e0 + ((l1.length + 1 : Nat) : Int); omega) (apR_app hA hE (apR_f (by omega))) (by first | assumption | omega) 
        · refine Rx.walk 2 (pc' := 34) (L' := [some (.ref 1), some (.int (iz e0)), some (.int (iz x)), some (.int (iz e)), some (.int (iz s)), some (.int (iz (byt x k)))]) (st' := [.int (iz 160), .int (iz e)]) (h' := cxW z (uf f 2 b) C T rc tl) rfl ?_
          refine Rx.ge2 rfl rfl ⟨by omega, by omega⟩ ⟨by omega, by omega⟩ (fun b4 => ?_) (fun b4 => ?_)
          · refine Rx.iinc (b := 1) rfl rfl rfl ?_
            refine Rx.walk 0 (pc' := 48) (L' := [some (.ref 1), some (.int (iz e0)), some (.int (iz x)), some (.int (iz (e + 1))), some (.int (iz s)), some (.int (iz (byt x k)))]) (st' := []) (h' := cxW z (uf f 2 b) C T rc tl) rfl ?_
            refine Rx.iinc (b := -8) rfl rfl rfl ?_
            refine Rx.walk 0 (pc' := 51) (L' := [some (.ref 1), some (.int (iz e0)), some (.int (iz x)), some (.int (iz (e + 1))), some (.int (iz (s + (-8)))), some (.int (iz (byt x k)))]) (st' := []) (h' := cxW z (uf f 2 b) C T rc tl) rfl ?_
            refine Rx.walk 1 (pc' := 6) (L' := [some (.ref 1), some (.int (iz e0)), some (.int (iz x)), some (.int (iz (e + 1))), some (.int (iz (s + (-8)))), some (.int (iz (byt x k)))]) (st' := []) (h' := cxW z (uf f 2 b) C T rc tl) rfl ?_
            exact ih (e + 1) (s + (-8)) b k (l1 ++ [byt x k]) (some (.int (iz (byt x k)))) (by omega) (by omega) (by rw [hl, byl_1 (by omega), List.append_assoc]; rfl) (by rw [List.length_append]; show e + 1 = e0 + ((l1.length + 1 : Nat) : Int); omega) (apR_app hA hE (apR_f (by omega))) (by first | assumption | omega) 
          · refine Rx.walk 4 (pc' := 44) (L' := [some (.ref 1), some (.int (iz e0)), some (.int (iz x)), some (.int (iz e)), some (.int (iz s)), some (.int (iz (byt x k)))]) (st' := [.int (iz (byt x k)), .int (iz e), .ref 2]) (h' := cxW z (uf f 2 b) C T rc tl) rfl ?_
            refine Rx.ias (g := b) (h' := cxW z (uf f 2 (iu b e (byt x k))) C T rc tl) rfl rfl (by omega) (by omega) (by omega) rfl ?_
            refine Rx.iinc (b := 1) rfl rfl rfl ?_
            refine Rx.walk 0 (pc' := 48) (L' := [some (.ref 1), some (.int (iz e0)), some (.int (iz x)), some (.int (iz (e + 1))), some (.int (iz s)), some (.int (iz (byt x k)))]) (st' := []) (h' := cxW z (uf f 2 (iu b e (byt x k))) C T rc tl) rfl ?_
            refine Rx.iinc (b := -8) rfl rfl rfl ?_
            refine Rx.walk 0 (pc' := 51) (L' := [some (.ref 1), some (.int (iz e0)), some (.int (iz x)), some (.int (iz (e + 1))), some (.int (iz (s + (-8)))), some (.int (iz (byt x k)))]) (st' := []) (h' := cxW z (uf f 2 (iu b e (byt x k))) C T rc tl) rfl ?_
            refine Rx.walk 1 (pc' := 6) (L' := [some (.ref 1), some (.int (iz e0)), some (.int (iz x)), some (.int (iz (e + 1))), some (.int (iz (s + (-8)))), some (.int (iz (byt x k)))]) (st' := []) (h' := cxW z (uf f 2 (iu b e (byt x k))) C T rc tl) rfl ?_
            exact ih (e + 1) (s + (-8)) (iu b e (byt x k)) k (l1 ++ [byt x k]) (some (.int (iz (byt x k)))) (by omega) (by omega) (by rw [hl, byl_1 (by omega), List.append_assoc]; rfl) (by rw [List.length_append]; show e + 1 = e0 + ((l1.length + 1 : Nat) : Int); omega) (apR_app hA hE apR_1) (by first | assumption | omega) 
set_option maxRecDepth 100000 in
set_option maxHeartbeats 4000000 in
theorem x_append (d : Nat) (z : Nat → Nat → Int) (f : Nat → Int → Int) (C : Nat → CuR) (T : Nat → TsR) (rc : Nat → Nat) (tl : AmH)  (e : Int) (x : Int) (b : Int → Int) (he : 0 ≤ e ∧ e ≤ 1000) : Rx (d) m_X8_append 0 (am_ent [.ref 1, .int (iz e), .int (iz x)] 6) [] (cxW z (uf f 2 b) C T rc tl) (fun rv h => ∃ r : Int, ∃ b' : Int → Int, rv = some (.int (iz r)) ∧ h = cxW z (uf f 2 b') C T rc tl ∧ r = e + (byl x 4).length ∧ apR b b' e (byl x 4)) := by
  refine Rx.walk 0 (pc' := 0) (L' := [some (.ref 1), some (.int (iz e)), some (.int (iz x)), none, none, none]) (st' := []) (h' := cxW z (uf f 2 b) C T rc tl) rfl ?_
  refine Rx.walk 4 (pc' := 6) (L' := [some (.ref 1), some (.int (iz e)), some (.int (iz x)), some (.int (iz e)), some (.int (iz 24)), none]) (st' := []) (h' := cxW z (uf f 2 b) C T rc tl) rfl ?_
  refine x_append_l _ z f C T rc tl  x e b he _ ?_ ((4 : Int) + 1 : Int).toNat e 24 b 4 [] none (by omega) (by omega) rfl (by simp) (apR_0 _ _) (by omega) 
  intro r_1 b_2 f3 f4
  show (fun (rv : Option Value) (h : AmH) => ∃ r : Int, ∃ b' : Int → Int, rv = some (.int (iz r)) ∧ h = cxW z (uf f 2 b') C T rc tl ∧ r = e + (byl x 4).length ∧ apR b b' e (byl x 4)) (some (Value.int (iz r_1))) (cxW z (uf f 2 b_2) C T rc tl)
  exact ⟨_, _, rfl, rfl, f3, f4⟩
def fd5 (x1 x2 x3 x4 x5 : Int) : List Int := (byl x1 4 ++ (byl x2 4 ++ (byl x3 4 ++ (byl x4 4 ++ byl x5 4))))
theorem fd5_in {x1 x2 x3 x4 x5 : Int} : ∀ y ∈ fd5 x1 x2 x3 x4 x5, 1 ≤ y ∧ y ≤ 255 := by
  intro y h
  unfold fd5 at h
  simp only [List.mem_append] at h
  rcases h with h | h | h | h | h <;> exact byl_in h
theorem fd5_len {x1 x2 x3 x4 x5 : Int} : ((fd5 x1 x2 x3 x4 x5).length : Int) = (byl x1 4).length + (byl x2 4).length + (byl x3 4).length + (byl x4 4).length + (byl x5 4).length := by
  unfold fd5; simp only [List.length_append]; omega
set_option maxRecDepth 100000 in
set_option maxHeartbeats 4000000 in
theorem x_feed (d : Nat) (z : Nat → Nat → Int) (f : Nat → Int → Int) (C : Nat → CuR) (T : Nat → TsR) (rc : Nat → Nat) (tl : AmH)  (x1 : Int) (x2 : Int) (x3 : Int) (x4 : Int) (x5 : Int) (n : Int) (b : Int → Int) (hn : 0 ≤ n ∧ n ≤ 160) : Rx (d + 1) m_X11_feed 0 (am_ent [.ref 0, .int (iz x1), .int (iz x2), .int (iz x3), .int (iz x4), .int (iz x5)] 7) [] (cxW (u2 z 1 1 n) (uf f 2 b) C T rc tl) (fun rv h => ∃ r : Int, ∃ n' : Int, ∃ b' : Int → Int, rv = some (.int (iz r)) ∧ h = cxW (u2 z 1 1 n') (uf f 2 b') C T rc tl ∧ ((160 < n + ((fd5 x1 x2 x3 x4 x5).length : Int) ∧ r = -1 ∧ n' = n) ∨ (n + ((fd5 x1 x2 x3 x4 x5).length : Int) ≤ 160 ∧ r = n + ((fd5 x1 x2 x3 x4 x5).length : Int) ∧ n' = n + ((fd5 x1 x2 x3 x4 x5).length : Int))) ∧ apR b b' n (fd5 x1 x2 x3 x4 x5)) := by
  refine Rx.walk 0 (pc' := 0) (L' := [some (.ref 0), some (.int (iz x1)), some (.int (iz x2)), some (.int (iz x3)), some (.int (iz x4)), some (.int (iz x5)), none]) (st' := []) (h' := cxW (u2 z 1 1 n) (uf f 2 b) C T rc tl) rfl ?_
  refine Rx.walk 6 (pc' := 12) (L' := [some (.ref 0), some (.int (iz x1)), some (.int (iz x2)), some (.int (iz x3)), some (.int (iz x4)), some (.int (iz x5)), none]) (st' := [.int (iz x1), .int (iz n), .ref 1]) (h' := cxW (u2 z 1 1 n) (uf f 2 b) C T rc tl) rfl ?_
  refine Rx.callx (m' := m_X8_append) (as := [.ref 1, .int (iz n), .int (iz x1)]) (rest := []) rfl (x_append _ (u2 z 1 1 n) f C T rc tl  n x1 b (by first | assumption | omega)) (fun v5 h6 q7 => ?_)
  obtain ⟨r_1, b_2, rfl, rfl, f3, f4⟩ := q7
  refine Rx.walk 0 (pc' := 15) (L' := [some (.ref 0), some (.int (iz x1)), some (.int (iz x2)), some (.int (iz x3)), some (.int (iz x4)), some (.int (iz x5)), none]) (st' := [.int (iz r_1)]) (h' := cxW (u2 z 1 1 n) (uf f 2 b_2) C T rc tl) rfl ?_
  have hl1 := byl_len (x := x1) 4
  refine Rx.walk 5 (pc' := 24) (L' := [some (.ref 0), some (.int (iz x1)), some (.int (iz x2)), some (.int (iz x3)), some (.int (iz x4)), some (.int (iz x5)), some (.int (iz r_1))]) (st' := [.int (iz x2), .int (iz r_1), .ref 1]) (h' := cxW (u2 z 1 1 n) (uf f 2 b_2) C T rc tl) rfl ?_
  refine Rx.callx (m' := m_X8_append) (as := [.ref 1, .int (iz r_1), .int (iz x2)]) (rest := []) rfl (x_append _ (u2 z 1 1 n) f C T rc tl  r_1 x2 b_2 (by first | assumption | omega)) (fun v12 h13 q14 => ?_)
  obtain ⟨r_8, b_9, rfl, rfl, f10, f11⟩ := q14
  refine Rx.walk 0 (pc' := 27) (L' := [some (.ref 0), some (.int (iz x1)), some (.int (iz x2)), some (.int (iz x3)), some (.int (iz x4)), some (.int (iz x5)), some (.int (iz r_1))]) (st' := [.int (iz r_8)]) (h' := cxW (u2 z 1 1 n) (uf f 2 b_9) C T rc tl) rfl ?_
  have hl2 := byl_len (x := x2) 4
  refine Rx.walk 5 (pc' := 36) (L' := [some (.ref 0), some (.int (iz x1)), some (.int (iz x2)), some (.int (iz x3)), some (.int (iz x4)), some (.int (iz x5)), some (.int (iz r_8))]) (st' := [.int (iz x3), .int (iz r_8), .ref 1]) (h' := cxW (u2 z 1 1 n) (uf f 2 b_9) C T rc tl) rfl ?_
  refine Rx.callx (m' := m_X8_append) (as := [.ref 1, .int (iz r_8), .int (iz x3)]) (rest := []) rfl (x_append _ (u2 z 1 1 n) f C T rc tl  r_8 x3 b_9 (by first | assumption | omega)) (fun v19 h20 q21 => ?_)
  obtain ⟨r_15, b_16, rfl, rfl, f17, f18⟩ := q21
  refine Rx.walk 0 (pc' := 39) (L' := [some (.ref 0), some (.int (iz x1)), some (.int (iz x2)), some (.int (iz x3)), some (.int (iz x4)), some (.int (iz x5)), some (.int (iz r_8))]) (st' := [.int (iz r_15)]) (h' := cxW (u2 z 1 1 n) (uf f 2 b_16) C T rc tl) rfl ?_
  have hl3 := byl_len (x := x3) 4
  refine Rx.walk 5 (pc' := 49) (L' := [some (.ref 0), some (.int (iz x1)), some (.int (iz x2)), some (.int (iz x3)), some (.int (iz x4)), some (.int (iz x5)), some (.int (iz r_15))]) (st' := [.int (iz x4), .int (iz r_15), .ref 1]) (h' := cxW (u2 z 1 1 n) (uf f 2 b_16) C T rc tl) rfl ?_
  refine Rx.callx (m' := m_X8_append) (as := [.ref 1, .int (iz r_15), .int (iz x4)]) (rest := []) rfl (x_append _ (u2 z 1 1 n) f C T rc tl  r_15 x4 b_16 (by first | assumption | omega)) (fun v26 h27 q28 => ?_)
  obtain ⟨r_22, b_23, rfl, rfl, f24, f25⟩ := q28
  refine Rx.walk 0 (pc' := 52) (L' := [some (.ref 0), some (.int (iz x1)), some (.int (iz x2)), some (.int (iz x3)), some (.int (iz x4)), some (.int (iz x5)), some (.int (iz r_15))]) (st' := [.int (iz r_22)]) (h' := cxW (u2 z 1 1 n) (uf f 2 b_23) C T rc tl) rfl ?_
  have hl4 := byl_len (x := x4) 4
  refine Rx.walk 5 (pc' := 62) (L' := [some (.ref 0), some (.int (iz x1)), some (.int (iz x2)), some (.int (iz x3)), some (.int (iz x4)), some (.int (iz x5)), some (.int (iz r_22))]) (st' := [.int (iz x5), .int (iz r_22), .ref 1]) (h' := cxW (u2 z 1 1 n) (uf f 2 b_23) C T rc tl) rfl ?_
  refine Rx.callx (m' := m_X8_append) (as := [.ref 1, .int (iz r_22), .int (iz x5)]) (rest := []) rfl (x_append _ (u2 z 1 1 n) f C T rc tl  r_22 x5 b_23 (by first | assumption | omega)) (fun v33 h34 q35 => ?_)
  obtain ⟨r_29, b_30, rfl, rfl, f31, f32⟩ := q35
  refine Rx.walk 0 (pc' := 65) (L' := [some (.ref 0), some (.int (iz x1)), some (.int (iz x2)), some (.int (iz x3)), some (.int (iz x4)), some (.int (iz x5)), some (.int (iz r_22))]) (st' := [.int (iz r_29)]) (h' := cxW (u2 z 1 1 n) (uf f 2 b_30) C T rc tl) rfl ?_
  have hl5 := byl_len (x := x5) 4
  refine Rx.walk 3 (pc' := 72) (L' := [some (.ref 0), some (.int (iz x1)), some (.int (iz x2)), some (.int (iz x3)), some (.int (iz x4)), some (.int (iz x5)), some (.int (iz r_29))]) (st' := [.int (iz 160), .int (iz r_29)]) (h' := cxW (u2 z 1 1 n) (uf f 2 b_30) C T rc tl) rfl ?_
  refine Rx.le2 rfl rfl ⟨by omega, by omega⟩ ⟨by omega, by omega⟩ (fun b36 => ?_) (fun b36 => ?_)
  · refine Rx.walk 5 (pc' := 88) (L' := [some (.ref 0), some (.int (iz x1)), some (.int (iz x2)), some (.int (iz x3)), some (.int (iz x4)), some (.int (iz x5)), some (.int (iz r_29))]) (st' := [.int (iz r_29)]) (h' := cxW (u2 z 1 1 r_29) (uf f 2 b_30) C T rc tl) rfl ?_
    refine Rx.ret rfl ?_
    have hL := fd5_len (x1 := x1) (x2 := x2) (x3 := x3) (x4 := x4) (x5 := x5)
    refine ⟨_, _, _, rfl, rfl, Or.inr ⟨by omega, by omega, by omega⟩, ?_⟩
    unfold fd5
    exact (apR_app f4 f3 (apR_app f11 f10 (apR_app f18 f17 (apR_app f25 f24 f32))))
  · refine Rx.walk 1 (pc' := 76) (L' := [some (.ref 0), some (.int (iz x1)), some (.int (iz x2)), some (.int (iz x3)), some (.int (iz x4)), some (.int (iz x5)), some (.int (iz r_29))]) (st' := [.int (iz (-1))]) (h' := cxW (u2 z 1 1 n) (uf f 2 b_30) C T rc tl) rfl ?_
    refine Rx.ret rfl ?_
    have hL := fd5_len (x1 := x1) (x2 := x2) (x3 := x3) (x4 := x4) (x5 := x5)
    refine ⟨_, _, _, rfl, rfl, Or.inl ⟨by omega, rfl, rfl⟩, ?_⟩
    unfold fd5
    exact (apR_app f4 f3 (apR_app f11 f10 (apR_app f18 f17 (apR_app f25 f24 f32))))
set_option maxRecDepth 100000 in
set_option maxHeartbeats 4000000 in
theorem x_end (d : Nat) (z : Nat → Nat → Int) (f : Nat → Int → Int) (C : Nat → CuR) (T : Nat → TsR) (rc : Nat → Nat) (tl : AmH)  (m : Int) (n : Int) (hm : bI m) (hn : 0 ≤ n ∧ n ≤ 160) : Rx (d) m_X11_end 0 (am_ent [.ref 0, .int (iz m)] 2) [] (cxW (u2 z 1 1 n) f C T rc tl) (fun rv h => ∃ r : Int, ∃ n' : Int, rv = some (.int (iz r)) ∧ h = cxW (u2 z 1 1 n') f C T rc tl ∧ ((¬ (0 ≤ m ∧ m ≤ n) ∧ r = 0 ∧ n' = n) ∨ (0 ≤ m ∧ m ≤ n ∧ r = 1 ∧ n' = m))) := by
  obtain ⟨hm1, hm2⟩ := id hm
  refine Rx.walk 0 (pc' := 0) (L' := [some (.ref 0), some (.int (iz m))]) (st' := []) (h' := cxW (u2 z 1 1 n) f C T rc tl) rfl ?_
  refine Rx.walk 1 (pc' := 1) (L' := [some (.ref 0), some (.int (iz m))]) (st' := [.int (iz m)]) (h' := cxW (u2 z 1 1 n) f C T rc tl) rfl ?_
  refine Rx.lt1 rfl rfl ⟨by omega, by omega⟩ (fun b1 => ?_) (fun b1 => ?_)
  · refine Rx.walk 1 (pc' := 16) (L' := [some (.ref 0), some (.int (iz m))]) (st' := [.int (iz 0)]) (h' := cxW (u2 z 1 1 n) f C T rc tl) rfl ?_
    refine Rx.ret rfl ?_
    exact ⟨_, _, rfl, rfl, (by omega)⟩
  · refine Rx.walk 4 (pc' := 12) (L' := [some (.ref 0), some (.int (iz m))]) (st' := [.int (iz n), .int (iz m)]) (h' := cxW (u2 z 1 1 n) f C T rc tl) rfl ?_
    refine Rx.le2 rfl rfl ⟨by omega, by omega⟩ ⟨by omega, by omega⟩ (fun b2 => ?_) (fun b2 => ?_)
    · refine Rx.walk 5 (pc' := 26) (L' := [some (.ref 0), some (.int (iz m))]) (st' := [.int (iz 1)]) (h' := cxW (u2 z 1 1 m) f C T rc tl) rfl ?_
      refine Rx.ret rfl ?_
      exact ⟨_, _, rfl, rfl, (by omega)⟩
    · refine Rx.walk 1 (pc' := 16) (L' := [some (.ref 0), some (.int (iz m))]) (st' := [.int (iz 0)]) (h' := cxW (u2 z 1 1 n) f C T rc tl) rfl ?_
      refine Rx.ret rfl ?_
      exact ⟨_, _, rfl, rfl, (by omega)⟩
set_option maxRecDepth 100000 in
set_option maxHeartbeats 4000000 in
theorem m_end (d : Nat) (z : Nat → Int) (zl : Nat → Int) (f : Nat → Int → Int) (fl : Nat → Int → Int) (tx : Nat)  (m : Int) (n : Int) (hm : bI m) (hn : 0 ≤ n ∧ n ≤ 160) : Rx (d) m_X12_end 0 (am_ent [.ref 0, .int (iz m)] 2) [] (cmH (u1 z 6 n) zl f fl tx) (fun rv h => ∃ r : Int, ∃ n' : Int, rv = some (.int (iz r)) ∧ h = cmH (u1 (u1 z 0 0) 6 n') zl f fl tx ∧ ((¬ (0 ≤ m ∧ m ≤ n) ∧ r = 0 ∧ n' = n) ∨ (0 ≤ m ∧ m ≤ n ∧ r = 1 ∧ n' = m))) := by
  obtain ⟨hm1, hm2⟩ := id hm
  refine Rx.walk 0 (pc' := 0) (L' := [some (.ref 0), some (.int (iz m))]) (st' := []) (h' := cmH (u1 z 6 n) zl f fl tx) rfl ?_
  refine Rx.walk 4 (pc' := 6) (L' := [some (.ref 0), some (.int (iz m))]) (st' := [.int (iz m)]) (h' := cmH (u1 (u1 z 0 0) 6 n) zl f fl tx) rfl ?_
  refine Rx.lt1 rfl rfl ⟨by omega, by omega⟩ (fun b1 => ?_) (fun b1 => ?_)
  · refine Rx.walk 1 (pc' := 18) (L' := [some (.ref 0), some (.int (iz m))]) (st' := [.int (iz 0)]) (h' := cmH (u1 (u1 z 0 0) 6 n) zl f fl tx) rfl ?_
    refine Rx.ret rfl ?_
    exact ⟨_, _, rfl, rfl, (by omega)⟩
  · refine Rx.walk 3 (pc' := 14) (L' := [some (.ref 0), some (.int (iz m))]) (st' := [.int (iz n), .int (iz m)]) (h' := cmH (u1 (u1 z 0 0) 6 n) zl f fl tx) rfl ?_
    refine Rx.le2 rfl rfl ⟨by omega, by omega⟩ ⟨by omega, by omega⟩ (fun b2 => ?_) (fun b2 => ?_)
    · refine Rx.walk 4 (pc' := 25) (L' := [some (.ref 0), some (.int (iz m))]) (st' := [.int (iz 1)]) (h' := cmH (u1 (u1 z 0 0) 6 m) zl f fl tx) rfl ?_
      refine Rx.ret rfl ?_
      exact ⟨_, _, rfl, rfl, (by omega)⟩
    · refine Rx.walk 1 (pc' := 18) (L' := [some (.ref 0), some (.int (iz m))]) (st' := [.int (iz 0)]) (h' := cmH (u1 (u1 z 0 0) 6 n) zl f fl tx) rfl ?_
      refine Rx.ret rfl ?_
      exact ⟨_, _, rfl, rfl, (by omega)⟩
set_option maxRecDepth 100000 in
set_option maxHeartbeats 4000000 in
theorem m_byIn_l (d : Nat) (h0 : AmH)  (x : Int) (hx : bI x) (P : Option Value → AmH → Prop) (hx0 : ∀ (r : Int), (r = (byl x 4).length) → P (some (.int (iz r))) (h0)) : ∀ (kF : Nat) (c : Int) (s : Int) (k : Nat), (s = 8 * (k : Int) - 8) → (k ≤ 4) → (0 ≤ c ∧ c + (byl x k).length = (byl x 4).length) → (k : Int) < (kF : Int) → Rx (d) m_X12_bytesIn 5 [some (.int (iz x)), some (.int (iz c)), some (.int (iz s))] [] (h0) P := by
  intro kF
  induction kF with
  | zero =>
    intro c s k hs hk4 hc hk
    exfalso; omega
  | succ kF ih =>
    intro c s k hs hk4 hc hk
    refine Rx.walk 1 (pc' := 6) (L' := [some (.int (iz x)), some (.int (iz c)), some (.int (iz s))]) (st' := [.int (iz s)]) (h' := h0) rfl ?_
    refine Rx.lt1 rfl rfl ⟨by omega, by omega⟩ (fun b1 => ?_) (fun b1 => ?_)
    · refine Rx.walk 1 (pc' := 34) (L' := [some (.int (iz x)), some (.int (iz c)), some (.int (iz s))]) (st' := [.int (iz c)]) (h' := h0) rfl ?_
      refine Rx.ret rfl ?_
      exact hx0 _ (by have : k = 0 := (by omega); subst this; have h2 := hc.2; rw [show ((byl x 0).length : Int) = 0 from rfl] at h2; omega)
    · obtain ⟨k, rfl⟩ : ∃ k2 : Nat, k = k2 + 1 := ⟨k - 1, by omega⟩
      have hbb := byt_b x k
      have hll := byl_len (x := x) 4
      refine Rx.walk 3 (pc' := 12) (L' := [some (.int (iz x)), some (.int (iz c)), some (.int (iz s))]) (st' := [.int (iz s), .int (iz x), .int (iz c)]) (h' := h0) rfl ?_
      refine Rx.ishr (c := (bys x k)) rfl (bys_sh hx (by omega) (by omega)) ?_
      refine Rx.walk 1 (pc' := 16) (L' := [some (.int (iz x)), some (.int (iz c)), some (.int (iz s))]) (st' := [.int (iz 255), .int (iz (bys x k)), .int (iz c)]) (h' := h0) rfl ?_
      refine Rx.iand (c := (byt x k)) rfl (iz_and255' (show bys x k % 256 = byt x k from rfl)) ?_
      refine Rx.eq1 rfl rfl ⟨by omega, by omega⟩ (fun b2 => ?_) (fun b2 => ?_)
      · refine Rx.walk 1 (pc' := 25) (L' := [some (.int (iz x)), some (.int (iz c)), some (.int (iz s))]) (st' := [.int (iz 0), .int (iz c)]) (h' := h0) rfl ?_
        refine Rx.iadd rfl ?_
        refine Rx.walk 1 (pc' := 27) (L' := [some (.int (iz x)), some (.int (iz (c + 0))), some (.int (iz s))]) (st' := []) (h' := h0) rfl ?_
        refine Rx.iinc (b := -8) rfl rfl rfl ?_
        refine Rx.walk 0 (pc' := 30) (L' := [some (.int (iz x)), some (.int (iz (c + 0))), some (.int (iz (s + (-8))))]) (st' := []) (h' := h0) rfl ?_
        refine Rx.walk 1 (pc' := 5) (L' := [some (.int (iz x)), some (.int (iz (c + 0))), some (.int (iz (s + (-8))))]) (st' := []) (h' := h0) rfl ?_
        exact ih (c + 0) (s + (-8)) k (by omega) (by omega) (by rw [byl_0 (by omega)] at hc; omega) (by first | assumption | omega) 
      · refine Rx.walk 2 (pc' := 25) (L' := [some (.int (iz x)), some (.int (iz c)), some (.int (iz s))]) (st' := [.int (iz 1), .int (iz c)]) (h' := h0) rfl ?_
        refine Rx.iadd rfl ?_
        refine Rx.walk 1 (pc' := 27) (L' := [some (.int (iz x)), some (.int (iz (c + 1))), some (.int (iz s))]) (st' := []) (h' := h0) rfl ?_
        refine Rx.iinc (b := -8) rfl rfl rfl ?_
        refine Rx.walk 0 (pc' := 30) (L' := [some (.int (iz x)), some (.int (iz (c + 1))), some (.int (iz (s + (-8))))]) (st' := []) (h' := h0) rfl ?_
        refine Rx.walk 1 (pc' := 5) (L' := [some (.int (iz x)), some (.int (iz (c + 1))), some (.int (iz (s + (-8))))]) (st' := []) (h' := h0) rfl ?_
        exact ih (c + 1) (s + (-8)) k (by omega) (by omega) (by rw [byl_1 (by omega), List.length_cons] at hc; omega) (by first | assumption | omega) 
set_option maxRecDepth 100000 in
set_option maxHeartbeats 4000000 in
theorem n_byIn (d : Nat) (h0 : AmH)  (x : Int) (hx : bI x) : Rx (d) m_X12_bytesIn 0 (am_ent [.int (iz x)] 3) [] (h0) (fun rv h => ∃ r : Int, rv = some (.int (iz r)) ∧ h0 = h ∧ r = (byl x 4).length) := by
  refine Rx.walk 0 (pc' := 0) (L' := [some (.int (iz x)), none, none]) (st' := []) (h' := h0) rfl ?_
  refine Rx.walk 4 (pc' := 5) (L' := [some (.int (iz x)), some (.int (iz 0)), some (.int (iz 24))]) (st' := []) (h' := h0) rfl ?_
  refine m_byIn_l _ h0  x hx _ ?_ ((4 : Int) + 1 : Int).toNat 0 24 4 (by omega) (by omega) ⟨by omega, by omega⟩ (by omega) 
  intro r_1 f2
  show (fun (rv : Option Value) (h : AmH) => ∃ r : Int, rv = some (.int (iz r)) ∧ h0 = h ∧ r = (byl x 4).length) (some (Value.int (iz r_1))) (h0)
  exact ⟨_, rfl, rfl, f2⟩
set_option maxRecDepth 100000 in
set_option maxHeartbeats 4000000 in
theorem m_putb_l (d : Nat) (z : Nat → Int) (zl : Nat → Int) (f : Nat → Int → Int) (fl : Nat → Int → Int) (tx : Nat)  (x : Int) (n0 : Int) (tb0 : Int → Int) (hx : bI x) (hn : 0 ≤ n0 ∧ n0 + (byl x 4).length ≤ 160) (P : Option Value → AmH → Prop) (hx0 : ∀ (n' : Int) (tb' : Int → Int), (n' = n0 + (byl x 4).length) → (apR tb0 tb' n0 ((byl x 4).map sgb)) → P (none) (cmH (u1 z 6 n') zl (uf f 1 tb') fl tx)) : ∀ (kF : Nat) (s : Int) (n : Int) (tb : Int → Int) (k : Nat) (l1 : List Int), (s = 8 * (k : Int) - 8) → (k ≤ 4) → (byl x 4 = l1 ++ byl x k) → (n = n0 + l1.length) → (apR tb0 tb n0 (l1.map sgb)) → (k : Int) < (kF : Int) → Rx (d) m_X12_put 3 [some (.ref 0), some (.int (iz x)), some (.int (iz s))] [] (cmH (u1 z 6 n) zl (uf f 1 tb) fl tx) P := by
  intro kF
  induction kF with
  | zero =>
    intro s n tb k l1 hs hk4 hl hE hA hk
    exfalso; omega
  | succ kF ih =>
    intro s n tb k l1 hs hk4 hl hE hA hk
    refine Rx.walk 1 (pc' := 4) (L' := [some (.ref 0), some (.int (iz x)), some (.int (iz s))]) (st' := [.int (iz s)]) (h' := cmH (u1 z 6 n) zl (uf f 1 tb) fl tx) rfl ?_
    refine Rx.lt1 rfl rfl ⟨by omega, by omega⟩ (fun b1 => ?_) (fun b1 => ?_)
    · refine Rx.ret rfl ?_
      exact hx0 _ _ (by have : k = 0 := (by omega); subst this; rw [hl]; show n = n0 + ((l1 ++ []).length : Int); rw [List.append_nil]; exact hE) (by have : k = 0 := (by omega); subst this; rw [hl]; show apR tb0 tb n0 ((l1 ++ []).map sgb); rw [List.append_nil]; exact hA)
    · obtain ⟨k, rfl⟩ : ∃ k2 : Nat, k = k2 + 1 := ⟨k - 1, by omega⟩
      have hbb := byt_b x k
      refine Rx.walk 2 (pc' := 9) (L' := [some (.ref 0), some (.int (iz x)), some (.int (iz s))]) (st' := [.int (iz s), .int (iz x)]) (h' := cmH (u1 z 6 n) zl (uf f 1 tb) fl tx) rfl ?_
      refine Rx.ishr (c := (bys x k)) rfl (bys_sh hx (by omega) (by omega)) ?_
      refine Rx.walk 1 (pc' := 13) (L' := [some (.ref 0), some (.int (iz x)), some (.int (iz s))]) (st' := [.int (iz 255), .int (iz (bys x k))]) (h' := cmH (u1 z 6 n) zl (uf f 1 tb) fl tx) rfl ?_
      refine Rx.iand (c := (byt x k)) rfl (iz_and255' (show bys x k % 256 = byt x k from rfl)) ?_
      refine Rx.ne1 rfl rfl ⟨by omega, by omega⟩ (fun b2 => ?_) (fun b2 => ?_)
      · have hl2 : l1.length + 1 ≤ (byl x 4).length := by have := congrArg List.length hl; rw [List.length_append, byl_1 (x := x) (k := k) (by omega), List.length_cons] at this; omega
        have hsb := sgb_b hbb.1 hbb.2
        refine Rx.walk 6 (pc' := 30) (L' := [some (.ref 0), some (.int (iz x)), some (.int (iz s))]) (st' := [.int (iz s), .int (iz x), .int (iz n), .ref 1]) (h' := cmH (u1 z 6 n) zl (uf f 1 tb) fl tx) rfl ?_
        refine Rx.ishr (c := (bys x k)) rfl (bys_sh hx (by omega) (by omega)) ?_
        refine Rx.i2b rfl ?_
        rw [byt_bmod x k]
        refine Rx.bas (g := tb) (h' := cmH (u1 z 6 n) zl (uf f 1 (iu tb n (sgb (byt x k)))) fl tx) rfl rfl (by omega) (by omega) (by omega) (by omega) (by omega) rfl ?_
        refine Rx.walk 4 (pc' := 39) (L' := [some (.ref 0), some (.int (iz x)), some (.int (iz s))]) (st' := [.int (iz 1), .int (iz n), .ref 0]) (h' := cmH (u1 z 6 n) zl (uf f 1 (iu tb n (sgb (byt x k)))) fl tx) rfl ?_
        refine Rx.iadd rfl ?_
        refine Rx.walk 1 (pc' := 43) (L' := [some (.ref 0), some (.int (iz x)), some (.int (iz s))]) (st' := []) (h' := cmH (u1 z 6 (n + 1)) zl (uf f 1 (iu tb n (sgb (byt x k)))) fl tx) rfl ?_
        refine Rx.iinc (b := -8) rfl rfl rfl ?_
        refine Rx.walk 0 (pc' := 46) (L' := [some (.ref 0), some (.int (iz x)), some (.int (iz (s + (-8))))]) (st' := []) (h' := cmH (u1 z 6 (n + 1)) zl (uf f 1 (iu tb n (sgb (byt x k)))) fl tx) rfl ?_
        refine Rx.walk 1 (pc' := 3) (L' := [some (.ref 0), some (.int (iz x)), some (.int (iz (s + (-8))))]) (st' := []) (h' := cmH (u1 z 6 (n + 1)) zl (uf f 1 (iu tb n (sgb (byt x k)))) fl tx) rfl ?_
        exact ih (s + (-8)) (n + 1) (iu tb n (sgb (byt x k))) k (l1 ++ [byt x k]) (by omega) (by omega) (by rw [hl, byl_1 (by omega), List.append_assoc]; rfl) (by rw [List.length_append]; show n + 1 = n0 + ((l1.length + 1 : Nat) : Int); omega) (by rw [List.map_append]; exact apR_app hA (by rw [List.length_map]; exact hE) apR_1) (by first | assumption | omega) 
      · refine Rx.walk 1 (pc' := 43) (L' := [some (.ref 0), some (.int (iz x)), some (.int (iz s))]) (st' := []) (h' := cmH (u1 z 6 n) zl (uf f 1 tb) fl tx) rfl ?_
        refine Rx.iinc (b := -8) rfl rfl rfl ?_
        refine Rx.walk 0 (pc' := 46) (L' := [some (.ref 0), some (.int (iz x)), some (.int (iz (s + (-8))))]) (st' := []) (h' := cmH (u1 z 6 n) zl (uf f 1 tb) fl tx) rfl ?_
        refine Rx.walk 1 (pc' := 3) (L' := [some (.ref 0), some (.int (iz x)), some (.int (iz (s + (-8))))]) (st' := []) (h' := cmH (u1 z 6 n) zl (uf f 1 tb) fl tx) rfl ?_
        exact ih (s + (-8)) n tb k l1 (by omega) (by omega) (by rw [hl, byl_0 (by omega)]) hE hA (by first | assumption | omega) 
set_option maxRecDepth 100000 in
set_option maxHeartbeats 4000000 in
theorem m_putb (d : Nat) (z : Nat → Int) (zl : Nat → Int) (f : Nat → Int → Int) (fl : Nat → Int → Int) (tx : Nat)  (x : Int) (n : Int) (tb : Int → Int) (hx : bI x) (hn : 0 ≤ n ∧ n + (byl x 4).length ≤ 160) : Rx (d) m_X12_put 0 (am_ent [.ref 0, .int (iz x)] 3) [] (cmH (u1 z 6 n) zl (uf f 1 tb) fl tx) (fun rv h => ∃ n' : Int, ∃ tb' : Int → Int, rv = none ∧ h = cmH (u1 z 6 n') zl (uf f 1 tb') fl tx ∧ n' = n + (byl x 4).length ∧ apR tb tb' n ((byl x 4).map sgb)) := by
  refine Rx.walk 0 (pc' := 0) (L' := [some (.ref 0), some (.int (iz x)), none]) (st' := []) (h' := cmH (u1 z 6 n) zl (uf f 1 tb) fl tx) rfl ?_
  refine Rx.walk 2 (pc' := 3) (L' := [some (.ref 0), some (.int (iz x)), some (.int (iz 24))]) (st' := []) (h' := cmH (u1 z 6 n) zl (uf f 1 tb) fl tx) rfl ?_
  refine m_putb_l _ z zl f fl tx  x n tb hx hn _ ?_ ((4 : Int) + 1 : Int).toNat 24 n tb 4 [] (by omega) (by omega) rfl (by simp) (apR_0 _ _) (by omega) 
  intro n_1 tb_2 f3 f4
  show (fun (rv : Option Value) (h : AmH) => ∃ n' : Int, ∃ tb' : Int → Int, rv = none ∧ h = cmH (u1 z 6 n') zl (uf f 1 tb') fl tx ∧ n' = n + (byl x 4).length ∧ apR tb tb' n ((byl x 4).map sgb)) (none) (cmH (u1 z 6 n_1) zl (uf f 1 tb_2) fl tx)
  exact ⟨_, _, rfl, rfl, f3, f4⟩
set_option maxRecDepth 100000 in
set_option maxHeartbeats 4000000 in
theorem m_feed (d : Nat) (z : Nat → Int) (zl : Nat → Int) (f : Nat → Int → Int) (fl : Nat → Int → Int) (tx : Nat)  (x1 : Int) (x2 : Int) (x3 : Int) (x4 : Int) (x5 : Int) (n : Int) (tb : Int → Int) (hn : 0 ≤ n ∧ n ≤ 160) (hx1 : bI x1) (hx2 : bI x2) (hx3 : bI x3) (hx4 : bI x4) (hx5 : bI x5) : Rx (d + 1) m_X12_feed 0 (am_ent [.ref 0, .int (iz x1), .int (iz x2), .int (iz x3), .int (iz x4), .int (iz x5)] 6) [] (cmH (u1 z 6 n) zl (uf f 1 tb) fl tx) (fun rv h => ∃ r : Int, ∃ n' : Int, ∃ tb' : Int → Int, rv = some (.int (iz r)) ∧ h = cmH (u1 (u1 z 0 0) 6 n') zl (uf f 1 tb') fl tx ∧ ((160 < n + ((fd5 x1 x2 x3 x4 x5).length : Int) ∧ r = -1 ∧ n' = n ∧ tb' = tb) ∨ (n + ((fd5 x1 x2 x3 x4 x5).length : Int) ≤ 160 ∧ r = n + ((fd5 x1 x2 x3 x4 x5).length : Int) ∧ n' = n + ((fd5 x1 x2 x3 x4 x5).length : Int) ∧ apR tb tb' n ((fd5 x1 x2 x3 x4 x5).map sgb)))) := by
  refine Rx.walk 0 (pc' := 0) (L' := [some (.ref 0), some (.int (iz x1)), some (.int (iz x2)), some (.int (iz x3)), some (.int (iz x4)), some (.int (iz x5))]) (st' := []) (h' := cmH (u1 z 6 n) zl (uf f 1 tb) fl tx) rfl ?_
  refine Rx.walk 6 (pc' := 10) (L' := [some (.ref 0), some (.int (iz x1)), some (.int (iz x2)), some (.int (iz x3)), some (.int (iz x4)), some (.int (iz x5))]) (st' := [.int (iz x1), .int (iz n)]) (h' := cmH (u1 (u1 z 0 0) 6 n) zl (uf f 1 tb) fl tx) rfl ?_
  refine Rx.callx (m' := m_X12_bytesIn) (as := [.int (iz x1)]) (rest := [.int (iz n)]) rfl (n_byIn _ (cmH (u1 (u1 z 0 0) 6 n) zl (uf f 1 tb) fl tx)  x1 hx1) (fun v3 h4 q5 => ?_)
  obtain ⟨r_1, rfl, rfl, f2⟩ := q5
  refine Rx.walk 0 (pc' := 13) (L' := [some (.ref 0), some (.int (iz x1)), some (.int (iz x2)), some (.int (iz x3)), some (.int (iz x4)), some (.int (iz x5))]) (st' := [.int (iz r_1), .int (iz n)]) (h' := cmH (u1 (u1 z 0 0) 6 n) zl (uf f 1 tb) fl tx) rfl ?_
  have hl1 := byl_len (x := x1) 4
  refine Rx.iadd rfl ?_
  refine Rx.walk 1 (pc' := 15) (L' := [some (.ref 0), some (.int (iz x1)), some (.int (iz x2)), some (.int (iz x3)), some (.int (iz x4)), some (.int (iz x5))]) (st' := [.int (iz x2), .int (iz (n + r_1))]) (h' := cmH (u1 (u1 z 0 0) 6 n) zl (uf f 1 tb) fl tx) rfl ?_
  refine Rx.callx (m' := m_X12_bytesIn) (as := [.int (iz x2)]) (rest := [.int (iz (n + r_1))]) rfl (n_byIn _ (cmH (u1 (u1 z 0 0) 6 n) zl (uf f 1 tb) fl tx)  x2 hx2) (fun v8 h9 q10 => ?_)
  obtain ⟨r_6, rfl, rfl, f7⟩ := q10
  refine Rx.walk 0 (pc' := 18) (L' := [some (.ref 0), some (.int (iz x1)), some (.int (iz x2)), some (.int (iz x3)), some (.int (iz x4)), some (.int (iz x5))]) (st' := [.int (iz r_6), .int (iz (n + r_1))]) (h' := cmH (u1 (u1 z 0 0) 6 n) zl (uf f 1 tb) fl tx) rfl ?_
  have hl2 := byl_len (x := x2) 4
  refine Rx.iadd rfl ?_
  refine Rx.walk 1 (pc' := 20) (L' := [some (.ref 0), some (.int (iz x1)), some (.int (iz x2)), some (.int (iz x3)), some (.int (iz x4)), some (.int (iz x5))]) (st' := [.int (iz x3), .int (iz ((n + r_1) + r_6))]) (h' := cmH (u1 (u1 z 0 0) 6 n) zl (uf f 1 tb) fl tx) rfl ?_
  refine Rx.callx (m' := m_X12_bytesIn) (as := [.int (iz x3)]) (rest := [.int (iz ((n + r_1) + r_6))]) rfl (n_byIn _ (cmH (u1 (u1 z 0 0) 6 n) zl (uf f 1 tb) fl tx)  x3 hx3) (fun v13 h14 q15 => ?_)
  obtain ⟨r_11, rfl, rfl, f12⟩ := q15
  refine Rx.walk 0 (pc' := 23) (L' := [some (.ref 0), some (.int (iz x1)), some (.int (iz x2)), some (.int (iz x3)), some (.int (iz x4)), some (.int (iz x5))]) (st' := [.int (iz r_11), .int (iz ((n + r_1) + r_6))]) (h' := cmH (u1 (u1 z 0 0) 6 n) zl (uf f 1 tb) fl tx) rfl ?_
  have hl3 := byl_len (x := x3) 4
  refine Rx.iadd rfl ?_
  refine Rx.walk 1 (pc' := 26) (L' := [some (.ref 0), some (.int (iz x1)), some (.int (iz x2)), some (.int (iz x3)), some (.int (iz x4)), some (.int (iz x5))]) (st' := [.int (iz x4), .int (iz (((n + r_1) + r_6) + r_11))]) (h' := cmH (u1 (u1 z 0 0) 6 n) zl (uf f 1 tb) fl tx) rfl ?_
  refine Rx.callx (m' := m_X12_bytesIn) (as := [.int (iz x4)]) (rest := [.int (iz (((n + r_1) + r_6) + r_11))]) rfl (n_byIn _ (cmH (u1 (u1 z 0 0) 6 n) zl (uf f 1 tb) fl tx)  x4 hx4) (fun v18 h19 q20 => ?_)
  obtain ⟨r_16, rfl, rfl, f17⟩ := q20
  refine Rx.walk 0 (pc' := 29) (L' := [some (.ref 0), some (.int (iz x1)), some (.int (iz x2)), some (.int (iz x3)), some (.int (iz x4)), some (.int (iz x5))]) (st' := [.int (iz r_16), .int (iz (((n + r_1) + r_6) + r_11))]) (h' := cmH (u1 (u1 z 0 0) 6 n) zl (uf f 1 tb) fl tx) rfl ?_
  have hl4 := byl_len (x := x4) 4
  refine Rx.iadd rfl ?_
  refine Rx.walk 1 (pc' := 32) (L' := [some (.ref 0), some (.int (iz x1)), some (.int (iz x2)), some (.int (iz x3)), some (.int (iz x4)), some (.int (iz x5))]) (st' := [.int (iz x5), .int (iz ((((n + r_1) + r_6) + r_11) + r_16))]) (h' := cmH (u1 (u1 z 0 0) 6 n) zl (uf f 1 tb) fl tx) rfl ?_
  refine Rx.callx (m' := m_X12_bytesIn) (as := [.int (iz x5)]) (rest := [.int (iz ((((n + r_1) + r_6) + r_11) + r_16))]) rfl (n_byIn _ (cmH (u1 (u1 z 0 0) 6 n) zl (uf f 1 tb) fl tx)  x5 hx5) (fun v23 h24 q25 => ?_)
  obtain ⟨r_21, rfl, rfl, f22⟩ := q25
  refine Rx.walk 0 (pc' := 35) (L' := [some (.ref 0), some (.int (iz x1)), some (.int (iz x2)), some (.int (iz x3)), some (.int (iz x4)), some (.int (iz x5))]) (st' := [.int (iz r_21), .int (iz ((((n + r_1) + r_6) + r_11) + r_16))]) (h' := cmH (u1 (u1 z 0 0) 6 n) zl (uf f 1 tb) fl tx) rfl ?_
  have hl5 := byl_len (x := x5) 4
  refine Rx.iadd rfl ?_
  refine Rx.walk 1 (pc' := 39) (L' := [some (.ref 0), some (.int (iz x1)), some (.int (iz x2)), some (.int (iz x3)), some (.int (iz x4)), some (.int (iz x5))]) (st' := [.int (iz 160), .int (iz (((((n + r_1) + r_6) + r_11) + r_16) + r_21))]) (h' := cmH (u1 (u1 z 0 0) 6 n) zl (uf f 1 tb) fl tx) rfl ?_
  refine Rx.le2 rfl rfl ⟨by omega, by omega⟩ ⟨by omega, by omega⟩ (fun b26 => ?_) (fun b26 => ?_)
  · refine Rx.walk 2 (pc' := 46) (L' := [some (.ref 0), some (.int (iz x1)), some (.int (iz x2)), some (.int (iz x3)), some (.int (iz x4)), some (.int (iz x5))]) (st' := [.int (iz x1), .ref 0]) (h' := cmH (u1 (u1 z 0 0) 6 n) zl (uf f 1 tb) fl tx) rfl ?_
    refine Rx.callx (m' := m_X12_put) (as := [.ref 0, .int (iz x1)]) (rest := []) rfl (m_putb _ (u1 z 0 0) zl f fl tx  x1 n tb hx1 ⟨by omega, by omega⟩) (fun v31 h32 q33 => ?_)
    obtain ⟨n_27, tb_28, rfl, rfl, f29, f30⟩ := q33
    refine Rx.walk 0 (pc' := 49) (L' := [some (.ref 0), some (.int (iz x1)), some (.int (iz x2)), some (.int (iz x3)), some (.int (iz x4)), some (.int (iz x5))]) (st' := []) (h' := cmH (u1 (u1 z 0 0) 6 n_27) zl (uf f 1 tb_28) fl tx) rfl ?_
    refine Rx.walk 2 (pc' := 51) (L' := [some (.ref 0), some (.int (iz x1)), some (.int (iz x2)), some (.int (iz x3)), some (.int (iz x4)), some (.int (iz x5))]) (st' := [.int (iz x2), .ref 0]) (h' := cmH (u1 (u1 z 0 0) 6 n_27) zl (uf f 1 tb_28) fl tx) rfl ?_
    refine Rx.callx (m' := m_X12_put) (as := [.ref 0, .int (iz x2)]) (rest := []) rfl (m_putb _ (u1 z 0 0) zl f fl tx  x2 n_27 tb_28 hx2 ⟨by omega, by omega⟩) (fun v38 h39 q40 => ?_)
    obtain ⟨n_34, tb_35, rfl, rfl, f36, f37⟩ := q40
    refine Rx.walk 0 (pc' := 54) (L' := [some (.ref 0), some (.int (iz x1)), some (.int (iz x2)), some (.int (iz x3)), some (.int (iz x4)), some (.int (iz x5))]) (st' := []) (h' := cmH (u1 (u1 z 0 0) 6 n_34) zl (uf f 1 tb_35) fl tx) rfl ?_
    refine Rx.walk 2 (pc' := 56) (L' := [some (.ref 0), some (.int (iz x1)), some (.int (iz x2)), some (.int (iz x3)), some (.int (iz x4)), some (.int (iz x5))]) (st' := [.int (iz x3), .ref 0]) (h' := cmH (u1 (u1 z 0 0) 6 n_34) zl (uf f 1 tb_35) fl tx) rfl ?_
    refine Rx.callx (m' := m_X12_put) (as := [.ref 0, .int (iz x3)]) (rest := []) rfl (m_putb _ (u1 z 0 0) zl f fl tx  x3 n_34 tb_35 hx3 ⟨by omega, by omega⟩) (fun v45 h46 q47 => ?_)
    obtain ⟨n_41, tb_42, rfl, rfl, f43, f44⟩ := q47
    refine Rx.walk 0 (pc' := 59) (L' := [some (.ref 0), some (.int (iz x1)), some (.int (iz x2)), some (.int (iz x3)), some (.int (iz x4)), some (.int (iz x5))]) (st' := []) (h' := cmH (u1 (u1 z 0 0) 6 n_41) zl (uf f 1 tb_42) fl tx) rfl ?_
    refine Rx.walk 2 (pc' := 62) (L' := [some (.ref 0), some (.int (iz x1)), some (.int (iz x2)), some (.int (iz x3)), some (.int (iz x4)), some (.int (iz x5))]) (st' := [.int (iz x4), .ref 0]) (h' := cmH (u1 (u1 z 0 0) 6 n_41) zl (uf f 1 tb_42) fl tx) rfl ?_
    refine Rx.callx (m' := m_X12_put) (as := [.ref 0, .int (iz x4)]) (rest := []) rfl (m_putb _ (u1 z 0 0) zl f fl tx  x4 n_41 tb_42 hx4 ⟨by omega, by omega⟩) (fun v52 h53 q54 => ?_)
    obtain ⟨n_48, tb_49, rfl, rfl, f50, f51⟩ := q54
    refine Rx.walk 0 (pc' := 65) (L' := [some (.ref 0), some (.int (iz x1)), some (.int (iz x2)), some (.int (iz x3)), some (.int (iz x4)), some (.int (iz x5))]) (st' := []) (h' := cmH (u1 (u1 z 0 0) 6 n_48) zl (uf f 1 tb_49) fl tx) rfl ?_
    refine Rx.walk 2 (pc' := 68) (L' := [some (.ref 0), some (.int (iz x1)), some (.int (iz x2)), some (.int (iz x3)), some (.int (iz x4)), some (.int (iz x5))]) (st' := [.int (iz x5), .ref 0]) (h' := cmH (u1 (u1 z 0 0) 6 n_48) zl (uf f 1 tb_49) fl tx) rfl ?_
    refine Rx.callx (m' := m_X12_put) (as := [.ref 0, .int (iz x5)]) (rest := []) rfl (m_putb _ (u1 z 0 0) zl f fl tx  x5 n_48 tb_49 hx5 ⟨by omega, by omega⟩) (fun v59 h60 q61 => ?_)
    obtain ⟨n_55, tb_56, rfl, rfl, f57, f58⟩ := q61
    refine Rx.walk 0 (pc' := 71) (L' := [some (.ref 0), some (.int (iz x1)), some (.int (iz x2)), some (.int (iz x3)), some (.int (iz x4)), some (.int (iz x5))]) (st' := []) (h' := cmH (u1 (u1 z 0 0) 6 n_55) zl (uf f 1 tb_56) fl tx) rfl ?_
    refine Rx.walk 2 (pc' := 75) (L' := [some (.ref 0), some (.int (iz x1)), some (.int (iz x2)), some (.int (iz x3)), some (.int (iz x4)), some (.int (iz x5))]) (st' := [.int (iz n_55)]) (h' := cmH (u1 (u1 z 0 0) 6 n_55) zl (uf f 1 tb_56) fl tx) rfl ?_
    refine Rx.ret rfl ?_
    have hL := fd5_len (x1 := x1) (x2 := x2) (x3 := x3) (x4 := x4) (x5 := x5)
    refine ⟨_, _, _, rfl, rfl, Or.inr ⟨by omega, by omega, by omega, ?_⟩⟩
    unfold fd5
    simp only [List.map_append]
    exact (apR_app f30 (by rw [List.length_map]; exact f29) (apR_app f37 (by rw [List.length_map]; exact f36) (apR_app f44 (by rw [List.length_map]; exact f43) (apR_app f51 (by rw [List.length_map]; exact f50) f58))))
  · refine Rx.walk 1 (pc' := 43) (L' := [some (.ref 0), some (.int (iz x1)), some (.int (iz x2)), some (.int (iz x3)), some (.int (iz x4)), some (.int (iz x5))]) (st' := [.int (iz (-1))]) (h' := cmH (u1 (u1 z 0 0) 6 n) zl (uf f 1 tb) fl tx) rfl ?_
    refine Rx.ret rfl ?_
    have hL := fd5_len (x1 := x1) (x2 := x2) (x3 := x3) (x4 := x4) (x5 := x5)
    exact ⟨_, _, _, rfl, rfl, Or.inl ⟨by omega, rfl, rfl, rfl⟩⟩

/-! the class's heap with customers and sets of tills as records (printed by wip/whole/genworld.py): C i customer i (price, purse, coins, sets, hands, handSizes, spares, chosen), T i set i (size, slots, homes, tills; 0..4 levels, 5 results, 6 far) -/
abbrev CuR : Type := Int × (Int → Int) × Int × Int × (Int → Int) × (Int → Int) × (Int → Int) × Int
abbrev TsR : Type := Int × (Int → Int) × (Int → Int) × (Int → Int)
def cpl (n : Nat) : Nat := match n with
  | 0 => 15
  | 1 => 20
  | 2 => 25
  | _ => 30
def tpl (n : Nat) : Nat := match n with
  | 0 => 66
  | 1 => 70
  | 2 => 74
  | 3 => 78
  | 4 => 82
  | 5 => 57
  | _ => 87
def tln (n : Nat) : Nat := match n with
  | 5 => 1000
  | 6 => 1000
  | _ => 200
def tsn (n : Nat) : Nat := match n with
  | 5 => 2048
  | 6 => 2048
  | _ => 512
def tlm (n : Nat) : Int := match n with
  | 5 => 1000
  | 6 => 1000
  | _ => 200
def tsh (n : Nat) : Int := match n with
  | 5 => 21
  | 6 => 21
  | _ => 23
def uC (C : Nat → CuR) (c : Nat) (X : CuR) : Nat → CuR := fun i => bif Nat.beq i c then X else C i
def uT (T : Nat → TsR) (c : Nat) (X : TsR) : Nat → TsR := fun i => bif Nat.beq i c then X else T i
theorem uC_at (C : Nat → CuR) (c : Nat) (X : CuR) : uC C c X c = X := by
  unfold uC; rw [Nat.beq_refl]; rfl
theorem uT_at (T : Nat → TsR) (c : Nat) (X : TsR) : uT T c X c = X := by
  unfold uT; rw [Nat.beq_refl]; rfl
theorem uC_ne (C : Nat → CuR) {c i : Nat} (X : CuR) (h : i ≠ c) : uC C c X i = C i := by
  unfold uC
  rw [show Nat.beq i c = false from Bool.eq_false_iff.mpr (fun q => h (Nat.eq_of_beq_eq_true q))]
  rfl
theorem uT_ne (T : Nat → TsR) {c i : Nat} (X : TsR) (h : i ≠ c) : uT T c X i = T i := by
  unfold uT
  rw [show Nat.beq i c = false from Bool.eq_false_iff.mpr (fun q => h (Nat.eq_of_beq_eq_true q))]
  rfl
theorem uC_uC (C : Nat → CuR) (c : Nat) (X Y : CuR) : uC (uC C c X) c Y = uC C c Y := by
  funext i
  by_cases h : i = c
  · rw [h, uC_at, uC_at]
  · rw [uC_ne _ _ h, uC_ne _ _ h, uC_ne _ _ h]
theorem uT_uT (T : Nat → TsR) (c : Nat) (X Y : TsR) : uT (uT T c X) c Y = uT T c Y := by
  funext i
  by_cases h : i = c
  · rw [h, uT_at, uT_at]
  · rw [uT_ne _ _ h, uT_ne _ _ h, uT_ne _ _ h]
theorem tln_tlm {t : Nat} (h : t < 7) : (tln t : Int) = tlm t := by
  match t, h with
  | 0, _ => rfl
  | 1, _ => rfl
  | 2, _ => rfl
  | 3, _ => rfl
  | 4, _ => rfl
  | 5, _ => rfl
  | 6, _ => rfl
theorem tcases {t : Nat} (h : t < 7) : (t < 5 ∧ tln t = 200 ∧ tsn t = 512 ∧ tlm t = 200 ∧ tsh t = 23) ∨ (5 ≤ t ∧ tln t = 1000 ∧ tsn t = 2048 ∧ tlm t = 1000 ∧ tsh t = 21) := by
  match t, h with
  | 0, _ => exact Or.inl ⟨by decide, rfl, rfl, rfl, rfl⟩
  | 1, _ => exact Or.inl ⟨by decide, rfl, rfl, rfl, rfl⟩
  | 2, _ => exact Or.inl ⟨by decide, rfl, rfl, rfl, rfl⟩
  | 3, _ => exact Or.inl ⟨by decide, rfl, rfl, rfl, rfl⟩
  | 4, _ => exact Or.inl ⟨by decide, rfl, rfl, rfl, rfl⟩
  | 5, _ => exact Or.inr ⟨by decide, rfl, rfl, rfl, rfl⟩
  | 6, _ => exact Or.inr ⟨by decide, rfl, rfl, rfl, rfl⟩
def cxW (z : Nat → Nat → Int) (f : Nat → Int → Int) (C : Nat → CuR) (T : Nat → TsR) (rc : Nat → Nat) (tl : AmH) : AmH := .inr (10, .ref 1 :: .ref 3 :: .ref 5 :: .ref 7 :: .ref 12 :: .ref 14 :: .int (iz (z 0 6)) :: .ref 35 :: .int (iz (z 0 8)) :: .int (iz (z 0 9)) :: .ref 44 :: .int (iz (z 0 11)) :: .int (iz (z 0 12)) :: .ref 45 :: .ref 46 :: .ref 57 :: .ref 61 :: .ref 86 :: .ref 91 :: .ref 95 :: []) ::
  .inr (8, .ref 2 :: .int (iz (z 1 1)) :: .int (iz (z 1 2)) :: []) ::
  .inl (.int, 160, .inl (av (f 2))) ::
  .inr (7, .ref 4 :: .int (iz (z 3 1)) :: .int (iz (z 3 2)) :: .int (iz (z 3 3)) :: .int (iz (z 3 4)) :: []) ::
  .inl (.int, 5, .inl (av (f 4))) ::
  .inr (7, .ref 6 :: .int (iz (z 5 1)) :: .int (iz (z 5 2)) :: .int (iz (z 5 3)) :: .int (iz (z 5 4)) :: []) ::
  .inl (.int, 5, .inl (av (f 6))) ::
  .inr (2, .int (iz (z 7 0)) :: .ref 8 :: .int (iz (z 7 2)) :: .int (iz (z 7 3)) :: .ref 9 :: .ref 10 :: .ref 11 :: .int (iz (z 7 7)) :: []) ::
  .inl (.int, 4, .inl (av (f 8))) ::
  .inl (.int, 60, .inl (av (f 9))) ::
  .inl (.int, 15, .inl (av (f 10))) ::
  .inl (.int, 15, .inl (av (f 11))) ::
  .inr (6, .ref 13 :: .int (iz (z 12 1)) :: []) ::
  .inl (.int, 161, .inl (av (f 13))) ::
  .inl (.object RX2, 4, .inr (.inr (.inr (.inr (va_up (va_up (va_up (va_up (fun _ => none) 0 (some 15)) 1 (some 20)) 2 (some 25)) 3 (some 30)))))) ::
  .inr (2, .int (iz ((C 0).1)) :: .ref 16 :: .int (iz ((C 0).2.2.1)) :: .int (iz ((C 0).2.2.2.1)) :: .ref 17 :: .ref 18 :: .ref 19 :: .int (iz ((C 0).2.2.2.2.2.2.2)) :: []) ::
  .inl (.int, 4, .inl (av ((C 0).2.1))) ::
  .inl (.int, 60, .inl (av ((C 0).2.2.2.2.1))) ::
  .inl (.int, 15, .inl (av ((C 0).2.2.2.2.2.1))) ::
  .inl (.int, 15, .inl (av ((C 0).2.2.2.2.2.2.1))) ::
  .inr (2, .int (iz ((C 1).1)) :: .ref 21 :: .int (iz ((C 1).2.2.1)) :: .int (iz ((C 1).2.2.2.1)) :: .ref 22 :: .ref 23 :: .ref 24 :: .int (iz ((C 1).2.2.2.2.2.2.2)) :: []) ::
  .inl (.int, 4, .inl (av ((C 1).2.1))) ::
  .inl (.int, 60, .inl (av ((C 1).2.2.2.2.1))) ::
  .inl (.int, 15, .inl (av ((C 1).2.2.2.2.2.1))) ::
  .inl (.int, 15, .inl (av ((C 1).2.2.2.2.2.2.1))) ::
  .inr (2, .int (iz ((C 2).1)) :: .ref 26 :: .int (iz ((C 2).2.2.1)) :: .int (iz ((C 2).2.2.2.1)) :: .ref 27 :: .ref 28 :: .ref 29 :: .int (iz ((C 2).2.2.2.2.2.2.2)) :: []) ::
  .inl (.int, 4, .inl (av ((C 2).2.1))) ::
  .inl (.int, 60, .inl (av ((C 2).2.2.2.2.1))) ::
  .inl (.int, 15, .inl (av ((C 2).2.2.2.2.2.1))) ::
  .inl (.int, 15, .inl (av ((C 2).2.2.2.2.2.2.1))) ::
  .inr (2, .int (iz ((C 3).1)) :: .ref 31 :: .int (iz ((C 3).2.2.1)) :: .int (iz ((C 3).2.2.2.1)) :: .ref 32 :: .ref 33 :: .ref 34 :: .int (iz ((C 3).2.2.2.2.2.2.2)) :: []) ::
  .inl (.int, 4, .inl (av ((C 3).2.1))) ::
  .inl (.int, 60, .inl (av ((C 3).2.2.2.2.1))) ::
  .inl (.int, 15, .inl (av ((C 3).2.2.2.2.2.1))) ::
  .inl (.int, 15, .inl (av ((C 3).2.2.2.2.2.2.1))) ::
  .inl (.object RX6, 4, .inr (.inr (.inr (.inr (va_up (va_up (va_up (va_up (fun _ => none) 0 (some 36)) 1 (some 38)) 2 (some 40)) 3 (some 42)))))) ::
  .inr (6, .ref (rc 36) :: .int (iz (z 36 1)) :: []) ::
  .inl (.int, 0, .inl (av (f 37))) ::
  .inr (6, .ref (rc 38) :: .int (iz (z 38 1)) :: []) ::
  .inl (.int, 0, .inl (av (f 39))) ::
  .inr (6, .ref (rc 40) :: .int (iz (z 40 1)) :: []) ::
  .inl (.int, 0, .inl (av (f 41))) ::
  .inr (6, .ref (rc 42) :: .int (iz (z 42 1)) :: []) ::
  .inl (.int, 0, .inl (av (f 43))) ::
  .inl (.int, 4, .inl (av (f 44))) ::
  .inl (.int, 4, .inl (av (f 45))) ::
  .inr (4, .ref 3 :: .ref 47 :: .ref 50 :: .int (iz (z 46 3)) :: .ref 53 :: .int (iz (z 46 5)) :: .ref 54 :: .ref 55 :: .int (iz (z 46 8)) :: .ref 56 :: .int (iz (z 46 10)) :: .int (iz (z 46 11)) :: .int (iz (z 46 12)) :: []) ::
  .inl (.array .int, 2, .inr (.inr (.inr (.inr (fun i => if i < 2 then some (47 + 1 + i) else none))))) ::
  .inl (.int, 6, .inl (av (f 48))) ::
  .inl (.int, 6, .inl (av (f 49))) ::
  .inl (.array .int, 2, .inr (.inr (.inr (.inr (fun i => if i < 2 then some (50 + 1 + i) else none))))) ::
  .inl (.int, 6, .inl (av (f 51))) ::
  .inl (.int, 6, .inl (av (f 52))) ::
  .inl (.int, 180, .inl (av (f 53))) ::
  .inl (.int, 180, .inl (av (f 54))) ::
  .inl (.int, 180, .inl (av (f 55))) ::
  .inl (.int, 180, .inl (av (f 56))) ::
  .inr (9, .int (iz (tlm 5)) :: .int (iz (tsh 5)) :: .ref 58 :: .ref 59 :: .ref 60 :: .int (iz ((T 5).1)) :: []) ::
  .inl (.int, 2048, .inl (av ((T 5).2.1))) ::
  .inl (.int, 1000, .inl (av ((T 5).2.2.1))) ::
  .inl (.int, 1000, .inl (av ((T 5).2.2.2))) ::
  .inr (5, .ref 3 :: .ref 46 :: .ref 14 :: .ref 62 :: .ref 63 :: .int (iz (z 61 5)) :: .int (iz (z 61 6)) :: []) ::
  .inl (.object RX9, 5, .inr (.inr (.inr (.inr (va_up (va_up (va_up (va_up (va_up (fun _ => none) 0 (some 66)) 1 (some 70)) 2 (some 74)) 3 (some 78)) 4 (some 82)))))) ::
  .inl (.array .int, 2, .inr (.inr (.inr (.inr (fun i => if i < 2 then some (63 + 1 + i) else none))))) ::
  .inl (.int, 200, .inl (av (f 64))) ::
  .inl (.int, 200, .inl (av (f 65))) ::
  .inr (9, .int (iz (tlm 0)) :: .int (iz (tsh 0)) :: .ref 67 :: .ref 68 :: .ref 69 :: .int (iz ((T 0).1)) :: []) ::
  .inl (.int, 512, .inl (av ((T 0).2.1))) ::
  .inl (.int, 200, .inl (av ((T 0).2.2.1))) ::
  .inl (.int, 200, .inl (av ((T 0).2.2.2))) ::
  .inr (9, .int (iz (tlm 1)) :: .int (iz (tsh 1)) :: .ref 71 :: .ref 72 :: .ref 73 :: .int (iz ((T 1).1)) :: []) ::
  .inl (.int, 512, .inl (av ((T 1).2.1))) ::
  .inl (.int, 200, .inl (av ((T 1).2.2.1))) ::
  .inl (.int, 200, .inl (av ((T 1).2.2.2))) ::
  .inr (9, .int (iz (tlm 2)) :: .int (iz (tsh 2)) :: .ref 75 :: .ref 76 :: .ref 77 :: .int (iz ((T 2).1)) :: []) ::
  .inl (.int, 512, .inl (av ((T 2).2.1))) ::
  .inl (.int, 200, .inl (av ((T 2).2.2.1))) ::
  .inl (.int, 200, .inl (av ((T 2).2.2.2))) ::
  .inr (9, .int (iz (tlm 3)) :: .int (iz (tsh 3)) :: .ref 79 :: .ref 80 :: .ref 81 :: .int (iz ((T 3).1)) :: []) ::
  .inl (.int, 512, .inl (av ((T 3).2.1))) ::
  .inl (.int, 200, .inl (av ((T 3).2.2.1))) ::
  .inl (.int, 200, .inl (av ((T 3).2.2.2))) ::
  .inr (9, .int (iz (tlm 4)) :: .int (iz (tsh 4)) :: .ref 83 :: .ref 84 :: .ref 85 :: .int (iz ((T 4).1)) :: []) ::
  .inl (.int, 512, .inl (av ((T 4).2.1))) ::
  .inl (.int, 200, .inl (av ((T 4).2.2.1))) ::
  .inl (.int, 200, .inl (av ((T 4).2.2.2))) ::
  .inr (0, .ref 46 :: .ref 14 :: .ref 57 :: .ref 87 :: []) ::
  .inr (9, .int (iz (tlm 6)) :: .int (iz (tsh 6)) :: .ref 88 :: .ref 89 :: .ref 90 :: .int (iz ((T 6).1)) :: []) ::
  .inl (.int, 2048, .inl (av ((T 6).2.1))) ::
  .inl (.int, 1000, .inl (av ((T 6).2.2.1))) ::
  .inl (.int, 1000, .inl (av ((T 6).2.2.2))) ::
  .inr (1, .ref 3 :: .ref 14 :: .ref 92 :: .int (iz (z 91 3)) :: .ref 93 :: .ref 94 :: []) ::
  .inl (.int, 2, .inl (av (f 92))) ::
  .inl (.int, 6, .inl (av (f 93))) ::
  .inl (.int, 161, .inl (av (f 94))) ::
  .inr (3, .ref 96 :: .int (iz (z 95 1)) :: .ref 97 :: []) ::
  .inl (.int, 4, .inl (av (f 96))) ::
  .inl (.int, 4, .inl (av (f 97))) :: tl
def ofC (z : Nat → Nat → Int) (f : Nat → Int → Int) (i : Nat) : CuR := match i with
  | 0 => (z 15 0, f 16, z 15 2, z 15 3, f 17, f 18, f 19, z 15 7)
  | 1 => (z 20 0, f 21, z 20 2, z 20 3, f 22, f 23, f 24, z 20 7)
  | 2 => (z 25 0, f 26, z 25 2, z 25 3, f 27, f 28, f 29, z 25 7)
  | _ => (z 30 0, f 31, z 30 2, z 30 3, f 32, f 33, f 34, z 30 7)
def ofT (z : Nat → Nat → Int) (f : Nat → Int → Int) (i : Nat) : TsR := match i with
  | 0 => (z 66 5, f 67, f 68, f 69)
  | 1 => (z 70 5, f 71, f 72, f 73)
  | 2 => (z 74 5, f 75, f 76, f 77)
  | 3 => (z 78 5, f 79, f 80, f 81)
  | 4 => (z 82 5, f 83, f 84, f 85)
  | 5 => (z 57 5, f 58, f 59, f 60)
  | _ => (z 87 5, f 88, f 89, f 90)
set_option maxRecDepth 100000 in
theorem cxH_W (z : Nat → Nat → Int) (f : Nat → Int → Int) (rc : Nat → Nat) (tl : AmH) (a0 : z 66 0 = tlm 0) (b0 : z 66 1 = tsh 0) (a1 : z 70 0 = tlm 1) (b1 : z 70 1 = tsh 1) (a2 : z 74 0 = tlm 2) (b2 : z 74 1 = tsh 2) (a3 : z 78 0 = tlm 3) (b3 : z 78 1 = tsh 3) (a4 : z 82 0 = tlm 4) (b4 : z 82 1 = tsh 4) (a5 : z 57 0 = tlm 5) (b5 : z 57 1 = tsh 5) (a6 : z 87 0 = tlm 6) (b6 : z 87 1 = tsh 6) : cxH z f rc tl = cxW z f (ofC z f) (ofT z f) rc tl := by
  unfold cxW
  rw [← a0, ← b0, ← a1, ← b1, ← a2, ← b2, ← a3, ← b3, ← a4, ← b4, ← a5, ← b5, ← a6, ← b6]
  rfl
set_option maxRecDepth 100000 in
theorem cW_C {z : Nat → Nat → Int} {f : Nat → Int → Int} {C : Nat → CuR} {T : Nat → TsR} {rc : Nat → Nat} {tl : AmH} {c : Nat} (h : c < 4) : am_nth (cxW z f C T rc tl) (cpl c) = some (.inr (2, [.int (iz (C c).1), .ref (cpl c + 1), .int (iz (C c).2.2.1), .int (iz (C c).2.2.2.1), .ref (cpl c + 2), .ref (cpl c + 3), .ref (cpl c + 4), .int (iz (C c).2.2.2.2.2.2.2)])) := by
  match c, h with
  | 0, _ => rfl
  | 1, _ => rfl
  | 2, _ => rfl
  | 3, _ => rfl
theorem cW_Cu {z : Nat → Nat → Int} {f : Nat → Int → Int} {C : Nat → CuR} {T : Nat → TsR} {rc : Nat → Nat} {tl : AmH} {c : Nat} {X : CuR} (h : c < 4) : am_nth (cxW z f (uC C c X) T rc tl) (cpl c) = some (.inr (2, [.int (iz X.1), .ref (cpl c + 1), .int (iz X.2.2.1), .int (iz X.2.2.2.1), .ref (cpl c + 2), .ref (cpl c + 3), .ref (cpl c + 4), .int (iz X.2.2.2.2.2.2.2)])) := by
  rw [cW_C h, uC_at]
set_option maxRecDepth 100000 in
theorem cW_T {z : Nat → Nat → Int} {f : Nat → Int → Int} {C : Nat → CuR} {T : Nat → TsR} {rc : Nat → Nat} {tl : AmH} {t : Nat} (h : t < 7) : am_nth (cxW z f C T rc tl) (tpl t) = some (.inr (9, [.int (iz (tlm t)), .int (iz (tsh t)), .ref (tpl t + 1), .ref (tpl t + 2), .ref (tpl t + 3), .int (iz (T t).1)])) := by
  match t, h with
  | 0, _ => rfl
  | 1, _ => rfl
  | 2, _ => rfl
  | 3, _ => rfl
  | 4, _ => rfl
  | 5, _ => rfl
  | 6, _ => rfl
theorem cW_Tu {z : Nat → Nat → Int} {f : Nat → Int → Int} {C : Nat → CuR} {T : Nat → TsR} {rc : Nat → Nat} {tl : AmH} {t : Nat} {X : TsR} (h : t < 7) : am_nth (cxW z f C (uT T t X) rc tl) (tpl t) = some (.inr (9, [.int (iz (tlm t)), .int (iz (tsh t)), .ref (tpl t + 1), .ref (tpl t + 2), .ref (tpl t + 3), .int (iz X.1)])) := by
  rw [cW_T h, uT_at]
set_option maxRecDepth 100000 in
theorem cW_C1 {z : Nat → Nat → Int} {f : Nat → Int → Int} {C : Nat → CuR} {T : Nat → TsR} {rc : Nat → Nat} {tl : AmH} {c : Nat} (h : c < 4) : am_nth (cxW z f C T rc tl) (cpl c + 1) = some (.inl (.int, 4, .inl (av (C c).2.1))) := by
  match c, h with
  | 0, _ => rfl
  | 1, _ => rfl
  | 2, _ => rfl
  | 3, _ => rfl
theorem cW_C1u {z : Nat → Nat → Int} {f : Nat → Int → Int} {C : Nat → CuR} {T : Nat → TsR} {rc : Nat → Nat} {tl : AmH} {c : Nat} {X : CuR} (h : c < 4) : am_nth (cxW z f (uC C c X) T rc tl) (cpl c + 1) = some (.inl (.int, 4, .inl (av X.2.1))) := by
  rw [cW_C1 h, uC_at]
set_option maxRecDepth 100000 in
theorem cW_C2 {z : Nat → Nat → Int} {f : Nat → Int → Int} {C : Nat → CuR} {T : Nat → TsR} {rc : Nat → Nat} {tl : AmH} {c : Nat} (h : c < 4) : am_nth (cxW z f C T rc tl) (cpl c + 2) = some (.inl (.int, 60, .inl (av (C c).2.2.2.2.1))) := by
  match c, h with
  | 0, _ => rfl
  | 1, _ => rfl
  | 2, _ => rfl
  | 3, _ => rfl
theorem cW_C2u {z : Nat → Nat → Int} {f : Nat → Int → Int} {C : Nat → CuR} {T : Nat → TsR} {rc : Nat → Nat} {tl : AmH} {c : Nat} {X : CuR} (h : c < 4) : am_nth (cxW z f (uC C c X) T rc tl) (cpl c + 2) = some (.inl (.int, 60, .inl (av X.2.2.2.2.1))) := by
  rw [cW_C2 h, uC_at]
set_option maxRecDepth 100000 in
theorem cW_C3 {z : Nat → Nat → Int} {f : Nat → Int → Int} {C : Nat → CuR} {T : Nat → TsR} {rc : Nat → Nat} {tl : AmH} {c : Nat} (h : c < 4) : am_nth (cxW z f C T rc tl) (cpl c + 3) = some (.inl (.int, 15, .inl (av (C c).2.2.2.2.2.1))) := by
  match c, h with
  | 0, _ => rfl
  | 1, _ => rfl
  | 2, _ => rfl
  | 3, _ => rfl
theorem cW_C3u {z : Nat → Nat → Int} {f : Nat → Int → Int} {C : Nat → CuR} {T : Nat → TsR} {rc : Nat → Nat} {tl : AmH} {c : Nat} {X : CuR} (h : c < 4) : am_nth (cxW z f (uC C c X) T rc tl) (cpl c + 3) = some (.inl (.int, 15, .inl (av X.2.2.2.2.2.1))) := by
  rw [cW_C3 h, uC_at]
set_option maxRecDepth 100000 in
theorem cW_C4 {z : Nat → Nat → Int} {f : Nat → Int → Int} {C : Nat → CuR} {T : Nat → TsR} {rc : Nat → Nat} {tl : AmH} {c : Nat} (h : c < 4) : am_nth (cxW z f C T rc tl) (cpl c + 4) = some (.inl (.int, 15, .inl (av (C c).2.2.2.2.2.2.1))) := by
  match c, h with
  | 0, _ => rfl
  | 1, _ => rfl
  | 2, _ => rfl
  | 3, _ => rfl
theorem cW_C4u {z : Nat → Nat → Int} {f : Nat → Int → Int} {C : Nat → CuR} {T : Nat → TsR} {rc : Nat → Nat} {tl : AmH} {c : Nat} {X : CuR} (h : c < 4) : am_nth (cxW z f (uC C c X) T rc tl) (cpl c + 4) = some (.inl (.int, 15, .inl (av X.2.2.2.2.2.2.1))) := by
  rw [cW_C4 h, uC_at]
set_option maxRecDepth 100000 in
theorem cW_T1 {z : Nat → Nat → Int} {f : Nat → Int → Int} {C : Nat → CuR} {T : Nat → TsR} {rc : Nat → Nat} {tl : AmH} {t : Nat} (h : t < 7) : am_nth (cxW z f C T rc tl) (tpl t + 1) = some (.inl (.int, tsn t, .inl (av (T t).2.1))) := by
  match t, h with
  | 0, _ => rfl
  | 1, _ => rfl
  | 2, _ => rfl
  | 3, _ => rfl
  | 4, _ => rfl
  | 5, _ => rfl
  | 6, _ => rfl
theorem cW_T1u {z : Nat → Nat → Int} {f : Nat → Int → Int} {C : Nat → CuR} {T : Nat → TsR} {rc : Nat → Nat} {tl : AmH} {t : Nat} {X : TsR} (h : t < 7) : am_nth (cxW z f C (uT T t X) rc tl) (tpl t + 1) = some (.inl (.int, tsn t, .inl (av X.2.1))) := by
  rw [cW_T1 h, uT_at]
set_option maxRecDepth 100000 in
theorem cW_T2 {z : Nat → Nat → Int} {f : Nat → Int → Int} {C : Nat → CuR} {T : Nat → TsR} {rc : Nat → Nat} {tl : AmH} {t : Nat} (h : t < 7) : am_nth (cxW z f C T rc tl) (tpl t + 2) = some (.inl (.int, tln t, .inl (av (T t).2.2.1))) := by
  match t, h with
  | 0, _ => rfl
  | 1, _ => rfl
  | 2, _ => rfl
  | 3, _ => rfl
  | 4, _ => rfl
  | 5, _ => rfl
  | 6, _ => rfl
theorem cW_T2u {z : Nat → Nat → Int} {f : Nat → Int → Int} {C : Nat → CuR} {T : Nat → TsR} {rc : Nat → Nat} {tl : AmH} {t : Nat} {X : TsR} (h : t < 7) : am_nth (cxW z f C (uT T t X) rc tl) (tpl t + 2) = some (.inl (.int, tln t, .inl (av X.2.2.1))) := by
  rw [cW_T2 h, uT_at]
set_option maxRecDepth 100000 in
theorem cW_T3 {z : Nat → Nat → Int} {f : Nat → Int → Int} {C : Nat → CuR} {T : Nat → TsR} {rc : Nat → Nat} {tl : AmH} {t : Nat} (h : t < 7) : am_nth (cxW z f C T rc tl) (tpl t + 3) = some (.inl (.int, tln t, .inl (av (T t).2.2.2))) := by
  match t, h with
  | 0, _ => rfl
  | 1, _ => rfl
  | 2, _ => rfl
  | 3, _ => rfl
  | 4, _ => rfl
  | 5, _ => rfl
  | 6, _ => rfl
theorem cW_T3u {z : Nat → Nat → Int} {f : Nat → Int → Int} {C : Nat → CuR} {T : Nat → TsR} {rc : Nat → Nat} {tl : AmH} {t : Nat} {X : TsR} (h : t < 7) : am_nth (cxW z f C (uT T t X) rc tl) (tpl t + 3) = some (.inl (.int, tln t, .inl (av X.2.2.2))) := by
  rw [cW_T3 h, uT_at]
set_option maxRecDepth 100000 in
theorem cW_C0q {z : Nat → Nat → Int} {f : Nat → Int → Int} {C : Nat → CuR} {T : Nat → TsR} {rc : Nat → Nat} {tl : AmH} {c : Nat} {x0 : Int} {x1 : Int → Int} {x2 : Int} {x3 : Int} {x4 : Int → Int} {x5 : Int → Int} {x6 : Int → Int} {x7 : Int} {y0 y2 y3 y7 : Int} (h : c < 4) : am_put (cxW z f (uC C c (y0, x1, y2, y3, x4, x5, x6, y7)) T rc tl) (.inr (2, [.int (iz x0), .ref (cpl c + 1), .int (iz x2), .int (iz x3), .ref (cpl c + 2), .ref (cpl c + 3), .ref (cpl c + 4), .int (iz x7)])) (cpl c) = cxW z f (uC C c (x0, x1, x2, x3, x4, x5, x6, x7)) T rc tl := by
  match c, h with
  | 0, _ => rfl
  | 1, _ => rfl
  | 2, _ => rfl
  | 3, _ => rfl
set_option maxRecDepth 100000 in
theorem cW_C0n {z : Nat → Nat → Int} {f : Nat → Int → Int} {C : Nat → CuR} {T : Nat → TsR} {rc : Nat → Nat} {tl : AmH} {c : Nat} {x0 x2 x3 x7 : Int} (h : c < 4) : am_put (cxW z f C T rc tl) (.inr (2, [.int (iz x0), .ref (cpl c + 1), .int (iz x2), .int (iz x3), .ref (cpl c + 2), .ref (cpl c + 3), .ref (cpl c + 4), .int (iz x7)])) (cpl c) = cxW z f (uC C c (x0, (C c).2.1, x2, x3, (C c).2.2.2.2.1, (C c).2.2.2.2.2.1, (C c).2.2.2.2.2.2.1, x7)) T rc tl := by
  match c, h with
  | 0, _ => rfl
  | 1, _ => rfl
  | 2, _ => rfl
  | 3, _ => rfl
set_option maxRecDepth 100000 in
theorem cW_C1q {z : Nat → Nat → Int} {f : Nat → Int → Int} {C : Nat → CuR} {T : Nat → TsR} {rc : Nat → Nat} {tl : AmH} {c : Nat} {x0 : Int} {x1 : Int → Int} {x2 : Int} {x3 : Int} {x4 : Int → Int} {x5 : Int → Int} {x6 : Int → Int} {x7 : Int} {y : Int → Int} (h : c < 4) : am_put (cxW z f (uC C c (x0, y, x2, x3, x4, x5, x6, x7)) T rc tl) (.inl (.int, 4, .inl (av x1))) (cpl c + 1) = cxW z f (uC C c (x0, x1, x2, x3, x4, x5, x6, x7)) T rc tl := by
  match c, h with
  | 0, _ => rfl
  | 1, _ => rfl
  | 2, _ => rfl
  | 3, _ => rfl
set_option maxRecDepth 100000 in
theorem cW_C2q {z : Nat → Nat → Int} {f : Nat → Int → Int} {C : Nat → CuR} {T : Nat → TsR} {rc : Nat → Nat} {tl : AmH} {c : Nat} {x0 : Int} {x1 : Int → Int} {x2 : Int} {x3 : Int} {x4 : Int → Int} {x5 : Int → Int} {x6 : Int → Int} {x7 : Int} {y : Int → Int} (h : c < 4) : am_put (cxW z f (uC C c (x0, x1, x2, x3, y, x5, x6, x7)) T rc tl) (.inl (.int, 60, .inl (av x4))) (cpl c + 2) = cxW z f (uC C c (x0, x1, x2, x3, x4, x5, x6, x7)) T rc tl := by
  match c, h with
  | 0, _ => rfl
  | 1, _ => rfl
  | 2, _ => rfl
  | 3, _ => rfl
set_option maxRecDepth 100000 in
theorem cW_C3q {z : Nat → Nat → Int} {f : Nat → Int → Int} {C : Nat → CuR} {T : Nat → TsR} {rc : Nat → Nat} {tl : AmH} {c : Nat} {x0 : Int} {x1 : Int → Int} {x2 : Int} {x3 : Int} {x4 : Int → Int} {x5 : Int → Int} {x6 : Int → Int} {x7 : Int} {y : Int → Int} (h : c < 4) : am_put (cxW z f (uC C c (x0, x1, x2, x3, x4, y, x6, x7)) T rc tl) (.inl (.int, 15, .inl (av x5))) (cpl c + 3) = cxW z f (uC C c (x0, x1, x2, x3, x4, x5, x6, x7)) T rc tl := by
  match c, h with
  | 0, _ => rfl
  | 1, _ => rfl
  | 2, _ => rfl
  | 3, _ => rfl
set_option maxRecDepth 100000 in
theorem cW_C4q {z : Nat → Nat → Int} {f : Nat → Int → Int} {C : Nat → CuR} {T : Nat → TsR} {rc : Nat → Nat} {tl : AmH} {c : Nat} {x0 : Int} {x1 : Int → Int} {x2 : Int} {x3 : Int} {x4 : Int → Int} {x5 : Int → Int} {x6 : Int → Int} {x7 : Int} {y : Int → Int} (h : c < 4) : am_put (cxW z f (uC C c (x0, x1, x2, x3, x4, x5, y, x7)) T rc tl) (.inl (.int, 15, .inl (av x6))) (cpl c + 4) = cxW z f (uC C c (x0, x1, x2, x3, x4, x5, x6, x7)) T rc tl := by
  match c, h with
  | 0, _ => rfl
  | 1, _ => rfl
  | 2, _ => rfl
  | 3, _ => rfl
set_option maxRecDepth 100000 in
theorem cW_T0q {z : Nat → Nat → Int} {f : Nat → Int → Int} {C : Nat → CuR} {T : Nat → TsR} {rc : Nat → Nat} {tl : AmH} {t : Nat} {x0 : Int} {x1 x2 x3 : Int → Int} {y0 : Int} (h : t < 7) : am_put (cxW z f C (uT T t (y0, x1, x2, x3)) rc tl) (.inr (9, [.int (iz (tlm t)), .int (iz (tsh t)), .ref (tpl t + 1), .ref (tpl t + 2), .ref (tpl t + 3), .int (iz x0)])) (tpl t) = cxW z f C (uT T t (x0, x1, x2, x3)) rc tl := by
  match t, h with
  | 0, _ => rfl
  | 1, _ => rfl
  | 2, _ => rfl
  | 3, _ => rfl
  | 4, _ => rfl
  | 5, _ => rfl
  | 6, _ => rfl
set_option maxRecDepth 100000 in
theorem cW_T0n {z : Nat → Nat → Int} {f : Nat → Int → Int} {C : Nat → CuR} {T : Nat → TsR} {rc : Nat → Nat} {tl : AmH} {t : Nat} {x0 : Int} (h : t < 7) : am_put (cxW z f C T rc tl) (.inr (9, [.int (iz (tlm t)), .int (iz (tsh t)), .ref (tpl t + 1), .ref (tpl t + 2), .ref (tpl t + 3), .int (iz x0)])) (tpl t) = cxW z f C (uT T t (x0, (T t).2.1, (T t).2.2.1, (T t).2.2.2)) rc tl := by
  match t, h with
  | 0, _ => rfl
  | 1, _ => rfl
  | 2, _ => rfl
  | 3, _ => rfl
  | 4, _ => rfl
  | 5, _ => rfl
  | 6, _ => rfl
set_option maxRecDepth 100000 in
theorem cW_T1q {z : Nat → Nat → Int} {f : Nat → Int → Int} {C : Nat → CuR} {T : Nat → TsR} {rc : Nat → Nat} {tl : AmH} {t : Nat} {x0 : Int} {x1 x2 x3 : Int → Int} {y : Int → Int} (h : t < 7) : am_put (cxW z f C (uT T t (x0, y, x2, x3)) rc tl) (.inl (.int, tsn t, .inl (av x1))) (tpl t + 1) = cxW z f C (uT T t (x0, x1, x2, x3)) rc tl := by
  match t, h with
  | 0, _ => rfl
  | 1, _ => rfl
  | 2, _ => rfl
  | 3, _ => rfl
  | 4, _ => rfl
  | 5, _ => rfl
  | 6, _ => rfl
set_option maxRecDepth 100000 in
theorem cW_T2q {z : Nat → Nat → Int} {f : Nat → Int → Int} {C : Nat → CuR} {T : Nat → TsR} {rc : Nat → Nat} {tl : AmH} {t : Nat} {x0 : Int} {x1 x2 x3 : Int → Int} {y : Int → Int} (h : t < 7) : am_put (cxW z f C (uT T t (x0, x1, y, x3)) rc tl) (.inl (.int, tln t, .inl (av x2))) (tpl t + 2) = cxW z f C (uT T t (x0, x1, x2, x3)) rc tl := by
  match t, h with
  | 0, _ => rfl
  | 1, _ => rfl
  | 2, _ => rfl
  | 3, _ => rfl
  | 4, _ => rfl
  | 5, _ => rfl
  | 6, _ => rfl
set_option maxRecDepth 100000 in
theorem cW_T3q {z : Nat → Nat → Int} {f : Nat → Int → Int} {C : Nat → CuR} {T : Nat → TsR} {rc : Nat → Nat} {tl : AmH} {t : Nat} {x0 : Int} {x1 x2 x3 : Int → Int} {y : Int → Int} (h : t < 7) : am_put (cxW z f C (uT T t (x0, x1, x2, y)) rc tl) (.inl (.int, tln t, .inl (av x3))) (tpl t + 3) = cxW z f C (uT T t (x0, x1, x2, x3)) rc tl := by
  match t, h with
  | 0, _ => rfl
  | 1, _ => rfl
  | 2, _ => rfl
  | 3, _ => rfl
  | 4, _ => rfl
  | 5, _ => rfl
  | 6, _ => rfl
set_option maxRecDepth 100000 in
theorem cW_Cr {z : Nat → Nat → Int} {f : Nat → Int → Int} {C : Nat → CuR} {T : Nat → TsR} {rc : Nat → Nat} {tl : AmH} {c : Nat} {as : List Value} (h : c < 4) : am_recv 2 (.ref (cpl c) :: as) (cxW z f C T rc tl) = true := by
  match c, h with
  | 0, _ => rfl
  | 1, _ => rfl
  | 2, _ => rfl
  | 3, _ => rfl
set_option maxRecDepth 100000 in
theorem cW_Tr {z : Nat → Nat → Int} {f : Nat → Int → Int} {C : Nat → CuR} {T : Nat → TsR} {rc : Nat → Nat} {tl : AmH} {t : Nat} {as : List Value} (h : t < 7) : am_recv 9 (.ref (tpl t) :: as) (cxW z f C T rc tl) = true := by
  match t, h with
  | 0, _ => rfl
  | 1, _ => rfl
  | 2, _ => rfl
  | 3, _ => rfl
  | 4, _ => rfl
  | 5, _ => rfl
  | 6, _ => rfl
theorem cus_at {j : Nat} (h : j < 4) : (va_up (va_up (va_up (va_up (fun _ => none) 0 (some 15)) 1 (some 20)) 2 (some 25)) 3 (some 30)) j = some (cpl j) := by
  match j, h with
  | 0, _ => rfl
  | 1, _ => rfl
  | 2, _ => rfl
  | 3, _ => rfl
theorem lev_at {j : Nat} (h : j < 5) : (va_up (va_up (va_up (va_up (va_up (fun _ => none) 0 (some 66)) 1 (some 70)) 2 (some 74)) 3 (some 78)) 4 (some 82)) j = some (tpl j) := by
  match j, h with
  | 0, _ => rfl
  | 1, _ => rfl
  | 2, _ => rfl
  | 3, _ => rfl
  | 4, _ => rfl
theorem uC_eta (C : Nat → CuR) (c : Nat) : uC C c (C c) = C := by
  funext i
  by_cases h : i = c
  · rw [h, uC_at]
  · rw [uC_ne _ _ h]
theorem uT_eta (T : Nat → TsR) (c : Nat) : uT T c (T c) = T := by
  funext i
  by_cases h : i = c
  · rw [h, uT_at]
  · rw [uT_ne _ _ h]
theorem Rx.fC {d : Nat} {m : AmM} {pc : Nat} {L : AmL} {st : List Value} {P : Option Value → AmH → Prop} {z : Nat → Nat → Int} {f : Nat → Int → Int} {C : Nat → CuR} {T : Nat → TsR} {rc : Nat → Nat} {tl : AmH} {t : Nat} (k : Rx d m pc L st (cxW z f (uC C t ((C t).1, (C t).2.1, (C t).2.2.1, (C t).2.2.2.1, (C t).2.2.2.2.1, (C t).2.2.2.2.2.1, (C t).2.2.2.2.2.2.1, (C t).2.2.2.2.2.2.2)) T rc tl) P) : Rx d m pc L st (cxW z f C T rc tl) P := by
  have e : uC C t ((C t).1, (C t).2.1, (C t).2.2.1, (C t).2.2.2.1, (C t).2.2.2.2.1, (C t).2.2.2.2.2.1, (C t).2.2.2.2.2.2.1, (C t).2.2.2.2.2.2.2) = C := uC_eta C t
  rw [e] at k
  exact k
theorem Rx.fT {d : Nat} {m : AmM} {pc : Nat} {L : AmL} {st : List Value} {P : Option Value → AmH → Prop} {z : Nat → Nat → Int} {f : Nat → Int → Int} {C : Nat → CuR} {T : Nat → TsR} {rc : Nat → Nat} {tl : AmH} {t : Nat} (k : Rx d m pc L st (cxW z f C (uT T t ((T t).1, (T t).2.1, (T t).2.2.1, (T t).2.2.2)) rc tl) P) : Rx d m pc L st (cxW z f C T rc tl) P := by
  have e : uT T t ((T t).1, (T t).2.1, (T t).2.2.1, (T t).2.2.2) = T := uT_eta T t
  rw [e] at k
  exact k
section RxSym
variable {d : Nat} {m m' : AmM} {pc : Nat} {L : AmL} {h h' : AmH} {P P' : Option Value → AmH → Prop} {rest as st : List Value} {len : Nat} {v w : Value} {q x : Nat} {e : Nat × Nat × Nat × Bool} {fs : List Value}
/-- a field of an object that lies at a place q -/
theorem Rx.gfS (hat : am_at m.2.2.2.2.2 pc = some (.getfield x, len, v)) (hl : am_look (am_fl m.2.2.1) x = some e) (hq : am_nth h q = some (.inr (e.1, fs))) (hf : am_nth fs e.2.1 = some w) (k : Rx d m (pc + 3) L (w :: rest) h P) : Rx d m pc L (.ref q :: rest) h P := by
  refine Rx.one (am_one_h (n := 3) hat rfl ?_) k
  show (match am_look (am_fl m.2.2.1) x, (Value.ref q :: rest) with
    | some e, .ref a :: r => am_gf e a r h
    | _, _ => (none : AmQ)) = _
  rw [hl]
  show am_gf e q rest h = _
  unfold am_gf
  rw [hq]
  simp only [Nat.beq_refl, cond_true]
  rw [hf]
theorem Rx.pfS (hat : am_at m.2.2.2.2.2 pc = some (.putfield x, len, v)) (hl : am_look (am_fl m.2.2.1) x = some e) (hq : am_nth h q = some (.inr (e.1, fs))) (hf : (am_fit e.2.2.1 w && ((!e.2.2.2 || (am_ini m && Nat.beq (am_oc m.2.2.1) e.1)) && Nat.blt e.2.1 fs.length)) = true) (hh : am_put h (.inr (e.1, am_put fs w e.2.1)) q = h') (k : Rx d m (pc + 3) L rest h' P) : Rx d m pc L (w :: .ref q :: rest) h P := by
  refine Rx.one (am_one_h (n := 3) hat rfl ?_) k
  show (match am_look (am_fl m.2.2.1) x, (w :: Value.ref q :: rest) with
    | some e, v :: .ref a :: r => am_pf m.2.2.1 (am_ini m) e v a r h
    | _, _ => (none : AmQ)) = _
  rw [hl]
  show am_pf m.2.2.1 (am_ini m) e w q rest h = _
  unfold am_pf
  rw [hq]
  simp only [Nat.beq_refl, Bool.true_and]
  rw [hf, hh]
  rfl
theorem Rx.alS {ty : FieldType} {A : vp_A} (hat : am_at m.2.2.2.2.2 pc = some (.arraylength, len, v)) (hq : am_nth h q = some (.inl (ty, A))) (k : Rx d m (pc + 1) L (.int (iz (A.1 : Int)) :: rest) h P) : Rx d m pc L (.ref q :: rest) h P := by
  refine Rx.one (am_one_h (n := 1) hat rfl ?_) k
  show (match am_nth h q with
      | some (.inl (_, n, _)) => some (1, Value.int (Int32.ofNat n) :: rest, h)
      | _ => (none : AmQ)) = _
  rw [hq]
  show some (1, Value.int (nI A.1) :: rest, h) = _
  rw [iz_nI]
theorem Rx.retB {a : Int} (hat : am_at m.2.2.2.2.2 pc = some (.ireturn, len, v)) (hr : m.2.2.2.2.1 = some .boolean) (ha : a = 0 ∨ a = 1) (p : P (some (.int (iz a))) h) : Rx d m pc L [.int (iz a)] h P := by
  refine Rx.rb hat hr ?_ p
  rcases ha with rfl | rfl <;> rfl
/-- a virtual call on an object at a place q -/
theorem Rx.callxv {n rcv : Nat} (hat : am_at m.2.2.2.2.2 pc = some (.invokevirtual x, len, v)) (hs : am_pure (.invokevirtual x) v pc L st = none) (hl : am_look (am_ml m.2.2.1) x = some (3, m', n, rcv)) (ht : (match am_take (n + 1) st [] with
      | some (as, r) => bif am_low r && Nat.ble (am_sl1 as).length m'.2.2.2.1 then some (as, r) else none
      | none => none) = some (as, rest)) (hr : am_recv rcv as h = true) (kc : Rx d m' 0 (am_ent as m'.2.2.2.1) [] h P') (k : ∀ v1 h1, P' v1 h1 → Rx (d + 1) m (pc + 3) L (v1.toList ++ rest) h1 P) : Rx (d + 1) m pc L st h P := by
  refine Rx.callx (m' := m') (as := as) (rest := rest) ?_ kc k
  unfold am_isC am_one
  rw [hat]
  simp only [hs]
  show (match am_ret m.2.2.2.2.1 (.invokevirtual x) st with
    | some _ => none
    | none => match am_new m.2.2.1 h.length (.invokevirtual x) st with
      | some _ => none
      | none => am_call m.2.2.1 (.invokevirtual x) st h) = _
  rw [show am_ret m.2.2.2.2.1 (.invokevirtual x) st = none from rfl]
  show am_call m.2.2.1 (.invokevirtual x) st h = _
  unfold am_call
  simp only [hl]
  cases e1 : am_take (n + 1) st [] with
  | none => rw [e1] at ht; cases ht
  | some p =>
    obtain ⟨as', r'⟩ := p
    rw [e1] at ht
    simp only [] at ht ⊢
    cases e2 : am_low r' && Nat.ble (am_sl1 as').length m'.2.2.2.1 with
    | false => rw [e2] at ht; cases ht
    | true =>
      rw [e2] at ht
      simp only [cond_true, Option.some.injEq, Prod.mk.injEq] at ht
      obtain ⟨rfl, rfl⟩ := ht
      rw [Bool.and_eq_true] at e2
      rw [e2.1, e2.2, hr]
      rfl
end RxSym

/-! ints told as integers: iz, jz; the rows of the judgement Rx over them -/
def iz (e : Int) : Int32 := Int32.ofInt e
def jz (e : Int) : Int64 := Int64.ofInt e
def bI (e : Int) : Prop := -2147483648 ≤ e ∧ e < 2147483648
def bJ (e : Int) : Prop := -9223372036854775808 ≤ e ∧ e < 9223372036854775808
theorem iz_add (a b : Int) : iz a + iz b = iz (a + b) := (Int32.ofInt_add a b).symm
theorem iz_sub (a b : Int) : iz a - iz b = iz (a - b) := (Int32.ofInt_sub a b).symm
theorem iz_mul (a b : Int) : iz a * iz b = iz (a * b) := (Int32.ofInt_mul a b).symm
theorem jz_add (a b : Int) : jz a + jz b = jz (a + b) := (Int64.ofInt_add a b).symm
theorem jz_sub (a b : Int) : jz a - jz b = jz (a - b) := (Int64.ofInt_sub a b).symm
theorem jz_mul (a b : Int) : jz a * jz b = jz (a * b) := (Int64.ofInt_mul a b).symm
theorem iz_toInt {a : Int} (h : bI a) : (iz a).toInt = a := Int32.toInt_ofInt_of_le (by have := h.1; omega) (by have := h.2; omega)
theorem jz_toInt {a : Int} (h : bJ a) : (jz a).toInt = a := Int64.toInt_ofInt_of_le (by have := h.1; omega) (by have := h.2; omega)
theorem iz_of (x : Int32) : iz x.toInt = x := Int32.ofInt_toInt x
theorem jz_of (x : Int64) : jz x.toInt = x := Int64.ofInt_toInt x
theorem iz_bI (x : Int32) : bI x.toInt := ⟨by have := Int32.le_toInt x; omega, by have := Int32.toInt_lt x; omega⟩
theorem jz_bJ (x : Int64) : bJ x.toInt := ⟨by have := Int64.le_toInt x; omega, by have := Int64.toInt_lt x; omega⟩
theorem iz_ex (x : Int32) : ∃ e, bI e ∧ x = iz e := ⟨x.toInt, iz_bI x, (iz_of x).symm⟩
theorem jz_ex (x : Int64) : ∃ e, bJ e ∧ x = jz e := ⟨x.toInt, jz_bJ x, (jz_of x).symm⟩
theorem iz_lt {a b : Int} (ha : bI a) (hb : bI b) : iz a < iz b ↔ a < b := by rw [Int32.lt_iff_toInt_lt, iz_toInt ha, iz_toInt hb]
theorem iz_le {a b : Int} (ha : bI a) (hb : bI b) : iz a ≤ iz b ↔ a ≤ b := by rw [Int32.le_iff_toInt_le, iz_toInt ha, iz_toInt hb]
theorem iz_eq {a b : Int} (ha : bI a) (hb : bI b) : iz a = iz b ↔ a = b := by rw [← Int32.toInt_inj, iz_toInt ha, iz_toInt hb]
theorem jz_lt {a b : Int} (ha : bJ a) (hb : bJ b) : jz a < jz b ↔ a < b := by rw [Int64.lt_iff_toInt_lt, jz_toInt ha, jz_toInt hb]
theorem jz_le {a b : Int} (ha : bJ a) (hb : bJ b) : jz a ≤ jz b ↔ a ≤ b := by rw [Int64.le_iff_toInt_le, jz_toInt ha, jz_toInt hb]
theorem jz_eq {a b : Int} (ha : bJ a) (hb : bJ b) : jz a = jz b ↔ a = b := by rw [← Int64.toInt_inj, jz_toInt ha, jz_toInt hb]
theorem iz_nI (j : Nat) : iz (j : Int) = nI j := Int32.ofInt_eq_ofNat
theorem iz_l {a : Int} (h : bI a) : (iz a).toInt64 = jz a := Int64.toInt_inj.mp (by rw [Int32.toInt_toInt64, iz_toInt h, jz_toInt ⟨by have := h.1; omega, by have := h.2; omega⟩])
theorem jz_i (a : Int) : (jz a).toInt32 = iz a := by
  apply Int32.toInt_inj.mp
  rw [Int64.toInt_toInt32]
  show (Int64.ofInt a).toInt.bmod (2 ^ 32) = (Int32.ofInt a).toInt
  rw [Int64.toInt_ofInt, Int32.toInt_ofInt]
  show (a.bmod 18446744073709551616).bmod 4294967296 = a.bmod 4294967296
  simp only [Int.bmod_def]
  omega
theorem iz_tdiv {a b : Int} (ha : bI a) (hb : bI b) : iz a / iz b = iz (a.tdiv b) := (Int32.ofInt_tdiv (by have := ha.1; show -2147483648 ≤ a; omega) (by have := ha.2; show a ≤ 2147483647; omega) (by have := hb.1; show -2147483648 ≤ b; omega) (by have := hb.2; show b ≤ 2147483647; omega)).symm
theorem jz_tdiv {a b : Int} (ha : bJ a) (hb : bJ b) : jz a / jz b = jz (a.tdiv b) := (Int64.ofInt_tdiv (by have := ha.1; show -9223372036854775808 ≤ a; omega) (by have := ha.2; show a ≤ 9223372036854775807; omega) (by have := hb.1; show -9223372036854775808 ≤ b; omega) (by have := hb.2; show b ≤ 9223372036854775807; omega)).symm
theorem iz_div {a b : Int} (ha : bI a) (hb : bI b) (h0 : 0 ≤ a) : iz a / iz b = iz (a / b) := by rw [iz_tdiv ha hb, Int.tdiv_eq_ediv_of_nonneg h0]
theorem jz_div {a b : Int} (ha : bJ a) (hb : bJ b) (h0 : 0 ≤ a) : jz a / jz b = jz (a / b) := by rw [jz_tdiv ha hb, Int.tdiv_eq_ediv_of_nonneg h0]
theorem iz_mod {a b : Int} (ha : bI a) (hb : bI b) (h0 : 0 ≤ a) : iz a - iz a / iz b * iz b = iz (a % b) := by rw [iz_div ha hb h0, iz_mul, iz_sub, Int.emod_def, Int.mul_comm]
theorem jz_mod {a b : Int} (ha : bJ a) (hb : bJ b) (h0 : 0 ≤ a) : jz a - jz a / jz b * jz b = jz (a % b) := by rw [jz_div ha hb h0, jz_mul, jz_sub, Int.emod_def, Int.mul_comm]
theorem iz_tmod {a b : Int} (ha : bI a) (hb : bI b) : iz a - iz a / iz b * iz b = iz (a.tmod b) := by rw [iz_tdiv ha hb, iz_mul, iz_sub, Int.tmod_def, Int.mul_comm]
/-- truth as a number -/
def bz (b : Bool) : Int := cond b 1 0
theorem bz_t : bz true = 1 := rfl
theorem bz_f : bz false = 0 := rfl
theorem bz_isB (b : Bool) : am_isB (iz (bz b)) = true := by cases b <;> rfl
/-- contents of arrays -/
def av (g : Int → Int) : Nat → Int32 := fun i => iz (g i)
def lv (g : Int → Int) : Nat → Int64 := fun i => jz (g i)
def iu (g : Int → Int) (e y : Int) : Int → Int := fun i => if i = e then y else g i
theorem iu_at (g : Int → Int) (e y : Int) : iu g e y e = y := if_pos rfl
theorem iu_ne (g : Int → Int) {e i : Int} (y : Int) (h : i ≠ e) : iu g e y i = g i := if_neg h
theorem av_upd (g : Int → Int) (j : Nat) (y : Int) : upd (av g) j (iz y) = av (iu g j y) := by
  funext i
  unfold upd av iu
  by_cases h : i = j
  · rw [if_pos h, if_pos (by omega)]
  · rw [if_neg h, if_neg (by omega)]
theorem lv_upd (g : Int → Int) (j : Nat) (y : Int) : vp_updL (lv g) j (jz y) = lv (iu g j y) := by
  funext i
  unfold vp_updL lv iu
  by_cases h : i = j
  · rw [if_pos h, if_pos (by omega)]
  · rw [if_neg h, if_neg (by omega)]
section RxInts
variable {d : Nat} {m m' : AmM} {pc pc' : Nat} {L L' : AmL} {st st' : List Value} {h h' h1 h2 : AmH} {P P' : Option Value → AmH → Prop} {rest : List Value} {i : Jvm.ClassFile.Instr} {len t : Nat} {v : Value} {a b : Int} {off : Int}
theorem Rx.one (e : am_one m pc L st h = some (pc', L', st', h')) (k : Rx d m pc' L' st' h' P) : Rx d m pc L st h P := by
  obtain ⟨x, y, k, p⟩ := k
  exact ⟨x, y, Rn.one e k, p⟩
theorem Rx.iadd (hat : am_at m.2.2.2.2.2 pc = some (.iadd, len, v)) (k : Rx d m (pc + 1) L (.int (iz (a + b)) :: rest) h P) : Rx d m pc L (.int (iz b) :: .int (iz a) :: rest) h P := Rx.one (am_one_p hat (show some (pc + 1, L, Value.int (iz a + iz b) :: rest) = _ by rw [iz_add])) k
theorem Rx.isub (hat : am_at m.2.2.2.2.2 pc = some (.isub, len, v)) (k : Rx d m (pc + 1) L (.int (iz (a - b)) :: rest) h P) : Rx d m pc L (.int (iz b) :: .int (iz a) :: rest) h P := Rx.one (am_one_p hat (show some (pc + 1, L, Value.int (iz a - iz b) :: rest) = _ by rw [iz_sub])) k
theorem Rx.imul (hat : am_at m.2.2.2.2.2 pc = some (.imul, len, v)) (k : Rx d m (pc + 1) L (.int (iz (a * b)) :: rest) h P) : Rx d m pc L (.int (iz b) :: .int (iz a) :: rest) h P := Rx.one (am_one_p hat (show some (pc + 1, L, Value.int (iz a * iz b) :: rest) = _ by rw [iz_mul])) k
theorem Rx.ladd (hat : am_at m.2.2.2.2.2 pc = some (.ladd, len, v)) (k : Rx d m (pc + 1) L (.long (jz (a + b)) :: rest) h P) : Rx d m pc L (.long (jz b) :: .long (jz a) :: rest) h P := Rx.one (am_one_p hat (show some (pc + 1, L, Value.long (jz a + jz b) :: rest) = _ by rw [jz_add])) k
theorem Rx.lsub (hat : am_at m.2.2.2.2.2 pc = some (.lsub, len, v)) (k : Rx d m (pc + 1) L (.long (jz (a - b)) :: rest) h P) : Rx d m pc L (.long (jz b) :: .long (jz a) :: rest) h P := Rx.one (am_one_p hat (show some (pc + 1, L, Value.long (jz a - jz b) :: rest) = _ by rw [jz_sub])) k
theorem Rx.lmul (hat : am_at m.2.2.2.2.2 pc = some (.lmul, len, v)) (k : Rx d m (pc + 1) L (.long (jz (a * b)) :: rest) h P) : Rx d m pc L (.long (jz b) :: .long (jz a) :: rest) h P := Rx.one (am_one_p hat (show some (pc + 1, L, Value.long (jz a * jz b) :: rest) = _ by rw [jz_mul])) k
theorem iz_ne0 (hb : bI b) (h0 : b ≠ 0) : ¬ iz b = 0 := fun q => h0 ((iz_eq hb ⟨by decide, by decide⟩).mp (q.trans (by rfl)))
theorem jz_ne0 (hb : bJ b) (h0 : b ≠ 0) : ¬ jz b = 0 := fun q => h0 ((jz_eq hb ⟨by decide, by decide⟩).mp (q.trans (by rfl)))
/-- division, of what is not below 0 -/
theorem Rx.idiv (hat : am_at m.2.2.2.2.2 pc = some (.idiv, len, v)) (ha : bI a) (hb : bI b) (h0 : 0 ≤ a) (hb0 : b ≠ 0) (k : Rx d m (pc + 1) L (.int (iz (a / b)) :: rest) h P) : Rx d m pc L (.int (iz b) :: .int (iz a) :: rest) h P := Rx.one (am_one_p hat (show (if iz b = 0 then none else some (pc + 1, L, Value.int (iz a / iz b) :: rest)) = _ by rw [if_neg (iz_ne0 hb hb0), iz_div ha hb h0])) k
theorem Rx.irem (hat : am_at m.2.2.2.2.2 pc = some (.irem, len, v)) (ha : bI a) (hb : bI b) (h0 : 0 ≤ a) (hb0 : b ≠ 0) (k : Rx d m (pc + 1) L (.int (iz (a % b)) :: rest) h P) : Rx d m pc L (.int (iz b) :: .int (iz a) :: rest) h P := Rx.one (am_one_p hat (show (if iz b = 0 then none else some (pc + 1, L, Value.int (iz a - iz a / iz b * iz b) :: rest)) = _ by rw [if_neg (iz_ne0 hb hb0), iz_mod ha hb h0])) k
theorem Rx.idivT (hat : am_at m.2.2.2.2.2 pc = some (.idiv, len, v)) (ha : bI a) (hb : bI b) (hb0 : b ≠ 0) (k : Rx d m (pc + 1) L (.int (iz (a.tdiv b)) :: rest) h P) : Rx d m pc L (.int (iz b) :: .int (iz a) :: rest) h P := Rx.one (am_one_p hat (show (if iz b = 0 then none else some (pc + 1, L, Value.int (iz a / iz b) :: rest)) = _ by rw [if_neg (iz_ne0 hb hb0), iz_tdiv ha hb])) k
theorem Rx.iremT (hat : am_at m.2.2.2.2.2 pc = some (.irem, len, v)) (ha : bI a) (hb : bI b) (hb0 : b ≠ 0) (k : Rx d m (pc + 1) L (.int (iz (a.tmod b)) :: rest) h P) : Rx d m pc L (.int (iz b) :: .int (iz a) :: rest) h P := Rx.one (am_one_p hat (show (if iz b = 0 then none else some (pc + 1, L, Value.int (iz a - iz a / iz b * iz b) :: rest)) = _ by rw [if_neg (iz_ne0 hb hb0), iz_tmod ha hb])) k
theorem Rx.ldiv (hat : am_at m.2.2.2.2.2 pc = some (.ldiv, len, v)) (ha : bJ a) (hb : bJ b) (h0 : 0 ≤ a) (hb0 : b ≠ 0) (k : Rx d m (pc + 1) L (.long (jz (a / b)) :: rest) h P) : Rx d m pc L (.long (jz b) :: .long (jz a) :: rest) h P := Rx.one (am_one_p hat (show (if jz b = 0 then none else some (pc + 1, L, Value.long (jz a / jz b) :: rest)) = _ by rw [if_neg (jz_ne0 hb hb0), jz_div ha hb h0])) k
theorem Rx.ldivT (hat : am_at m.2.2.2.2.2 pc = some (.ldiv, len, v)) (ha : bJ a) (hb : bJ b) (hb0 : b ≠ 0) (k : Rx d m (pc + 1) L (.long (jz (a.tdiv b)) :: rest) h P) : Rx d m pc L (.long (jz b) :: .long (jz a) :: rest) h P := Rx.one (am_one_p hat (show (if jz b = 0 then none else some (pc + 1, L, Value.long (jz a / jz b) :: rest)) = _ by rw [if_neg (jz_ne0 hb hb0), jz_tdiv ha hb])) k
theorem Rx.lrem (hat : am_at m.2.2.2.2.2 pc = some (.lrem, len, v)) (ha : bJ a) (hb : bJ b) (h0 : 0 ≤ a) (hb0 : b ≠ 0) (k : Rx d m (pc + 1) L (.long (jz (a % b)) :: rest) h P) : Rx d m pc L (.long (jz b) :: .long (jz a) :: rest) h P := Rx.one (am_one_p hat (show (if jz b = 0 then none else some (pc + 1, L, Value.long (jz a - jz a / jz b * jz b) :: rest)) = _ by rw [if_neg (jz_ne0 hb hb0), jz_mod ha hb h0])) k
theorem Rx.i2l (hat : am_at m.2.2.2.2.2 pc = some (.i2l, len, v)) (ha : bI a) (k : Rx d m (pc + 1) L (.long (jz a) :: rest) h P) : Rx d m pc L (.int (iz a) :: rest) h P := Rx.one (am_one_p hat (show some (pc + 1, L, Value.long (iz a).toInt64 :: rest) = _ by rw [iz_l ha])) k
theorem Rx.l2i (hat : am_at m.2.2.2.2.2 pc = some (.l2i, len, v)) (k : Rx d m (pc + 1) L (.int (iz a) :: rest) h P) : Rx d m pc L (.long (jz a) :: rest) h P := Rx.one (am_one_p hat (show some (pc + 1, L, Value.int (jz a).toInt32 :: rest) = _ by rw [jz_i])) k
theorem Rx.iinc {q : Nat} {dn : Int} {n : Int32} (hat : am_at m.2.2.2.2.2 pc = some (.iinc q dn, len, .int n)) (hg : am_get L q = some (.int (iz a))) (hn : n = iz b) (k : Rx d m (pc + 3) (am_set1 L q (.int (iz (a + b)))) st h P) : Rx d m pc L st h P := Rx.one (am_one_p hat (show (match am_get L q, Value.int n with
    | some (.int x), .int n => some (pc + 3, am_set1 L q (.int (x + n)), st)
    | _, _ => none) = some (pc + 3, am_set1 L q (.int (iz (a + b))), st) by rw [hg, hn, ← iz_add])) k
theorem Rx.brI {c c' : Prop} [Decidable c'] {f : Nat} {L1 L2 : AmL} {s1 s2 : List Value} (hat : am_at m.2.2.2.2.2 pc = some (i, len, v)) (hp : am_pure i v pc L st = if c' then some (t, L1, s1) else some (f, L2, s2)) (hc : c' ↔ c) (kt : c → Rx d m t L1 s1 h P) (kf : ¬ c → Rx d m f L2 s2 h P) : Rx d m pc L st h P := Rx.br hat hp (fun q => kt (hc.mp q)) (fun q => kf (fun x => q (hc.mpr x)))
theorem am_br_t {c : Prop} [Decidable c] {L : AmL} {r : List Value} (ht : am_tg pc off = some t) : am_br c pc off L r = if c then some (t, L, r) else some (pc + 3, L, r) := by
  unfold am_br
  rw [ht]
theorem am_brn_t {c : Prop} [Decidable c] {L : AmL} {r : List Value} (ht : am_tg pc off = some t) : am_brn c pc off L r = if c then some (pc + 3, L, r) else some (t, L, r) := by
  unfold am_brn
  rw [ht]
theorem Rx.lt2 (hat : am_at m.2.2.2.2.2 pc = some (.if_icmp .lt off, len, v)) (ht : am_tg pc off = some t) (ha : bI a) (hb : bI b) (kt : a < b → Rx d m t L rest h P) (kf : b ≤ a → Rx d m (pc + 3) L rest h P) : Rx d m pc L (.int (iz b) :: .int (iz a) :: rest) h P := Rx.brI hat (show am_br (iz a < iz b) pc off L rest = _ from am_br_t ht) (iz_lt ha hb) kt (fun q => kf (by omega))
theorem Rx.ge2 (hat : am_at m.2.2.2.2.2 pc = some (.if_icmp .ge off, len, v)) (ht : am_tg pc off = some t) (ha : bI a) (hb : bI b) (kt : b ≤ a → Rx d m t L rest h P) (kf : a < b → Rx d m (pc + 3) L rest h P) : Rx d m pc L (.int (iz b) :: .int (iz a) :: rest) h P := Rx.brI hat (show am_br (iz b ≤ iz a) pc off L rest = _ from am_br_t ht) (iz_le hb ha) kt (fun q => kf (by omega))
theorem Rx.gt2 (hat : am_at m.2.2.2.2.2 pc = some (.if_icmp .gt off, len, v)) (ht : am_tg pc off = some t) (ha : bI a) (hb : bI b) (kt : b < a → Rx d m t L rest h P) (kf : a ≤ b → Rx d m (pc + 3) L rest h P) : Rx d m pc L (.int (iz b) :: .int (iz a) :: rest) h P := Rx.brI hat (show am_br (iz b < iz a) pc off L rest = _ from am_br_t ht) (iz_lt hb ha) kt (fun q => kf (by omega))
theorem Rx.le2 (hat : am_at m.2.2.2.2.2 pc = some (.if_icmp .le off, len, v)) (ht : am_tg pc off = some t) (ha : bI a) (hb : bI b) (kt : a ≤ b → Rx d m t L rest h P) (kf : b < a → Rx d m (pc + 3) L rest h P) : Rx d m pc L (.int (iz b) :: .int (iz a) :: rest) h P := Rx.brI hat (show am_br (iz a ≤ iz b) pc off L rest = _ from am_br_t ht) (iz_le ha hb) kt (fun q => kf (by omega))
theorem Rx.eq2 (hat : am_at m.2.2.2.2.2 pc = some (.if_icmp .eq off, len, v)) (ht : am_tg pc off = some t) (ha : bI a) (hb : bI b) (kt : a = b → Rx d m t L rest h P) (kf : a ≠ b → Rx d m (pc + 3) L rest h P) : Rx d m pc L (.int (iz b) :: .int (iz a) :: rest) h P := Rx.brI hat (show am_br (iz a = iz b) pc off L rest = _ from am_br_t ht) (iz_eq ha hb) kt kf
theorem Rx.ne2 (hat : am_at m.2.2.2.2.2 pc = some (.if_icmp .ne off, len, v)) (ht : am_tg pc off = some t) (ha : bI a) (hb : bI b) (kt : a ≠ b → Rx d m t L rest h P) (kf : a = b → Rx d m (pc + 3) L rest h P) : Rx d m pc L (.int (iz b) :: .int (iz a) :: rest) h P := Rx.brI hat (show am_brn (iz a = iz b) pc off L rest = _ from am_brn_t ht) (iz_eq ha hb) kf kt
theorem iz_zero : iz 0 = 0 := by rfl
theorem bI_0 : bI 0 := ⟨by decide, by decide⟩
theorem Rx.lt1 (hat : am_at m.2.2.2.2.2 pc = some (.ifCond .lt off, len, v)) (ht : am_tg pc off = some t) (ha : bI a) (kt : a < 0 → Rx d m t L rest h P) (kf : 0 ≤ a → Rx d m (pc + 3) L rest h P) : Rx d m pc L (.int (iz a) :: rest) h P := Rx.brI hat (show am_br (iz a < 0) pc off L rest = _ from am_br_t ht) (iz_lt ha bI_0) kt (fun q => kf (by omega))
theorem Rx.ge1 (hat : am_at m.2.2.2.2.2 pc = some (.ifCond .ge off, len, v)) (ht : am_tg pc off = some t) (ha : bI a) (kt : 0 ≤ a → Rx d m t L rest h P) (kf : a < 0 → Rx d m (pc + 3) L rest h P) : Rx d m pc L (.int (iz a) :: rest) h P := Rx.brI hat (show am_br ((0 : Int32) ≤ iz a) pc off L rest = _ from am_br_t ht) (iz_le bI_0 ha) kt (fun q => kf (by omega))
theorem Rx.gt1 (hat : am_at m.2.2.2.2.2 pc = some (.ifCond .gt off, len, v)) (ht : am_tg pc off = some t) (ha : bI a) (kt : 0 < a → Rx d m t L rest h P) (kf : a ≤ 0 → Rx d m (pc + 3) L rest h P) : Rx d m pc L (.int (iz a) :: rest) h P := Rx.brI hat (show am_br ((0 : Int32) < iz a) pc off L rest = _ from am_br_t ht) (iz_lt bI_0 ha) kt (fun q => kf (by omega))
theorem Rx.le1 (hat : am_at m.2.2.2.2.2 pc = some (.ifCond .le off, len, v)) (ht : am_tg pc off = some t) (ha : bI a) (kt : a ≤ 0 → Rx d m t L rest h P) (kf : 0 < a → Rx d m (pc + 3) L rest h P) : Rx d m pc L (.int (iz a) :: rest) h P := Rx.brI hat (show am_br (iz a ≤ 0) pc off L rest = _ from am_br_t ht) (iz_le ha bI_0) kt (fun q => kf (by omega))
theorem Rx.eq1 (hat : am_at m.2.2.2.2.2 pc = some (.ifCond .eq off, len, v)) (ht : am_tg pc off = some t) (ha : bI a) (kt : a = 0 → Rx d m t L rest h P) (kf : a ≠ 0 → Rx d m (pc + 3) L rest h P) : Rx d m pc L (.int (iz a) :: rest) h P := Rx.brI hat (show am_br (iz a = 0) pc off L rest = _ from am_br_t ht) (iz_eq ha bI_0) kt kf
theorem Rx.ne1 (hat : am_at m.2.2.2.2.2 pc = some (.ifCond .ne off, len, v)) (ht : am_tg pc off = some t) (ha : bI a) (kt : a ≠ 0 → Rx d m t L rest h P) (kf : a = 0 → Rx d m (pc + 3) L rest h P) : Rx d m pc L (.int (iz a) :: rest) h P := Rx.brI hat (show am_brn (iz a = 0) pc off L rest = _ from am_brn_t ht) (iz_eq ha bI_0) kf kt
theorem bz_bI (c : Bool) : bI (bz c) := by cases c <;> exact ⟨by decide, by decide⟩
theorem Rx.eqb {c : Bool} (hat : am_at m.2.2.2.2.2 pc = some (.ifCond .eq off, len, v)) (ht : am_tg pc off = some t) (kt : c = false → Rx d m t L rest h P) (kf : c = true → Rx d m (pc + 3) L rest h P) : Rx d m pc L (.int (iz (bz c)) :: rest) h P := Rx.eq1 hat ht (bz_bI c) (fun q => kt (by cases c <;> simp_all [bz])) (fun q => kf (by cases c <;> simp_all [bz]))
theorem Rx.neb {c : Bool} (hat : am_at m.2.2.2.2.2 pc = some (.ifCond .ne off, len, v)) (ht : am_tg pc off = some t) (kt : c = true → Rx d m t L rest h P) (kf : c = false → Rx d m (pc + 3) L rest h P) : Rx d m pc L (.int (iz (bz c)) :: rest) h P := Rx.ne1 hat ht (bz_bI c) (fun q => kt (by cases c <;> simp_all [bz])) (fun q => kf (by cases c <;> simp_all [bz]))
/-! a comparison of longs, and the branch behind it -/
theorem jz_cmp_lt (ha : bJ a) (hb : bJ b) (q : a < b) : lg_cmp (jz a) (jz b) = iz (-1) := by
  unfold lg_cmp
  rw [if_neg (show ¬ jz b < jz a by rw [jz_lt hb ha]; omega), if_neg (by rw [jz_eq ha hb]; omega)]
  rfl
theorem jz_cmp_gt (ha : bJ a) (hb : bJ b) (q : b < a) : lg_cmp (jz a) (jz b) = iz 1 := by
  unfold lg_cmp
  rw [if_pos ((jz_lt hb ha).mpr q)]
  rfl
theorem jz_cmp_eq (q : a = b) : lg_cmp (jz a) (jz b) = iz 0 := by
  subst q
  rw [lg_cmp_self]
  rfl
def cmz (a b : Int) : Int := if a < b then -1 else if b < a then 1 else 0
theorem lg_cmp_cmz (ha : bJ a) (hb : bJ b) : lg_cmp (jz a) (jz b) = iz (cmz a b) := by
  unfold cmz
  by_cases h1 : a < b
  · rw [if_pos h1, jz_cmp_lt ha hb h1]
  · rw [if_neg h1]
    by_cases h2 : b < a
    · rw [if_pos h2, jz_cmp_gt ha hb h2]
    · rw [if_neg h2, jz_cmp_eq (by omega)]
theorem cmz_lt : cmz a b < 0 ↔ a < b := by unfold cmz; split <;> (try split) <;> omega
theorem cmz_le : cmz a b ≤ 0 ↔ a ≤ b := by unfold cmz; split <;> (try split) <;> omega
theorem cmz_gt : 0 < cmz a b ↔ b < a := by unfold cmz; split <;> (try split) <;> omega
theorem cmz_ge : 0 ≤ cmz a b ↔ b ≤ a := by unfold cmz; split <;> (try split) <;> omega
theorem cmz_eq : cmz a b = 0 ↔ a = b := by unfold cmz; split <;> (try split) <;> omega
theorem cmz_bI : bI (cmz a b) := by unfold cmz bI; split <;> (try split) <;> omega
theorem Rx.lcmp (hat : am_at m.2.2.2.2.2 pc = some (.lcmp, len, v)) (ha : bJ a) (hb : bJ b) (k : Rx d m (pc + 1) L (.int (iz (cmz a b)) :: rest) h P) : Rx d m pc L (.long (jz b) :: .long (jz a) :: rest) h P := Rx.one (am_one_p hat (show some (pc + 1, L, Value.int (lg_cmp (jz a) (jz b)) :: rest) = _ by rw [lg_cmp_cmz ha hb])) k
theorem Rx.ltc (hat : am_at m.2.2.2.2.2 pc = some (.ifCond .lt off, len, v)) (ht : am_tg pc off = some t) (kt : a < b → Rx d m t L rest h P) (kf : b ≤ a → Rx d m (pc + 3) L rest h P) : Rx d m pc L (.int (iz (cmz a b)) :: rest) h P := Rx.lt1 hat ht cmz_bI (fun q => kt (cmz_lt.mp q)) (fun q => kf (cmz_ge.mp q))
theorem Rx.gec (hat : am_at m.2.2.2.2.2 pc = some (.ifCond .ge off, len, v)) (ht : am_tg pc off = some t) (kt : b ≤ a → Rx d m t L rest h P) (kf : a < b → Rx d m (pc + 3) L rest h P) : Rx d m pc L (.int (iz (cmz a b)) :: rest) h P := Rx.ge1 hat ht cmz_bI (fun q => kt (cmz_ge.mp q)) (fun q => kf (cmz_lt.mp q))
theorem Rx.gtc (hat : am_at m.2.2.2.2.2 pc = some (.ifCond .gt off, len, v)) (ht : am_tg pc off = some t) (kt : b < a → Rx d m t L rest h P) (kf : a ≤ b → Rx d m (pc + 3) L rest h P) : Rx d m pc L (.int (iz (cmz a b)) :: rest) h P := Rx.gt1 hat ht cmz_bI (fun q => kt (cmz_gt.mp q)) (fun q => kf (cmz_le.mp q))
theorem Rx.lec (hat : am_at m.2.2.2.2.2 pc = some (.ifCond .le off, len, v)) (ht : am_tg pc off = some t) (kt : a ≤ b → Rx d m t L rest h P) (kf : b < a → Rx d m (pc + 3) L rest h P) : Rx d m pc L (.int (iz (cmz a b)) :: rest) h P := Rx.le1 hat ht cmz_bI (fun q => kt (cmz_le.mp q)) (fun q => kf (cmz_gt.mp q))
theorem Rx.eqc (hat : am_at m.2.2.2.2.2 pc = some (.ifCond .eq off, len, v)) (ht : am_tg pc off = some t) (kt : a = b → Rx d m t L rest h P) (kf : a ≠ b → Rx d m (pc + 3) L rest h P) : Rx d m pc L (.int (iz (cmz a b)) :: rest) h P := Rx.eq1 hat ht cmz_bI (fun q => kt (cmz_eq.mp q)) (fun q => kf (fun x => q (cmz_eq.mpr x)))
theorem Rx.nec (hat : am_at m.2.2.2.2.2 pc = some (.ifCond .ne off, len, v)) (ht : am_tg pc off = some t) (kt : a ≠ b → Rx d m t L rest h P) (kf : a = b → Rx d m (pc + 3) L rest h P) : Rx d m pc L (.int (iz (cmz a b)) :: rest) h P := Rx.ne1 hat ht cmz_bI (fun q => kt (fun x => q (cmz_eq.mpr x))) (fun q => kf (cmz_eq.mp q))
/-! arrays -/
theorem Rx.ial {q n : Nat} {g : Int → Int} (hat : am_at m.2.2.2.2.2 pc = some (.iaload, len, v)) (hq : am_nth h q = some (.inl (.int, n, .inl (av g)))) (h0 : 0 ≤ a) (hn : a < n) (h2 : n < 2 ^ 31) (k : Rx d m (pc + 1) L (.int (iz (g a)) :: rest) h P) : Rx d m pc L (.int (iz a) :: .ref q :: rest) h P := by
  obtain ⟨j, rfl⟩ := Int.eq_ofNat_of_zero_le h0
  exact Rx.iald j hat hq (iz_nI j) (by omega) h2 k
theorem Rx.bal {q n : Nat} {g : Int → Int} (hat : am_at m.2.2.2.2.2 pc = some (.baload, len, v)) (hq : am_nth h q = some (.inl (.byte, n, .inl (av g)))) (h0 : 0 ≤ a) (hn : a < n) (h2 : n < 2 ^ 31) (k : Rx d m (pc + 1) L (.int (iz (g a)) :: rest) h P) : Rx d m pc L (.int (iz a) :: .ref q :: rest) h P := by
  obtain ⟨j, rfl⟩ := Int.eq_ofNat_of_zero_le h0
  exact Rx.bald j hat hq (iz_nI j) (by omega) h2 k
theorem Rx.lal {q n : Nat} {g : Int → Int} (hat : am_at m.2.2.2.2.2 pc = some (.laload, len, v)) (hq : am_nth h q = some (.inl (.long, n, .inr (.inl (lv g))))) (h0 : 0 ≤ a) (hn : a < n) (h2 : n < 2 ^ 31) (k : Rx d m (pc + 1) L (.long (jz (g a)) :: rest) h P) : Rx d m pc L (.int (iz a) :: .ref q :: rest) h P := by
  obtain ⟨j, rfl⟩ := Int.eq_ofNat_of_zero_le h0
  exact Rx.lald j hat hq (iz_nI j) (by omega) h2 k
theorem Rx.aal {q n c : Nat} {ty : FieldType} {f : Nat → Option Nat} (j : Nat) (hat : am_at m.2.2.2.2.2 pc = some (.aaload, len, v)) (hq : am_nth h q = some (.inl (ty, n, .inr (.inr (.inr (.inr f)))))) (ht : am_isRf ty = true) (ha : a = j) (hj : j < n) (h2 : n < 2 ^ 31) (hf : f j = some c) (k : Rx d m (pc + 1) L (.ref c :: rest) h P) : Rx d m pc L (.int (iz a) :: .ref q :: rest) h P := by
  subst ha
  exact Rx.aald j hat hq ht (iz_nI j) hj h2 hf k
theorem Rx.ias {q n : Nat} {g : Int → Int} (hat : am_at m.2.2.2.2.2 pc = some (.iastore, len, v)) (hq : am_nth h q = some (.inl (.int, n, .inl (av g)))) (h0 : 0 ≤ a) (hn : a < n) (h2 : n < 2 ^ 31) (hh : am_put h (.inl (.int, n, .inl (av (iu g a b)))) q = h') (k : Rx d m (pc + 1) L rest h' P) : Rx d m pc L (.int (iz b) :: .int (iz a) :: .ref q :: rest) h P := by
  obtain ⟨j, rfl⟩ := Int.eq_ofNat_of_zero_le h0
  refine Rx.iast j hat hq (iz_nI j) (by omega) h2 ?_
  rw [av_upd, hh]
  exact k
theorem Rx.las {q n : Nat} {g : Int → Int} (hat : am_at m.2.2.2.2.2 pc = some (.lastore, len, v)) (hq : am_nth h q = some (.inl (.long, n, .inr (.inl (lv g))))) (h0 : 0 ≤ a) (hn : a < n) (h2 : n < 2 ^ 31) (hh : am_put h (.inl (.long, n, .inr (.inl (lv (iu g a b))))) q = h') (k : Rx d m (pc + 1) L rest h' P) : Rx d m pc L (.long (jz b) :: .int (iz a) :: .ref q :: rest) h P := by
  obtain ⟨j, rfl⟩ := Int.eq_ofNat_of_zero_le h0
  refine Rx.last j hat hq (iz_nI j) (by omega) h2 ?_
  rw [lv_upd, hh]
  exact k
theorem vp_nar_iz (h1 : -128 ≤ b) (h2 : b < 128) : vp_nar .byte (iz b) = iz b := by
  show (iz b).toInt8.toInt32 = iz b
  apply Int32.toInt_inj.mp
  rw [Int8.toInt_toInt32, Int32.toInt_toInt8, iz_toInt ⟨by omega, by omega⟩]
  simp only [Int.bmod_def]
  omega
theorem Rx.bas {q n : Nat} {g : Int → Int} (hat : am_at m.2.2.2.2.2 pc = some (.bastore, len, v)) (hq : am_nth h q = some (.inl (.byte, n, .inl (av g)))) (h0 : 0 ≤ a) (hn : a < n) (h2 : n < 2 ^ 31) (hb1 : -128 ≤ b) (hb2 : b < 128) (hh : am_put h (.inl (.byte, n, .inl (av (iu g a b)))) q = h') (k : Rx d m (pc + 1) L rest h' P) : Rx d m pc L (.int (iz b) :: .int (iz a) :: .ref q :: rest) h P := by
  obtain ⟨j, rfl⟩ := Int.eq_ofNat_of_zero_le h0
  refine Rx.bast j hat hq (iz_nI j) (by omega) h2 ?_
  rw [vp_nar_iz hb1 hb2, av_upd, hh]
  exact k
theorem Rx.i2b (hat : am_at m.2.2.2.2.2 pc = some (.i2b, len, v)) (k : Rx d m (pc + 1) L (.int (iz (a.bmod 256)) :: rest) h P) : Rx d m pc L (.int (iz a) :: rest) h P := by
  refine Rx.one (am_one_p hat (show some (pc + 1, L, Value.int (iz a).toInt8.toInt32 :: rest) = _ from ?_)) k
  have e : (iz a).toInt8.toInt32 = iz (a.bmod 256) := by
    apply Int32.toInt_inj.mp
    rw [Int8.toInt_toInt32, Int32.toInt_toInt8, iz_toInt (a := a.bmod 256) ⟨by simp only [Int.bmod_def]; omega, by simp only [Int.bmod_def]; omega⟩]
    show ((Int32.ofInt a).toInt).bmod (2 ^ 8) = a.bmod 256
    rw [Int32.toInt_ofInt]
    show (a.bmod 4294967296).bmod 256 = a.bmod 256
    simp only [Int.bmod_def]
    omega
  rw [e]
/-- a truth value is returned -/
theorem Rx.retb {c : Bool} (hat : am_at m.2.2.2.2.2 pc = some (.ireturn, len, v)) (hr : m.2.2.2.2.1 = some .boolean) (p : P (some (.int (iz (bz c)))) h) : Rx d m pc L [.int (iz (bz c))] h P := Rx.rb hat hr (bz_isB c) p
theorem am_max_iz (ha : bI a) (hb : bI b) : am_max (iz a) (iz b) = iz (max a b) := by
  unfold am_max
  by_cases q : a < b
  · rw [if_pos ((iz_lt ha hb).mpr q), Int.max_eq_right (by omega)]
  · rw [if_neg (by rw [iz_lt ha hb]; exact q), Int.max_eq_left (by omega)]
theorem am_min_iz (ha : bI a) (hb : bI b) : am_min (iz a) (iz b) = iz (min a b) := by
  unfold am_min
  by_cases q : b < a
  · rw [if_pos ((iz_lt hb ha).mpr q), Int.min_eq_right (by omega)]
  · rw [if_neg (by rw [iz_lt hb ha]; exact q), Int.min_eq_left (by omega)]
theorem am_maxL_jz (ha : bJ a) (hb : bJ b) : am_maxL (jz a) (jz b) = jz (max a b) := by
  unfold am_maxL
  by_cases q : b < a
  · rw [if_pos ((jz_lt hb ha).mpr q), Int.max_eq_left (by omega)]
  · rw [if_neg (by rw [jz_lt hb ha]; exact q), Int.max_eq_right (by omega)]
theorem am_minL_jz (ha : bJ a) (hb : bJ b) : am_minL (jz a) (jz b) = jz (min a b) := by
  unfold am_minL
  by_cases q : b < a
  · rw [if_pos ((jz_lt hb ha).mpr q), Int.min_eq_right (by omega)]
  · rw [if_neg (by rw [jz_lt hb ha]; exact q), Int.min_eq_left (by omega)]
theorem Rx.imax (e : am_one m pc L st h = some (pc + 3, L, .int (am_max (iz a) (iz b)) :: rest, h)) (ha : bI a) (hb : bI b) (k : Rx d m (pc + 3) L (.int (iz (max a b)) :: rest) h P) : Rx d m pc L st h P := Rx.one (by rw [e, am_max_iz ha hb]) k
theorem Rx.imin (e : am_one m pc L st h = some (pc + 3, L, .int (am_min (iz a) (iz b)) :: rest, h)) (ha : bI a) (hb : bI b) (k : Rx d m (pc + 3) L (.int (iz (min a b)) :: rest) h P) : Rx d m pc L st h P := Rx.one (by rw [e, am_min_iz ha hb]) k
theorem Rx.lmax (e : am_one m pc L st h = some (pc + 3, L, .long (am_maxL (jz a) (jz b)) :: rest, h)) (ha : bJ a) (hb : bJ b) (k : Rx d m (pc + 3) L (.long (jz (max a b)) :: rest) h P) : Rx d m pc L st h P := Rx.one (by rw [e, am_maxL_jz ha hb]) k
theorem Rx.lmin (e : am_one m pc L st h = some (pc + 3, L, .long (am_minL (jz a) (jz b)) :: rest, h)) (ha : bJ a) (hb : bJ b) (k : Rx d m (pc + 3) L (.long (jz (min a b)) :: rest) h P) : Rx d m pc L st h P := Rx.one (by rw [e, am_minL_jz ha hb]) k
/-- the default of a table -/
theorem Rx.tsd {lo hi : Int} {offs : Array Int} (hat : am_at m.2.2.2.2.2 pc = some (.tableswitch off lo hi offs, len, v)) (ht : am_tg pc off = some t) (ha : bI a) (hd : a < lo ∨ hi < a) (k : Rx d m t L rest h P) : Rx d m pc L (.int (iz a) :: rest) h P := by
  refine Rx.one (am_one_p hat ?_) k
  show (if (iz a).toInt < lo ∨ hi < (iz a).toInt then am_jmp pc off L rest else _) = _
  rw [if_pos (by rw [iz_toInt ha]; exact hd)]
  unfold am_jmp
  rw [ht]
/-- the same state otherwise told -/
theorem Rx.eqv {q : Nat} (e : (pc, L, st, h) = (q, L', st', h')) (k : Rx d m q L' st' h' P) : Rx d m pc L st h P := by
  cases e
  exact k
end RxInts

/-! bits -/
theorem iz_and255 (a : Int) : iz a &&& iz 255 = iz (a % 256) := by
  apply Int32.toBitVec_inj.mp
  show BitVec.ofInt 32 a &&& BitVec.ofInt 32 255 = BitVec.ofInt 32 (a % 256)
  apply BitVec.eq_of_toNat_eq
  rw [BitVec.toNat_and, BitVec.toNat_ofInt, BitVec.toNat_ofInt, BitVec.toNat_ofInt]
  show (a % 4294967296).toNat &&& (2 ^ 8 - 1) = ((a % 256) % 4294967296).toNat
  rw [Nat.and_two_pow_sub_one_eq_mod]
  omega
theorem iz_and1 (a : Int) : iz a &&& iz 1 = iz (a % 2) := by
  apply Int32.toBitVec_inj.mp
  show BitVec.ofInt 32 a &&& BitVec.ofInt 32 1 = BitVec.ofInt 32 (a % 2)
  apply BitVec.eq_of_toNat_eq
  rw [BitVec.toNat_and, BitVec.toNat_ofInt, BitVec.toNat_ofInt, BitVec.toNat_ofInt]
  show (a % 4294967296).toNat &&& (2 ^ 1 - 1) = ((a % 2) % 4294967296).toNat
  rw [Nat.and_two_pow_sub_one_eq_mod]
  omega
theorem iz_sh31 : ∀ j : Nat, j < 32 → ((iz (j : Int) &&& 31 : Int32).toBitVec.smod 32).toNat = j := by decide
theorem iz_shr {a : Int} (ha : bI a) (j : Nat) (hj : j < 32) : iz a >>> (iz (j : Int) &&& 31) = iz (a / (2 ^ j : Nat)) := by
  apply Int32.toInt_inj.mp
  show (BitVec.sshiftRight' (iz a).toBitVec ((iz (j : Int) &&& 31 : Int32).toBitVec.smod 32)).toInt = _
  rw [BitVec.toInt_sshiftRight', iz_sh31 j hj]
  show (iz a).toInt >>> j = _
  rw [iz_toInt ha, Int.shiftRight_eq_div_pow, iz_toInt]
  have h1 : (0 : Int) < (2 ^ j : Nat) := Int.natCast_pos.mpr (Nat.pow_pos (by decide))
  have h2 : (1 : Int) ≤ (2 ^ j : Nat) := h1
  obtain ⟨p, q⟩ := ha
  constructor
  · refine Int.le_ediv_of_mul_le h1 ?_
    generalize ((2 ^ j : Nat) : Int) = X at *
    omega
  · refine Int.ediv_lt_of_lt_mul h1 ?_
    generalize ((2 ^ j : Nat) : Int) = X at *
    omega
theorem iz_shl1 : ∀ j : Nat, j < 31 → iz 1 <<< (iz (j : Int) &&& 31) = iz ((2 ^ j : Nat) : Int) := by decide
theorem iz_u32 (a : Int) : (iz a).toUInt32.toNat = (a % 4294967296).toNat := by
  show (BitVec.ofInt 32 a).toNat = _
  rw [BitVec.toNat_ofInt]
  rfl
theorem iz_ush31 : ∀ j : Nat, j < 32 → ((iz (j : Int)).toUInt32 &&& Int32.toUInt32 31).toNat = j := by decide
theorem iz_ushr (a : Int) (j : Nat) (hj : j < 32) : ((iz a).toUInt32 >>> ((iz (j : Int)).toUInt32 &&& Int32.toUInt32 31)).toInt32 = iz ((a % 4294967296) / (2 ^ j : Nat)) := by
  apply Int32.toBitVec_inj.mp
  apply BitVec.eq_of_toNat_eq
  show ((iz a).toUInt32 >>> ((iz (j : Int)).toUInt32 &&& Int32.toUInt32 31)).toNat = (BitVec.ofInt 32 _).toNat
  rw [UInt32.toNat_shiftRight, iz_u32, iz_ush31 j hj, BitVec.toNat_ofInt, Nat.mod_eq_of_lt hj, Nat.shiftRight_eq_div_pow]
  have h1 : 0 < 2 ^ j := Nat.pow_pos (by decide)
  obtain ⟨n, hn⟩ := Int.eq_ofNat_of_zero_le (Int.emod_nonneg a (show (4294967296 : Int) ≠ 0 by decide))
  have hlt : n < 4294967296 := by have := Int.emod_lt_of_pos a (show (0 : Int) < 4294967296 by decide); omega
  rw [hn]
  have h2 : n / 2 ^ j ≤ n := Nat.div_le_self _ _
  rw [Int.toNat_natCast]
  have e : (n : Int) / ((2 ^ j : Nat) : Int) = ((n / 2 ^ j : Nat) : Int) := (Int.natCast_ediv _ _).symm
  rw [e]
  generalize n / 2 ^ j = w at h2
  show w = ((w : Int) % (4294967296 : Int)).toNat
  omega
theorem jz_u64 (a : Int) : (jz a).toUInt64.toNat = (a % 18446744073709551616).toNat := by
  show (BitVec.ofInt 64 a).toNat = _
  rw [BitVec.toNat_ofInt]
  rfl
theorem jz_ush33 (a : Int) : ((jz a).toUInt64 >>> ((iz 33).toInt64.toUInt64 &&& Int64.toUInt64 63)).toInt64 = jz ((a % 18446744073709551616) / 8589934592) := by
  apply Int64.toBitVec_inj.mp
  apply BitVec.eq_of_toNat_eq
  show ((jz a).toUInt64 >>> ((iz 33).toInt64.toUInt64 &&& Int64.toUInt64 63)).toNat = (BitVec.ofInt 64 _).toNat
  have e : ((iz 33).toInt64.toUInt64 &&& Int64.toUInt64 63) = 33 := by decide
  rw [e, UInt64.toNat_shiftRight, jz_u64, BitVec.toNat_ofInt]
  show (a % 18446744073709551616).toNat >>> 33 = _
  rw [Nat.shiftRight_eq_div_pow]
  show (a % 18446744073709551616).toNat / 8589934592 = ((a % 18446744073709551616 / 8589934592) % 18446744073709551616).toNat
  omega
theorem iz_or16 : ∀ a : Nat, a < 16 → ∀ b : Nat, b < 16 → iz (a : Int) ||| iz (b : Int) = iz ((a ||| b : Nat) : Int) := by decide
section RxBits
variable {d : Nat} {m : AmM} {pc : Nat} {L : AmL} {h : AmH} {P : Option Value → AmH → Prop} {rest : List Value} {len : Nat} {v : Value} {a b : Int}
theorem Rx.iand {c : Int} (hat : am_at m.2.2.2.2.2 pc = some (.iand, len, v)) (e : iz a &&& iz b = iz c) (k : Rx d m (pc + 1) L (.int (iz c) :: rest) h P) : Rx d m pc L (.int (iz b) :: .int (iz a) :: rest) h P := Rx.one (am_one_p hat (show some (pc + 1, L, Value.int (iz a &&& iz b) :: rest) = _ by rw [e])) k
theorem Rx.ior {c : Int} (hat : am_at m.2.2.2.2.2 pc = some (.ior, len, v)) (e : iz a ||| iz b = iz c) (k : Rx d m (pc + 1) L (.int (iz c) :: rest) h P) : Rx d m pc L (.int (iz b) :: .int (iz a) :: rest) h P := Rx.one (am_one_p hat (show some (pc + 1, L, Value.int (iz a ||| iz b) :: rest) = _ by rw [e])) k
theorem Rx.ixor {c : Int} (hat : am_at m.2.2.2.2.2 pc = some (.ixor, len, v)) (e : iz a ^^^ iz b = iz c) (k : Rx d m (pc + 1) L (.int (iz c) :: rest) h P) : Rx d m pc L (.int (iz b) :: .int (iz a) :: rest) h P := Rx.one (am_one_p hat (show some (pc + 1, L, Value.int (iz a ^^^ iz b) :: rest) = _ by rw [e])) k
theorem Rx.ishl {c : Int} (hat : am_at m.2.2.2.2.2 pc = some (.ishl, len, v)) (e : iz a <<< (iz b &&& 31) = iz c) (k : Rx d m (pc + 1) L (.int (iz c) :: rest) h P) : Rx d m pc L (.int (iz b) :: .int (iz a) :: rest) h P := Rx.one (am_one_p hat (show some (pc + 1, L, Value.int (iz a <<< (iz b &&& 31)) :: rest) = _ by rw [e])) k
theorem Rx.ishr {c : Int} (hat : am_at m.2.2.2.2.2 pc = some (.ishr, len, v)) (e : iz a >>> (iz b &&& 31) = iz c) (k : Rx d m (pc + 1) L (.int (iz c) :: rest) h P) : Rx d m pc L (.int (iz b) :: .int (iz a) :: rest) h P := Rx.one (am_one_p hat (show some (pc + 1, L, Value.int (iz a >>> (iz b &&& 31)) :: rest) = _ by rw [e])) k
theorem Rx.iushr {c : Int} (hat : am_at m.2.2.2.2.2 pc = some (.iushr, len, v)) (e : ((iz a).toUInt32 >>> ((iz b).toUInt32 &&& Int32.toUInt32 31)).toInt32 = iz c) (k : Rx d m (pc + 1) L (.int (iz c) :: rest) h P) : Rx d m pc L (.int (iz b) :: .int (iz a) :: rest) h P := Rx.one (am_one_p hat (show some (pc + 1, L, Value.int ((iz a).toUInt32 >>> ((iz b).toUInt32 &&& Int32.toUInt32 31)).toInt32 :: rest) = _ by rw [e])) k
theorem Rx.lushr {c : Int} (hat : am_at m.2.2.2.2.2 pc = some (.lushr, len, v)) (e : ((jz a).toUInt64 >>> ((iz b).toInt64.toUInt64 &&& Int64.toUInt64 63)).toInt64 = jz c) (k : Rx d m (pc + 1) L (.long (jz c) :: rest) h P) : Rx d m pc L (.int (iz b) :: .long (jz a) :: rest) h P := Rx.one (am_one_p hat (show some (pc + 1, L, Value.long ((jz a).toUInt64 >>> ((iz b).toInt64.toUInt64 &&& Int64.toUInt64 63)).toInt64 :: rest) = _ by rw [e])) k
end RxBits

/-! the heaps of class and model, all contents as parameters: z fields (ints, booleans), f arrays by place, fl arrays of longs, zl fields of longs; rc where a rule's code lies, tl what lies behind; tx what the model reads -/
def cmH (z : Nat → Int32) (zl : Nat → Int64) (f : Nat → Nat → Int32) (fl : Nat → Nat → Int64) (tx : Nat) : AmH := .inr (11, .int (z 0) :: .ref 1 :: .ref 2 :: .ref 3 :: .ref 4 :: .ref tx :: .int (z 6) :: .int (z 7) :: .int (z 8) :: .int (z 9) :: .int (z 10) :: .int (z 11) :: .int (z 12) :: .int (z 13) :: .int (z 14) :: .retAddr 0 :: .retAddr 1 :: .int (z 17) :: .ref 5 :: .ref 6 :: .ref 7 :: .int (z 21) :: .int (z 22) :: .int (z 23) :: .int (z 24) :: .int (z 25) :: .ref 8 :: .ref 9 :: .int (z 28) :: .ref 10 :: .ref 11 :: .ref 12 :: .ref 13 :: .ref 14 :: .long (zl 34) :: .int (z 35) :: .ref 15 :: .ref 16 :: .ref 17 :: .int (z 39) :: .int (z 40) :: .ref 18 :: .ref 19 :: .ref 20 :: .ref 21 :: .ref 22 :: .int (z 46) :: .int (z 47) :: .int (z 48) :: .int (z 49) :: .ref 23 :: .ref 24 :: .ref 25 :: .ref 26 :: .int (z 54) :: .int (z 55) :: .int (z 56) :: .int (z 57) :: []) ::
  .inl (.byte, 160, .inl (f 1)) ::
  .inl (.byte, 640, .inl (f 2)) ::
  .inl (.int, 4, .inl (f 3)) ::
  .inl (.int, 128, .inl (f 4)) ::
  .inl (.int, 4, .inl (f 5)) ::
  .inl (.int, 4, .inl (f 6)) ::
  .inl (.int, 3, .inl (f 7)) ::
  .inl (.int, 5, .inl (f 8)) ::
  .inl (.int, 20, .inl (f 9)) ::
  .inl (.int, 10, .inl (f 10)) ::
  .inl (.int, 2, .inl (f 11)) ::
  .inl (.int, 4, .inl (f 12)) ::
  .inl (.int, 4, .inl (f 13)) ::
  .inl (.int, 4, .inl (f 14)) ::
  .inl (.long, 1001, .inr (.inl (fl 15))) ::
  .inl (.int, 72000, .inl (f 16)) ::
  .inl (.int, 4, .inl (f 17)) ::
  .inl (.long, 201, .inr (.inl (fl 18))) ::
  .inl (.long, 201, .inr (.inl (fl 19))) ::
  .inl (.int, 201, .inl (f 20)) ::
  .inl (.int, 201, .inl (f 21)) ::
  .inl (.int, 4, .inl (f 22)) ::
  .inl (.int, 4, .inl (f 23)) ::
  .inl (.int, 4, .inl (f 24)) ::
  .inl (.int, 72000, .inl (f 25)) ::
  .inl (.long, 1000, .inr (.inl (fl 26))) :: []
def cxH (z : Nat → Nat → Int32) (f : Nat → Nat → Int32) (rc : Nat → Nat) (tl : AmH) : AmH := .inr (10, .ref 1 :: .ref 3 :: .ref 5 :: .ref 7 :: .ref 12 :: .ref 14 :: .int (z 0 6) :: .ref 35 :: .int (z 0 8) :: .int (z 0 9) :: .ref 44 :: .int (z 0 11) :: .int (z 0 12) :: .ref 45 :: .ref 46 :: .ref 57 :: .ref 61 :: .ref 86 :: .ref 91 :: .ref 95 :: []) ::
  .inr (8, .ref 2 :: .int (z 1 1) :: .int (z 1 2) :: []) ::
  .inl (.int, 160, .inl (f 2)) ::
  .inr (7, .ref 4 :: .int (z 3 1) :: .int (z 3 2) :: .int (z 3 3) :: .int (z 3 4) :: []) ::
  .inl (.int, 5, .inl (f 4)) ::
  .inr (7, .ref 6 :: .int (z 5 1) :: .int (z 5 2) :: .int (z 5 3) :: .int (z 5 4) :: []) ::
  .inl (.int, 5, .inl (f 6)) ::
  .inr (2, .int (z 7 0) :: .ref 8 :: .int (z 7 2) :: .int (z 7 3) :: .ref 9 :: .ref 10 :: .ref 11 :: .int (z 7 7) :: []) ::
  .inl (.int, 4, .inl (f 8)) ::
  .inl (.int, 60, .inl (f 9)) ::
  .inl (.int, 15, .inl (f 10)) ::
  .inl (.int, 15, .inl (f 11)) ::
  .inr (6, .ref 13 :: .int (z 12 1) :: []) ::
  .inl (.int, 161, .inl (f 13)) ::
  .inl (.object RX2, 4, .inr (.inr (.inr (.inr (va_up (va_up (va_up (va_up (fun _ => none) 0 (some 15)) 1 (some 20)) 2 (some 25)) 3 (some 30)))))) ::
  .inr (2, .int (z 15 0) :: .ref 16 :: .int (z 15 2) :: .int (z 15 3) :: .ref 17 :: .ref 18 :: .ref 19 :: .int (z 15 7) :: []) ::
  .inl (.int, 4, .inl (f 16)) ::
  .inl (.int, 60, .inl (f 17)) ::
  .inl (.int, 15, .inl (f 18)) ::
  .inl (.int, 15, .inl (f 19)) ::
  .inr (2, .int (z 20 0) :: .ref 21 :: .int (z 20 2) :: .int (z 20 3) :: .ref 22 :: .ref 23 :: .ref 24 :: .int (z 20 7) :: []) ::
  .inl (.int, 4, .inl (f 21)) ::
  .inl (.int, 60, .inl (f 22)) ::
  .inl (.int, 15, .inl (f 23)) ::
  .inl (.int, 15, .inl (f 24)) ::
  .inr (2, .int (z 25 0) :: .ref 26 :: .int (z 25 2) :: .int (z 25 3) :: .ref 27 :: .ref 28 :: .ref 29 :: .int (z 25 7) :: []) ::
  .inl (.int, 4, .inl (f 26)) ::
  .inl (.int, 60, .inl (f 27)) ::
  .inl (.int, 15, .inl (f 28)) ::
  .inl (.int, 15, .inl (f 29)) ::
  .inr (2, .int (z 30 0) :: .ref 31 :: .int (z 30 2) :: .int (z 30 3) :: .ref 32 :: .ref 33 :: .ref 34 :: .int (z 30 7) :: []) ::
  .inl (.int, 4, .inl (f 31)) ::
  .inl (.int, 60, .inl (f 32)) ::
  .inl (.int, 15, .inl (f 33)) ::
  .inl (.int, 15, .inl (f 34)) ::
  .inl (.object RX6, 4, .inr (.inr (.inr (.inr (va_up (va_up (va_up (va_up (fun _ => none) 0 (some 36)) 1 (some 38)) 2 (some 40)) 3 (some 42)))))) ::
  .inr (6, .ref (rc 36) :: .int (z 36 1) :: []) ::
  .inl (.int, 0, .inl (f 37)) ::
  .inr (6, .ref (rc 38) :: .int (z 38 1) :: []) ::
  .inl (.int, 0, .inl (f 39)) ::
  .inr (6, .ref (rc 40) :: .int (z 40 1) :: []) ::
  .inl (.int, 0, .inl (f 41)) ::
  .inr (6, .ref (rc 42) :: .int (z 42 1) :: []) ::
  .inl (.int, 0, .inl (f 43)) ::
  .inl (.int, 4, .inl (f 44)) ::
  .inl (.int, 4, .inl (f 45)) ::
  .inr (4, .ref 3 :: .ref 47 :: .ref 50 :: .int (z 46 3) :: .ref 53 :: .int (z 46 5) :: .ref 54 :: .ref 55 :: .int (z 46 8) :: .ref 56 :: .int (z 46 10) :: .int (z 46 11) :: .int (z 46 12) :: []) ::
  .inl (.array .int, 2, .inr (.inr (.inr (.inr (fun i => if i < 2 then some (47 + 1 + i) else none))))) ::
  .inl (.int, 6, .inl (f 48)) ::
  .inl (.int, 6, .inl (f 49)) ::
  .inl (.array .int, 2, .inr (.inr (.inr (.inr (fun i => if i < 2 then some (50 + 1 + i) else none))))) ::
  .inl (.int, 6, .inl (f 51)) ::
  .inl (.int, 6, .inl (f 52)) ::
  .inl (.int, 180, .inl (f 53)) ::
  .inl (.int, 180, .inl (f 54)) ::
  .inl (.int, 180, .inl (f 55)) ::
  .inl (.int, 180, .inl (f 56)) ::
  .inr (9, .int (z 57 0) :: .int (z 57 1) :: .ref 58 :: .ref 59 :: .ref 60 :: .int (z 57 5) :: []) ::
  .inl (.int, 2048, .inl (f 58)) ::
  .inl (.int, 1000, .inl (f 59)) ::
  .inl (.int, 1000, .inl (f 60)) ::
  .inr (5, .ref 3 :: .ref 46 :: .ref 14 :: .ref 62 :: .ref 63 :: .int (z 61 5) :: .int (z 61 6) :: []) ::
  .inl (.object RX9, 5, .inr (.inr (.inr (.inr (va_up (va_up (va_up (va_up (va_up (fun _ => none) 0 (some 66)) 1 (some 70)) 2 (some 74)) 3 (some 78)) 4 (some 82)))))) ::
  .inl (.array .int, 2, .inr (.inr (.inr (.inr (fun i => if i < 2 then some (63 + 1 + i) else none))))) ::
  .inl (.int, 200, .inl (f 64)) ::
  .inl (.int, 200, .inl (f 65)) ::
  .inr (9, .int (z 66 0) :: .int (z 66 1) :: .ref 67 :: .ref 68 :: .ref 69 :: .int (z 66 5) :: []) ::
  .inl (.int, 512, .inl (f 67)) ::
  .inl (.int, 200, .inl (f 68)) ::
  .inl (.int, 200, .inl (f 69)) ::
  .inr (9, .int (z 70 0) :: .int (z 70 1) :: .ref 71 :: .ref 72 :: .ref 73 :: .int (z 70 5) :: []) ::
  .inl (.int, 512, .inl (f 71)) ::
  .inl (.int, 200, .inl (f 72)) ::
  .inl (.int, 200, .inl (f 73)) ::
  .inr (9, .int (z 74 0) :: .int (z 74 1) :: .ref 75 :: .ref 76 :: .ref 77 :: .int (z 74 5) :: []) ::
  .inl (.int, 512, .inl (f 75)) ::
  .inl (.int, 200, .inl (f 76)) ::
  .inl (.int, 200, .inl (f 77)) ::
  .inr (9, .int (z 78 0) :: .int (z 78 1) :: .ref 79 :: .ref 80 :: .ref 81 :: .int (z 78 5) :: []) ::
  .inl (.int, 512, .inl (f 79)) ::
  .inl (.int, 200, .inl (f 80)) ::
  .inl (.int, 200, .inl (f 81)) ::
  .inr (9, .int (z 82 0) :: .int (z 82 1) :: .ref 83 :: .ref 84 :: .ref 85 :: .int (z 82 5) :: []) ::
  .inl (.int, 512, .inl (f 83)) ::
  .inl (.int, 200, .inl (f 84)) ::
  .inl (.int, 200, .inl (f 85)) ::
  .inr (0, .ref 46 :: .ref 14 :: .ref 57 :: .ref 87 :: []) ::
  .inr (9, .int (z 87 0) :: .int (z 87 1) :: .ref 88 :: .ref 89 :: .ref 90 :: .int (z 87 5) :: []) ::
  .inl (.int, 2048, .inl (f 88)) ::
  .inl (.int, 1000, .inl (f 89)) ::
  .inl (.int, 1000, .inl (f 90)) ::
  .inr (1, .ref 3 :: .ref 14 :: .ref 92 :: .int (z 91 3) :: .ref 93 :: .ref 94 :: []) ::
  .inl (.int, 2, .inl (f 92)) ::
  .inl (.int, 6, .inl (f 93)) ::
  .inl (.int, 161, .inl (f 94)) ::
  .inr (3, .ref 96 :: .int (z 95 1) :: .ref 97 :: []) ::
  .inl (.int, 4, .inl (f 96)) ::
  .inl (.int, 4, .inl (f 97)) :: tl

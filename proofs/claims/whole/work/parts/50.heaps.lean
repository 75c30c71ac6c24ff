/-! the heaps of class and model, all contents as parameters: z fields (ints, booleans), f arrays by place, fl arrays of longs, zl fields of longs; rc where a rule's code lies, tl what lies behind; tx what the model reads -/
def cmH (z : Nat → Int) (zl : Nat → Int) (f : Nat → Int → Int) (fl : Nat → Int → Int) (tx : Nat) : AmH := .inr (11, .int (iz (z 0)) :: .ref 1 :: .ref 2 :: .ref 3 :: .ref 4 :: .ref tx :: .int (iz (z 6)) :: .int (iz (z 7)) :: .int (iz (z 8)) :: .int (iz (z 9)) :: .int (iz (z 10)) :: .int (iz (z 11)) :: .int (iz (z 12)) :: .int (iz (z 13)) :: .int (iz (z 14)) :: .retAddr 0 :: .retAddr 1 :: .int (iz (z 17)) :: .ref 5 :: .ref 6 :: .ref 7 :: .int (iz (z 21)) :: .int (iz (z 22)) :: .int (iz (z 23)) :: .int (iz (z 24)) :: .int (iz (z 25)) :: .ref 8 :: .ref 9 :: .int (iz (z 28)) :: .ref 10 :: .ref 11 :: .ref 12 :: .ref 13 :: .ref 14 :: .long (jz (zl 34)) :: .int (iz (z 35)) :: .ref 15 :: .ref 16 :: .ref 17 :: .int (iz (z 39)) :: .int (iz (z 40)) :: .ref 18 :: .ref 19 :: .ref 20 :: .ref 21 :: .ref 22 :: .int (iz (z 46)) :: .int (iz (z 47)) :: .int (iz (z 48)) :: .int (iz (z 49)) :: .ref 23 :: .ref 24 :: .ref 25 :: .ref 26 :: .int (iz (z 54)) :: .int (iz (z 55)) :: .int (iz (z 56)) :: .int (iz (z 57)) :: []) ::
  .inl (.byte, 160, .inl (av (f 1))) ::
  .inl (.byte, 640, .inl (av (f 2))) ::
  .inl (.int, 4, .inl (av (f 3))) ::
  .inl (.int, 128, .inl (av (f 4))) ::
  .inl (.int, 4, .inl (av (f 5))) ::
  .inl (.int, 4, .inl (av (f 6))) ::
  .inl (.int, 3, .inl (av (f 7))) ::
  .inl (.int, 5, .inl (av (f 8))) ::
  .inl (.int, 20, .inl (av (f 9))) ::
  .inl (.int, 10, .inl (av (f 10))) ::
  .inl (.int, 2, .inl (av (f 11))) ::
  .inl (.int, 4, .inl (av (f 12))) ::
  .inl (.int, 4, .inl (av (f 13))) ::
  .inl (.int, 4, .inl (av (f 14))) ::
  .inl (.long, 1001, .inr (.inl (lv (fl 15)))) ::
  .inl (.int, 72000, .inl (av (f 16))) ::
  .inl (.int, 4, .inl (av (f 17))) ::
  .inl (.long, 201, .inr (.inl (lv (fl 18)))) ::
  .inl (.long, 201, .inr (.inl (lv (fl 19)))) ::
  .inl (.int, 201, .inl (av (f 20))) ::
  .inl (.int, 201, .inl (av (f 21))) ::
  .inl (.int, 4, .inl (av (f 22))) ::
  .inl (.int, 4, .inl (av (f 23))) ::
  .inl (.int, 4, .inl (av (f 24))) ::
  .inl (.int, 72000, .inl (av (f 25))) ::
  .inl (.long, 1000, .inr (.inl (lv (fl 26)))) :: []
def cxH (z : Nat → Nat → Int) (f : Nat → Int → Int) (rc : Nat → Nat) (tl : AmH) : AmH := .inr (10, .ref 1 :: .ref 3 :: .ref 5 :: .ref 7 :: .ref 12 :: .ref 14 :: .int (iz (z 0 6)) :: .ref 35 :: .int (iz (z 0 8)) :: .int (iz (z 0 9)) :: .ref 44 :: .int (iz (z 0 11)) :: .int (iz (z 0 12)) :: .ref 45 :: .ref 46 :: .ref 57 :: .ref 61 :: .ref 86 :: .ref 91 :: .ref 95 :: []) ::
  .inr (8, .ref 2 :: .int (iz (z 1 1)) :: .int (iz (z 1 2)) :: []) ::
  .inl (.int, 160, .inl (av (f 2))) ::
  .inr (7, .ref 4 :: .int (iz (z 3 1)) :: .int (iz (z 3 2)) :: .int (iz (z 3 3)) :: .int (iz (z 3 4)) :: []) ::
  .inl (.int, 5, .inl (av (f 4))) ::
  .inr (7, .ref 6 :: .int (iz (z 5 1)) :: .int (iz (z 5 2)) :: .int (iz (z 5 3)) :: .int (iz (z 5 4)) :: []) ::
  .inl (.int, 5, .inl (av (f 6))) ::
  .inr (2, .int (iz (z 7 0)) :: .ref 8 :: .int (iz (z 7 2)) :: .int (iz (z 7 3)) :: .ref 9 :: .ref 10 :: .ref 11 :: .int (iz (z 7 7)) :: []) ::
  .inl (.int, 4, .inl (av (f 8))) ::
  .inl (.int, 60, .inl (av (f 9))) ::
  .inl (.int, 15, .inl (av (f 10))) ::
  .inl (.int, 15, .inl (av (f 11))) ::
  .inr (6, .ref 13 :: .int (iz (z 12 1)) :: []) ::
  .inl (.int, 161, .inl (av (f 13))) ::
  .inl (.object RX2, 4, .inr (.inr (.inr (.inr (va_up (va_up (va_up (va_up (fun _ => none) 0 (some 15)) 1 (some 20)) 2 (some 25)) 3 (some 30)))))) ::
  .inr (2, .int (iz (z 15 0)) :: .ref 16 :: .int (iz (z 15 2)) :: .int (iz (z 15 3)) :: .ref 17 :: .ref 18 :: .ref 19 :: .int (iz (z 15 7)) :: []) ::
  .inl (.int, 4, .inl (av (f 16))) ::
  .inl (.int, 60, .inl (av (f 17))) ::
  .inl (.int, 15, .inl (av (f 18))) ::
  .inl (.int, 15, .inl (av (f 19))) ::
  .inr (2, .int (iz (z 20 0)) :: .ref 21 :: .int (iz (z 20 2)) :: .int (iz (z 20 3)) :: .ref 22 :: .ref 23 :: .ref 24 :: .int (iz (z 20 7)) :: []) ::
  .inl (.int, 4, .inl (av (f 21))) ::
  .inl (.int, 60, .inl (av (f 22))) ::
  .inl (.int, 15, .inl (av (f 23))) ::
  .inl (.int, 15, .inl (av (f 24))) ::
  .inr (2, .int (iz (z 25 0)) :: .ref 26 :: .int (iz (z 25 2)) :: .int (iz (z 25 3)) :: .ref 27 :: .ref 28 :: .ref 29 :: .int (iz (z 25 7)) :: []) ::
  .inl (.int, 4, .inl (av (f 26))) ::
  .inl (.int, 60, .inl (av (f 27))) ::
  .inl (.int, 15, .inl (av (f 28))) ::
  .inl (.int, 15, .inl (av (f 29))) ::
  .inr (2, .int (iz (z 30 0)) :: .ref 31 :: .int (iz (z 30 2)) :: .int (iz (z 30 3)) :: .ref 32 :: .ref 33 :: .ref 34 :: .int (iz (z 30 7)) :: []) ::
  .inl (.int, 4, .inl (av (f 31))) ::
  .inl (.int, 60, .inl (av (f 32))) ::
  .inl (.int, 15, .inl (av (f 33))) ::
  .inl (.int, 15, .inl (av (f 34))) ::
  .inl (.object RX6, 4, .inr (.inr (.inr (.inr (va_up (va_up (va_up (va_up (fun _ => none) 0 (some 36)) 1 (some 38)) 2 (some 40)) 3 (some 42)))))) ::
  .inr (6, .ref (rc 36) :: .int (iz (z 36 1)) :: []) ::
  .inl (.int, 0, .inl (av (f 37))) ::
  .inr (6, .ref (rc 38) :: .int (iz (z 38 1)) :: []) ::
  .inl (.int, 0, .inl (av (f 39))) ::
  .inr (6, .ref (rc 40) :: .int (iz (z 40 1)) :: []) ::
  .inl (.int, 0, .inl (av (f 41))) ::
  .inr (6, .ref (rc 42) :: .int (iz (z 42 1)) :: []) ::
  .inl (.int, 0, .inl (av (f 43))) ::
  .inl (.int, 4, .inl (av (f 44))) ::
  .inl (.int, 4, .inl (av (f 45))) ::
  .inr (4, .ref 3 :: .ref 47 :: .ref 50 :: .int (iz (z 46 3)) :: .ref 53 :: .int (iz (z 46 5)) :: .ref 54 :: .ref 55 :: .int (iz (z 46 8)) :: .ref 56 :: .int (iz (z 46 10)) :: .int (iz (z 46 11)) :: .int (iz (z 46 12)) :: []) ::
  .inl (.array .int, 2, .inr (.inr (.inr (.inr (fun i => if i < 2 then some (47 + 1 + i) else none))))) ::
  .inl (.int, 6, .inl (av (f 48))) ::
  .inl (.int, 6, .inl (av (f 49))) ::
  .inl (.array .int, 2, .inr (.inr (.inr (.inr (fun i => if i < 2 then some (50 + 1 + i) else none))))) ::
  .inl (.int, 6, .inl (av (f 51))) ::
  .inl (.int, 6, .inl (av (f 52))) ::
  .inl (.int, 180, .inl (av (f 53))) ::
  .inl (.int, 180, .inl (av (f 54))) ::
  .inl (.int, 180, .inl (av (f 55))) ::
  .inl (.int, 180, .inl (av (f 56))) ::
  .inr (9, .int (iz (z 57 0)) :: .int (iz (z 57 1)) :: .ref 58 :: .ref 59 :: .ref 60 :: .int (iz (z 57 5)) :: []) ::
  .inl (.int, 2048, .inl (av (f 58))) ::
  .inl (.int, 1000, .inl (av (f 59))) ::
  .inl (.int, 1000, .inl (av (f 60))) ::
  .inr (5, .ref 3 :: .ref 46 :: .ref 14 :: .ref 62 :: .ref 63 :: .int (iz (z 61 5)) :: .int (iz (z 61 6)) :: []) ::
  .inl (.object RX9, 5, .inr (.inr (.inr (.inr (va_up (va_up (va_up (va_up (va_up (fun _ => none) 0 (some 66)) 1 (some 70)) 2 (some 74)) 3 (some 78)) 4 (some 82)))))) ::
  .inl (.array .int, 2, .inr (.inr (.inr (.inr (fun i => if i < 2 then some (63 + 1 + i) else none))))) ::
  .inl (.int, 200, .inl (av (f 64))) ::
  .inl (.int, 200, .inl (av (f 65))) ::
  .inr (9, .int (iz (z 66 0)) :: .int (iz (z 66 1)) :: .ref 67 :: .ref 68 :: .ref 69 :: .int (iz (z 66 5)) :: []) ::
  .inl (.int, 512, .inl (av (f 67))) ::
  .inl (.int, 200, .inl (av (f 68))) ::
  .inl (.int, 200, .inl (av (f 69))) ::
  .inr (9, .int (iz (z 70 0)) :: .int (iz (z 70 1)) :: .ref 71 :: .ref 72 :: .ref 73 :: .int (iz (z 70 5)) :: []) ::
  .inl (.int, 512, .inl (av (f 71))) ::
  .inl (.int, 200, .inl (av (f 72))) ::
  .inl (.int, 200, .inl (av (f 73))) ::
  .inr (9, .int (iz (z 74 0)) :: .int (iz (z 74 1)) :: .ref 75 :: .ref 76 :: .ref 77 :: .int (iz (z 74 5)) :: []) ::
  .inl (.int, 512, .inl (av (f 75))) ::
  .inl (.int, 200, .inl (av (f 76))) ::
  .inl (.int, 200, .inl (av (f 77))) ::
  .inr (9, .int (iz (z 78 0)) :: .int (iz (z 78 1)) :: .ref 79 :: .ref 80 :: .ref 81 :: .int (iz (z 78 5)) :: []) ::
  .inl (.int, 512, .inl (av (f 79))) ::
  .inl (.int, 200, .inl (av (f 80))) ::
  .inl (.int, 200, .inl (av (f 81))) ::
  .inr (9, .int (iz (z 82 0)) :: .int (iz (z 82 1)) :: .ref 83 :: .ref 84 :: .ref 85 :: .int (iz (z 82 5)) :: []) ::
  .inl (.int, 512, .inl (av (f 83))) ::
  .inl (.int, 200, .inl (av (f 84))) ::
  .inl (.int, 200, .inl (av (f 85))) ::
  .inr (0, .ref 46 :: .ref 14 :: .ref 57 :: .ref 87 :: []) ::
  .inr (9, .int (iz (z 87 0)) :: .int (iz (z 87 1)) :: .ref 88 :: .ref 89 :: .ref 90 :: .int (iz (z 87 5)) :: []) ::
  .inl (.int, 2048, .inl (av (f 88))) ::
  .inl (.int, 1000, .inl (av (f 89))) ::
  .inl (.int, 1000, .inl (av (f 90))) ::
  .inr (1, .ref 3 :: .ref 14 :: .ref 92 :: .int (iz (z 91 3)) :: .ref 93 :: .ref 94 :: []) ::
  .inl (.int, 2, .inl (av (f 92))) ::
  .inl (.int, 6, .inl (av (f 93))) ::
  .inl (.int, 161, .inl (av (f 94))) ::
  .inr (3, .ref 96 :: .int (iz (z 95 1)) :: .ref 97 :: []) ::
  .inl (.int, 4, .inl (av (f 96))) ::
  .inl (.int, 4, .inl (av (f 97))) :: tl
def u1 (z : Nat → Int) (k : Nat) (x : Int) : Nat → Int := fun a => bif Nat.beq a k then x else z a
def u2 (z : Nat → Nat → Int) (p k : Nat) (x : Int) : Nat → Nat → Int := fun a b => bif Nat.beq a p && Nat.beq b k then x else z a b
def uf (f : Nat → Int → Int) (p : Nat) (g : Int → Int) : Nat → Int → Int := fun a => bif Nat.beq a p then g else f a

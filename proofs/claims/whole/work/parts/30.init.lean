/-- the heap behind the constructor -/
def cx_h0 : AmH := .inr (10, [.ref 1, .ref 3, .ref 5, .ref 7, .ref 12, .ref 14, .int 0, .ref 35, .int 0, .int 0, .ref 44, .int 0, .int 0, .ref 45, .ref 46, .ref 57, .ref 61, .ref 86, .ref 91, .ref 95]) ::
  .inr (8, [.ref 2, .int 0, .int 0]) ::
  .inl (.int, 160, .inl (fun _ => 0)) ::
  .inr (7, [.ref 4, .int 0, .int 0, .int 0, .int 0]) ::
  .inl (.int, 5, .inl (fun _ => 0)) ::
  .inr (7, [.ref 6, .int 0, .int 0, .int 0, .int 0]) ::
  .inl (.int, 5, .inl (fun _ => 0)) ::
  .inr (2, [.int 0, .ref 8, .int 0, .int 0, .ref 9, .ref 10, .ref 11, .int (-1)]) ::
  .inl (.int, 4, .inl (fun _ => 0)) ::
  .inl (.int, 60, .inl (fun _ => 0)) ::
  .inl (.int, 15, .inl (fun _ => 0)) ::
  .inl (.int, 15, .inl (fun _ => 0)) ::
  .inr (6, [.ref 13, .int 0]) ::
  .inl (.int, 161, .inl (fun _ => 0)) ::
  .inl (.object RX2, 4, .inr (.inr (.inr (.inr (va_up (va_up (va_up (va_up (fun _ => none) 0 (some 15)) 1 (some 20)) 2 (some 25)) 3 (some 30)))))) ::
  .inr (2, [.int 0, .ref 16, .int 0, .int 0, .ref 17, .ref 18, .ref 19, .int (-1)]) ::
  .inl (.int, 4, .inl (fun _ => 0)) ::
  .inl (.int, 60, .inl (fun _ => 0)) ::
  .inl (.int, 15, .inl (fun _ => 0)) ::
  .inl (.int, 15, .inl (fun _ => 0)) ::
  .inr (2, [.int 0, .ref 21, .int 0, .int 0, .ref 22, .ref 23, .ref 24, .int (-1)]) ::
  .inl (.int, 4, .inl (fun _ => 0)) ::
  .inl (.int, 60, .inl (fun _ => 0)) ::
  .inl (.int, 15, .inl (fun _ => 0)) ::
  .inl (.int, 15, .inl (fun _ => 0)) ::
  .inr (2, [.int 0, .ref 26, .int 0, .int 0, .ref 27, .ref 28, .ref 29, .int (-1)]) ::
  .inl (.int, 4, .inl (fun _ => 0)) ::
  .inl (.int, 60, .inl (fun _ => 0)) ::
  .inl (.int, 15, .inl (fun _ => 0)) ::
  .inl (.int, 15, .inl (fun _ => 0)) ::
  .inr (2, [.int 0, .ref 31, .int 0, .int 0, .ref 32, .ref 33, .ref 34, .int (-1)]) ::
  .inl (.int, 4, .inl (fun _ => 0)) ::
  .inl (.int, 60, .inl (fun _ => 0)) ::
  .inl (.int, 15, .inl (fun _ => 0)) ::
  .inl (.int, 15, .inl (fun _ => 0)) ::
  .inl (.object RX6, 4, .inr (.inr (.inr (.inr (va_up (va_up (va_up (va_up (fun _ => none) 0 (some 36)) 1 (some 38)) 2 (some 40)) 3 (some 42)))))) ::
  .inr (6, [.ref 37, .int 0]) ::
  .inl (.int, 0, .inl (fun _ => 0)) ::
  .inr (6, [.ref 39, .int 0]) ::
  .inl (.int, 0, .inl (fun _ => 0)) ::
  .inr (6, [.ref 41, .int 0]) ::
  .inl (.int, 0, .inl (fun _ => 0)) ::
  .inr (6, [.ref 43, .int 0]) ::
  .inl (.int, 0, .inl (fun _ => 0)) ::
  .inl (.int, 4, .inl (fun _ => 0)) ::
  .inl (.int, 4, .inl (fun _ => 0)) ::
  .inr (4, [.ref 3, .ref 47, .ref 50, .int 0, .ref 53, .int 0, .ref 54, .ref 55, .int 0, .ref 56, .int 0, .int 0, .int 0]) ::
  .inl (.array .int, 2, .inr (.inr (.inr (.inr (fun i => if i < 2 then some (47 + 1 + i) else none))))) ::
  .inl (.int, 6, .inl (fun _ => 0)) ::
  .inl (.int, 6, .inl (fun _ => 0)) ::
  .inl (.array .int, 2, .inr (.inr (.inr (.inr (fun i => if i < 2 then some (50 + 1 + i) else none))))) ::
  .inl (.int, 6, .inl (fun _ => 0)) ::
  .inl (.int, 6, .inl (fun _ => 0)) ::
  .inl (.int, 180, .inl (fun _ => 0)) ::
  .inl (.int, 180, .inl (fun _ => 0)) ::
  .inl (.int, 180, .inl (fun _ => 0)) ::
  .inl (.int, 180, .inl (fun _ => 0)) ::
  .inr (9, [.int 1000, .int 21, .ref 58, .ref 59, .ref 60, .int 0]) ::
  .inl (.int, 2048, .inl (fun _ => 0)) ::
  .inl (.int, 1000, .inl (fun _ => 0)) ::
  .inl (.int, 1000, .inl (fun _ => 0)) ::
  .inr (5, [.ref 3, .ref 46, .ref 14, .ref 62, .ref 63, .int 0, .int 0]) ::
  .inl (.object RX9, 5, .inr (.inr (.inr (.inr (va_up (va_up (va_up (va_up (va_up (fun _ => none) 0 (some 66)) 1 (some 70)) 2 (some 74)) 3 (some 78)) 4 (some 82)))))) ::
  .inl (.array .int, 2, .inr (.inr (.inr (.inr (fun i => if i < 2 then some (63 + 1 + i) else none))))) ::
  .inl (.int, 200, .inl (fun _ => 0)) ::
  .inl (.int, 200, .inl (fun _ => 0)) ::
  .inr (9, [.int 200, .int 23, .ref 67, .ref 68, .ref 69, .int 0]) ::
  .inl (.int, 512, .inl (fun _ => 0)) ::
  .inl (.int, 200, .inl (fun _ => 0)) ::
  .inl (.int, 200, .inl (fun _ => 0)) ::
  .inr (9, [.int 200, .int 23, .ref 71, .ref 72, .ref 73, .int 0]) ::
  .inl (.int, 512, .inl (fun _ => 0)) ::
  .inl (.int, 200, .inl (fun _ => 0)) ::
  .inl (.int, 200, .inl (fun _ => 0)) ::
  .inr (9, [.int 200, .int 23, .ref 75, .ref 76, .ref 77, .int 0]) ::
  .inl (.int, 512, .inl (fun _ => 0)) ::
  .inl (.int, 200, .inl (fun _ => 0)) ::
  .inl (.int, 200, .inl (fun _ => 0)) ::
  .inr (9, [.int 200, .int 23, .ref 79, .ref 80, .ref 81, .int 0]) ::
  .inl (.int, 512, .inl (fun _ => 0)) ::
  .inl (.int, 200, .inl (fun _ => 0)) ::
  .inl (.int, 200, .inl (fun _ => 0)) ::
  .inr (9, [.int 200, .int 23, .ref 83, .ref 84, .ref 85, .int 0]) ::
  .inl (.int, 512, .inl (fun _ => 0)) ::
  .inl (.int, 200, .inl (fun _ => 0)) ::
  .inl (.int, 200, .inl (fun _ => 0)) ::
  .inr (0, [.ref 46, .ref 14, .ref 57, .ref 87]) ::
  .inr (9, [.int 1000, .int 21, .ref 88, .ref 89, .ref 90, .int 0]) ::
  .inl (.int, 2048, .inl (fun _ => 0)) ::
  .inl (.int, 1000, .inl (fun _ => 0)) ::
  .inl (.int, 1000, .inl (fun _ => 0)) ::
  .inr (1, [.ref 3, .ref 14, .ref 92, .int 0, .ref 93, .ref 94]) ::
  .inl (.int, 2, .inl (fun _ => 0)) ::
  .inl (.int, 6, .inl (fun _ => 0)) ::
  .inl (.int, 161, .inl (fun _ => 0)) ::
  .inr (3, [.ref 96, .int 0, .ref 97]) ::
  .inl (.int, 4, .inl (fun _ => 0)) ::
  .inl (.int, 4, .inl (fun _ => 0)) :: []
/-- the heap behind the constructor -/
def cm_h0 : AmH := .inr (11, [.int 0, .ref 1, .ref 2, .ref 3, .ref 4, .ref 1, .int 0, .int 0, .int 0, .int 0, .int 0, .int 0, .int 0, .int 0, .int 0, .retAddr 0, .retAddr 1, .int 0, .ref 5, .ref 6, .ref 7, .int 0, .int 0, .int 0, .int 0, .int 0, .ref 8, .ref 9, .int 0, .ref 10, .ref 11, .ref 12, .ref 13, .ref 14, .long 0, .int 0, .ref 15, .ref 16, .ref 17, .int 0, .int 0, .ref 18, .ref 19, .ref 20, .ref 21, .ref 22, .int 0, .int 0, .int 0, .int 0, .ref 23, .ref 24, .ref 25, .ref 26, .int 0, .int 0, .int 0, .int 0]) ::
  .inl (.byte, 160, .inl (fun _ => 0)) ::
  .inl (.byte, 640, .inl (fun _ => 0)) ::
  .inl (.int, 4, .inl (fun _ => 0)) ::
  .inl (.int, 128, .inl (fun _ => 0)) ::
  .inl (.int, 4, .inl (fun _ => 0)) ::
  .inl (.int, 4, .inl (fun _ => 0)) ::
  .inl (.int, 3, .inl (fun _ => 0)) ::
  .inl (.int, 5, .inl (fun _ => 0)) ::
  .inl (.int, 20, .inl (fun _ => 0)) ::
  .inl (.int, 10, .inl (fun _ => 0)) ::
  .inl (.int, 2, .inl (fun _ => 0)) ::
  .inl (.int, 4, .inl (fun _ => 0)) ::
  .inl (.int, 4, .inl (fun _ => 0)) ::
  .inl (.int, 4, .inl (fun _ => 0)) ::
  .inl (.long, 1001, .inr (.inl (fun _ => 0))) ::
  .inl (.int, 72000, .inl (fun _ => 0)) ::
  .inl (.int, 4, .inl (fun _ => 0)) ::
  .inl (.long, 201, .inr (.inl (fun _ => 0))) ::
  .inl (.long, 201, .inr (.inl (fun _ => 0))) ::
  .inl (.int, 201, .inl (fun _ => 0)) ::
  .inl (.int, 201, .inl (fun _ => 0)) ::
  .inl (.int, 4, .inl (fun _ => 0)) ::
  .inl (.int, 4, .inl (fun _ => 0)) ::
  .inl (.int, 4, .inl (fun _ => 0)) ::
  .inl (.int, 72000, .inl (fun _ => 0)) ::
  .inl (.long, 1000, .inr (.inl (fun _ => 0))) :: []
set_option maxRecDepth 100000 in
set_option maxHeartbeats 4000000 in
theorem cm_init : am_run 130 1 m_X12_init 0 (am_ent [.ref 0] 1) [] [.inr (11, am_dfl 11)] = some (none, cm_h0, 26, 147813) := rfl
set_option maxRecDepth 100000 in
set_option maxHeartbeats 40000000 in
theorem cx_init : am_run 400 6 m_X11_init 0 (am_ent [.ref 0] 1) [] [.inr (10, am_dfl 10)] = some (none, cx_h0, 97, 14943) := rfl

/-! a rule that is told: become, addsRule, text of the class (printed by wip/whole/genbec.py) -/
def ur (rc : Nat → Nat) (p x : Nat) : Nat → Nat := fun a => bif Nat.beq a p then x else rc a
section BecX
variable {d : Nat} {m : AmM} {pc : Nat} {L : AmL} {h : AmH} {rest : List Value} {len t q : Nat} {v : Value} {a b : Int} {off : Int} {r : AmR}
theorem Rn.alS {ty : FieldType} {A : vp_A} (hat : am_at m.2.2.2.2.2 pc = some (.arraylength, len, v)) (hq : am_nth h q = some (.inl (ty, A))) (k : Rn d m (pc + 1) L (.int (iz (A.1 : Int)) :: rest) h r) : Rn d m pc L (.ref q :: rest) h r := by
  refine Rn.one (am_one_h (n := 1) hat rfl ?_) k
  show (match am_nth h q with
      | some (.inl (_, n, _)) => some (1, Value.int (Int32.ofNat n) :: rest, h)
      | _ => (none : AmQ)) = _
  rw [hq]
  show some (1, Value.int (nI A.1) :: rest, h) = _
  rw [iz_nI]
theorem Rn.ne2 (hat : am_at m.2.2.2.2.2 pc = some (.if_icmp .ne off, len, v)) (ht : am_tg pc off = some t) (ha : bI a) (hb : bI b) (hn : a ≠ b) (k : Rn d m t L rest h r) : Rn d m pc L (.int (iz b) :: .int (iz a) :: rest) h r := Rn.br hat (show am_brn (iz a = iz b) pc off L rest = _ from am_brn_t ht) (fun q => absurd ((iz_eq ha hb).mp q) hn) (fun _ => k)
end BecX
set_option maxRecDepth 100000 in
set_option maxHeartbeats 4000000 in
theorem x_cpOf_l (d : Nat) (hh hh' : AmH) (a q : Nat) (g : Int → Int) (sz : Int) (h0 : 0 ≤ sz) (h1 : sz ≤ 160) (ha : am_nth hh a = some (.inl (.int, 161, .inl (av g)))) (hq : am_nth hh q = some (.inl (.int, sz.toNat, .inl (av (fun _ => 0))))) (hp : am_put hh (.inl (.int, sz.toNat, .inl (av (cpI g (fun _ => 0) sz.toNat)))) q = hh') : Rx d m_J7_copyOf_59c91 17 [some (.ref a), some (.int (iz sz)), none] [.ref q] hh (fun rv h => rv = some (.ref q) ∧ h = hh') := by
  refine Rx.walk 6 (pc' := 23) (L' := [some (.ref a), some (.int (iz sz)), some (.ref q)]) (st' := [.ref a, .int (iz 0), .ref q, .int (iz 0), .ref a]) (h' := hh) rfl ?_
  refine Rx.alS rfl ha ?_
  refine Rx.walk 1 (pc' := 25) (L' := [some (.ref a), some (.int (iz sz)), some (.ref q)]) (st' := [.int (iz sz), .int (iz 161), .int (iz 0), .ref q, .int (iz 0), .ref a]) (h' := hh) rfl ?_
  refine Rx.imin (a := 161) (b := sz) rfl ⟨by omega, by omega⟩ ⟨by omega, by omega⟩ ?_
  rw [show min (161 : Int) sz = ((sz.toNat : Nat) : Int) by omega]
  refine Rx.cpy (f := g) (g := fun _ => 0) (h' := hh') sz.toNat rfl rfl ha hq rfl (by omega) (Nat.le_refl _) (by omega) hp ?_
  refine Rx.walk 1 (pc' := 32) (L' := [some (.ref a), some (.int (iz sz)), some (.ref q)]) (st' := [.ref q]) (h' := hh') rfl ?_
  exact Rx.ret rfl ⟨rfl, rfl⟩
theorem x_copyOf (d : Nat) (h : AmH) (a : Nat) (g : Int → Int) (sz : Int) (h0 : 0 ≤ sz) (h1 : sz ≤ 160) (ha : am_nth h a = some (.inl (.int, 161, .inl (av g)))) : Rn d m_J7_copyOf_59c91 0 (am_ent [.ref a, .int (iz sz)] 3) [] h (some (.ref h.length), h ++ [.inl (.int, sz.toNat, .inl (av (cpI g (fun _ => 0) sz.toNat)))], 1, sz.toNat) := by
  have hlt : a < h.length := by
    rw [am_nth_eq] at ha
    exact (List.getElem?_eq_some_iff.mp ha).1
  have ha' : am_nth (h ++ [.inl (.int, sz.toNat, .inl (av (fun _ => 0)))]) a = some (.inl (.int, 161, .inl (av g))) := by
    rw [am_nth_eq] at ha ⊢
    rw [List.getElem?_append_left hlt]; exact ha
  have hq' : am_nth (h ++ [.inl (.int, sz.toNat, .inl (av (fun _ => 0)))]) h.length = some (.inl (.int, sz.toNat, .inl (av (fun _ => 0)))) := by
    rw [am_nth_eq, List.getElem?_append_right (Nat.le_refl _), Nat.sub_self]; rfl
  have hp' : am_put (h ++ [.inl (.int, sz.toNat, .inl (av (fun _ => 0)))]) (.inl (.int, sz.toNat, .inl (av (cpI g (fun _ => 0) sz.toNat)))) h.length = h ++ [.inl (.int, sz.toNat, .inl (av (cpI g (fun _ => 0) sz.toNat)))] := by
    rw [am_put_eq, List.set_append_right _ _ (Nat.le_refl _), Nat.sub_self]; rfl
  have kt := (x_cpOf_l d _ _ a h.length g sz h0 h1 ha' hq' hp').rn
  have hcl : (iz sz).toNatClampNeg = sz.toNat := by
    rw [Int32.toNatClampNeg, iz_toInt ⟨by omega, by omega⟩]
  have e : am_isN m_J7_copyOf_59c91 15 [some (.ref a), some (.int (iz sz)), none] [.int (iz sz)] h = some (2, [.inl (.int, sz.toNat, .inl (av (fun _ => 0)))], [], sz.toNat) := by
    show (if iz sz < 0 ∨ 1000000 < (iz sz).toNatClampNeg then none else some (2, [Sum.inl (FieldType.int, (iz sz).toNatClampNeg, Sum.inl (fun _ => (0 : Int32)))], ([] : List Value), (iz sz).toNatClampNeg)) = _
    rw [hcl, if_neg (by
      rintro (q | q)
      · exact absurd ((iz_lt (a := sz) (b := 0) ⟨by omega, by omega⟩ bI_0).mp q) (by omega)
      · omega)]
    rfl
  have k2 := Rn.make e kt
  refine Rn.walk 2 (pc' := 2) (L' := [some (.ref a), some (.int (iz sz)), none]) (st' := [.ref a, .int (iz sz)]) (h' := h) rfl ?_
  refine Rn.alS rfl ha ?_
  refine Rn.ne2 (a := sz) (b := 161) rfl rfl ⟨by omega, by omega⟩ ⟨by omega, by omega⟩ (by omega) ?_
  refine Rn.walk 1 (pc' := 15) (L' := [some (.ref a), some (.int (iz sz)), none]) (st' := [.int (iz sz)]) (h' := h) rfl ?_
  have : (0 + sz.toNat) = sz.toNat := by omega
  rw [this] at k2
  exact k2
set_option maxRecDepth 100000 in
set_option maxHeartbeats 4000000 in
theorem x_rBec36 (d : Nat) (z : Nat → Nat → Int) (f : Nat → Int → Int) (C : Nat → CuR) (T : Nat → TsR) (rc : Nat → Nat) (tl : AmH) (sz : Int) (cd : Int → Int) (h0 : 0 ≤ sz) (h1 : sz ≤ 160) : Rn (d + 1) m_X6_become 0 (am_ent [.ref 36, .ref 12] 2) [] (cxW (u2 z 12 1 sz) (uf f 13 cd) C T rc tl) (none, cxW (u2 (u2 z 12 1 sz) 36 1 sz) (uf f 13 cd) C T (ur rc 36 (tl.length + 98)) (tl ++ [.inl (.int, sz.toNat, .inl (av (cpI cd (fun _ => 0) sz.toNat)))]), 1, sz.toNat) := by
  have e : am_max (iz 0) (am_min (iz sz) (iz 161)) = iz sz := by rw [am_min_iz ⟨by omega, by omega⟩ ⟨by omega, by omega⟩, am_max_iz ⟨by omega, by omega⟩ ⟨by omega, by omega⟩]; congr 1; omega
  refine Rn.walk 9 (pc' := 17) (L' := [some (.ref 36), some (.ref 12)]) (st' := [.int (am_max (iz 0) (am_min (iz sz) (iz 161))), .ref 36]) (h' := cxW (u2 z 12 1 sz) (uf f 13 cd) C T rc tl) rfl ?_
  rw [e]
  refine Rn.walk 6 (pc' := 29) (L' := [some (.ref 36), some (.ref 12)]) (st' := [.int (iz sz), .ref 13, .ref 36]) (h' := cxW (u2 (u2 z 12 1 sz) 36 1 sz) (uf f 13 cd) C T rc tl) rfl ?_
  have kc := x_copyOf d (cxW (u2 (u2 z 12 1 sz) 36 1 sz) (uf f 13 cd) C T rc tl) 13 cd sz h0 h1 rfl
  have k2 : Rn (d + 1) m_X6_become 32 [some (.ref 36), some (.ref 12)] [.ref (tl.length + 98), .ref 36] (cxW (u2 (u2 z 12 1 sz) 36 1 sz) (uf f 13 cd) C T rc (tl ++ [.inl (.int, sz.toNat, .inl (av (cpI cd (fun _ => 0) sz.toNat)))])) (none, cxW (u2 (u2 z 12 1 sz) 36 1 sz) (uf f 13 cd) C T (ur rc 36 (tl.length + 98)) (tl ++ [.inl (.int, sz.toNat, .inl (av (cpI cd (fun _ => 0) sz.toNat)))]), 0, 0) := by
    refine Rn.walk 1 (pc' := 35) (L' := [some (.ref 36), some (.ref 12)]) (st' := []) (h' := cxW (u2 (u2 z 12 1 sz) 36 1 sz) (uf f 13 cd) C T (ur rc 36 (tl.length + 98)) (tl ++ [.inl (.int, sz.toNat, .inl (av (cpI cd (fun _ => 0) sz.toNat)))])) rfl ?_
    exact Rn.ret rfl
  have := Rn.call (m := m_X6_become) (m' := m_J7_copyOf_59c91) (pc := 29) (L := [some (.ref 36), some (.ref 12)]) (st := [.int (iz sz), .ref 13, .ref 36]) (as := [.ref 13, .int (iz sz)]) (rest := [.ref 36]) rfl kc k2
  rw [show 0 + 1 = 1 from rfl, show 0 + sz.toNat = sz.toNat by omega] at this
  exact this
set_option maxRecDepth 100000 in
set_option maxHeartbeats 4000000 in
theorem x_addsR0 (d : Nat) (z : Nat → Nat → Int) (f : Nat → Int → Int) (C : Nat → CuR) (T : Nat → TsR) (rc : Nat → Nat) (tl : AmH) (sz : Int) (cd : Int → Int) (h0 : 0 ≤ sz) (h1 : sz ≤ 160) : Rn (d + 2) m_X11_addsRule 0 (am_ent [.ref 0] 1) [] (cxW (u2 (u2 z 0 8 0) 12 1 sz) (uf f 13 cd) C T rc tl) (some (.int (iz 0)), cxW (u2 (u2 (u2 z 0 8 1) 12 1 sz) 36 1 sz) (uf f 13 cd) C T (ur rc 36 (tl.length + 98)) (tl ++ [.inl (.int, sz.toNat, .inl (av (cpI cd (fun _ => 0) sz.toNat)))]), 1, sz.toNat) := by
  refine Rn.walk 3 (pc' := 5) (L' := [some (.ref 0)]) (st' := [.int (iz 4), .int (iz 0)]) (h' := cxW (u2 (u2 z 0 8 0) 12 1 sz) (uf f 13 cd) C T rc tl) rfl ?_
  refine Rn.walk 1 (pc' := 10) (L' := [some (.ref 0)]) (st' := []) (h' := cxW (u2 (u2 z 0 8 0) 12 1 sz) (uf f 13 cd) C T rc tl) rfl ?_
  refine Rn.walk 4 (pc' := 18) (L' := [some (.ref 0)]) (st' := [.int (iz 0), .ref 35]) (h' := cxW (u2 (u2 z 0 8 0) 12 1 sz) (uf f 13 cd) C T rc tl) rfl ?_
  refine Rn.aald (j := 0) (b := 36) rfl rfl rfl rfl (by decide) (by decide) rfl ?_
  refine Rn.walk 2 (pc' := 23) (L' := [some (.ref 0)]) (st' := [.ref 12, .ref 36]) (h' := cxW (u2 (u2 z 0 8 0) 12 1 sz) (uf f 13 cd) C T rc tl) rfl ?_
  have kc := x_rBec36 d (u2 z 0 8 0) f C T rc tl sz cd h0 h1
  have k2 : Rn (d + 2) m_X11_addsRule 26 [some (.ref 0)] [] (cxW (u2 (u2 (u2 z 0 8 0) 12 1 sz) 36 1 sz) (uf f 13 cd) C T (ur rc 36 (tl.length + 98)) (tl ++ [.inl (.int, sz.toNat, .inl (av (cpI cd (fun _ => 0) sz.toNat)))])) (some (.int (iz 0)), cxW (u2 (u2 (u2 z 0 8 1) 12 1 sz) 36 1 sz) (uf f 13 cd) C T (ur rc 36 (tl.length + 98)) (tl ++ [.inl (.int, sz.toNat, .inl (av (cpI cd (fun _ => 0) sz.toNat)))]), 0, 0) := by
    refine Rn.walk 7 (pc' := 37) (L' := [some (.ref 0)]) (st' := [.int (iz 0)]) (h' := cxW (u2 (u2 (u2 z 0 8 1) 12 1 sz) 36 1 sz) (uf f 13 cd) C T (ur rc 36 (tl.length + 98)) (tl ++ [.inl (.int, sz.toNat, .inl (av (cpI cd (fun _ => 0) sz.toNat)))])) rfl ?_
    exact Rn.ret rfl
  have := Rn.call (m := m_X11_addsRule) (m' := m_X6_become) (pc := 23) (L := [some (.ref 0)]) (st := [.ref 12, .ref 36]) (as := [.ref 36, .ref 12]) (rest := []) rfl kc k2
  rw [show 0 + 1 = 1 from rfl, show 0 + sz.toNat = sz.toNat by omega] at this
  exact this
set_option maxRecDepth 100000 in
set_option maxHeartbeats 4000000 in
theorem x_text2T0 (d : Nat) (z : Nat → Nat → Int) (f : Nat → Int → Int) (C : Nat → CuR) (T : Nat → TsR) (rc : Nat → Nat) (tl : AmH) (n : Int) (b : Int → Int) (at_ : Int) (sz : Int) (cd : Int → Int) (Rt : RuT) (hT : tOK n b) (hRt : Rt = ruleL n b 161 0) (hY : Rt.1 = true ∧ sg n b Rt.2.1 = -1) : ∃ (at' sz' : Int) (cd' : Int → Int), (0 ≤ at' ∧ at' ≤ n) ∧ (0 ≤ sz' ∧ sz' ≤ 160) ∧ sz' = Rt.2.2.1.length ∧ lsI sz'.toNat cd' = Rt.2.2.1 ∧ Rn (d + 37) m_X11_text 0 (am_ent [.ref 0, .int (iz 2)] 3) [] (cxW (u2 (u2 (u2 (u2 z 0 8 0) 1 1 n) 1 2 at_) 12 1 sz) (uf (uf f 2 b) 13 cd) C T rc tl) (some (.int (iz 0)), cxW (u2 (u2 (u2 (u2 (u2 z 0 8 1) 1 1 0) 1 2 at') 12 1 sz') 36 1 sz') (uf (uf f 2 b) 13 cd') C T (ur rc 36 (tl.length + 98)) (tl ++ [.inl (.int, sz'.toNat, .inl (av (cpI cd' (fun _ => 0) sz'.toNat)))]), 1, sz'.toNat) := by
  obtain ⟨hT1, hT2, hT3⟩ := id hT
  obtain ⟨rv, h1, kf, r, at', sz', cd', rfl, rfl, q1, q2, q3, q4, q5⟩ := x_fault2 (d + 1) (u2 z 0 8 0) f C T rc tl n b at_ sz cd Rt hT hRt
  have hr : r = -1 := by
    rcases q1 with q | q
    · exact q.2.2
    · exact absurd hY q.1
  subst hr
  obtain ⟨e1, e2⟩ := q2 rfl
  have hl : Rt.2.2.1.length + (0 : Int) ≤ Rt.2.1 ∧ Rt.2.1 ≤ n := by rw [hRt]; exact ruleL_len 161 0 (by omega) hT1 (by rw [← hRt]; exact hY.1)
  refine ⟨at', sz', cd', q5, ⟨q3.1, by omega⟩, e1, e2, ?_⟩
  refine Rn.walk 2 (pc' := 2) (L' := [some (.ref 0), some (.int (iz 2)), none]) (st' := [.int (iz 2), .ref 0]) (h' := cxW (u2 (u2 (u2 (u2 z 0 8 0) 1 1 n) 1 2 at_) 12 1 sz) (uf (uf f 2 b) 13 cd) C T rc tl) rfl ?_
  have kc := x_addsR0 (d + 34) (u2 (u2 z 1 1 n) 1 2 at') (uf f 2 b) C T rc tl sz' cd' q3.1 (by omega)
  have k3 : Rn (d + 37) m_X11_text 38 [some (.ref 0), some (.int (iz 2)), none] [.int (iz 0)] (cxW (u2 (u2 (u2 (u2 (u2 z 0 8 1) 1 1 n) 1 2 at') 12 1 sz') 36 1 sz') (uf (uf f 2 b) 13 cd') C T (ur rc 36 (tl.length + 98)) (tl ++ [.inl (.int, sz'.toNat, .inl (av (cpI cd' (fun _ => 0) sz'.toNat)))])) (some (.int (iz 0)), cxW (u2 (u2 (u2 (u2 (u2 z 0 8 1) 1 1 0) 1 2 at') 12 1 sz') 36 1 sz') (uf (uf f 2 b) 13 cd') C T (ur rc 36 (tl.length + 98)) (tl ++ [.inl (.int, sz'.toNat, .inl (av (cpI cd' (fun _ => 0) sz'.toNat)))]), 0, 0) := by
    refine Rn.walk 3 (pc' := 41) (L' := [some (.ref 0), some (.int (iz 2)), some (.int (iz 0))]) (st' := [.int (iz (-1)), .int (iz 0)]) (h' := cxW (u2 (u2 (u2 (u2 (u2 z 0 8 1) 1 1 n) 1 2 at') 12 1 sz') 36 1 sz') (uf (uf f 2 b) 13 cd') C T (ur rc 36 (tl.length + 98)) (tl ++ [.inl (.int, sz'.toNat, .inl (av (cpI cd' (fun _ => 0) sz'.toNat)))])) rfl ?_
    refine Rn.walk 1 (pc' := 44) (L' := [some (.ref 0), some (.int (iz 2)), some (.int (iz 0))]) (st' := []) (h' := cxW (u2 (u2 (u2 (u2 (u2 z 0 8 1) 1 1 n) 1 2 at') 12 1 sz') 36 1 sz') (uf (uf f 2 b) 13 cd') C T (ur rc 36 (tl.length + 98)) (tl ++ [.inl (.int, sz'.toNat, .inl (av (cpI cd' (fun _ => 0) sz'.toNat)))])) rfl ?_
    refine Rn.walk 4 (pc' := 52) (L' := [some (.ref 0), some (.int (iz 2)), some (.int (iz 0))]) (st' := []) (h' := cxW (u2 (u2 (u2 (u2 (u2 z 0 8 1) 1 1 0) 1 2 at') 12 1 sz') 36 1 sz') (uf (uf f 2 b) 13 cd') C T (ur rc 36 (tl.length + 98)) (tl ++ [.inl (.int, sz'.toNat, .inl (av (cpI cd' (fun _ => 0) sz'.toNat)))])) rfl ?_
    refine Rn.walk 1 (pc' := 53) (L' := [some (.ref 0), some (.int (iz 2)), some (.int (iz 0))]) (st' := [.int (iz 0)]) (h' := cxW (u2 (u2 (u2 (u2 (u2 z 0 8 1) 1 1 0) 1 2 at') 12 1 sz') 36 1 sz') (uf (uf f 2 b) 13 cd') C T (ur rc 36 (tl.length + 98)) (tl ++ [.inl (.int, sz'.toNat, .inl (av (cpI cd' (fun _ => 0) sz'.toNat)))])) rfl ?_
    exact Rn.ret rfl
  have k2 := Rn.call (m := m_X11_text) (m' := m_X11_addsRule) (d := d + 36) (pc := 35) (L := [some (.ref 0), some (.int (iz 2)), none]) (st := [.ref 0]) (as := [.ref 0]) (rest := []) rfl kc k3
  have k1 : Rn (d + 37) m_X11_text 5 [some (.ref 0), some (.int (iz 2)), none] [.int (iz (-1))] (cxW (u2 (u2 (u2 (u2 z 0 8 0) 1 1 n) 1 2 at') 12 1 sz') (uf (uf f 2 b) 13 cd') C T rc tl) (some (.int (iz 0)), cxW (u2 (u2 (u2 (u2 (u2 z 0 8 1) 1 1 0) 1 2 at') 12 1 sz') 36 1 sz') (uf (uf f 2 b) 13 cd') C T (ur rc 36 (tl.length + 98)) (tl ++ [.inl (.int, sz'.toNat, .inl (av (cpI cd' (fun _ => 0) sz'.toNat)))]), 0 + 1, 0 + sz'.toNat) := by
    refine Rn.walk 2 (pc' := 11) (L' := [some (.ref 0), some (.int (iz 2)), none]) (st' := []) (h' := cxW (u2 (u2 (u2 (u2 z 0 8 0) 1 1 n) 1 2 at') 12 1 sz') (uf (uf f 2 b) 13 cd') C T rc tl) rfl ?_
    refine Rn.walk 2 (pc' := 22) (L' := [some (.ref 0), some (.int (iz 2)), none]) (st' := []) (h' := cxW (u2 (u2 (u2 (u2 z 0 8 0) 1 1 n) 1 2 at') 12 1 sz') (uf (uf f 2 b) 13 cd') C T rc tl) rfl ?_
    refine Rn.walk 3 (pc' := 34) (L' := [some (.ref 0), some (.int (iz 2)), none]) (st' := []) (h' := cxW (u2 (u2 (u2 (u2 z 0 8 0) 1 1 n) 1 2 at') 12 1 sz') (uf (uf f 2 b) 13 cd') C T rc tl) rfl ?_
    refine Rn.walk 1 (pc' := 35) (L' := [some (.ref 0), some (.int (iz 2)), none]) (st' := [.ref 0]) (h' := cxW (u2 (u2 (u2 (u2 z 0 8 0) 1 1 n) 1 2 at') 12 1 sz') (uf (uf f 2 b) 13 cd') C T rc tl) rfl ?_
    exact k2
  have := Rn.call (m := m_X11_text) (m' := m_X11_fault) (d := d + 36) (pc := 2) (L := [some (.ref 0), some (.int (iz 2)), none]) (st := [.int (iz 2), .ref 0]) (as := [.ref 0, .int (iz 2)]) (rest := []) rfl kf k1
  rw [show 0 + 1 + 0 = 1 from rfl, show 0 + sz'.toNat + 0 = sz'.toNat by omega] at this
  exact this
set_option maxRecDepth 100000 in
set_option maxHeartbeats 4000000 in
theorem x_rBec38 (d : Nat) (z : Nat → Nat → Int) (f : Nat → Int → Int) (C : Nat → CuR) (T : Nat → TsR) (rc : Nat → Nat) (tl : AmH) (sz : Int) (cd : Int → Int) (h0 : 0 ≤ sz) (h1 : sz ≤ 160) : Rn (d + 1) m_X6_become 0 (am_ent [.ref 38, .ref 12] 2) [] (cxW (u2 z 12 1 sz) (uf f 13 cd) C T rc tl) (none, cxW (u2 (u2 z 12 1 sz) 38 1 sz) (uf f 13 cd) C T (ur rc 38 (tl.length + 98)) (tl ++ [.inl (.int, sz.toNat, .inl (av (cpI cd (fun _ => 0) sz.toNat)))]), 1, sz.toNat) := by
  have e : am_max (iz 0) (am_min (iz sz) (iz 161)) = iz sz := by rw [am_min_iz ⟨by omega, by omega⟩ ⟨by omega, by omega⟩, am_max_iz ⟨by omega, by omega⟩ ⟨by omega, by omega⟩]; congr 1; omega
  refine Rn.walk 9 (pc' := 17) (L' := [some (.ref 38), some (.ref 12)]) (st' := [.int (am_max (iz 0) (am_min (iz sz) (iz 161))), .ref 38]) (h' := cxW (u2 z 12 1 sz) (uf f 13 cd) C T rc tl) rfl ?_
  rw [e]
  refine Rn.walk 6 (pc' := 29) (L' := [some (.ref 38), some (.ref 12)]) (st' := [.int (iz sz), .ref 13, .ref 38]) (h' := cxW (u2 (u2 z 12 1 sz) 38 1 sz) (uf f 13 cd) C T rc tl) rfl ?_
  have kc := x_copyOf d (cxW (u2 (u2 z 12 1 sz) 38 1 sz) (uf f 13 cd) C T rc tl) 13 cd sz h0 h1 rfl
  have k2 : Rn (d + 1) m_X6_become 32 [some (.ref 38), some (.ref 12)] [.ref (tl.length + 98), .ref 38] (cxW (u2 (u2 z 12 1 sz) 38 1 sz) (uf f 13 cd) C T rc (tl ++ [.inl (.int, sz.toNat, .inl (av (cpI cd (fun _ => 0) sz.toNat)))])) (none, cxW (u2 (u2 z 12 1 sz) 38 1 sz) (uf f 13 cd) C T (ur rc 38 (tl.length + 98)) (tl ++ [.inl (.int, sz.toNat, .inl (av (cpI cd (fun _ => 0) sz.toNat)))]), 0, 0) := by
    refine Rn.walk 1 (pc' := 35) (L' := [some (.ref 38), some (.ref 12)]) (st' := []) (h' := cxW (u2 (u2 z 12 1 sz) 38 1 sz) (uf f 13 cd) C T (ur rc 38 (tl.length + 98)) (tl ++ [.inl (.int, sz.toNat, .inl (av (cpI cd (fun _ => 0) sz.toNat)))])) rfl ?_
    exact Rn.ret rfl
  have := Rn.call (m := m_X6_become) (m' := m_J7_copyOf_59c91) (pc := 29) (L := [some (.ref 38), some (.ref 12)]) (st := [.int (iz sz), .ref 13, .ref 38]) (as := [.ref 13, .int (iz sz)]) (rest := [.ref 38]) rfl kc k2
  rw [show 0 + 1 = 1 from rfl, show 0 + sz.toNat = sz.toNat by omega] at this
  exact this
set_option maxRecDepth 100000 in
set_option maxHeartbeats 4000000 in
theorem x_addsR1 (d : Nat) (z : Nat → Nat → Int) (f : Nat → Int → Int) (C : Nat → CuR) (T : Nat → TsR) (rc : Nat → Nat) (tl : AmH) (sz : Int) (cd : Int → Int) (h0 : 0 ≤ sz) (h1 : sz ≤ 160) : Rn (d + 2) m_X11_addsRule 0 (am_ent [.ref 0] 1) [] (cxW (u2 (u2 z 0 8 1) 12 1 sz) (uf f 13 cd) C T rc tl) (some (.int (iz 1)), cxW (u2 (u2 (u2 z 0 8 2) 12 1 sz) 38 1 sz) (uf f 13 cd) C T (ur rc 38 (tl.length + 98)) (tl ++ [.inl (.int, sz.toNat, .inl (av (cpI cd (fun _ => 0) sz.toNat)))]), 1, sz.toNat) := by
  refine Rn.walk 3 (pc' := 5) (L' := [some (.ref 0)]) (st' := [.int (iz 4), .int (iz 1)]) (h' := cxW (u2 (u2 z 0 8 1) 12 1 sz) (uf f 13 cd) C T rc tl) rfl ?_
  refine Rn.walk 1 (pc' := 10) (L' := [some (.ref 0)]) (st' := []) (h' := cxW (u2 (u2 z 0 8 1) 12 1 sz) (uf f 13 cd) C T rc tl) rfl ?_
  refine Rn.walk 4 (pc' := 18) (L' := [some (.ref 0)]) (st' := [.int (iz 1), .ref 35]) (h' := cxW (u2 (u2 z 0 8 1) 12 1 sz) (uf f 13 cd) C T rc tl) rfl ?_
  refine Rn.aald (j := 1) (b := 38) rfl rfl rfl rfl (by decide) (by decide) rfl ?_
  refine Rn.walk 2 (pc' := 23) (L' := [some (.ref 0)]) (st' := [.ref 12, .ref 38]) (h' := cxW (u2 (u2 z 0 8 1) 12 1 sz) (uf f 13 cd) C T rc tl) rfl ?_
  have kc := x_rBec38 d (u2 z 0 8 1) f C T rc tl sz cd h0 h1
  have k2 : Rn (d + 2) m_X11_addsRule 26 [some (.ref 0)] [] (cxW (u2 (u2 (u2 z 0 8 1) 12 1 sz) 38 1 sz) (uf f 13 cd) C T (ur rc 38 (tl.length + 98)) (tl ++ [.inl (.int, sz.toNat, .inl (av (cpI cd (fun _ => 0) sz.toNat)))])) (some (.int (iz 1)), cxW (u2 (u2 (u2 z 0 8 2) 12 1 sz) 38 1 sz) (uf f 13 cd) C T (ur rc 38 (tl.length + 98)) (tl ++ [.inl (.int, sz.toNat, .inl (av (cpI cd (fun _ => 0) sz.toNat)))]), 0, 0) := by
    refine Rn.walk 7 (pc' := 37) (L' := [some (.ref 0)]) (st' := [.int (iz 1)]) (h' := cxW (u2 (u2 (u2 z 0 8 2) 12 1 sz) 38 1 sz) (uf f 13 cd) C T (ur rc 38 (tl.length + 98)) (tl ++ [.inl (.int, sz.toNat, .inl (av (cpI cd (fun _ => 0) sz.toNat)))])) rfl ?_
    exact Rn.ret rfl
  have := Rn.call (m := m_X11_addsRule) (m' := m_X6_become) (pc := 23) (L := [some (.ref 0)]) (st := [.ref 12, .ref 38]) (as := [.ref 38, .ref 12]) (rest := []) rfl kc k2
  rw [show 0 + 1 = 1 from rfl, show 0 + sz.toNat = sz.toNat by omega] at this
  exact this
set_option maxRecDepth 100000 in
set_option maxHeartbeats 4000000 in
theorem x_text2T1 (d : Nat) (z : Nat → Nat → Int) (f : Nat → Int → Int) (C : Nat → CuR) (T : Nat → TsR) (rc : Nat → Nat) (tl : AmH) (n : Int) (b : Int → Int) (at_ : Int) (sz : Int) (cd : Int → Int) (Rt : RuT) (hT : tOK n b) (hRt : Rt = ruleL n b 161 0) (hY : Rt.1 = true ∧ sg n b Rt.2.1 = -1) : ∃ (at' sz' : Int) (cd' : Int → Int), (0 ≤ at' ∧ at' ≤ n) ∧ (0 ≤ sz' ∧ sz' ≤ 160) ∧ sz' = Rt.2.2.1.length ∧ lsI sz'.toNat cd' = Rt.2.2.1 ∧ Rn (d + 37) m_X11_text 0 (am_ent [.ref 0, .int (iz 2)] 3) [] (cxW (u2 (u2 (u2 (u2 z 0 8 1) 1 1 n) 1 2 at_) 12 1 sz) (uf (uf f 2 b) 13 cd) C T rc tl) (some (.int (iz 1)), cxW (u2 (u2 (u2 (u2 (u2 z 0 8 2) 1 1 0) 1 2 at') 12 1 sz') 38 1 sz') (uf (uf f 2 b) 13 cd') C T (ur rc 38 (tl.length + 98)) (tl ++ [.inl (.int, sz'.toNat, .inl (av (cpI cd' (fun _ => 0) sz'.toNat)))]), 1, sz'.toNat) := by
  obtain ⟨hT1, hT2, hT3⟩ := id hT
  obtain ⟨rv, h1, kf, r, at', sz', cd', rfl, rfl, q1, q2, q3, q4, q5⟩ := x_fault2 (d + 1) (u2 z 0 8 1) f C T rc tl n b at_ sz cd Rt hT hRt
  have hr : r = -1 := by
    rcases q1 with q | q
    · exact q.2.2
    · exact absurd hY q.1
  subst hr
  obtain ⟨e1, e2⟩ := q2 rfl
  have hl : Rt.2.2.1.length + (0 : Int) ≤ Rt.2.1 ∧ Rt.2.1 ≤ n := by rw [hRt]; exact ruleL_len 161 0 (by omega) hT1 (by rw [← hRt]; exact hY.1)
  refine ⟨at', sz', cd', q5, ⟨q3.1, by omega⟩, e1, e2, ?_⟩
  refine Rn.walk 2 (pc' := 2) (L' := [some (.ref 0), some (.int (iz 2)), none]) (st' := [.int (iz 2), .ref 0]) (h' := cxW (u2 (u2 (u2 (u2 z 0 8 1) 1 1 n) 1 2 at_) 12 1 sz) (uf (uf f 2 b) 13 cd) C T rc tl) rfl ?_
  have kc := x_addsR1 (d + 34) (u2 (u2 z 1 1 n) 1 2 at') (uf f 2 b) C T rc tl sz' cd' q3.1 (by omega)
  have k3 : Rn (d + 37) m_X11_text 38 [some (.ref 0), some (.int (iz 2)), none] [.int (iz 1)] (cxW (u2 (u2 (u2 (u2 (u2 z 0 8 2) 1 1 n) 1 2 at') 12 1 sz') 38 1 sz') (uf (uf f 2 b) 13 cd') C T (ur rc 38 (tl.length + 98)) (tl ++ [.inl (.int, sz'.toNat, .inl (av (cpI cd' (fun _ => 0) sz'.toNat)))])) (some (.int (iz 1)), cxW (u2 (u2 (u2 (u2 (u2 z 0 8 2) 1 1 0) 1 2 at') 12 1 sz') 38 1 sz') (uf (uf f 2 b) 13 cd') C T (ur rc 38 (tl.length + 98)) (tl ++ [.inl (.int, sz'.toNat, .inl (av (cpI cd' (fun _ => 0) sz'.toNat)))]), 0, 0) := by
    refine Rn.walk 3 (pc' := 41) (L' := [some (.ref 0), some (.int (iz 2)), some (.int (iz 1))]) (st' := [.int (iz (-1)), .int (iz 1)]) (h' := cxW (u2 (u2 (u2 (u2 (u2 z 0 8 2) 1 1 n) 1 2 at') 12 1 sz') 38 1 sz') (uf (uf f 2 b) 13 cd') C T (ur rc 38 (tl.length + 98)) (tl ++ [.inl (.int, sz'.toNat, .inl (av (cpI cd' (fun _ => 0) sz'.toNat)))])) rfl ?_
    refine Rn.walk 1 (pc' := 44) (L' := [some (.ref 0), some (.int (iz 2)), some (.int (iz 1))]) (st' := []) (h' := cxW (u2 (u2 (u2 (u2 (u2 z 0 8 2) 1 1 n) 1 2 at') 12 1 sz') 38 1 sz') (uf (uf f 2 b) 13 cd') C T (ur rc 38 (tl.length + 98)) (tl ++ [.inl (.int, sz'.toNat, .inl (av (cpI cd' (fun _ => 0) sz'.toNat)))])) rfl ?_
    refine Rn.walk 4 (pc' := 52) (L' := [some (.ref 0), some (.int (iz 2)), some (.int (iz 1))]) (st' := []) (h' := cxW (u2 (u2 (u2 (u2 (u2 z 0 8 2) 1 1 0) 1 2 at') 12 1 sz') 38 1 sz') (uf (uf f 2 b) 13 cd') C T (ur rc 38 (tl.length + 98)) (tl ++ [.inl (.int, sz'.toNat, .inl (av (cpI cd' (fun _ => 0) sz'.toNat)))])) rfl ?_
    refine Rn.walk 1 (pc' := 53) (L' := [some (.ref 0), some (.int (iz 2)), some (.int (iz 1))]) (st' := [.int (iz 1)]) (h' := cxW (u2 (u2 (u2 (u2 (u2 z 0 8 2) 1 1 0) 1 2 at') 12 1 sz') 38 1 sz') (uf (uf f 2 b) 13 cd') C T (ur rc 38 (tl.length + 98)) (tl ++ [.inl (.int, sz'.toNat, .inl (av (cpI cd' (fun _ => 0) sz'.toNat)))])) rfl ?_
    exact Rn.ret rfl
  have k2 := Rn.call (m := m_X11_text) (m' := m_X11_addsRule) (d := d + 36) (pc := 35) (L := [some (.ref 0), some (.int (iz 2)), none]) (st := [.ref 0]) (as := [.ref 0]) (rest := []) rfl kc k3
  have k1 : Rn (d + 37) m_X11_text 5 [some (.ref 0), some (.int (iz 2)), none] [.int (iz (-1))] (cxW (u2 (u2 (u2 (u2 z 0 8 1) 1 1 n) 1 2 at') 12 1 sz') (uf (uf f 2 b) 13 cd') C T rc tl) (some (.int (iz 1)), cxW (u2 (u2 (u2 (u2 (u2 z 0 8 2) 1 1 0) 1 2 at') 12 1 sz') 38 1 sz') (uf (uf f 2 b) 13 cd') C T (ur rc 38 (tl.length + 98)) (tl ++ [.inl (.int, sz'.toNat, .inl (av (cpI cd' (fun _ => 0) sz'.toNat)))]), 0 + 1, 0 + sz'.toNat) := by
    refine Rn.walk 2 (pc' := 11) (L' := [some (.ref 0), some (.int (iz 2)), none]) (st' := []) (h' := cxW (u2 (u2 (u2 (u2 z 0 8 1) 1 1 n) 1 2 at') 12 1 sz') (uf (uf f 2 b) 13 cd') C T rc tl) rfl ?_
    refine Rn.walk 2 (pc' := 22) (L' := [some (.ref 0), some (.int (iz 2)), none]) (st' := []) (h' := cxW (u2 (u2 (u2 (u2 z 0 8 1) 1 1 n) 1 2 at') 12 1 sz') (uf (uf f 2 b) 13 cd') C T rc tl) rfl ?_
    refine Rn.walk 3 (pc' := 34) (L' := [some (.ref 0), some (.int (iz 2)), none]) (st' := []) (h' := cxW (u2 (u2 (u2 (u2 z 0 8 1) 1 1 n) 1 2 at') 12 1 sz') (uf (uf f 2 b) 13 cd') C T rc tl) rfl ?_
    refine Rn.walk 1 (pc' := 35) (L' := [some (.ref 0), some (.int (iz 2)), none]) (st' := [.ref 0]) (h' := cxW (u2 (u2 (u2 (u2 z 0 8 1) 1 1 n) 1 2 at') 12 1 sz') (uf (uf f 2 b) 13 cd') C T rc tl) rfl ?_
    exact k2
  have := Rn.call (m := m_X11_text) (m' := m_X11_fault) (d := d + 36) (pc := 2) (L := [some (.ref 0), some (.int (iz 2)), none]) (st := [.int (iz 2), .ref 0]) (as := [.ref 0, .int (iz 2)]) (rest := []) rfl kf k1
  rw [show 0 + 1 + 0 = 1 from rfl, show 0 + sz'.toNat + 0 = sz'.toNat by omega] at this
  exact this
set_option maxRecDepth 100000 in
set_option maxHeartbeats 4000000 in
theorem x_rBec40 (d : Nat) (z : Nat → Nat → Int) (f : Nat → Int → Int) (C : Nat → CuR) (T : Nat → TsR) (rc : Nat → Nat) (tl : AmH) (sz : Int) (cd : Int → Int) (h0 : 0 ≤ sz) (h1 : sz ≤ 160) : Rn (d + 1) m_X6_become 0 (am_ent [.ref 40, .ref 12] 2) [] (cxW (u2 z 12 1 sz) (uf f 13 cd) C T rc tl) (none, cxW (u2 (u2 z 12 1 sz) 40 1 sz) (uf f 13 cd) C T (ur rc 40 (tl.length + 98)) (tl ++ [.inl (.int, sz.toNat, .inl (av (cpI cd (fun _ => 0) sz.toNat)))]), 1, sz.toNat) := by
  have e : am_max (iz 0) (am_min (iz sz) (iz 161)) = iz sz := by rw [am_min_iz ⟨by omega, by omega⟩ ⟨by omega, by omega⟩, am_max_iz ⟨by omega, by omega⟩ ⟨by omega, by omega⟩]; congr 1; omega
  refine Rn.walk 9 (pc' := 17) (L' := [some (.ref 40), some (.ref 12)]) (st' := [.int (am_max (iz 0) (am_min (iz sz) (iz 161))), .ref 40]) (h' := cxW (u2 z 12 1 sz) (uf f 13 cd) C T rc tl) rfl ?_
  rw [e]
  refine Rn.walk 6 (pc' := 29) (L' := [some (.ref 40), some (.ref 12)]) (st' := [.int (iz sz), .ref 13, .ref 40]) (h' := cxW (u2 (u2 z 12 1 sz) 40 1 sz) (uf f 13 cd) C T rc tl) rfl ?_
  have kc := x_copyOf d (cxW (u2 (u2 z 12 1 sz) 40 1 sz) (uf f 13 cd) C T rc tl) 13 cd sz h0 h1 rfl
  have k2 : Rn (d + 1) m_X6_become 32 [some (.ref 40), some (.ref 12)] [.ref (tl.length + 98), .ref 40] (cxW (u2 (u2 z 12 1 sz) 40 1 sz) (uf f 13 cd) C T rc (tl ++ [.inl (.int, sz.toNat, .inl (av (cpI cd (fun _ => 0) sz.toNat)))])) (none, cxW (u2 (u2 z 12 1 sz) 40 1 sz) (uf f 13 cd) C T (ur rc 40 (tl.length + 98)) (tl ++ [.inl (.int, sz.toNat, .inl (av (cpI cd (fun _ => 0) sz.toNat)))]), 0, 0) := by
    refine Rn.walk 1 (pc' := 35) (L' := [some (.ref 40), some (.ref 12)]) (st' := []) (h' := cxW (u2 (u2 z 12 1 sz) 40 1 sz) (uf f 13 cd) C T (ur rc 40 (tl.length + 98)) (tl ++ [.inl (.int, sz.toNat, .inl (av (cpI cd (fun _ => 0) sz.toNat)))])) rfl ?_
    exact Rn.ret rfl
  have := Rn.call (m := m_X6_become) (m' := m_J7_copyOf_59c91) (pc := 29) (L := [some (.ref 40), some (.ref 12)]) (st := [.int (iz sz), .ref 13, .ref 40]) (as := [.ref 13, .int (iz sz)]) (rest := [.ref 40]) rfl kc k2
  rw [show 0 + 1 = 1 from rfl, show 0 + sz.toNat = sz.toNat by omega] at this
  exact this
set_option maxRecDepth 100000 in
set_option maxHeartbeats 4000000 in
theorem x_addsR2 (d : Nat) (z : Nat → Nat → Int) (f : Nat → Int → Int) (C : Nat → CuR) (T : Nat → TsR) (rc : Nat → Nat) (tl : AmH) (sz : Int) (cd : Int → Int) (h0 : 0 ≤ sz) (h1 : sz ≤ 160) : Rn (d + 2) m_X11_addsRule 0 (am_ent [.ref 0] 1) [] (cxW (u2 (u2 z 0 8 2) 12 1 sz) (uf f 13 cd) C T rc tl) (some (.int (iz 2)), cxW (u2 (u2 (u2 z 0 8 3) 12 1 sz) 40 1 sz) (uf f 13 cd) C T (ur rc 40 (tl.length + 98)) (tl ++ [.inl (.int, sz.toNat, .inl (av (cpI cd (fun _ => 0) sz.toNat)))]), 1, sz.toNat) := by
  refine Rn.walk 3 (pc' := 5) (L' := [some (.ref 0)]) (st' := [.int (iz 4), .int (iz 2)]) (h' := cxW (u2 (u2 z 0 8 2) 12 1 sz) (uf f 13 cd) C T rc tl) rfl ?_
  refine Rn.walk 1 (pc' := 10) (L' := [some (.ref 0)]) (st' := []) (h' := cxW (u2 (u2 z 0 8 2) 12 1 sz) (uf f 13 cd) C T rc tl) rfl ?_
  refine Rn.walk 4 (pc' := 18) (L' := [some (.ref 0)]) (st' := [.int (iz 2), .ref 35]) (h' := cxW (u2 (u2 z 0 8 2) 12 1 sz) (uf f 13 cd) C T rc tl) rfl ?_
  refine Rn.aald (j := 2) (b := 40) rfl rfl rfl rfl (by decide) (by decide) rfl ?_
  refine Rn.walk 2 (pc' := 23) (L' := [some (.ref 0)]) (st' := [.ref 12, .ref 40]) (h' := cxW (u2 (u2 z 0 8 2) 12 1 sz) (uf f 13 cd) C T rc tl) rfl ?_
  have kc := x_rBec40 d (u2 z 0 8 2) f C T rc tl sz cd h0 h1
  have k2 : Rn (d + 2) m_X11_addsRule 26 [some (.ref 0)] [] (cxW (u2 (u2 (u2 z 0 8 2) 12 1 sz) 40 1 sz) (uf f 13 cd) C T (ur rc 40 (tl.length + 98)) (tl ++ [.inl (.int, sz.toNat, .inl (av (cpI cd (fun _ => 0) sz.toNat)))])) (some (.int (iz 2)), cxW (u2 (u2 (u2 z 0 8 3) 12 1 sz) 40 1 sz) (uf f 13 cd) C T (ur rc 40 (tl.length + 98)) (tl ++ [.inl (.int, sz.toNat, .inl (av (cpI cd (fun _ => 0) sz.toNat)))]), 0, 0) := by
    refine Rn.walk 7 (pc' := 37) (L' := [some (.ref 0)]) (st' := [.int (iz 2)]) (h' := cxW (u2 (u2 (u2 z 0 8 3) 12 1 sz) 40 1 sz) (uf f 13 cd) C T (ur rc 40 (tl.length + 98)) (tl ++ [.inl (.int, sz.toNat, .inl (av (cpI cd (fun _ => 0) sz.toNat)))])) rfl ?_
    exact Rn.ret rfl
  have := Rn.call (m := m_X11_addsRule) (m' := m_X6_become) (pc := 23) (L := [some (.ref 0)]) (st := [.ref 12, .ref 40]) (as := [.ref 40, .ref 12]) (rest := []) rfl kc k2
  rw [show 0 + 1 = 1 from rfl, show 0 + sz.toNat = sz.toNat by omega] at this
  exact this
set_option maxRecDepth 100000 in
set_option maxHeartbeats 4000000 in
theorem x_text2T2 (d : Nat) (z : Nat → Nat → Int) (f : Nat → Int → Int) (C : Nat → CuR) (T : Nat → TsR) (rc : Nat → Nat) (tl : AmH) (n : Int) (b : Int → Int) (at_ : Int) (sz : Int) (cd : Int → Int) (Rt : RuT) (hT : tOK n b) (hRt : Rt = ruleL n b 161 0) (hY : Rt.1 = true ∧ sg n b Rt.2.1 = -1) : ∃ (at' sz' : Int) (cd' : Int → Int), (0 ≤ at' ∧ at' ≤ n) ∧ (0 ≤ sz' ∧ sz' ≤ 160) ∧ sz' = Rt.2.2.1.length ∧ lsI sz'.toNat cd' = Rt.2.2.1 ∧ Rn (d + 37) m_X11_text 0 (am_ent [.ref 0, .int (iz 2)] 3) [] (cxW (u2 (u2 (u2 (u2 z 0 8 2) 1 1 n) 1 2 at_) 12 1 sz) (uf (uf f 2 b) 13 cd) C T rc tl) (some (.int (iz 2)), cxW (u2 (u2 (u2 (u2 (u2 z 0 8 3) 1 1 0) 1 2 at') 12 1 sz') 40 1 sz') (uf (uf f 2 b) 13 cd') C T (ur rc 40 (tl.length + 98)) (tl ++ [.inl (.int, sz'.toNat, .inl (av (cpI cd' (fun _ => 0) sz'.toNat)))]), 1, sz'.toNat) := by
  obtain ⟨hT1, hT2, hT3⟩ := id hT
  obtain ⟨rv, h1, kf, r, at', sz', cd', rfl, rfl, q1, q2, q3, q4, q5⟩ := x_fault2 (d + 1) (u2 z 0 8 2) f C T rc tl n b at_ sz cd Rt hT hRt
  have hr : r = -1 := by
    rcases q1 with q | q
    · exact q.2.2
    · exact absurd hY q.1
  subst hr
  obtain ⟨e1, e2⟩ := q2 rfl
  have hl : Rt.2.2.1.length + (0 : Int) ≤ Rt.2.1 ∧ Rt.2.1 ≤ n := by rw [hRt]; exact ruleL_len 161 0 (by omega) hT1 (by rw [← hRt]; exact hY.1)
  refine ⟨at', sz', cd', q5, ⟨q3.1, by omega⟩, e1, e2, ?_⟩
  refine Rn.walk 2 (pc' := 2) (L' := [some (.ref 0), some (.int (iz 2)), none]) (st' := [.int (iz 2), .ref 0]) (h' := cxW (u2 (u2 (u2 (u2 z 0 8 2) 1 1 n) 1 2 at_) 12 1 sz) (uf (uf f 2 b) 13 cd) C T rc tl) rfl ?_
  have kc := x_addsR2 (d + 34) (u2 (u2 z 1 1 n) 1 2 at') (uf f 2 b) C T rc tl sz' cd' q3.1 (by omega)
  have k3 : Rn (d + 37) m_X11_text 38 [some (.ref 0), some (.int (iz 2)), none] [.int (iz 2)] (cxW (u2 (u2 (u2 (u2 (u2 z 0 8 3) 1 1 n) 1 2 at') 12 1 sz') 40 1 sz') (uf (uf f 2 b) 13 cd') C T (ur rc 40 (tl.length + 98)) (tl ++ [.inl (.int, sz'.toNat, .inl (av (cpI cd' (fun _ => 0) sz'.toNat)))])) (some (.int (iz 2)), cxW (u2 (u2 (u2 (u2 (u2 z 0 8 3) 1 1 0) 1 2 at') 12 1 sz') 40 1 sz') (uf (uf f 2 b) 13 cd') C T (ur rc 40 (tl.length + 98)) (tl ++ [.inl (.int, sz'.toNat, .inl (av (cpI cd' (fun _ => 0) sz'.toNat)))]), 0, 0) := by
    refine Rn.walk 3 (pc' := 41) (L' := [some (.ref 0), some (.int (iz 2)), some (.int (iz 2))]) (st' := [.int (iz (-1)), .int (iz 2)]) (h' := cxW (u2 (u2 (u2 (u2 (u2 z 0 8 3) 1 1 n) 1 2 at') 12 1 sz') 40 1 sz') (uf (uf f 2 b) 13 cd') C T (ur rc 40 (tl.length + 98)) (tl ++ [.inl (.int, sz'.toNat, .inl (av (cpI cd' (fun _ => 0) sz'.toNat)))])) rfl ?_
    refine Rn.walk 1 (pc' := 44) (L' := [some (.ref 0), some (.int (iz 2)), some (.int (iz 2))]) (st' := []) (h' := cxW (u2 (u2 (u2 (u2 (u2 z 0 8 3) 1 1 n) 1 2 at') 12 1 sz') 40 1 sz') (uf (uf f 2 b) 13 cd') C T (ur rc 40 (tl.length + 98)) (tl ++ [.inl (.int, sz'.toNat, .inl (av (cpI cd' (fun _ => 0) sz'.toNat)))])) rfl ?_
    refine Rn.walk 4 (pc' := 52) (L' := [some (.ref 0), some (.int (iz 2)), some (.int (iz 2))]) (st' := []) (h' := cxW (u2 (u2 (u2 (u2 (u2 z 0 8 3) 1 1 0) 1 2 at') 12 1 sz') 40 1 sz') (uf (uf f 2 b) 13 cd') C T (ur rc 40 (tl.length + 98)) (tl ++ [.inl (.int, sz'.toNat, .inl (av (cpI cd' (fun _ => 0) sz'.toNat)))])) rfl ?_
    refine Rn.walk 1 (pc' := 53) (L' := [some (.ref 0), some (.int (iz 2)), some (.int (iz 2))]) (st' := [.int (iz 2)]) (h' := cxW (u2 (u2 (u2 (u2 (u2 z 0 8 3) 1 1 0) 1 2 at') 12 1 sz') 40 1 sz') (uf (uf f 2 b) 13 cd') C T (ur rc 40 (tl.length + 98)) (tl ++ [.inl (.int, sz'.toNat, .inl (av (cpI cd' (fun _ => 0) sz'.toNat)))])) rfl ?_
    exact Rn.ret rfl
  have k2 := Rn.call (m := m_X11_text) (m' := m_X11_addsRule) (d := d + 36) (pc := 35) (L := [some (.ref 0), some (.int (iz 2)), none]) (st := [.ref 0]) (as := [.ref 0]) (rest := []) rfl kc k3
  have k1 : Rn (d + 37) m_X11_text 5 [some (.ref 0), some (.int (iz 2)), none] [.int (iz (-1))] (cxW (u2 (u2 (u2 (u2 z 0 8 2) 1 1 n) 1 2 at') 12 1 sz') (uf (uf f 2 b) 13 cd') C T rc tl) (some (.int (iz 2)), cxW (u2 (u2 (u2 (u2 (u2 z 0 8 3) 1 1 0) 1 2 at') 12 1 sz') 40 1 sz') (uf (uf f 2 b) 13 cd') C T (ur rc 40 (tl.length + 98)) (tl ++ [.inl (.int, sz'.toNat, .inl (av (cpI cd' (fun _ => 0) sz'.toNat)))]), 0 + 1, 0 + sz'.toNat) := by
    refine Rn.walk 2 (pc' := 11) (L' := [some (.ref 0), some (.int (iz 2)), none]) (st' := []) (h' := cxW (u2 (u2 (u2 (u2 z 0 8 2) 1 1 n) 1 2 at') 12 1 sz') (uf (uf f 2 b) 13 cd') C T rc tl) rfl ?_
    refine Rn.walk 2 (pc' := 22) (L' := [some (.ref 0), some (.int (iz 2)), none]) (st' := []) (h' := cxW (u2 (u2 (u2 (u2 z 0 8 2) 1 1 n) 1 2 at') 12 1 sz') (uf (uf f 2 b) 13 cd') C T rc tl) rfl ?_
    refine Rn.walk 3 (pc' := 34) (L' := [some (.ref 0), some (.int (iz 2)), none]) (st' := []) (h' := cxW (u2 (u2 (u2 (u2 z 0 8 2) 1 1 n) 1 2 at') 12 1 sz') (uf (uf f 2 b) 13 cd') C T rc tl) rfl ?_
    refine Rn.walk 1 (pc' := 35) (L' := [some (.ref 0), some (.int (iz 2)), none]) (st' := [.ref 0]) (h' := cxW (u2 (u2 (u2 (u2 z 0 8 2) 1 1 n) 1 2 at') 12 1 sz') (uf (uf f 2 b) 13 cd') C T rc tl) rfl ?_
    exact k2
  have := Rn.call (m := m_X11_text) (m' := m_X11_fault) (d := d + 36) (pc := 2) (L := [some (.ref 0), some (.int (iz 2)), none]) (st := [.int (iz 2), .ref 0]) (as := [.ref 0, .int (iz 2)]) (rest := []) rfl kf k1
  rw [show 0 + 1 + 0 = 1 from rfl, show 0 + sz'.toNat + 0 = sz'.toNat by omega] at this
  exact this
set_option maxRecDepth 100000 in
set_option maxHeartbeats 4000000 in
theorem x_rBec42 (d : Nat) (z : Nat → Nat → Int) (f : Nat → Int → Int) (C : Nat → CuR) (T : Nat → TsR) (rc : Nat → Nat) (tl : AmH) (sz : Int) (cd : Int → Int) (h0 : 0 ≤ sz) (h1 : sz ≤ 160) : Rn (d + 1) m_X6_become 0 (am_ent [.ref 42, .ref 12] 2) [] (cxW (u2 z 12 1 sz) (uf f 13 cd) C T rc tl) (none, cxW (u2 (u2 z 12 1 sz) 42 1 sz) (uf f 13 cd) C T (ur rc 42 (tl.length + 98)) (tl ++ [.inl (.int, sz.toNat, .inl (av (cpI cd (fun _ => 0) sz.toNat)))]), 1, sz.toNat) := by
  have e : am_max (iz 0) (am_min (iz sz) (iz 161)) = iz sz := by rw [am_min_iz ⟨by omega, by omega⟩ ⟨by omega, by omega⟩, am_max_iz ⟨by omega, by omega⟩ ⟨by omega, by omega⟩]; congr 1; omega
  refine Rn.walk 9 (pc' := 17) (L' := [some (.ref 42), some (.ref 12)]) (st' := [.int (am_max (iz 0) (am_min (iz sz) (iz 161))), .ref 42]) (h' := cxW (u2 z 12 1 sz) (uf f 13 cd) C T rc tl) rfl ?_
  rw [e]
  refine Rn.walk 6 (pc' := 29) (L' := [some (.ref 42), some (.ref 12)]) (st' := [.int (iz sz), .ref 13, .ref 42]) (h' := cxW (u2 (u2 z 12 1 sz) 42 1 sz) (uf f 13 cd) C T rc tl) rfl ?_
  have kc := x_copyOf d (cxW (u2 (u2 z 12 1 sz) 42 1 sz) (uf f 13 cd) C T rc tl) 13 cd sz h0 h1 rfl
  have k2 : Rn (d + 1) m_X6_become 32 [some (.ref 42), some (.ref 12)] [.ref (tl.length + 98), .ref 42] (cxW (u2 (u2 z 12 1 sz) 42 1 sz) (uf f 13 cd) C T rc (tl ++ [.inl (.int, sz.toNat, .inl (av (cpI cd (fun _ => 0) sz.toNat)))])) (none, cxW (u2 (u2 z 12 1 sz) 42 1 sz) (uf f 13 cd) C T (ur rc 42 (tl.length + 98)) (tl ++ [.inl (.int, sz.toNat, .inl (av (cpI cd (fun _ => 0) sz.toNat)))]), 0, 0) := by
    refine Rn.walk 1 (pc' := 35) (L' := [some (.ref 42), some (.ref 12)]) (st' := []) (h' := cxW (u2 (u2 z 12 1 sz) 42 1 sz) (uf f 13 cd) C T (ur rc 42 (tl.length + 98)) (tl ++ [.inl (.int, sz.toNat, .inl (av (cpI cd (fun _ => 0) sz.toNat)))])) rfl ?_
    exact Rn.ret rfl
  have := Rn.call (m := m_X6_become) (m' := m_J7_copyOf_59c91) (pc := 29) (L := [some (.ref 42), some (.ref 12)]) (st := [.int (iz sz), .ref 13, .ref 42]) (as := [.ref 13, .int (iz sz)]) (rest := [.ref 42]) rfl kc k2
  rw [show 0 + 1 = 1 from rfl, show 0 + sz.toNat = sz.toNat by omega] at this
  exact this
set_option maxRecDepth 100000 in
set_option maxHeartbeats 4000000 in
theorem x_addsR3 (d : Nat) (z : Nat → Nat → Int) (f : Nat → Int → Int) (C : Nat → CuR) (T : Nat → TsR) (rc : Nat → Nat) (tl : AmH) (sz : Int) (cd : Int → Int) (h0 : 0 ≤ sz) (h1 : sz ≤ 160) : Rn (d + 2) m_X11_addsRule 0 (am_ent [.ref 0] 1) [] (cxW (u2 (u2 z 0 8 3) 12 1 sz) (uf f 13 cd) C T rc tl) (some (.int (iz 3)), cxW (u2 (u2 (u2 z 0 8 4) 12 1 sz) 42 1 sz) (uf f 13 cd) C T (ur rc 42 (tl.length + 98)) (tl ++ [.inl (.int, sz.toNat, .inl (av (cpI cd (fun _ => 0) sz.toNat)))]), 1, sz.toNat) := by
  refine Rn.walk 3 (pc' := 5) (L' := [some (.ref 0)]) (st' := [.int (iz 4), .int (iz 3)]) (h' := cxW (u2 (u2 z 0 8 3) 12 1 sz) (uf f 13 cd) C T rc tl) rfl ?_
  refine Rn.walk 1 (pc' := 10) (L' := [some (.ref 0)]) (st' := []) (h' := cxW (u2 (u2 z 0 8 3) 12 1 sz) (uf f 13 cd) C T rc tl) rfl ?_
  refine Rn.walk 4 (pc' := 18) (L' := [some (.ref 0)]) (st' := [.int (iz 3), .ref 35]) (h' := cxW (u2 (u2 z 0 8 3) 12 1 sz) (uf f 13 cd) C T rc tl) rfl ?_
  refine Rn.aald (j := 3) (b := 42) rfl rfl rfl rfl (by decide) (by decide) rfl ?_
  refine Rn.walk 2 (pc' := 23) (L' := [some (.ref 0)]) (st' := [.ref 12, .ref 42]) (h' := cxW (u2 (u2 z 0 8 3) 12 1 sz) (uf f 13 cd) C T rc tl) rfl ?_
  have kc := x_rBec42 d (u2 z 0 8 3) f C T rc tl sz cd h0 h1
  have k2 : Rn (d + 2) m_X11_addsRule 26 [some (.ref 0)] [] (cxW (u2 (u2 (u2 z 0 8 3) 12 1 sz) 42 1 sz) (uf f 13 cd) C T (ur rc 42 (tl.length + 98)) (tl ++ [.inl (.int, sz.toNat, .inl (av (cpI cd (fun _ => 0) sz.toNat)))])) (some (.int (iz 3)), cxW (u2 (u2 (u2 z 0 8 4) 12 1 sz) 42 1 sz) (uf f 13 cd) C T (ur rc 42 (tl.length + 98)) (tl ++ [.inl (.int, sz.toNat, .inl (av (cpI cd (fun _ => 0) sz.toNat)))]), 0, 0) := by
    refine Rn.walk 7 (pc' := 37) (L' := [some (.ref 0)]) (st' := [.int (iz 3)]) (h' := cxW (u2 (u2 (u2 z 0 8 4) 12 1 sz) 42 1 sz) (uf f 13 cd) C T (ur rc 42 (tl.length + 98)) (tl ++ [.inl (.int, sz.toNat, .inl (av (cpI cd (fun _ => 0) sz.toNat)))])) rfl ?_
    exact Rn.ret rfl
  have := Rn.call (m := m_X11_addsRule) (m' := m_X6_become) (pc := 23) (L := [some (.ref 0)]) (st := [.ref 12, .ref 42]) (as := [.ref 42, .ref 12]) (rest := []) rfl kc k2
  rw [show 0 + 1 = 1 from rfl, show 0 + sz.toNat = sz.toNat by omega] at this
  exact this
set_option maxRecDepth 100000 in
set_option maxHeartbeats 4000000 in
theorem x_text2T3 (d : Nat) (z : Nat → Nat → Int) (f : Nat → Int → Int) (C : Nat → CuR) (T : Nat → TsR) (rc : Nat → Nat) (tl : AmH) (n : Int) (b : Int → Int) (at_ : Int) (sz : Int) (cd : Int → Int) (Rt : RuT) (hT : tOK n b) (hRt : Rt = ruleL n b 161 0) (hY : Rt.1 = true ∧ sg n b Rt.2.1 = -1) : ∃ (at' sz' : Int) (cd' : Int → Int), (0 ≤ at' ∧ at' ≤ n) ∧ (0 ≤ sz' ∧ sz' ≤ 160) ∧ sz' = Rt.2.2.1.length ∧ lsI sz'.toNat cd' = Rt.2.2.1 ∧ Rn (d + 37) m_X11_text 0 (am_ent [.ref 0, .int (iz 2)] 3) [] (cxW (u2 (u2 (u2 (u2 z 0 8 3) 1 1 n) 1 2 at_) 12 1 sz) (uf (uf f 2 b) 13 cd) C T rc tl) (some (.int (iz 3)), cxW (u2 (u2 (u2 (u2 (u2 z 0 8 4) 1 1 0) 1 2 at') 12 1 sz') 42 1 sz') (uf (uf f 2 b) 13 cd') C T (ur rc 42 (tl.length + 98)) (tl ++ [.inl (.int, sz'.toNat, .inl (av (cpI cd' (fun _ => 0) sz'.toNat)))]), 1, sz'.toNat) := by
  obtain ⟨hT1, hT2, hT3⟩ := id hT
  obtain ⟨rv, h1, kf, r, at', sz', cd', rfl, rfl, q1, q2, q3, q4, q5⟩ := x_fault2 (d + 1) (u2 z 0 8 3) f C T rc tl n b at_ sz cd Rt hT hRt
  have hr : r = -1 := by
    rcases q1 with q | q
    · exact q.2.2
    · exact absurd hY q.1
  subst hr
  obtain ⟨e1, e2⟩ := q2 rfl
  have hl : Rt.2.2.1.length + (0 : Int) ≤ Rt.2.1 ∧ Rt.2.1 ≤ n := by rw [hRt]; exact ruleL_len 161 0 (by omega) hT1 (by rw [← hRt]; exact hY.1)
  refine ⟨at', sz', cd', q5, ⟨q3.1, by omega⟩, e1, e2, ?_⟩
  refine Rn.walk 2 (pc' := 2) (L' := [some (.ref 0), some (.int (iz 2)), none]) (st' := [.int (iz 2), .ref 0]) (h' := cxW (u2 (u2 (u2 (u2 z 0 8 3) 1 1 n) 1 2 at_) 12 1 sz) (uf (uf f 2 b) 13 cd) C T rc tl) rfl ?_
  have kc := x_addsR3 (d + 34) (u2 (u2 z 1 1 n) 1 2 at') (uf f 2 b) C T rc tl sz' cd' q3.1 (by omega)
  have k3 : Rn (d + 37) m_X11_text 38 [some (.ref 0), some (.int (iz 2)), none] [.int (iz 3)] (cxW (u2 (u2 (u2 (u2 (u2 z 0 8 4) 1 1 n) 1 2 at') 12 1 sz') 42 1 sz') (uf (uf f 2 b) 13 cd') C T (ur rc 42 (tl.length + 98)) (tl ++ [.inl (.int, sz'.toNat, .inl (av (cpI cd' (fun _ => 0) sz'.toNat)))])) (some (.int (iz 3)), cxW (u2 (u2 (u2 (u2 (u2 z 0 8 4) 1 1 0) 1 2 at') 12 1 sz') 42 1 sz') (uf (uf f 2 b) 13 cd') C T (ur rc 42 (tl.length + 98)) (tl ++ [.inl (.int, sz'.toNat, .inl (av (cpI cd' (fun _ => 0) sz'.toNat)))]), 0, 0) := by
    refine Rn.walk 3 (pc' := 41) (L' := [some (.ref 0), some (.int (iz 2)), some (.int (iz 3))]) (st' := [.int (iz (-1)), .int (iz 3)]) (h' := cxW (u2 (u2 (u2 (u2 (u2 z 0 8 4) 1 1 n) 1 2 at') 12 1 sz') 42 1 sz') (uf (uf f 2 b) 13 cd') C T (ur rc 42 (tl.length + 98)) (tl ++ [.inl (.int, sz'.toNat, .inl (av (cpI cd' (fun _ => 0) sz'.toNat)))])) rfl ?_
    refine Rn.walk 1 (pc' := 44) (L' := [some (.ref 0), some (.int (iz 2)), some (.int (iz 3))]) (st' := []) (h' := cxW (u2 (u2 (u2 (u2 (u2 z 0 8 4) 1 1 n) 1 2 at') 12 1 sz') 42 1 sz') (uf (uf f 2 b) 13 cd') C T (ur rc 42 (tl.length + 98)) (tl ++ [.inl (.int, sz'.toNat, .inl (av (cpI cd' (fun _ => 0) sz'.toNat)))])) rfl ?_
    refine Rn.walk 4 (pc' := 52) (L' := [some (.ref 0), some (.int (iz 2)), some (.int (iz 3))]) (st' := []) (h' := cxW (u2 (u2 (u2 (u2 (u2 z 0 8 4) 1 1 0) 1 2 at') 12 1 sz') 42 1 sz') (uf (uf f 2 b) 13 cd') C T (ur rc 42 (tl.length + 98)) (tl ++ [.inl (.int, sz'.toNat, .inl (av (cpI cd' (fun _ => 0) sz'.toNat)))])) rfl ?_
    refine Rn.walk 1 (pc' := 53) (L' := [some (.ref 0), some (.int (iz 2)), some (.int (iz 3))]) (st' := [.int (iz 3)]) (h' := cxW (u2 (u2 (u2 (u2 (u2 z 0 8 4) 1 1 0) 1 2 at') 12 1 sz') 42 1 sz') (uf (uf f 2 b) 13 cd') C T (ur rc 42 (tl.length + 98)) (tl ++ [.inl (.int, sz'.toNat, .inl (av (cpI cd' (fun _ => 0) sz'.toNat)))])) rfl ?_
    exact Rn.ret rfl
  have k2 := Rn.call (m := m_X11_text) (m' := m_X11_addsRule) (d := d + 36) (pc := 35) (L := [some (.ref 0), some (.int (iz 2)), none]) (st := [.ref 0]) (as := [.ref 0]) (rest := []) rfl kc k3
  have k1 : Rn (d + 37) m_X11_text 5 [some (.ref 0), some (.int (iz 2)), none] [.int (iz (-1))] (cxW (u2 (u2 (u2 (u2 z 0 8 3) 1 1 n) 1 2 at') 12 1 sz') (uf (uf f 2 b) 13 cd') C T rc tl) (some (.int (iz 3)), cxW (u2 (u2 (u2 (u2 (u2 z 0 8 4) 1 1 0) 1 2 at') 12 1 sz') 42 1 sz') (uf (uf f 2 b) 13 cd') C T (ur rc 42 (tl.length + 98)) (tl ++ [.inl (.int, sz'.toNat, .inl (av (cpI cd' (fun _ => 0) sz'.toNat)))]), 0 + 1, 0 + sz'.toNat) := by
    refine Rn.walk 2 (pc' := 11) (L' := [some (.ref 0), some (.int (iz 2)), none]) (st' := []) (h' := cxW (u2 (u2 (u2 (u2 z 0 8 3) 1 1 n) 1 2 at') 12 1 sz') (uf (uf f 2 b) 13 cd') C T rc tl) rfl ?_
    refine Rn.walk 2 (pc' := 22) (L' := [some (.ref 0), some (.int (iz 2)), none]) (st' := []) (h' := cxW (u2 (u2 (u2 (u2 z 0 8 3) 1 1 n) 1 2 at') 12 1 sz') (uf (uf f 2 b) 13 cd') C T rc tl) rfl ?_
    refine Rn.walk 3 (pc' := 34) (L' := [some (.ref 0), some (.int (iz 2)), none]) (st' := []) (h' := cxW (u2 (u2 (u2 (u2 z 0 8 3) 1 1 n) 1 2 at') 12 1 sz') (uf (uf f 2 b) 13 cd') C T rc tl) rfl ?_
    refine Rn.walk 1 (pc' := 35) (L' := [some (.ref 0), some (.int (iz 2)), none]) (st' := [.ref 0]) (h' := cxW (u2 (u2 (u2 (u2 z 0 8 3) 1 1 n) 1 2 at') 12 1 sz') (uf (uf f 2 b) 13 cd') C T rc tl) rfl ?_
    exact k2
  have := Rn.call (m := m_X11_text) (m' := m_X11_fault) (d := d + 36) (pc := 2) (L := [some (.ref 0), some (.int (iz 2)), none]) (st := [.int (iz 2), .ref 0]) (as := [.ref 0, .int (iz 2)]) (rest := []) rfl kf k1
  rw [show 0 + 1 + 0 = 1 from rfl, show 0 + sz'.toNat + 0 = sz'.toNat by omega] at this
  exact this

/-! soundness, part 7: what is made -/
/-- f below n, then g -/
def am_ex {α : Type} (f : Nat → α) (n : Nat) (g : Nat → α) : Nat → α := fun k => if k < n then f k else g (k - n)
theorem am_ex_lt {α : Type} {f g : Nat → α} {n k : Nat} (h : k < n) : am_ex f n g k = f k := if_pos h
theorem am_ex_ge {α : Type} {f g : Nat → α} {n j : Nat} : am_ex f n g (n + j) = g j := by
  unfold am_ex
  rw [if_neg (by omega), Nat.add_sub_cancel_left]
theorem am_ws_app {ad sa qs : Nat → Nat} {ca cq : Nat → ClassId} {h cs : AmH} (hok : am_okh h.length h) : am_ws (am_ex ad h.length qs) sa (am_ex ca h.length cq) (h ++ cs) = am_ws ad sa ca h ++ cs.mapIdx (fun j e => (qs j, am_rc (am_ex ad h.length qs) sa (cq j) e)) := by
  have hl : (am_ws ad sa ca h).length = h.length := List.length_mapIdx
  apply List.ext_getElem?
  intro k
  rw [am_ws_get]
  by_cases hk : k < h.length
  · rw [List.getElem?_append_left hk, List.getElem?_append_left (by rw [hl]; exact hk), am_ws_get, am_ex_lt hk, am_ex_lt hk]
    cases he : h[k]? with
    | none => rfl
    | some e =>
      show some (ad k, am_rc (am_ex ad h.length qs) sa (ca k) e) = some (ad k, am_rc ad sa (ca k) e)
      rw [am_rc_ag (n := h.length) (fun j hj => am_ex_lt hj) (hok k e he)]
  · obtain ⟨j, rfl⟩ : ∃ j, k = h.length + j := ⟨k - h.length, by omega⟩
    rw [List.getElem?_append_right (by omega), List.getElem?_append_right (by rw [hl]; omega), hl, Nat.add_sub_cancel_left, am_ex_ge, am_ex_ge, List.getElem?_mapIdx]
theorem am_wd_app {D : va_G} {ad sa qs : Nat → Nat} {ca cq : Nat → ClassId} {h cs : AmH} {s : State} {A : Nat → Prop} {H0 H H1 : Heap} {locs : List Loc} (hW : am_wd D ad sa ca h s A H0 H locs) (hok : am_okh (h.length + cs.length) cs) (hty : ∀ (j : Nat) (ty : FieldType) (a : vp_A), cs[j]? = some (.inl (ty, a)) → va_K D vwCl [(cq j, ty)] s)
    (hP : va_P D vwCl (am_ws ad sa ca h ++ cs.mapIdx (fun j e => (qs j, am_rc (am_ex ad h.length qs) sa (cq j) e))) H1) (hD : va_D A (am_ws ad sa ca h ++ cs.mapIdx (fun j e => (qs j, am_rc (am_ex ad h.length qs) sa (cq j) e)))) (hS : va_S A H0 H1 locs) : am_wd D (am_ex ad h.length qs) sa (am_ex ca h.length cq) (h ++ cs) s A H0 H1 locs := by
  obtain ⟨k1, k2, -, -, -, k6⟩ := hW
  rw [← am_ws_app (ca := ca) k6] at hP hD
  refine ⟨k1, fun k ty a hk => ?_, hP, hD, hS, fun k e hk => ?_⟩
  · by_cases q : k < h.length
    · rw [List.getElem?_append_left q] at hk
      rw [am_ex_lt q]
      exact k2 k ty a hk
    · obtain ⟨j, rfl⟩ : ∃ j, k = h.length + j := ⟨k - h.length, by omega⟩
      rw [List.getElem?_append_right (by omega), Nat.add_sub_cancel_left] at hk
      rw [am_ex_ge]
      exact hty j ty a hk
  · rw [List.length_append]
    by_cases q : k < h.length
    · rw [List.getElem?_append_left q] at hk
      exact am_oke_m (by omega) (k6 k e hk)
    · rw [List.getElem?_append_right (by omega)] at hk
      exact hok _ e hk
theorem am_dfl_v (ci : Nat) : ∀ v ∈ am_dfl ci, v = .int 0 ∨ v = .long 0 ∨ v = .null := by
  have key : ∀ c, c < 12 → ∀ v ∈ am_dfl c, v = .int 0 ∨ v = .long 0 ∨ v = .null := by decide +kernel
  by_cases h : ci < 12
  · exact key ci h
  · have e : am_dfl ci = [] := by
      obtain ⟨k, rfl⟩ : ∃ k, ci = k + 12 := ⟨ci - 12, by omega⟩
      rfl
    rw [e]
    exact fun v hv => nomatch hv
theorem am_dfl_rv (ci : Nat) (ad sa : Nat → Nat) : (am_dfl ci).map (am_rv ad sa) = am_dfl ci := by
  conv => rhs; rw [← List.map_id (am_dfl ci)]
  apply List.map_congr_left
  intro v hv
  rcases am_dfl_v ci v hv with rfl | rfl | rfl <;> rfl
theorem am_gl_ok {own x k : Nat} (h : am_look (am_gl own) x = some k) : Cond.classLink (am_on own) x ("[" ++ (FieldType.array .int).toString) ∈ am_gt := by
  have hm := am_look_mem h
  unfold am_gl at hm
  split at hm
  · rcases List.mem_singleton.mp hm with e
    cases e
    exact am_gT 164 (by decide +kernel) rfl
  · rcases List.mem_singleton.mp hm with e
    cases e
    exact am_gT 250 (by decide +kernel) rfl
  · exact nomatch hm
section AmNew
variable {p : Program} {l : Launch} {e : Env} {R : Room} {s : State} {m : MethodId} {args : Array Value} {below : List Frame} {meth : Method} {c : Code} {H : Heap} {locs : List Loc} {cells slots : Nat} {Q : State → Prop}
variable {cc : ByteArray} {pc n len j : Nat} {ls : Array Slot} {own nL : Nat} {ad sa av : Nat → Nat} {i : Jvm.ClassFile.Instr} {v : Value} {L : AmL} {st st' : List Value} {h cs : AmH} {D : va_G} {ca : Nat → ClassId} {A : Nat → Prop} {H0 : Heap}
theorem am_K1 {tys : List (ClassId × FieldType)} {cA : ClassId} {ty : FieldType} (h : va_K D vwCl ([] ++ [(cA, ty)]) s) : va_K D vwCl [(cA, ty)] s := h
theorem am_arr {ty : FieldType} (h : (Cond.arrayClass ty).before args s = true) (hK : va_K D vwCl [] s) (hr : ∀ C, ty ≠ .object C) : ∃ cy, s.vm.findClass ("[" ++ ty.toString) = some cy ∧ va_K D vwCl [(cy, ty)] s := by
  obtain ⟨cy, k, comp, f1, f2, f3⟩ := Cond.arrayClass_spec h
  refine ⟨cy, f1, hK.1, fun j q hq => ?_⟩
  have hz : j < 1 := (List.getElem?_eq_some_iff.mp hq).1
  rw [show j = 0 by omega] at hq
  cases hq
  refine ⟨fun N z => ⟨(fun k h => by cases h), k, f2, comp, f3⟩, ?_⟩
  unfold va_RA
  cases ty with
  | object C => exact (hr C rfl).elim
  | _ => exact f1
set_option maxHeartbeats 4000000 in
theorem am_new_W (hx : p.tables.exec = Jvm.exec) (hb : c.code = cc) (hown : s.vm.findClass (am_on own) = some m.cls) (hts : ∀ w ∈ am_gt, w.before args s = true) (hen : am_env sa av A s) (hdg : decode cc pc = .ok (i, len)) (hs : am_stat own nL i len v = true) (hA : ∀ q, H0.size ≤ q → A q)
    (hW : am_wd D ad sa ca h s A H0 H locs) (hp : am_new own h.length i st = some (n, cs, st', j)) (hce : cells + cs.length ≤ R.cells) (hsl : slots + j ≤ R.slots)
    (k : ∀ (ad' : Nat → Nat) (ca' : Nat → ClassId) (H1 : Heap), (∀ q, q < h.length → ad' q = ad q) → 0 < cs.length → (∀ v ∈ st', v ∈ st) → am_wd D ad' sa ca' (h ++ cs) s A H0 H1 locs → W p l e R s m args below meth c H1 locs (cells + cs.length) (slots + j) Q (F0 m (pc + n) ls (.ref (ad' h.length) :: st'.map (am_rv ad sa)))) : W p l e R s m args below meth c H locs cells slots Q (F0 m pc ls (st.map (am_rv ad sa))) := by
  have hW0 := hW
  obtain ⟨k1, k2, k3, k4, k5, k6⟩ := hW
  cases i with
  | new x =>
    cases am_be hs
    simp only [am_new] at hp
    split at hp
    · rename_i ci hf
      cases hp
      obtain ⟨C, T, N, ty, ⟨c1, c2, c3, c4⟩, g1, g2, g3, g4, g5, g6⟩ := am_cl_ok hf
      refine va_new hx hb hts c2 ty c3 hown (hts _ g1) (hts _ g2) (hts _ g3) k1 k3 k4 k5 hA c1 g5 hce (by rw [← g4]; exact hsl) hdg (fun q H1 r1 r2 r3 => ?_)
      have k := k (am_ex ad h.length (fun _ => q)) (am_ex ca h.length (fun _ => 0)) H1 (fun _ hq => am_ex_lt hq) (Nat.succ_pos _) (fun _ q => q) (am_wd_app hW0 (fun k9 e9 h9 => ?_) (fun k9 t9 a9 h9 => ?_) ?_ ?_ r3)
      · rw [show am_ex ad h.length (fun _ => q) h.length = q from am_ex_ge (j := 0)] at k
        rw [← g4]
        exact k
      · have hz : k9 < 1 := (List.getElem?_eq_some_iff.mp h9).1
        rw [show k9 = 0 by omega] at h9
        cases h9
        intro v hv
        rcases am_dfl_v ci v hv with rfl | rfl | rfl
        · exact am_okv_i _ _
        · exact am_okv_l _ _
        · exact am_okv_n _
      · have hz : k9 < 1 := (List.getElem?_eq_some_iff.mp h9).1
        rw [show k9 = 0 by omega] at h9
        cases h9
      · show va_P D vwCl (am_ws ad sa ca h ++ [(q, .inr (ci, (am_dfl ci).map (am_rv (am_ex ad h.length (fun _ => q)) sa)))]) H1
        rw [am_dfl_rv]
        exact r1
      · show va_D A (am_ws ad sa ca h ++ [(q, .inr (ci, (am_dfl ci).map (am_rv (am_ex ad h.length (fun _ => q)) sa)))])
        rw [am_dfl_rv]
        exact r2
    · cases hp
  | newarray t =>
    cases am_be hs
    simp only [am_new] at hp
    split at hp
    · rename_i z r
      split at hp
      · cases hp
      · rename_i hz
        have z1 : ¬ z < 0 := fun q => hz (Or.inl q)
        have z2 : z.toNatClampNeg ≤ 1000000 := Nat.not_lt.mp fun q => hz (Or.inr q)
        split at hp
        · cases hp
          refine va_newa (atype := .int) hx hb (hts _ gs_tint) rfl k1 k3 k4 k5 hA (a0 := (z.toNatClampNeg, .inl (fun _ => 0))) (fun _ => rfl) z1 rfl (by show z.toNatClampNeg * 4 ≤ _; omega) hce hsl hdg (fun q cA H1 r0 r1 r2 r3 => ?_)
          have k := k (am_ex ad h.length (fun _ => q)) (am_ex ca h.length (fun _ => cA)) H1 (fun _ hq => am_ex_lt hq) (Nat.succ_pos _) (fun v hv => List.mem_cons_of_mem _ hv) (am_wd_app hW0 (fun k9 e9 h9 => ?_) (fun k9 t9 a9 h9 => ?_) r1 r2 r3)
          · rw [show am_ex ad h.length (fun _ => q) h.length = q from am_ex_ge (j := 0)] at k
            exact k
          · have hz : k9 < 1 := (List.getElem?_eq_some_iff.mp h9).1
            rw [show k9 = 0 by omega] at h9
            cases h9
            trivial
          · have hz : k9 < 1 := (List.getElem?_eq_some_iff.mp h9).1
            rw [show k9 = 0 by omega] at h9
            cases h9
            exact r0
        · cases hp
          refine va_newa (atype := .byte) hx hb (hts _ gs_tbyte) rfl k1 k3 k4 k5 hA (a0 := (z.toNatClampNeg, .inl (fun _ => 0))) (fun _ => rfl) z1 rfl (by show z.toNatClampNeg * 1 ≤ _; omega) hce hsl hdg (fun q cA H1 r0 r1 r2 r3 => ?_)
          have k := k (am_ex ad h.length (fun _ => q)) (am_ex ca h.length (fun _ => cA)) H1 (fun _ hq => am_ex_lt hq) (Nat.succ_pos _) (fun v hv => List.mem_cons_of_mem _ hv) (am_wd_app hW0 (fun k9 e9 h9 => ?_) (fun k9 t9 a9 h9 => ?_) r1 r2 r3)
          · rw [show am_ex ad h.length (fun _ => q) h.length = q from am_ex_ge (j := 0)] at k
            exact k
          · have hz : k9 < 1 := (List.getElem?_eq_some_iff.mp h9).1
            rw [show k9 = 0 by omega] at h9
            cases h9
            trivial
          · have hz : k9 < 1 := (List.getElem?_eq_some_iff.mp h9).1
            rw [show k9 = 0 by omega] at h9
            cases h9
            exact r0
        · cases hp
          refine va_newa (atype := .long) hx hb (hts _ gs_tlong) rfl k1 k3 k4 k5 hA (a0 := (z.toNatClampNeg, .inr (.inl (fun _ => 0)))) (fun _ => rfl) z1 rfl (by show z.toNatClampNeg * 8 ≤ _; omega) hce hsl hdg (fun q cA H1 r0 r1 r2 r3 => ?_)
          have k := k (am_ex ad h.length (fun _ => q)) (am_ex ca h.length (fun _ => cA)) H1 (fun _ hq => am_ex_lt hq) (Nat.succ_pos _) (fun v hv => List.mem_cons_of_mem _ hv) (am_wd_app hW0 (fun k9 e9 h9 => ?_) (fun k9 t9 a9 h9 => ?_) r1 r2 r3)
          · rw [show am_ex ad h.length (fun _ => q) h.length = q from am_ex_ge (j := 0)] at k
            exact k
          · have hz : k9 < 1 := (List.getElem?_eq_some_iff.mp h9).1
            rw [show k9 = 0 by omega] at h9
            cases h9
            trivial
          · have hz : k9 < 1 := (List.getElem?_eq_some_iff.mp h9).1
            rw [show k9 = 0 by omega] at h9
            cases h9
            exact r0
        · cases hp
    · cases hp
  | anewarray x =>
    cases am_be hs
    simp only [am_new] at hp
    split at hp
    · rename_i ci z r hf
      cases hci : (Nat.beq ci 2 || (Nat.beq ci 6 || Nat.beq ci 9)) with
      | false => rw [hci] at hp; cases hp
      | true =>
      rw [hci] at hp
      simp only [cond_true] at hp
      split at hp
      · cases hp
      · rename_i hz
        have z1 : ¬ z < 0 := fun q => hz (Or.inl q)
        have z2 : z.toNatClampNeg ≤ 1000000 := Nat.not_lt.mp fun q => hz (Or.inr q)
        cases hp
        obtain ⟨C, T, N, ty, -, g1, -, -, -, -, g6⟩ := am_cl_ok hf
        subst g6
        have hao : va_AO (am_cn ci) s := by
          obtain ⟨-, -, ⟨o1, o2, o3, -⟩, -⟩ := hen
          rw [Bool.or_eq_true, Bool.or_eq_true] at hci
          rcases hci with q | q | q
          · cases am_be q; exact o1
          · cases am_be q; exact o2
          · cases am_be q; exact o3
        refine va_newq hx hb hown (hts _ g1) hao k1 k3 k4 k5 hA z1 rfl (by omega) hce hsl hdg (fun q cA H1 r0 r1 r2 r3 => ?_)
        have k := k (am_ex ad h.length (fun _ => q)) (am_ex ca h.length (fun _ => cA)) H1 (fun _ hq => am_ex_lt hq) (Nat.succ_pos _) (fun v hv => List.mem_cons_of_mem _ hv) (am_wd_app hW0 (fun k9 e9 h9 => ?_) (fun k9 t9 a9 h9 => ?_) r1 r2 r3)
        · rw [show am_ex ad h.length (fun _ => q) h.length = q from am_ex_ge (j := 0)] at k
          exact k
        · have hz : k9 < 1 := (List.getElem?_eq_some_iff.mp h9).1
          rw [show k9 = 0 by omega] at h9
          cases h9
          exact fun i k q => nomatch q
        · have hz : k9 < 1 := (List.getElem?_eq_some_iff.mp h9).1
          rw [show k9 = 0 by omega] at h9
          cases h9
          exact r0
    · cases hp
  | multianewarray x d =>
    cases am_be hs
    simp only [am_new] at hp
    split at hp
    · rename_i y9 z w r hf
      split at hp
      · rename_i hw
        subst hw
        split at hp
        · cases hp
        · rename_i hz
          have z1 : ¬ z < 0 := fun q => hz (Or.inl q)
          have z2 : z.toNatClampNeg ≤ 1000000 := Nat.not_lt.mp fun q => hz (Or.inr q)
          cases hp
          obtain ⟨cy, f1, f2⟩ := am_arr (D := D) (hts _ gs_tint) k1 (fun C q => nomatch q)
          refine va_mna (X := am_ws ad sa ca h) (L := []) (f := fun _ => .inr (0, [])) (z := (z.toNatClampNeg, .inl (fun _ => 0))) (N' := 2) hx hb hown (hts _ (am_gl_ok hf)) hen.2.2.1.2.2.2 (hts _ gs_tint) f1 k1 (by show va_P D vwCl (am_ws ad sa ca h ++ []) H; rw [List.append_nil]; exact k3) (by show va_D A (am_ws ad sa ca h ++ []); rw [List.append_nil]; exact k4) k5 hA (by decide +kernel) z1 (by decide +kernel) rfl (by decide) (by show z.toNatClampNeg * 4 ≤ _; omega) (by omega) rfl rfl (by simpa [Nat.add_comm] using hce) (by simpa using hsl) (fun _ => ?_) hdg (fun q r9 cA H1 i1 i2 r0 r1 r2 r3 => ?_)
          · exact arrV_new _ _ _
          · generalize hqs : (fun j : Nat => match j with | 0 => q | j + 1 => r9 j) = qs
            generalize hcq : (fun j : Nat => match j with | 0 => cA | _ + 1 => cy) = cq
            have e0 : am_ex ad h.length qs h.length = q := by rw [show am_ex ad h.length qs h.length = qs 0 from am_ex_ge (j := 0), ← hqs]
            have e1 : am_ex ad h.length qs (h.length + 1 + 0) = r9 0 := by rw [show am_ex ad h.length qs (h.length + 1 + 0) = qs 1 from am_ex_ge (j := 1), ← hqs]
            have e2 : am_ex ad h.length qs (h.length + 1 + 1) = r9 1 := by rw [show am_ex ad h.length qs (h.length + 1 + 1) = qs 2 from am_ex_ge (j := 2), ← hqs]
            have hf9 : (fun i : Nat => ((if i < 2 then some (h.length + 1 + i) else none : Option Nat)).map (am_ex ad h.length qs)) = fun i => if i < 2 then some (r9 i) else none := by
              funext i
              match i with
              | 0 => exact congrArg some e1
              | 1 => exact congrArg some e2
              | i + 2 => rw [if_neg (by omega), if_neg (by omega)]; rfl
            have hlist : (am_ws ad sa ca h ++ [(q, .inl (cA, 2, .inr (.inr (.inr (.inr (fun i => if i < 2 then some (r9 i) else none))))))]) ++ va_pl ([] ++ (List.range 2).map r9) (vr_up (fun _ => .inr (0, [])) ((List.range 2).map r9) (.inl (cy, z.toNatClampNeg, .inl (fun _ => 0)))) = am_ws ad sa ca h ++ ([.inl (.array .int, 2, .inr (.inr (.inr (.inr (fun i => if i < 2 then some (h.length + 1 + i) else none))))), .inl (.int, z.toNatClampNeg, .inl (fun _ => 0)), .inl (.int, z.toNatClampNeg, .inl (fun _ => 0))] : AmH).mapIdx (fun j e => (qs j, am_rc (am_ex ad h.length qs) sa (cq j) e)) := by
              have l1 : (List.range 2).map r9 = [r9 0, r9 1] := rfl
              have m0 : vr_up (fun _ => (.inr (0, []) : va_E)) ((List.range 2).map r9) (.inl (cy, z.toNatClampNeg, .inl (fun _ => 0))) (r9 0) = .inl (cy, z.toNatClampNeg, .inl (fun _ => 0)) := vr_up_in (by rw [l1]; exact List.mem_cons_self)
              have m1 : vr_up (fun _ => (.inr (0, []) : va_E)) ((List.range 2).map r9) (.inl (cy, z.toNatClampNeg, .inl (fun _ => 0))) (r9 1) = .inl (cy, z.toNatClampNeg, .inl (fun _ => 0)) := vr_up_in (by rw [l1]; exact List.mem_cons_of_mem _ List.mem_cons_self)
              rw [List.append_assoc]
              refine congrArg (am_ws ad sa ca h ++ ·) ?_
              show [(q, _), (r9 0, _), (r9 1, _)] = [(qs 0, (.inl (cq 0, 2, .inr (.inr (.inr (.inr (fun i : Nat => ((if i < 2 then some (h.length + 1 + i) else none : Option Nat)).map (am_ex ad h.length qs)))))) : va_E)), (qs 1, .inl (cq 1, z.toNatClampNeg, .inl (fun _ => 0))), (qs 2, .inl (cq 2, z.toNatClampNeg, .inl (fun _ => 0)))]
              rw [m0, m1, hf9, ← hqs, ← hcq]
            rw [hlist] at r1 r2
            have k := k (am_ex ad h.length qs) (am_ex ca h.length cq) H1 (fun _ hq => am_ex_lt hq) (Nat.succ_pos _) (fun v hv => List.mem_cons_of_mem _ (List.mem_cons_of_mem _ hv)) (am_wd_app hW0 (fun k9 e9 h9 => ?_) (fun k9 t9 a9 h9 => ?_) r1 r2 r3)
            · rw [e0] at k
              rw [Nat.add_assoc slots]
              exact k
            · match k9, h9 with
              | 0, h9 =>
                cases h9
                intro i k q
                have q : (if i < 2 then some (h.length + 1 + i) else none) = some k := q
                split at q
                · cases q
                  show _ < h.length + 3
                  omega
                · cases q
              | 1, h9 => cases h9; trivial
              | 2, h9 => cases h9; trivial
            · match k9, h9 with
              | 0, h9 => cases h9; rw [← hcq]; exact r0
              | 1, h9 => cases h9; rw [← hcq]; exact f2
              | 2, h9 => cases h9; rw [← hcq]; exact f2
      · cases hp
    · cases hp
  | _ => exact nomatch (show (none : Option (Nat × List AmE × List Value × Nat)) = some (n, cs, st', j) from hp)
end AmNew

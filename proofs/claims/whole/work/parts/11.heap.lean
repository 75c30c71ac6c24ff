/-! soundness, part 4: instructions that read or write cells -/
theorem am_wd_set {D : va_G} {ad sa : Nat → Nat} {ca : Nat → ClassId} {h : AmH} {s : State} {A : Nat → Prop} {H0 H H1 : Heap} {locs locs1 : List Loc} (hW : am_wd D ad sa ca h s A H0 H locs) {q : Nat} {e e' : AmE} (he : h[q]? = some e) (hty : ∀ ty a, e' = .inl (ty, a) → ∃ a', e = .inl (ty, a')) (hok : am_oke h.length e')
    (hP : va_P D vwCl ((am_ws ad sa ca h).set q (ad q, am_rc ad sa (ca q) e')) H1) (hD : va_D A ((am_ws ad sa ca h).set q (ad q, am_rc ad sa (ca q) e'))) (hS : va_S A H0 H1 locs1) : am_wd D ad sa ca (h.set q e') s A H0 H1 locs1 := by
  obtain ⟨k1, k2, -, -, -, k6⟩ := hW
  rw [am_ws_set] at hP hD
  refine ⟨k1, fun k ty a hk => ?_, hP, hD, hS, ?_⟩
  · rw [List.getElem?_set] at hk
    by_cases e1 : q = k
    · subst e1
      rw [if_pos rfl] at hk
      split at hk
      · obtain ⟨a', ha'⟩ := hty ty a (Option.some.inj hk)
        rw [ha'] at he
        exact k2 q ty a' he
      · cases hk
    · rw [if_neg e1] at hk
      exact k2 k ty a hk
  · rw [List.length_set]
    exact am_okh_set k6 hok
theorem am_fit_ok {fk : Nat} {ty : FieldType} {v : Value} (h : am_ftk fk ty) (hf : am_fit fk v = true) (ad sa : Nat → Nat) : narrow ty (am_rv ad sa v) = am_rv ad sa v ∧ fits ty (am_rv ad sa v) = true := by
  rcases h with ⟨rfl, rfl⟩ | ⟨rfl, rfl⟩ | ⟨rfl, h⟩ | ⟨rfl, rfl⟩
  · cases v with
    | int x => exact ⟨vp_nar_int x, rfl⟩
    | _ => cases hf
  · cases v with
    | int x =>
      have hb : (decide (x = 0) || decide (x = 1)) = true := hf
      rw [Bool.or_eq_true, decide_eq_true_eq, decide_eq_true_eq] at hb
      rcases hb with rfl | rfl
      · exact ⟨show narrow .boolean (.int 0) = .int 0 by decide +kernel, show fits .boolean (.int 0) = true by decide +kernel⟩
      · exact ⟨show narrow .boolean (.int 1) = .int 1 by decide +kernel, show fits .boolean (.int 1) = true by decide +kernel⟩
    | _ => cases hf
  · rcases h with ⟨C, rfl⟩ | ⟨t, rfl⟩
    · cases v with
      | ref a => exact ⟨rfl, rfl⟩
      | null => exact ⟨rfl, rfl⟩
      | retAddr a => exact ⟨rfl, rfl⟩
      | _ => cases hf
    · cases v with
      | ref a => exact ⟨rfl, rfl⟩
      | null => exact ⟨rfl, rfl⟩
      | retAddr a => exact ⟨rfl, rfl⟩
      | _ => cases hf
  · cases v with
    | long x => exact ⟨rfl, rfl⟩
    | _ => cases hf
theorem am_oc_ok {own : Nat} {C : String} {T : u_T} {N : Nat} (h : vwCl[am_oc own]? = some (C, T, N)) : C = am_on own := by
  match own, h with
  | 0, h => cases h; rfl
  | 1, h => cases h; rfl
  | 2, h => cases h; rfl
  | 3, h => cases h; rfl
  | 4, h => cases h; rfl
  | 5, h => cases h; rfl
  | 6, h => cases h; rfl
  | 7, h => cases h; rfl
  | 8, h => cases h; rfl
  | 9, h => cases h; rfl
  | 10, h => cases h
  | 11, h => cases h; rfl
  | 12, h => cases h; rfl
  | n + 13, h =>
    have e : am_oc (n + 13) = 99 := by
      show (bif Nat.ble (n + 13) 9 then n + 13 else 99) = 99
      have : Nat.ble (n + 13) 9 = false := by
        cases q : Nat.ble (n + 13) 9 with
        | false => rfl
        | true =>
          have := Nat.le_of_ble_eq_true q
          omega
      rw [this]
      rfl
    rw [e] at h
    cases h
section AmHeap
variable {p : Program} {l : Launch} {e : Env} {R : Room} {s : State} {m : MethodId} {args : Array Value} {below : List Frame} {meth : Method} {c : Code} {H : Heap} {locs : List Loc} {cells slots : Nat} {Q : State → Prop}
variable {cc : ByteArray} {pc n len : Nat} {ls : Array Slot} {own nL : Nat} {ad sa : Nat → Nat} {i : Jvm.ClassFile.Instr} {v : Value} {L : AmL} {st st' : List Value} {h h' : AmH} {D : va_G} {ca : Nat → ClassId} {A : Nat → Prop} {ini : Bool} {H0 : Heap}
/-- aaload of any array of references -/
theorem am_aald {cl : List vw_C} {ws : va_W} {tys : List (ClassId × FieldType)} {a : Nat} {rest : List Value} (hexec : p.tables.exec = Jvm.exec) (hb : c.code = cc) (hK : va_K D cl tys s) (hP : va_P D cl ws H) (q0 t0 : Nat) {cA : ClassId} {ty : FieldType} (hr : ty.isReference = true) {n : Nat} {f : Nat → Option Nat} (ha : ws[q0]? = some (a, .inl (cA, n, .inr (.inr (.inr (.inr f)))))) (ht : tys[t0]? = some (cA, ty)) {i : Int32} (hin : vp_in i n) (hdg : decode cc pc = .ok (.aaload, 1))
    (kk : W p l e R s m args below meth c H locs cells slots Q (F0 m (pc + 1) ls (va_rf (f i.toNatClampNeg) :: rest))) : W p l e R s m args below meth c H locs cells slots Q (F0 m pc ls (.int i :: .ref a :: rest)) := by
  have hlt : i.toNatClampNeg < n := Nat.not_le.mp fun q => hin (Or.inr q)
  exact W.aald (v := va_rf (f i.toNatClampNeg)) (ty := ty) hexec hb (hP q0 _ ha) ((hK.2 t0 _ ht).1 n (fun j => va_rf (f j))) hr (fun q => by cases q) (by show ¬ (i < 0 ∨ (arrV _ _ _).slots.size ≤ _); rw [arrV_size]; exact hin) (by show (arrV _ _ _).slots[_]? = _; rw [arrV_read _ _ hlt]) rfl rfl hdg kk
theorem am_gf_W {x : Nat} {fe : Nat × Nat × Nat × Bool} {a : Nat} {r : List Value} (hx : p.tables.exec = Jvm.exec) (hb : c.code = cc) (hown : s.vm.findClass (am_on own) = some m.cls) (hts : ∀ w ∈ am_gt, w.before args s = true) (hdg : decode cc pc = .ok (.getfield x, 3))
    (hW : am_wd D ad sa ca h s A H0 H locs) (hf : am_look (am_fl own) x = some fe) (ho : am_oks h.length r) (hp : am_gf fe a r h = some (n, st', h'))
    (k : h' = h → am_oks h.length st' → W p l e R s m args below meth c H locs cells slots Q (F0 m (pc + n) ls (st'.map (am_rv ad sa)))) : W p l e R s m args below meth c H locs cells slots Q (F0 m pc ls ((.ref a :: r).map (am_rv ad sa))) := by
  obtain ⟨C, T, N, ty, ⟨c1, c2, c3, c4⟩, hk, hl, hT, -, -, -⟩ := am_fl_ok hf
  obtain ⟨k1, k2, k3, k4, k5, k6⟩ := hW
  unfold am_gf at hp
  rw [am_nth_eq] at hp
  split at hp
  · rename_i ci fs he
    cases hb1 : Nat.beq ci fe.1 with
    | false => rw [hb1] at hp; cases hp
    | true =>
      rw [hb1] at hp
      have ec := am_be hb1
      subst ec
      rw [am_nth_eq] at hp
      have hp' : (match fs[fe.2.1]? with
        | some v => some (3, v :: r, h)
        | none => none) = some (n, st', h') := hp
      cases hv : fs[fe.2.1]? with
      | none => rw [hv] at hp'; cases hp'
      | some v =>
        rw [hv] at hp'
        cases hp'
        have k := k rfl (am_oks_c (k6 a _ he v (List.mem_of_getElem? hv)) ho)
        exact va_get (ref := C) hx hb hts c2 hown k1 k3 a (am_ws_at he) c1 fe.2.1 hk (hts _ hl) (by rw [hT]; exact fun _ q => q) (v := am_rv ad sa v) (by rw [List.getElem?_map, hv]; rfl) hdg k
  · cases hp
theorem am_pf_W {x : Nat} {fe : Nat × Nat × Nat × Bool} {a : Nat} {r : List Value} (hx : p.tables.exec = Jvm.exec) (hb : c.code = cc) (hown : s.vm.findClass (am_on own) = some m.cls) (hts : ∀ w ∈ am_gt, w.before args s = true) (hin : ini = true → meth.name = "<init>") (hdg : decode cc pc = .ok (.putfield x, 3))
    (hW : am_wd D ad sa ca h s A H0 H locs) (hf : am_look (am_fl own) x = some fe) (hok : am_okv h.length v) (hp : am_pf own ini fe v a r h = some (n, st', h'))
    (k : h'.length = h.length → st' = r → ∀ H1 locs1, am_wd D ad sa ca h' s A H0 H1 locs1 → W p l e R s m args below meth c H1 locs1 cells slots Q (F0 m (pc + n) ls (st'.map (am_rv ad sa)))) : W p l e R s m args below meth c H locs cells slots Q (F0 m pc ls ((v :: .ref a :: r).map (am_rv ad sa))) := by
  obtain ⟨C, T, N, ty, ⟨c1, c2, c3, c4⟩, hk, hl, hT, hfin, hft, -⟩ := am_fl_ok hf
  have hW0 := hW
  obtain ⟨k1, k2, k3, k4, k5, k6⟩ := hW
  unfold am_pf at hp
  rw [am_nth_eq] at hp
  split at hp
  · rename_i ci fs he
    cases hb1 : (Nat.beq ci fe.1 && (am_fit fe.2.2.1 v && ((!fe.2.2.2 || (ini && Nat.beq (am_oc own) fe.1)) && Nat.blt fe.2.1 fs.length))) with
    | false => rw [hb1] at hp; cases hp
    | true =>
      rw [hb1] at hp
      obtain ⟨h1, h2⟩ := am_and hb1
      obtain ⟨h2, h3⟩ := am_and h2
      obtain ⟨h3, h4⟩ := am_and h3
      have ec := am_be h1
      subst ec
      rw [am_put_eq, am_put_eq] at hp
      cases hp
      obtain ⟨n1, n2⟩ := am_fit_ok hft h2 ad sa
      have hlen : fe.2.1 < (fs.map (am_rv ad sa)).length := by rw [List.length_map]; exact am_bl h4
      have hend : ∀ (H1 : Heap) (locs1 : List Loc), va_P D vwCl ((am_ws ad sa ca h).set a (ad a, .inr (fe.1, (fs.map (am_rv ad sa)).set fe.2.1 (am_rv ad sa v)))) H1 → va_D A ((am_ws ad sa ca h).set a (ad a, .inr (fe.1, (fs.map (am_rv ad sa)).set fe.2.1 (am_rv ad sa v)))) → va_S A H0 H1 locs1 → am_wd D ad sa ca (h.set a (.inr (fe.1, fs.set fe.2.1 v))) s A H0 H1 locs1 := by
        intro H1 locs1 g1 g2 g3
        rw [← List.map_set] at g1 g2
        refine am_wd_set hW0 he (fun ty a q => nomatch q) ?_ g1 g2 g3
        intro w hw
        rcases List.mem_or_eq_of_mem_set hw with q | q
        · exact k6 a _ he w q
        · rw [q]; exact hok
      cases hfi : fe.2.2.2 with
      | false =>
        exact va_put (ref := C) hx hb hts c2 ty c3 c4 hown k1 k3 k4 k5 a (am_ws_at he) c1 fe.2.1 hk (hts _ hl) (by rw [hT]; exact fun _ q => q) (hfin.trans hfi) (c3 _ hk) n1 n2 hlen hdg (fun H1 locs1 g1 g2 g3 => k (List.length_set) rfl H1 locs1 (hend H1 locs1 g1 g2 g3))
      | true =>
        rw [hfi] at h3
        obtain ⟨h5, h6⟩ := am_and (show (ini && Nat.beq (am_oc own) fe.1) = true from h3)
        have e6 := am_be h6
        rw [← e6] at c1
        have eC := am_oc_ok c1
        rw [e6] at c1
        exact va_putF (ref := C) hx hb hts c2 ty c3 c4 hown k1 k3 k4 k5 a (am_ws_at he) c1 fe.2.1 hk (hts _ hl) (by rw [hT]; exact fun _ q => q) (hfin.trans hfi) (hin h5) (hT.trans eC) (c3 _ hk) n1 n2 hlen hdg (fun H1 locs1 g1 g2 g3 => k (List.length_set) rfl H1 locs1 (hend H1 locs1 g1 g2 g3))
  · cases hp
end AmHeap

/-! soundness, the theorem itself -/
section AmSnd2
variable {p : Program} {l : Launch} {e : Env} {R : Room} {s : State} {m : MethodId} {args : Array Value} {below : List Frame} {meth : Method} {c : Code} {H : Heap} {locs : List Loc} {cells slots : Nat}
/-- the end of a method -/
theorem am_retW {M : AmM} {D : va_G} {ad sa ad0 : Nat → Nat} {ca : Nat → ClassId} {n0 mc ms pc : Nat} {h : AmH} {A : Nat → Prop} {ls : Array Slot} {i : Jvm.ClassFile.Instr} {len : Nat} {v : Value} {st : List Value} {rv : Option Value} (hp : am_ret M.2.2.2.2.1 i st = some rv) (hx : p.tables.exec = Jvm.exec) (hb : c.code = M.2.1) (hr : meth.sig.returnType = M.2.2.2.2.1) (hlocks : meth.locks = false) (hdg : decode M.2.1 pc = .ok (i, len)) (hs : am_stat M.2.2.1 M.2.2.2.1 i len v = true)
    (hag : ∀ q, q < n0 → ad q = ad0 q) (hn0 : n0 ≤ h.length) (hW : am_wd D ad sa ca h s A s.heap H locs) (hos : am_oks h.length st) (hmc : cells ≤ mc) (hms : slots ≤ ms) : W p l e R s m args below meth c H locs cells slots (MQ below (am_Q D ad0 sa n0 h rv A) args s mc ms A) (F0 m pc ls (st.map (am_rv ad sa))) := by
  obtain ⟨k1, k2, k3, k4, k5, k6⟩ := hW
  have hq : (∀ v, rv = some v → am_okv h.length v) → ∀ t : State, t.heap = H → s.WarmedH t.vm → am_Q D ad0 sa n0 h rv A args s (.returned (rv.map (am_rv ad sa))) t := fun hok t ht hw => ⟨⟨ad, ca, rfl, hag, ⟨va_K.moved hw.alike k1, fun k ty a q => va_K.moved hw.alike (k2 k ty a q), by rw [ht]; exact k3, k4, k6⟩, hn0, hok⟩, k5.F ht⟩
  refine W.widen hmc hms ?_
  cases i with
  | ireturn =>
    cases am_be hs
    simp only [am_ret] at hp
    split at hp
    · rename_i x hrt
      cases hp
      exact W.iret hx hb (hr.trans hrt) (hq (fun v q => by cases q; exact am_okv_i _ _)) k5.2.2 hdg hlocks
    · rename_i x hrt
      cases hbx : am_isB x with
      | false => rw [hbx] at hp; cases hp
      | true =>
        rw [hbx] at hp
        cases hp
        have hb2 : (decide (x = 0) || decide (x = 1)) = true := hbx
        rw [Bool.or_eq_true, decide_eq_true_eq, decide_eq_true_eq] at hb2
        have hnar : narrow .boolean (.int x) = .int x := by
          rcases hb2 with rfl | rfl <;> decide +kernel
        exact W.zret hx hb (hr.trans hrt) hnar (hq (fun v q => by cases q; exact am_okv_i _ _)) k5.2.2 hdg hlocks
    · cases hp
  | lreturn =>
    cases am_be hs
    simp only [am_ret] at hp
    split at hp
    · rename_i x hrt
      cases hp
      exact W.lret hx hb (hr.trans hrt) (hq (fun v q => by cases q; exact am_okv_l _ _)) k5.2.2 hdg hlocks
    · cases hp
  | areturn =>
    cases am_be hs
    simp only [am_ret] at hp
    split at hp
    · rename_i C x hrt
      cases hp
      exact W.aret hx hb (hr.trans hrt) (Or.inl ⟨_, rfl⟩) (Or.inr ⟨_, rfl⟩) (hq (fun v q => by cases q; exact am_oks_h hos)) k5.2.2 hdg hlocks
    · rename_i C x hrt
      cases hp
      exact W.aret hx hb (hr.trans hrt) (Or.inr ⟨_, rfl⟩) (Or.inr ⟨_, rfl⟩) (hq (fun v q => by cases q; exact am_oks_h hos)) k5.2.2 hdg hlocks
    · cases hp
  | return_ =>
    cases am_be hs
    simp only [am_ret] at hp
    split at hp
    · rename_i hrt
      cases hp
      exact W.vret hx hb (hr.trans hrt) (hq (fun v q => nomatch q)) k5.2.2 hdg hlocks
    · cases hp
  | _ => exact nomatch (show (none : Option (Option Value)) = some rv from hp)
end AmSnd2
theorem am_add_eq {k j a b : Nat} {r : Option AmR} {v : Option Value} {h : AmH} (e : am_add k j r = some (v, h, a, b)) : ∃ a' b', r = some (v, h, a', b') ∧ a = a' + k ∧ b = b' + j := by
  unfold am_add at e
  split at e
  · cases e
    exact ⟨_, _, rfl, rfl, rfl⟩
  · cases e
theorem am_ml_GIv {own x : Nat} {M : AmM} (h1 : Cond.methodLink (am_on own) x M.1 ∈ am_gt) (h2 : Cond.instanceMethod M.1 ∈ am_gt) (h3 : Cond.selects M.1.cls M.1 M.1 ∈ am_gt) (hM : am_MK M) : GoodIn am_gt (wsV (am_on own) x M.1.cls M.1 (am_wsM M)) := am_GI (fun w hw => by
  rcases List.mem_append.mp hw with h | h
  · rcases List.mem_cons.mp h with rfl | h
    · exact h1
    · rcases List.mem_cons.mp h with rfl | h
      · exact h2
      · rcases List.mem_cons.mp h with rfl | h
        · exact h3
        · rcases List.mem_cons.mp h with rfl | h
          · exact hM.2.1
          · exact nomatch h
  · rcases List.mem_cons.mp h with rfl | h
    · exact hM.1
    · exact h)
theorem am_ml_GIs {own x : Nat} {M : AmM} (h1 : Cond.methodLink (am_on own) x M.1 ∈ am_gt) (h2 : Cond.static M.1 ∈ am_gt) (hM : am_MK M) : GoodIn am_gt (va_wsS (am_on own) x M.1 (am_wsM M)) := am_GI (fun w hw => by
  rcases List.mem_append.mp hw with h | h
  · rcases List.mem_cons.mp h with rfl | h
    · exact h1
    · rcases List.mem_cons.mp h with rfl | h
      · exact h2
      · rcases List.mem_cons.mp h with rfl | h
        · exact hM.2.1
        · exact nomatch h
  · rcases List.mem_cons.mp h with rfl | h
    · exact hM.1
    · exact h)
theorem am_wsM_GI {M : AmM} (hM : am_MK M) : GoodIn am_gt (am_wsM M) := am_GI (fun w hw => by
  rcases List.mem_cons.mp hw with rfl | h
  · exact hM.1
  · exact h)
/-- the nest words that a call of a private constructor rests on -/
theorem am_nest {own x : Nat} {y : MethodName} {sa av : Nat → Nat} {A : Nat → Prop} {s : State} (hf : am_N4 own x y) (hen : am_env sa av A s) : va_Nw (.methodLinkNest (am_on own) x y "TillPipe") s := by
  obtain ⟨-, -, -, d1, d2, d3, d4⟩ := hen
  rcases hf with ⟨rfl, rfl, rfl⟩ | ⟨rfl, rfl, rfl⟩ | ⟨rfl, rfl, rfl⟩ | ⟨rfl, rfl, rfl⟩
  · exact d1
  · exact d2
  · exact d3
  · exact d4
theorem am_isR_eq {as : List Value} (h : am_isR as = true) : ∃ b r, as = .ref b :: r := by
  match as, h with
  | .ref b :: r, _ => exact ⟨b, r, rfl⟩
theorem am_recv_eq {rc : Nat} {as : List Value} {h : AmH} (hr : am_recv rc as h = true) : ∃ b r fs, as = .ref b :: r ∧ h[b]? = some (.inr (rc, fs)) := by
  match as, hr with
  | .ref b :: r, hr =>
    have hr : (match am_nth h b with
      | some (.inr (c, _)) => Nat.beq c rc
      | _ => false) = true := hr
    rw [am_nth_eq] at hr
    split at hr
    · rename_i c fs he
      cases am_be hr
      exact ⟨b, r, fs, rfl, he⟩
    · cases hr
set_option maxRecDepth 100000 in
set_option maxHeartbeats 8000000 in
theorem am_snd {l : Launch} (hIA : am_IA l) (hck : ∀ own x e, am_look (am_ml own) x = some e → am_cok e.2.1) : ∀ n, am_Snd l n
  | 0 => fun d M pc L st h rv hf k j hrun => nomatch (show (none : Option AmR) = some (rv, hf, k, j) from hrun)
  | n + 1 => by
    have ih := am_snd hIA hck n
    intro d M pc L st h rv hf k j hrun hM hC p e R s m args below meth c hx hb hml hown hts hr hlocks hin D sa av A hen hA hRf hRl ad0 n0 ad ca H locs cells slots ls mc ms hag hn0 hW hL hoL hos hce hsl hmc hms
    have hrun : am_stp (am_run n) d M pc L st h = some (rv, hf, k, j) := hrun
    unfold am_stp at hrun
    split at hrun
    · rename_i pc' L' st' h' h1
      unfold am_one at h1
      split at h1
      · rename_i i len v hat
        obtain ⟨hdg, hst⟩ := hC pc i len v hat
        split at h1
        · rename_i pc2 L2 st2 hp
          cases h1
          obtain ⟨o1, o2⟩ := am_pure_ok hst hp hoL hos
          exact am_pure_W hx hb hown (am_Ks_of hts hen) hdg hst hp hL (fun ls' hl' => ih d M _ _ _ _ _ _ _ _ hrun hM hC p e R s m args below meth c hx hb hml hown hts hr hlocks hin D sa av A hen hA hRf hRl ad0 n0 ad ca H locs cells slots ls' mc ms hag hn0 hW hl' o1 o2 hce hsl hmc hms)
        · split at h1
          · rename_i n2 st2 h2 hp
            cases h1
            exact am_heap_W (R := R) hx hb hml hown hts hin hdg hst hL.1.1 ⟨by omega, by omega⟩ (by omega) (by omega) (fun x j t r g1 g2 g3 g4 g5 => am_iaW hIA hx hb hml hL.1.1 hown hts hen hW.2.2.2.2.1 (by omega) (by omega) (by omega) (by omega) x j t r g1 g2 g3 g4 g5) hW hos hp (fun e1 e2 H1 locs1 w => ih d M _ _ _ _ _ _ _ _ hrun hM hC p e R s m args below meth c hx hb hml hown hts hr hlocks hin D sa av A hen hA hRf hRl ad0 n0 ad ca H1 locs1 cells slots ls mc ms hag (by rw [e1]; exact hn0) w hL (by rw [e1]; exact hoL) (by rw [e1]; exact e2) hce hsl hmc hms)
          · cases h1
      · cases h1
    · unfold am_more at hrun
      split at hrun
      · rename_i i len v hat
        obtain ⟨hdg, hst⟩ := hC pc i len v hat
        split at hrun
        · rename_i r hp
          cases hrun
          exact am_retW hp hx hb hr hlocks hdg hst hag hn0 hW hos hmc hms
        · split at hrun
          · rename_i n2 cs st2 j2 hp
            obtain ⟨k', j', hrun2, rfl, rfl⟩ := am_add_eq hrun
            refine am_new_W (av := av) hx hb hown hts hen hdg hst hA hW hp (by omega) (by omega) (fun ad' ca' H1 a1 a2 a3 w => ?_)
            have hle : h.length ≤ (h ++ cs).length := by rw [List.length_append]; omega
            have hos2 : am_oks h.length st2 := fun v hv => hos v (a3 v hv)
            have key := ih d M _ _ _ _ _ _ _ _ hrun2 hM hC p e R s m args below meth c hx hb hml hown hts hr hlocks hin D sa av A hen hA hRf hRl ad0 n0 ad' ca' H1 locs (cells + cs.length) (slots + j2) ls mc ms (fun q hq => (a1 q (Nat.lt_of_lt_of_le hq hn0)).trans (hag q hq)) (Nat.le_trans hn0 hle) w (am_lr_ag a1 hL hoL) (am_okl_m hle hoL) (am_oks_c (am_okv_r (by rw [List.length_append]; omega)) (am_oks_m hle hos2)) (by omega) (by omega) (by omega) (by omega)
            have e1 : (.ref h.length :: st2).map (am_rv ad' sa) = .ref (ad' h.length) :: st2.map (am_rv ad sa) := by
              rw [List.map_cons, am_rvs_ag a1 hos2]
              rfl
            rw [e1] at key
            exact key
          · split at hrun
            · rename_i M' as r hp
              cases d with
              | zero => exact nomatch hrun
              | succ d' =>
                simp only [] at hrun
                split at hrun
                · rename_i rv1 h1 k1 j1 hrun1
                  obtain ⟨k2, j2, hrun2, rfl, rfl⟩ := am_add_eq hrun
                  have hA1 := am_A1 hW hA
                  have f1 : (am_rm d' k1 j1).frames + 1 ≤ R.frames := by simp only [am_rm]; omega
                  have f2 : ∀ M9 : AmM, am_MK M9 → 8 + (M9.2.2.2.1 + 11) + (am_rm d' k1 j1).locals ≤ R.locals := by
                    intro M9 h9
                    have := h9.2.2.2.2.2
                    simp only [am_rm]
                    omega
                  -- what stands behind the call
                  have hend : am_oks h.length r → ∀ (ad' : Nat → Nat) (ca' : Nat → ClassId) (H1 : Heap) (locs1 : List Loc), (∀ q, q < h.length → ad' q = ad q) → h.length ≤ h1.length → (∀ v, rv1 = some v → am_okv h1.length v) → am_wd D ad' sa ca' h1 s A s.heap H1 locs1 → W p l e R s m args below meth c H1 locs1 (cells + k1) (slots + j1) (MQ below (am_Q D ad0 sa n0 hf rv A) args s mc ms A) (F0 m (pc + 3) ls ((rv1.map (am_rv ad' sa)).toList ++ r.map (am_rv ad sa))) := by
                    intro hor ad' ca' H1 locs1 a1 a2 a3 w
                    have e1 : (rv1.map (am_rv ad' sa)).toList ++ r.map (am_rv ad sa) = (rv1.toList ++ r).map (am_rv ad' sa) := by
                      rw [List.map_append, am_rvs_ag a1 hor]
                      cases rv1 <;> rfl
                    rw [e1]
                    refine ih (d' + 1) M _ _ _ _ _ _ _ _ hrun2 hM hC p e R s m args below meth c hx hb hml hown hts hr hlocks hin D sa av A hen hA hRf hRl ad0 n0 ad' ca' H1 locs1 (cells + k1) (slots + j1) ls mc ms (fun q hq => (a1 q (Nat.lt_of_lt_of_le hq hn0)).trans (hag q hq)) (Nat.le_trans hn0 a2) w (am_lr_ag a1 hL hoL) (am_okl_m a2 hoL) ?_ (by omega) (by omega) (by omega) (by omega)
                    intro v hv
                    rcases List.mem_append.mp hv with q | q
                    · cases rv1 with
                      | none => exact nomatch q
                      | some w1 =>
                        have : v = w1 := List.mem_singleton.mp q
                        rw [this]
                        exact a3 w1 rfl
                    · exact am_okv_m a2 (hor v q)
                  cases i with
                  | invokestatic x =>
                    cases am_be hst
                    simp only [am_call] at hp
                    split at hp
                    · rename_i M2 na rc hf2
                      split at hp
                      · rename_i as2 r2 ht
                        cases hb2 : (am_low r2 && Nat.ble (am_sl1 as2).length M2.2.2.2.1) with
                        | false => rw [hb2] at hp; cases hp
                        | true =>
                        rw [hb2] at hp
                        cases hp
                        obtain ⟨l1, l2⟩ := am_and hb2
                        obtain ⟨ts, rfl, e2, e3⟩ := am_take_eq _ _ _ _ _ ht
                        rw [List.append_nil] at e2
                        subst e2
                        have hor : am_oks h.length r := fun v hv => hos v (List.mem_append_right _ hv)
                        have hoa : am_oks h.length ts.reverse := fun v hv => hos v (List.mem_append_left _ (List.mem_reverse.mp hv))
                        obtain ⟨hM', hpd, hkd⟩ := am_ml_ok hf2
                        rcases hkd with ⟨q, -⟩ | ⟨q, -⟩ | ⟨q, -⟩ | ⟨-, g1, g2⟩
                        · cases q
                        · cases q
                        · cases q
                        · refine am_callW (va_runS (As := ts.reverse.map (am_rv ad sa)) (rest := r.map (am_rv ad sa)) ⟨hx, hb, hml, hown, hts⟩ (am_met ih hrun1 hM' (hck _ _ _ hf2) (Nat.le_of_ble_eq_true l2) hoa D ad sa av ca H.size) (va_cwS na hts (am_ml_GIs g1 g2 hM') rfl rfl rfl ⟨hM'.2.2.2.1.1, hM'.2.2.2.1.2, hpd⟩ ⟨f1, f2 _ hM'⟩) ⟨am_blind, fun U hU hw => am_preU hW hA hen _ hU hw⟩ rfl (by rw [List.length_map, List.length_reverse]; exact e3) hL.1.1 (by show (ts ++ r).map (am_rv ad sa) = _; rw [← List.map_reverse, List.reverse_reverse, List.map_append]) (lv_room (am_low_le l1 ad sa)) hdg ⟨by omega, by omega⟩) hW.2.2.2.2.1 hA1 (hend hor)
                      · cases hp
                    · cases hp
                  | invokevirtual x =>
                    cases am_be hst
                    simp only [am_call] at hp
                    split at hp
                    · rename_i M2 na rc hf2
                      split at hp
                      · rename_i as2 r2 ht
                        cases hb2 : (am_low r2 && (Nat.ble (am_sl1 as2).length M2.2.2.2.1 && am_recv rc as2 h)) with
                        | false => rw [hb2] at hp; cases hp
                        | true =>
                        rw [hb2] at hp
                        cases hp
                        obtain ⟨l1, l2⟩ := am_and hb2
                        obtain ⟨l2, l3⟩ := am_and l2
                        obtain ⟨ts, rfl, e2, e3⟩ := am_take_eq _ _ _ _ _ ht
                        rw [List.append_nil] at e2
                        obtain ⟨b, as', fs, e4, he⟩ := am_recv_eq l3
                        have hor : am_oks h.length r := fun v hv => hos v (List.mem_append_right _ hv)
                        have hoa : am_oks h.length as := fun v hv => hos v (List.mem_append_left _ (List.mem_reverse.mp (e2 ▸ hv)))
                        have ets : ts = as'.reverse ++ [.ref b] := by
                          have : ts.reverse = .ref b :: as' := e2.symm.trans e4
                          rw [← List.reverse_reverse ts, this, List.reverse_cons]
                        have hna : as'.length = na := by
                          rw [ets, List.length_append, List.length_reverse, List.length_singleton] at e3
                          omega
                        obtain ⟨hM', hpd, hkd⟩ := am_ml_ok hf2
                        rcases hkd with ⟨q, -⟩ | ⟨q, -⟩ | ⟨-, g1, g2, g3, q0, g4, g5⟩ | ⟨q, -⟩
                        · cases q
                        · cases q
                        · have hrcv := va_recv hW.1 hW.2.2.1 g4 (am_ws_at he)
                          rw [g5] at hrcv
                          have hpre : ∀ U : State, U.heap = H → s.WarmedH U.vm → am_Pre D ad sa av ca h as H.size (Value.ref (ad b) :: as'.map (am_rv ad sa)).toArray U := fun U hU hw => by
                            have := am_preU hW hA hen as hU hw
                            rw [e4] at this ⊢
                            exact this
                          refine am_callW (va_runV (C := M'.1.cls) (b := ad b) (As := as'.map (am_rv ad sa)) (rest := r.map (am_rv ad sa)) ⟨hx, hb, hml, hown, hts⟩ (am_met ih hrun1 hM' (hck _ _ _ hf2) (Nat.le_of_ble_eq_true l2) hoa D ad sa av ca H.size) (cwV na hts (am_ml_GIv g1 g2 g3 hM') rfl rfl rfl ⟨rfl, hM'.2.2.2.1.1, hM'.2.2.2.1.2, hpd⟩ ⟨f1, f2 _ hM'⟩) ⟨am_blind, hrcv, hpre⟩ rfl (by rw [List.length_map]; exact hna) hL.1.1 (by show (ts ++ r).map (am_rv ad sa) = _; rw [ets, List.map_append, List.map_append, List.append_assoc, List.map_reverse]; rfl) (lv_room (am_low_le l1 ad sa)) hdg ⟨by omega, by omega⟩) hW.2.2.2.2.1 hA1 (hend hor)
                        · cases q
                      · cases hp
                    · cases hp
                  | invokespecial x =>
                    cases am_be hst
                    simp only [am_call] at hp
                    split at hp
                    · rename_i kd M2 na rc hf2
                      split at hp
                      · rename_i as2 r2 ht
                        cases hb2 : ((Nat.beq kd 1 || Nat.beq kd 2) && (am_low r2 && (Nat.ble (am_sl1 as2).length M2.2.2.2.1 && (am_isR as2 && M2.2.2.2.2.1.isNone)))) with
                        | false => rw [hb2] at hp; cases hp
                        | true =>
                        rw [hb2] at hp
                        cases hp
                        obtain ⟨l0, l1⟩ := am_and hb2
                        obtain ⟨l1, l2⟩ := am_and l1
                        obtain ⟨l2, l3⟩ := am_and l2
                        obtain ⟨l3, l4⟩ := am_and l3
                        have hret : M'.2.2.2.2.1 = none := Option.isNone_iff_eq_none.mp l4
                        obtain ⟨ts, rfl, e2, e3⟩ := am_take_eq _ _ _ _ _ ht
                        rw [List.append_nil] at e2
                        obtain ⟨b, as', e4⟩ := am_isR_eq l3
                        have hor : am_oks h.length r := fun v hv => hos v (List.mem_append_right _ hv)
                        have hoa : am_oks h.length as := fun v hv => hos v (List.mem_append_left _ (List.mem_reverse.mp (e2 ▸ hv)))
                        have ets : ts = as'.reverse ++ [.ref b] := by
                          have : ts.reverse = .ref b :: as' := e2.symm.trans e4
                          rw [← List.reverse_reverse ts, this, List.reverse_cons]
                        have hna : as'.length = na := by
                          rw [ets, List.length_append, List.length_reverse, List.length_singleton] at e3
                          omega
                        have hpre : ∀ U : State, U.heap = H → s.WarmedH U.vm → am_Pre D ad sa av ca h as H.size (Value.ref (ad b) :: as'.map (am_rv ad sa)).toArray U := fun U hU hw => by
                          have := am_preU hW hA hen as hU hw
                          rw [e4] at this ⊢
                          exact this
                        obtain ⟨hM', hpd, hkd⟩ := am_ml_ok hf2
                        rcases hkd with ⟨-, g1, g2, g3⟩ | ⟨-, g1, g2, g3⟩ | ⟨q, -⟩ | ⟨q, -⟩
                        · have hws : am_wsM M' = Cond.code M'.1 M'.2.1 M'.2.2.2.1 none :: am_gt := by
                            unfold am_wsM
                            rw [hret]
                          refine am_callW (va_runI (b := ad b) (As := as'.map (am_rv ad sa)) (rest := r.map (am_rv ad sa)) ⟨hx, hb, hml, hown, hts⟩ (am_met ih hrun1 hM' (hck _ _ _ hf2) (Nat.le_of_ble_eq_true l2) hoa D ad sa av ca H.size) (cwI (mc := k1) (ms := j1) na hts (am_wsM_GI hM') hws rfl rfl (hts _ hM'.2.1) (hts _ g1) (hts _ g2) g3 ⟨hM'.2.2.2.1.1, hM'.2.2.2.1.2, hpd⟩ ⟨f1, f2 _ hM'⟩) ⟨am_blind, hpre⟩ rfl (by rw [List.length_map]; exact hna) hL.1.1 (by show (ts ++ r).map (am_rv ad sa) = _; rw [ets, List.map_append, List.map_append, List.append_assoc, List.map_reverse]; rfl) (lv_room (am_low_le l1 ad sa)) hdg ⟨by omega, by omega⟩) hW.2.2.2.2.1 hA1 (hend hor)
                        · have hws : am_wsM M' = Cond.code M'.1 M'.2.1 M'.2.2.2.1 none :: am_gt := by
                            unfold am_wsM
                            rw [hret]
                          refine am_callW (va_runIN (host := "TillPipe") (b := ad b) (As := as'.map (am_rv ad sa)) (rest := r.map (am_rv ad sa)) ⟨hx, hb, hml, hown, hts⟩ (am_met ih hrun1 hM' (hck _ _ _ hf2) (Nat.le_of_ble_eq_true l2) hoa D ad sa av ca H.size) ⟨va_cnB (mc := k1) (ms := j1) na hts (am_wsM_GI hM') hws rfl rfl (am_nest g1 hen) (hts _ hM'.2.1) ⟨hM'.2.2.2.1.1, hM'.2.2.2.1.2, hpd⟩ ⟨f1, f2 _ hM'⟩, g3, hts _ g2⟩ ⟨am_blind, hpre⟩ rfl (by rw [List.length_map]; exact hna) hL.1.1 (by show (ts ++ r).map (am_rv ad sa) = _; rw [ets, List.map_append, List.map_append, List.append_assoc, List.map_reverse]; rfl) (lv_room (am_low_le l1 ad sa)) hdg ⟨by omega, by omega⟩) hW.2.2.2.2.1 hA1 (hend hor)
                        · have q : kd = 3 := q
                          subst q
                          cases l0
                        · have q : kd = 4 := q
                          subst q
                          cases l0
                      · cases hp
                    · cases hp
                  | _ => exact nomatch (show (none : Option (AmM × List Value × List Value)) = some (M', as, r) from hp)
                · cases hrun
            · cases hrun
      · cases hrun

theorem am_take_rn (ρ : Nat → Nat) : ∀ (n : Nat) (st acc as r : List Value), am_take n st acc = some (as, r) → am_take n (st.map (am_rn ρ)) (acc.map (am_rn ρ)) = some (as.map (am_rn ρ), r.map (am_rn ρ))
  | 0, st, acc, as, r, h => by
    cases h
    rfl
  | n + 1, [], acc, as, r, h => nomatch h
  | n + 1, v :: st, acc, as, r, h => am_take_rn ρ n st (v :: acc) as r h
theorem am_sl1_rn (ρ : Nat → Nat) : ∀ as : List Value, am_sl1 (as.map (am_rn ρ)) = am_rl ρ (am_sl1 as)
  | [] => rfl
  | v :: r => by
    have ih := am_sl1_rn ρ r
    cases v with
    | long x => exact congrArg (fun q => some (Value.long x) :: none :: q) ih
    | double x => exact congrArg (fun q => some (Value.double x) :: none :: q) ih
    | int x => exact congrArg (fun q => some (Value.int x) :: q) ih
    | float x => exact congrArg (fun q => some (Value.float x) :: q) ih
    | null => exact congrArg (fun q => some Value.null :: q) ih
    | ref x => exact congrArg (fun q => some (Value.ref (ρ x)) :: q) ih
    | retAddr x => exact congrArg (fun q => some (Value.retAddr x) :: q) ih
theorem am_ent_rn (ρ : Nat → Nat) (as : List Value) (n : Nat) : am_ent (as.map (am_rn ρ)) n = am_rl ρ (am_ent as n) := by
  unfold am_ent
  rw [am_sl1_rn]
  unfold am_rl
  rw [List.map_append, List.length_map, List.map_replicate]
  rfl
theorem am_sl1_len (ρ : Nat → Nat) (as : List Value) : (am_sl1 (as.map (am_rn ρ))).length = (am_sl1 as).length := by
  rw [am_sl1_rn]
  exact List.length_map _
theorem am_recv_rn {ρ : Nat → Nat} {h G : AmH} (hE : am_Emb ρ h G) {rc : Nat} {as : List Value} (hr : am_recv rc as h = true) : am_recv rc (as.map (am_rn ρ)) G = true := by
  obtain ⟨b, r, fs, rfl, he⟩ := am_recv_eq hr
  show (match am_nth G (ρ b) with
    | some (.inr (c, _)) => Nat.beq c rc
    | _ => false) = true
  rw [am_nth_eq, hE.2 b _ he]
  exact Nat.beq_refl rc
theorem am_isR_rn {ρ : Nat → Nat} {as : List Value} (hr : am_isR as = true) : am_isR (as.map (am_rn ρ)) = true := by
  obtain ⟨b, r, rfl⟩ := am_isR_eq hr
  rfl
theorem am_call_rn {ρ : Nat → Nat} {h G : AmH} (hE : am_Emb ρ h G) {own : Nat} {i : Jvm.ClassFile.Instr} {st : List Value} {m' : AmM} {as r : List Value} (hp : am_call own i st h = some (m', as, r)) : am_call own i (st.map (am_rn ρ)) G = some (m', as.map (am_rn ρ), r.map (am_rn ρ)) := by
  cases i with
  | invokestatic x =>
    simp only [am_call] at hp ⊢
    split at hp
    · rename_i m2 n rc hf
      split at hp
      · rename_i as2 r2 ht
        have ht2 := am_take_rn ρ _ _ _ _ _ ht
        cases hb : (am_low r2 && Nat.ble (am_sl1 as2).length m2.2.2.2.1) with
        | false => rw [hb] at hp; cases hp
        | true =>
          rw [hb] at hp
          cases hp
          simp only [List.map_nil] at ht2
          simp only [ht2, am_low_rn, am_sl1_len, hb, cond_true]
      · cases hp
    · cases hp
  | invokevirtual x =>
    simp only [am_call] at hp ⊢
    split at hp
    · rename_i m2 n rc hf
      split at hp
      · rename_i as2 r2 ht
        have ht2 := am_take_rn ρ _ _ _ _ _ ht
        cases hb : (am_low r2 && (Nat.ble (am_sl1 as2).length m2.2.2.2.1 && am_recv rc as2 h)) with
        | false => rw [hb] at hp; cases hp
        | true =>
          rw [hb] at hp
          cases hp
          obtain ⟨l1, l2⟩ := am_and hb
          obtain ⟨l2, l3⟩ := am_and l2
          simp only [List.map_nil] at ht2
          simp only [ht2, am_low_rn, am_sl1_len, l1, l2, am_recv_rn hE l3, Bool.and_self, cond_true]
      · cases hp
    · cases hp
  | invokespecial x =>
    simp only [am_call] at hp ⊢
    split at hp
    · rename_i kd m2 n rc hf
      split at hp
      · rename_i as2 r2 ht
        have ht2 := am_take_rn ρ _ _ _ _ _ ht
        cases hb : ((Nat.beq kd 1 || Nat.beq kd 2) && (am_low r2 && (Nat.ble (am_sl1 as2).length m2.2.2.2.1 && (am_isR as2 && m2.2.2.2.2.1.isNone)))) with
        | false => rw [hb] at hp; cases hp
        | true =>
          rw [hb] at hp
          cases hp
          obtain ⟨l0, l1⟩ := am_and hb
          obtain ⟨l1, l2⟩ := am_and l1
          obtain ⟨l2, l3⟩ := am_and l2
          obtain ⟨l3, l4⟩ := am_and l3
          simp only [List.map_nil] at ht2
          simp only [ht2, am_low_rn, am_sl1_len, l0, l1, l2, l4, am_isR_rn l3, Bool.and_self, cond_true]
      · cases hp
    · cases hp
  | _ => exact nomatch (show (none : Option (AmM × List Value × List Value)) = some (m', as, r) from hp)
theorem am_ret_rn (ρ : Nat → Nat) {rt : Option FieldType} {i : Jvm.ClassFile.Instr} {st : List Value} {rv : Option Value} (hp : am_ret rt i st = some rv) : am_ret rt i (st.map (am_rn ρ)) = some (rv.map (am_rn ρ)) := by
  cases i with
  | ireturn =>
    simp only [am_ret] at hp ⊢
    split at hp
    · cases hp; rfl
    · rename_i x
      cases hb : am_isB x with
      | false => rw [hb] at hp; cases hp
      | true =>
        rw [hb] at hp
        cases hp
        simp only [List.map_cons, List.map_nil, am_rn, hb, cond_true]
        rfl
    · cases hp
  | lreturn =>
    simp only [am_ret] at hp ⊢
    split at hp
    · cases hp; rfl
    · cases hp
  | areturn =>
    simp only [am_ret] at hp ⊢
    split at hp
    · cases hp; rfl
    · cases hp; rfl
    · cases hp
  | return_ =>
    simp only [am_ret] at hp ⊢
    split at hp
    · cases hp; rfl
    · cases hp
  | _ => exact nomatch (show (none : Option (Option Value)) = some rv from hp)
theorem am_dis {own x : Nat} {e : Nat × AmM × Nat × Nat} (h : am_look (am_ml own) x = some e) : am_look (am_sl own) x = none := by
  have hm := am_look_mem h
  unfold am_ml at hm
  split at hm
  · exact (show ∀ q ∈ am_ml_0, am_look (am_sl 0) q.1 = none by decide +kernel) _ hm
  · exact (show ∀ q ∈ am_ml_1, am_look (am_sl 1) q.1 = none by decide +kernel) _ hm
  · exact (show ∀ q ∈ am_ml_2, am_look (am_sl 2) q.1 = none by decide +kernel) _ hm
  · exact (show ∀ q ∈ am_ml_3, am_look (am_sl 3) q.1 = none by decide +kernel) _ hm
  · exact (show ∀ q ∈ am_ml_4, am_look (am_sl 4) q.1 = none by decide +kernel) _ hm
  · exact (show ∀ q ∈ am_ml_5, am_look (am_sl 5) q.1 = none by decide +kernel) _ hm
  · exact (show ∀ q ∈ am_ml_6, am_look (am_sl 6) q.1 = none by decide +kernel) _ hm
  · exact (show ∀ q ∈ am_ml_7, am_look (am_sl 7) q.1 = none by decide +kernel) _ hm
  · exact (show ∀ q ∈ am_ml_8, am_look (am_sl 8) q.1 = none by decide +kernel) _ hm
  · exact (show ∀ q ∈ am_ml_9, am_look (am_sl 9) q.1 = none by decide +kernel) _ hm
  · exact (show ∀ q ∈ am_ml_10, am_look (am_sl 10) q.1 = none by decide +kernel) _ hm
  · exact (show ∀ q ∈ am_ml_11, am_look (am_sl 11) q.1 = none by decide +kernel) _ hm
  · exact (show ∀ q ∈ am_ml_12, am_look (am_sl 12) q.1 = none by decide +kernel) _ hm
  · exact (show ∀ q ∈ am_ml_16, am_look (am_sl 16) q.1 = none by decide +kernel) _ hm
  · exact nomatch hm
theorem am_heap_np {own n : Nat} {ini : Bool} {i : Jvm.ClassFile.Instr} {st st' : List Value} {h h' : AmH} (hp : am_heap own ini i st h = some (n, st', h')) (v : Value) (pc : Nat) (L : AmL) (s2 : List Value) : am_pure i v pc L s2 = none := by
  cases i <;> first | rfl | exact nomatch (show (none : AmQ) = some (n, st', h') from hp)
theorem am_ret_no {rt : Option FieldType} {i : Jvm.ClassFile.Instr} {st : List Value} {rv : Option Value} (hp : am_ret rt i st = some rv) : (∀ v pc L s2, am_pure i v pc L s2 = none) ∧ ∀ own ini s2 h, am_heap own ini i s2 h = none := by
  cases i <;> first | exact ⟨fun _ _ _ _ => rfl, fun _ _ _ _ => rfl⟩ | exact nomatch (show (none : Option (Option Value)) = some rv from hp)
theorem am_call_no {own : Nat} {i : Jvm.ClassFile.Instr} {st : List Value} {h : AmH} {q : AmM × List Value × List Value} (hp : am_call own i st h = some q) : (∀ v pc L s2, am_pure i v pc L s2 = none) ∧ (∀ ini s2 h2, am_heap own ini i s2 h2 = none) ∧ (∀ rt s2, am_ret rt i s2 = none) ∧ ∀ b s2, am_new own b i s2 = none := by
  cases i with
  | invokestatic x =>
    refine ⟨fun _ _ _ _ => rfl, fun ini s2 h2 => ?_, fun _ _ => rfl, fun _ _ => rfl⟩
    simp only [am_call] at hp
    split at hp
    · rename_i m2 n rc hf
      simp only [am_heap, am_dis hf]
    · cases hp
  | invokevirtual x => exact ⟨fun _ _ _ _ => rfl, fun _ _ _ => rfl, fun _ _ => rfl, fun _ _ => rfl⟩
  | invokespecial x =>
    refine ⟨fun _ _ _ _ => rfl, fun ini s2 h2 => ?_, fun _ _ => rfl, fun _ _ => rfl⟩
    simp only [am_call] at hp
    split at hp
    · rename_i kd m2 n rc hf
      simp only [am_heap, am_dis hf]
    · cases hp
  | _ => exact nomatch (show (none : Option (AmM × List Value × List Value)) = some q from hp)
theorem am_new_pos {own b n j : Nat} {i : Jvm.ClassFile.Instr} {st st' : List Value} {cs : List AmE} (hp : am_new own b i st = some (n, cs, st', j)) : 0 < cs.length := by
  cases i with
  | new x =>
    simp only [am_new] at hp
    split at hp
    · cases hp; exact Nat.succ_pos _
    · cases hp
  | newarray t =>
    simp only [am_new] at hp
    split at hp
    · split at hp
      · cases hp
      · split at hp <;> first | (cases hp; exact Nat.succ_pos _) | cases hp
    · cases hp
  | anewarray x =>
    simp only [am_new] at hp
    split at hp
    · rename_i ci z r hf
      cases hci : (Nat.beq ci 2 || (Nat.beq ci 6 || Nat.beq ci 9)) with
      | false => rw [hci] at hp; cases hp
      | true =>
        rw [hci] at hp
        simp only [cond_true] at hp
        split at hp
        · cases hp
        · cases hp; exact Nat.succ_pos _
    · cases hp
  | multianewarray x d =>
    simp only [am_new] at hp
    split at hp
    · split at hp
      · split at hp
        · cases hp
        · cases hp; exact Nat.succ_pos _
      · cases hp
    · cases hp
  | _ => exact nomatch (show (none : Option (Nat × List AmE × List Value × Nat)) = some (n, cs, st', j) from hp)
set_option maxHeartbeats 4000000 in
/-- THE FRAME: a run that makes nothing goes on alike where its heap lies within another, at other places; what lies beside is as it was -/
theorem am_frm : ∀ (n d : Nat) (m : AmM) (pc : Nat) (L : AmL) (st : List Value) (h : AmH) (rv : Option Value) (h' : AmH) (j : Nat), am_run n d m pc L st h = some (rv, h', 0, j) → am_cok m → ∀ (ρ : Nat → Nat) (G : AmH), am_Emb ρ h G → h'.length = h.length ∧ ∃ G', am_run n d m pc (am_rl ρ L) (st.map (am_rn ρ)) G = some (rv.map (am_rn ρ), G', 0, j) ∧ am_Emb ρ h' G' ∧ am_Fr ρ h.length G G'
  | 0, _, _, _, _, _, _, rv, h', j, hr => nomatch (show (none : Option AmR) = some (rv, h', 0, j) from hr)
  | n + 1, d, m, pc, L, st, h, rv, h', j, hr => by
    intro hC ρ G hE
    have hr : am_stp (am_run n) d m pc L st h = some (rv, h', 0, j) := hr
    show _ ∧ ∃ G', am_stp (am_run n) d m pc (am_rl ρ L) (st.map (am_rn ρ)) G = _ ∧ _
    unfold am_stp at hr ⊢
    cases h1 : am_one m pc L st h with
    | some q =>
      obtain ⟨pc', L', st', h2⟩ := q
      rw [h1] at hr
      simp only [] at hr
      unfold am_one at h1
      cases h0 : am_at m.2.2.2.2.2 pc with
      | none => rw [h0] at h1; cases h1
      | some x =>
        obtain ⟨i, len, v⟩ := x
        obtain ⟨-, hst⟩ := hC pc i len v h0
        rw [h0] at h1
        simp only [] at h1
        cases hp : am_pure i v pc L st with
        | some y =>
          obtain ⟨p2, L2, s2⟩ := y
          rw [hp] at h1
          cases h1
          obtain ⟨e1, G', e2, e3⟩ := am_frm n d m _ _ _ _ _ _ _ hr hC ρ G hE
          refine ⟨e1, G', ?_, e3⟩
          have hone : am_one m pc (am_rl ρ L) (st.map (am_rn ρ)) G = some (pc', am_rl ρ L', st'.map (am_rn ρ), G) := by
            unfold am_one
            rw [h0]
            simp only []
            rw [am_pure_rn ρ hst hp]
          rw [hone]
          exact e2
        | none =>
          rw [hp] at h1
          simp only [] at h1
          cases hq : am_heap m.2.2.1 (am_ini m) i st h with
          | none => rw [hq] at h1; cases h1
          | some y =>
            obtain ⟨n2, s2, g2⟩ := y
            rw [hq] at h1
            cases h1
            obtain ⟨a1, G1, a2, a3, a4⟩ := am_heap_rn hE hq
            obtain ⟨e1, G', e2, e3, e4⟩ := am_frm n d m _ _ _ _ _ _ _ hr hC ρ G1 a3
            rw [a1] at e4
            refine ⟨e1.trans a1, G', ?_, e3, a4.tr e4⟩
            have hone : am_one m pc (am_rl ρ L) (st.map (am_rn ρ)) G = some (pc + n2, am_rl ρ L, st'.map (am_rn ρ), G1) := by
              unfold am_one
              rw [h0]
              simp only []
              rw [am_heap_np hq, a2]
            rw [hone]
            exact e2
    | none =>
      rw [h1] at hr
      have hr : am_more (am_run n) d m pc L st h = some (rv, h', 0, j) := hr
      unfold am_more at hr
      cases h0 : am_at m.2.2.2.2.2 pc with
      | none => rw [h0] at hr; cases hr
      | some x =>
        obtain ⟨i, len, v⟩ := x
        rw [h0] at hr
        simp only [] at hr
        cases h3 : am_ret m.2.2.2.2.1 i st with
        | some q =>
          rw [h3] at hr
          cases hr
          refine ⟨rfl, G, ?_, hE, am_Fr.rf _ _ _⟩
          have hone : am_one m pc (am_rl ρ L) (st.map (am_rn ρ)) G = none := by
            unfold am_one
            rw [h0]
            simp only [(am_ret_no h3).1, (am_ret_no h3).2]
          rw [hone]
          show am_more (am_run n) d m pc (am_rl ρ L) (st.map (am_rn ρ)) G = _
          unfold am_more
          rw [h0]
          simp only []
          rw [am_ret_rn ρ h3]
        | none =>
          rw [h3] at hr
          simp only [] at hr
          cases h4 : am_new m.2.2.1 h.length i st with
          | some q =>
            obtain ⟨n2, cs, s2, j2⟩ := q
            rw [h4] at hr
            obtain ⟨a', b', -, e2, -⟩ := am_add_eq hr
            have := am_new_pos h4
            omega
          | none =>
            rw [h4] at hr
            simp only [] at hr
            cases h5 : am_call m.2.2.1 i st h with
            | none => rw [h5] at hr; cases hr
            | some q =>
              obtain ⟨m', as, rs⟩ := q
              rw [h5] at hr
              simp only [] at hr
              obtain ⟨c1, c2, c3, c4⟩ := am_call_no h5
              cases d with
              | zero => exact nomatch hr
              | succ d' =>
                simp only [] at hr
                cases h6 : am_run n d' m' 0 (am_ent as m'.2.2.2.1) [] h with
                | none => rw [h6] at hr; cases hr
                | some q =>
                  obtain ⟨v1, g1, k1, j1⟩ := q
                  rw [h6] at hr
                  simp only [] at hr
                  obtain ⟨k2, j2, e1, e2, rfl⟩ := am_add_eq hr
                  have z1 : k1 = 0 := by omega
                  have z2 : k2 = 0 := by omega
                  subst z1; subst z2
                  have hC' : am_cok m' := by
                    cases i with
                    | invokestatic x =>
                      simp only [am_call] at h5
                      split at h5
                      · rename_i m2 na rc hf
                        split at h5
                        · rename_i as2 r2 ht
                          cases hb : (am_low r2 && Nat.ble (am_sl1 as2).length m2.2.2.2.1) with
                          | false => rw [hb] at h5; cases h5
                          | true => rw [hb] at h5; cases h5; exact am_ck hf
                        · cases h5
                      · cases h5
                    | invokevirtual x =>
                      simp only [am_call] at h5
                      split at h5
                      · rename_i m2 na rc hf
                        split at h5
                        · rename_i as2 r2 ht
                          cases hb : (am_low r2 && (Nat.ble (am_sl1 as2).length m2.2.2.2.1 && am_recv rc as2 h)) with
                          | false => rw [hb] at h5; cases h5
                          | true => rw [hb] at h5; cases h5; exact am_ck hf
                        · cases h5
                      · cases h5
                    | invokespecial x =>
                      simp only [am_call] at h5
                      split at h5
                      · rename_i kd m2 na rc hf
                        split at h5
                        · rename_i as2 r2 ht
                          cases hb : ((Nat.beq kd 1 || Nat.beq kd 2) && (am_low r2 && (Nat.ble (am_sl1 as2).length m2.2.2.2.1 && (am_isR as2 && m2.2.2.2.2.1.isNone)))) with
                          | false => rw [hb] at h5; cases h5
                          | true => rw [hb] at h5; cases h5; exact am_ck hf
                        · cases h5
                      · cases h5
                    | _ => exact nomatch (show (none : Option (AmM × List Value × List Value)) = some (m', as, rs) from h5)
                  obtain ⟨a1, G1, a2, a3, a4⟩ := am_frm n d' m' _ _ _ _ _ _ _ h6 hC' ρ G hE
                  obtain ⟨b1, G2, b2, b3, b4⟩ := am_frm n (d' + 1) m _ _ _ _ _ _ _ e1 hC ρ G1 a3
                  rw [a1] at b4
                  refine ⟨b1.trans a1, G2, ?_, b3, a4.tr b4⟩
                  have hone : am_one m pc (am_rl ρ L) (st.map (am_rn ρ)) G = none := by
                    unfold am_one
                    rw [h0]
                    simp only [c1, c2]
                  rw [hone]
                  show am_more (am_run n) (d' + 1) m pc (am_rl ρ L) (st.map (am_rn ρ)) G = _
                  unfold am_more
                  rw [h0]
                  simp only [c3, c4]
                  rw [am_call_rn hE h5]
                  simp only []
                  rw [am_ent_rn]
                  have a2 : am_run n d' m' 0 (am_rl ρ (am_ent as m'.2.2.2.1)) [] G = some (v1.map (am_rn ρ), G1, 0, j1) := a2
                  rw [a2]
                  simp only []
                  have e3 : (v1.map (am_rn ρ)).toList ++ rs.map (am_rn ρ) = (v1.toList ++ rs).map (am_rn ρ) := by
                    rw [List.map_append]
                    cases v1 <;> rfl
                  rw [e3, b2]
                  rfl

/-! soundness, part 2: one instruction without the heap -/
theorem am_tg_eq {pc t : Nat} {off : Int} (h : am_tg pc off = some t) : (pc : Int) + off = (t : Int) := by
  unfold am_tg at h
  split at h
  · rename_i x e
    cases h
    exact e
  · cases h
theorem am_ldI_eq {L L' : AmL} {k pc pc' : Nat} {st st' : List Value} (h : am_ldI L k pc st = some (pc', L', st')) : ∃ x, am_get L k = some (.int x) ∧ pc' = pc ∧ L' = L ∧ st' = .int x :: st := by
  unfold am_ldI at h
  split at h
  · rename_i x e
    cases h
    exact ⟨x, e, rfl, rfl, rfl⟩
  · cases h
theorem am_ldJ_eq {L L' : AmL} {k pc pc' : Nat} {st st' : List Value} (h : am_ldJ L k pc st = some (pc', L', st')) : ∃ x, am_get L k = some (.long x) ∧ pc' = pc ∧ L' = L ∧ st' = .long x :: st := by
  unfold am_ldJ at h
  split at h
  · rename_i x e
    cases h
    exact ⟨x, e, rfl, rfl, rfl⟩
  · cases h
theorem am_ldA_eq {L L' : AmL} {k pc pc' : Nat} {st st' : List Value} (h : am_ldA L k pc st = some (pc', L', st')) : ∃ v, am_get L k = some v ∧ (v = .null ∨ (∃ a, v = .ref a) ∨ ∃ a, v = .retAddr a) ∧ pc' = pc ∧ L' = L ∧ st' = v :: st := by
  unfold am_ldA at h
  split at h
  · rename_i x e
    cases h
    exact ⟨_, e, Or.inr (Or.inl ⟨_, rfl⟩), rfl, rfl, rfl⟩
  · rename_i e
    cases h
    exact ⟨_, e, Or.inl rfl, rfl, rfl, rfl⟩
  · rename_i x e
    cases h
    exact ⟨_, e, Or.inr (Or.inr ⟨_, rfl⟩), rfl, rfl, rfl⟩
  · cases h
theorem am_stI_eq {L L' : AmL} {k pc pc' : Nat} {st st' : List Value} (h : am_stI L k pc st = some (pc', L', st')) : ∃ x, st = .int x :: st' ∧ pc' = pc ∧ L' = am_set1 L k (.int x) := by
  unfold am_stI at h
  split at h
  · cases h
    exact ⟨_, rfl, rfl, rfl⟩
  · cases h
theorem am_stJ_eq {L L' : AmL} {k pc pc' : Nat} {st st' : List Value} (h : am_stJ L k pc st = some (pc', L', st')) : ∃ x, st = .long x :: st' ∧ pc' = pc ∧ L' = am_set2 L k (.long x) := by
  unfold am_stJ at h
  split at h
  · cases h
    exact ⟨_, rfl, rfl, rfl⟩
  · cases h
theorem am_stA_eq {L L' : AmL} {k pc pc' : Nat} {st st' : List Value} (h : am_stA L k pc st = some (pc', L', st')) : ∃ x, st = .ref x :: st' ∧ pc' = pc ∧ L' = am_set1 L k (.ref x) := by
  unfold am_stA at h
  split at h
  · cases h
    exact ⟨_, rfl, rfl, rfl⟩
  · cases h
theorem am_i2_eq {f : Int32 → Int32 → Int32} {L L' : AmL} {pc pc' : Nat} {st st' : List Value} (h : am_i2 f L pc st = some (pc', L', st')) : ∃ x y r, st = .int y :: .int x :: r ∧ pc' = pc ∧ L' = L ∧ st' = .int (f x y) :: r := by
  unfold am_i2 at h
  split at h
  · cases h
    exact ⟨_, _, _, rfl, rfl, rfl, rfl⟩
  · cases h
theorem am_i2d_eq {f : Int32 → Int32 → Int32} {L L' : AmL} {pc pc' : Nat} {st st' : List Value} (h : am_i2d f L pc st = some (pc', L', st')) : ∃ x y r, st = .int y :: .int x :: r ∧ ¬ y = 0 ∧ pc' = pc ∧ L' = L ∧ st' = .int (f x y) :: r := by
  unfold am_i2d at h
  split at h
  · split at h
    · cases h
    · rename_i n
      cases h
      exact ⟨_, _, _, rfl, n, rfl, rfl, rfl⟩
  · cases h
theorem am_l2_eq {f : Int64 → Int64 → Int64} {L L' : AmL} {pc pc' : Nat} {st st' : List Value} (h : am_l2 f L pc st = some (pc', L', st')) : ∃ x y r, st = .long y :: .long x :: r ∧ pc' = pc ∧ L' = L ∧ st' = .long (f x y) :: r := by
  unfold am_l2 at h
  split at h
  · cases h
    exact ⟨_, _, _, rfl, rfl, rfl, rfl⟩
  · cases h
theorem am_l2d_eq {f : Int64 → Int64 → Int64} {L L' : AmL} {pc pc' : Nat} {st st' : List Value} (h : am_l2d f L pc st = some (pc', L', st')) : ∃ x y r, st = .long y :: .long x :: r ∧ ¬ y = 0 ∧ pc' = pc ∧ L' = L ∧ st' = .long (f x y) :: r := by
  unfold am_l2d at h
  split at h
  · split at h
    · cases h
    · rename_i n
      cases h
      exact ⟨_, _, _, rfl, n, rfl, rfl, rfl⟩
  · cases h
theorem am_lsh_eq {f : Int64 → Int32 → Int64} {L L' : AmL} {pc pc' : Nat} {st st' : List Value} (h : am_lsh f L pc st = some (pc', L', st')) : ∃ x y r, st = .int y :: .long x :: r ∧ pc' = pc ∧ L' = L ∧ st' = .long (f x y) :: r := by
  unfold am_lsh at h
  split at h
  · cases h
    exact ⟨_, _, _, rfl, rfl, rfl, rfl⟩
  · cases h
theorem am_jmp_eq {pc pc' : Nat} {off : Int} {L L' : AmL} {r st' : List Value} (h : am_jmp pc off L r = some (pc', L', st')) : (pc : Int) + off = (pc' : Int) ∧ L' = L ∧ st' = r := by
  unfold am_jmp at h
  split at h
  · rename_i t e
    cases h
    exact ⟨am_tg_eq e, rfl, rfl⟩
  · cases h
theorem am_br_eq {c : Prop} [Decidable c] {pc pc' : Nat} {off : Int} {L L' : AmL} {r st' : List Value} (h : am_br c pc off L r = some (pc', L', st')) : L' = L ∧ st' = r ∧ ∃ t : Nat, (pc : Int) + off = (t : Int) ∧ ((c ∧ pc' = t) ∨ (¬ c ∧ pc' = pc + 3)) := by
  unfold am_br at h
  split at h
  · rename_i t e
    split at h
    · rename_i hc
      cases h
      exact ⟨rfl, rfl, _, am_tg_eq e, Or.inl ⟨hc, rfl⟩⟩
    · rename_i hc
      cases h
      exact ⟨rfl, rfl, _, am_tg_eq e, Or.inr ⟨hc, rfl⟩⟩
  · cases h
theorem am_brn_eq {c : Prop} [Decidable c] {pc pc' : Nat} {off : Int} {L L' : AmL} {r st' : List Value} (h : am_brn c pc off L r = some (pc', L', st')) : L' = L ∧ st' = r ∧ ∃ t : Nat, (pc : Int) + off = (t : Int) ∧ ((¬ c ∧ pc' = t) ∨ (c ∧ pc' = pc + 3)) := by
  unfold am_brn at h
  split at h
  · rename_i t e
    split at h
    · rename_i hc
      cases h
      exact ⟨rfl, rfl, _, am_tg_eq e, Or.inr ⟨hc, rfl⟩⟩
    · rename_i hc
      cases h
      exact ⟨rfl, rfl, _, am_tg_eq e, Or.inl ⟨hc, rfl⟩⟩
  · cases h
def am_tx (j : Nat) : String := match j with
  | 0 => "y"
  | 1 => "vtniso"
  | _ => "no such kind"
/-- the words of the pool of constants -/
def am_Ks (own : Nat) (sa : Nat → Nat) (args : Array Value) (s : State) : Prop := ∀ x v, am_look (am_kl own) x = some v → match v with
  | .int n => (Cond.constant (am_on own) x n).before args s = true
  | .long n => (Cond.constantLong (am_on own) x n).before args s = true
  | .retAddr j => vk_R (am_on own) x (am_tx j) (sa j) s
  | _ => False
theorem am_be {a b : Nat} (h : Nat.beq a b = true) : a = b := Nat.eq_of_beq_eq_true h
theorem am_and {a b : Bool} (h : (a && b) = true) : a = true ∧ b = true := by
  cases a <;> cases b <;> first | exact ⟨rfl, rfl⟩ | cases h
theorem am_bl {a b : Nat} (h : Nat.blt a b = true) : a < b := Nat.le_of_ble_eq_true h
section AmPure
variable {p : Program} {l : Launch} {e : Env} {R : Room} {s : State} {m : MethodId} {args : Array Value} {below : List Frame} {meth : Method} {c : Code} {H : Heap} {locs : List Loc} {cells slots : Nat} {Q : State → Prop}
variable {cc : ByteArray} {pc pc' len : Nat} {ls : Array Slot} {own nL : Nat} {ad sa : Nat → Nat} {i : Jvm.ClassFile.Instr} {v : Value} {L L' : AmL} {st st' : List Value}
theorem am_if_W (cnd : Jvm.ClassFile.Cond) {x y : Int32} {off : Int} {r : List Value} (hp : am_if cnd x y pc off L r = some (pc', L', st')) (hx : p.tables.exec = Jvm.exec) (hb : c.code = cc) (hdg : decode cc pc = .ok (.if_icmp cnd off, 3))
    (k : W p l e R s m args below meth c H locs cells slots Q (F0 m pc' ls (st'.map (am_rv ad sa)))) : L' = L ∧ W p l e R s m args below meth c H locs cells slots Q (F0 m pc ls ((.int y :: .int x :: r).map (am_rv ad sa))) := by
  cases cnd with
  | eq =>
    obtain ⟨e1, rfl, t, ht, h⟩ := am_br_eq hp
    refine ⟨e1, lv_icmp_eq (tgt := t) hx hb hdg ht (fun q => ?_) (fun q => ?_)⟩
    · rcases h with ⟨-, rfl⟩ | ⟨n, -⟩
      · exact k
      · exact absurd q n
    · rcases h with ⟨n, -⟩ | ⟨-, rfl⟩
      · exact absurd n q
      · exact k
  | ne =>
    obtain ⟨e1, rfl, t, ht, h⟩ := am_brn_eq hp
    refine ⟨e1, lv_icmp_ne (tgt := t) hx hb hdg ht (fun q => ?_) (fun q => ?_)⟩
    · rcases h with ⟨-, rfl⟩ | ⟨n, -⟩
      · exact k
      · exact absurd n q
    · rcases h with ⟨n, -⟩ | ⟨-, rfl⟩
      · exact absurd q n
      · exact k
  | lt =>
    obtain ⟨e1, rfl, t, ht, h⟩ := am_br_eq hp
    refine ⟨e1, lv_icmp_lt (tgt := t) hx hb hdg ht (fun q => ?_) (fun q => ?_)⟩
    · rcases h with ⟨-, rfl⟩ | ⟨n, -⟩
      · exact k
      · exact absurd q n
    · rcases h with ⟨n, -⟩ | ⟨-, rfl⟩
      · exact absurd n q
      · exact k
  | ge =>
    obtain ⟨e1, rfl, t, ht, h⟩ := am_br_eq hp
    refine ⟨e1, lv_icmp_ge (tgt := t) hx hb hdg ht (fun q => ?_) (fun q => ?_)⟩
    · rcases h with ⟨-, rfl⟩ | ⟨n, -⟩
      · exact k
      · exact absurd q n
    · rcases h with ⟨n, -⟩ | ⟨-, rfl⟩
      · exact absurd n q
      · exact k
  | gt =>
    obtain ⟨e1, rfl, t, ht, h⟩ := am_br_eq hp
    refine ⟨e1, lv_icmp_gt (tgt := t) hx hb hdg ht (fun q => ?_) (fun q => ?_)⟩
    · rcases h with ⟨-, rfl⟩ | ⟨n, -⟩
      · exact k
      · exact absurd q n
    · rcases h with ⟨n, -⟩ | ⟨-, rfl⟩
      · exact absurd n q
      · exact k
  | le =>
    obtain ⟨e1, rfl, t, ht, h⟩ := am_br_eq hp
    refine ⟨e1, lv_icmp_le (tgt := t) hx hb hdg ht (fun q => ?_) (fun q => ?_)⟩
    · rcases h with ⟨-, rfl⟩ | ⟨n, -⟩
      · exact k
      · exact absurd q n
    · rcases h with ⟨n, -⟩ | ⟨-, rfl⟩
      · exact absurd n q
      · exact k
theorem am_if0_W (cnd : Jvm.ClassFile.Cond) {x : Int32} {off : Int} {r : List Value} (hp : am_if cnd x 0 pc off L r = some (pc', L', st')) (hx : p.tables.exec = Jvm.exec) (hb : c.code = cc) (hdg : decode cc pc = .ok (.ifCond cnd off, 3))
    (k : W p l e R s m args below meth c H locs cells slots Q (F0 m pc' ls (st'.map (am_rv ad sa)))) : L' = L ∧ W p l e R s m args below meth c H locs cells slots Q (F0 m pc ls ((.int x :: r).map (am_rv ad sa))) := by
  cases cnd with
  | eq =>
    obtain ⟨e1, rfl, t, ht, h⟩ := am_br_eq hp
    refine ⟨e1, lv_if_eq (tgt := t) hx hb hdg ht (fun q => ?_) (fun q => ?_)⟩
    · rcases h with ⟨-, rfl⟩ | ⟨n, -⟩
      · exact k
      · exact absurd q n
    · rcases h with ⟨n, -⟩ | ⟨-, rfl⟩
      · exact absurd n q
      · exact k
  | ne =>
    obtain ⟨e1, rfl, t, ht, h⟩ := am_brn_eq hp
    refine ⟨e1, lv_if_ne (tgt := t) hx hb hdg ht (fun q => ?_) (fun q => ?_)⟩
    · rcases h with ⟨-, rfl⟩ | ⟨n, -⟩
      · exact k
      · exact absurd n q
    · rcases h with ⟨n, -⟩ | ⟨-, rfl⟩
      · exact absurd q n
      · exact k
  | lt =>
    obtain ⟨e1, rfl, t, ht, h⟩ := am_br_eq hp
    refine ⟨e1, lv_if_lt (tgt := t) hx hb hdg ht (fun q => ?_) (fun q => ?_)⟩
    · rcases h with ⟨-, rfl⟩ | ⟨n, -⟩
      · exact k
      · exact absurd q n
    · rcases h with ⟨n, -⟩ | ⟨-, rfl⟩
      · exact absurd n q
      · exact k
  | ge =>
    obtain ⟨e1, rfl, t, ht, h⟩ := am_br_eq hp
    refine ⟨e1, lv_if_ge (tgt := t) hx hb hdg ht (fun q => ?_) (fun q => ?_)⟩
    · rcases h with ⟨-, rfl⟩ | ⟨n, -⟩
      · exact k
      · exact absurd q n
    · rcases h with ⟨n, -⟩ | ⟨-, rfl⟩
      · exact absurd n q
      · exact k
  | gt =>
    obtain ⟨e1, rfl, t, ht, h⟩ := am_br_eq hp
    refine ⟨e1, lv_if_gt (tgt := t) hx hb hdg ht (fun q => ?_) (fun q => ?_)⟩
    · rcases h with ⟨-, rfl⟩ | ⟨n, -⟩
      · exact k
      · exact absurd q n
    · rcases h with ⟨n, -⟩ | ⟨-, rfl⟩
      · exact absurd n q
      · exact k
  | le =>
    obtain ⟨e1, rfl, t, ht, h⟩ := am_br_eq hp
    refine ⟨e1, lv_if_le (tgt := t) hx hb hdg ht (fun q => ?_) (fun q => ?_)⟩
    · rcases h with ⟨-, rfl⟩ | ⟨n, -⟩
      · exact k
      · exact absurd q n
    · rcases h with ⟨n, -⟩ | ⟨-, rfl⟩
      · exact absurd n q
      · exact k
set_option maxHeartbeats 4000000 in
/-- one instruction without the heap -/
theorem am_pure_W (hx : p.tables.exec = Jvm.exec) (hb : c.code = cc) (hown : s.vm.findClass (am_on own) = some m.cls) (hKs : am_Ks own sa args s) (hdg : decode cc pc = .ok (i, len)) (hs : am_stat own nL i len v = true)
    (hp : am_pure i v pc L st = some (pc', L', st')) (hL : am_lr ad sa ls nL L)
    (k : ∀ ls', am_lr ad sa ls' nL L' → W p l e R s m args below meth c H locs cells slots Q (F0 m pc' ls' (st'.map (am_rv ad sa)))) : W p l e R s m args below meth c H locs cells slots Q (F0 m pc ls (st.map (am_rv ad sa))) := by
  cases i with
  | iconst n =>
    obtain ⟨h1, h2⟩ := am_and hs
    cases am_be h1
    have hv := of_decide_eq_true h2
    subst hv
    cases hp
    exact lv_iconst hx hb hdg rfl (k ls hL)
  | bipush n =>
    obtain ⟨h1, h2⟩ := am_and hs
    cases am_be h1
    have hv := of_decide_eq_true h2
    subst hv
    cases hp
    exact lv_bipush hx hb hdg rfl (k ls hL)
  | sipush n =>
    obtain ⟨h1, h2⟩ := am_and hs
    cases am_be h1
    have hv := of_decide_eq_true h2
    subst hv
    cases hp
    exact lv_sipush hx hb hdg rfl (k ls hL)
  | lconst n =>
    obtain ⟨h1, h2⟩ := am_and hs
    cases am_be h1
    have hv := of_decide_eq_true h2
    subst hv
    cases hp
    exact lv_lconst hx hb hdg rfl (k ls hL)
  | ldc x =>
    obtain ⟨h1, h0⟩ := am_and hs
    obtain ⟨h2, h3⟩ := am_and h0
    cases am_be h1
    have hv := hKs x v (of_decide_eq_true h3)
    cases hp
    cases v with
    | int z => exact lv_ldc hx hb hown hv hdg (k ls hL)
    | retAddr j => exact va_ldcS hx hb hown hv hdg (k ls hL)
    | long z => cases h2
    | _ => exact hv.elim
  | ldc_w x =>
    obtain ⟨h1, h0⟩ := am_and hs
    obtain ⟨h2, h3⟩ := am_and h0
    cases am_be h1
    have hv := hKs x v (of_decide_eq_true h3)
    cases hp
    cases v with
    | int z => exact lv_ldcw hx hb hown hv hdg (k ls hL)
    | retAddr j => cases h2
    | long z => cases h2
    | _ => exact hv.elim
  | ldc2_w x =>
    obtain ⟨h1, h0⟩ := am_and hs
    obtain ⟨h2, h3⟩ := am_and h0
    cases am_be h1
    have hv := hKs x v (of_decide_eq_true h3)
    cases hp
    cases v with
    | long z => exact lv_ldc2 hx hb hown hv hdg (k ls hL)
    | int z => cases h2
    | retAddr j => cases h2
    | _ => exact hv.elim
  | iload_n j =>
    cases am_be hs
    obtain ⟨x, g, rfl, rfl, rfl⟩ := am_ldI_eq hp
    exact lv_iload_n hx hb hdg rfl (hL.2 _ _ g) (k ls hL)
  | iload j =>
    cases am_be hs
    obtain ⟨x, g, rfl, rfl, rfl⟩ := am_ldI_eq hp
    exact lv_iload hx hb hdg (hL.2 _ _ g) (k ls hL)
  | lload_n j =>
    cases am_be hs
    obtain ⟨x, g, rfl, rfl, rfl⟩ := am_ldJ_eq hp
    exact lv_lload_n hx hb hdg rfl (hL.2 _ _ g) (k ls hL)
  | lload j =>
    cases am_be hs
    obtain ⟨x, g, rfl, rfl, rfl⟩ := am_ldJ_eq hp
    exact lv_lload hx hb hdg (hL.2 _ _ g) (k ls hL)
  | aload_n j =>
    cases am_be hs
    obtain ⟨x, g, h, rfl, rfl, rfl⟩ := am_ldA_eq hp
    rcases h with rfl | ⟨a, rfl⟩ | ⟨a, rfl⟩
    · exact lv_aload_nN hx hb hdg rfl (hL.2 _ _ g) (k ls hL)
    · exact lv_aload_n hx hb hdg rfl (hL.2 _ _ g) (k ls hL)
    · exact lv_aload_n hx hb hdg rfl (hL.2 _ _ g) (k ls hL)
  | aload j =>
    cases am_be hs
    obtain ⟨x, g, h, rfl, rfl, rfl⟩ := am_ldA_eq hp
    rcases h with rfl | ⟨a, rfl⟩ | ⟨a, rfl⟩
    · exact lv_aloadN hx hb hdg (hL.2 _ _ g) (k ls hL)
    · exact lv_aload hx hb hdg (hL.2 _ _ g) (k ls hL)
    · exact lv_aload hx hb hdg (hL.2 _ _ g) (k ls hL)
  | istore_n j =>
    obtain ⟨h1, h2⟩ := am_and hs
    cases am_be h1
    obtain ⟨x, rfl, rfl, rfl⟩ := am_stI_eq hp
    exact lv_istore_n hx hb hdg rfl (am_lr_has hL) (am_bl h2) rfl (fun ls' h' => k ls' (am_lr_set1 (v := .int x) h'))
  | istore j =>
    obtain ⟨h1, h2⟩ := am_and hs
    cases am_be h1
    obtain ⟨x, rfl, rfl, rfl⟩ := am_stI_eq hp
    exact lv_istore hx hb hdg (am_lr_has hL) (am_bl h2) rfl (fun ls' h' => k ls' (am_lr_set1 (v := .int x) h'))
  | lstore_n j =>
    obtain ⟨h1, h2⟩ := am_and hs
    cases am_be h1
    obtain ⟨x, rfl, rfl, rfl⟩ := am_stJ_eq hp
    exact lv_lstore_n hx hb hdg rfl (am_lr_has hL) (am_bl h2) rfl (fun ls' h' => k ls' (am_lr_set2 (v := .long x) h'))
  | lstore j =>
    obtain ⟨h1, h2⟩ := am_and hs
    cases am_be h1
    obtain ⟨x, rfl, rfl, rfl⟩ := am_stJ_eq hp
    exact lv_lstore hx hb hdg (am_lr_has hL) (am_bl h2) rfl (fun ls' h' => k ls' (am_lr_set2 (v := .long x) h'))
  | astore_n j =>
    obtain ⟨h1, h2⟩ := am_and hs
    cases am_be h1
    obtain ⟨x, rfl, rfl, rfl⟩ := am_stA_eq hp
    exact lv_astore_n hx hb hdg rfl (am_lr_has hL) (am_bl h2) rfl (fun ls' h' => k ls' (am_lr_set1 (v := .ref x) h'))
  | astore j =>
    obtain ⟨h1, h2⟩ := am_and hs
    cases am_be h1
    obtain ⟨x, rfl, rfl, rfl⟩ := am_stA_eq hp
    exact lv_astore hx hb hdg (am_lr_has hL) (am_bl h2) rfl (fun ls' h' => k ls' (am_lr_set1 (v := .ref x) h'))
  | iinc j n =>
    obtain ⟨h1, h0⟩ := am_and hs
    obtain ⟨h2, h3⟩ := am_and h0
    cases am_be h1
    have hv := of_decide_eq_true h3
    subst hv
    simp only [am_pure] at hp
    split at hp
    · rename_i x n' g e
      cases e
      cases hp
      obtain ⟨q, hq⟩ := List.getElem?_of_mem (am_lv_mem (ad := ad) (sa := sa) g)
      exact lv_iinc hx hb hdg (am_lr_has hL) hq rfl (am_bl h2) rfl (fun ls' h' => k ls' (am_lr_set1 (v := .int (x + Int32.ofInt n)) h'))
    · cases hp
  | iadd =>
    cases am_be hs
    obtain ⟨x, y, r, rfl, rfl, rfl, rfl⟩ := am_i2_eq hp
    exact lv_iadd hx hb hdg (k ls hL)
  | isub =>
    cases am_be hs
    obtain ⟨x, y, r, rfl, rfl, rfl, rfl⟩ := am_i2_eq hp
    exact lv_isub hx hb hdg (k ls hL)
  | imul =>
    cases am_be hs
    obtain ⟨x, y, r, rfl, rfl, rfl, rfl⟩ := am_i2_eq hp
    exact lv_imul hx hb hdg (k ls hL)
  | iand =>
    cases am_be hs
    obtain ⟨x, y, r, rfl, rfl, rfl, rfl⟩ := am_i2_eq hp
    exact lv_iand hx hb hdg (k ls hL)
  | ior =>
    cases am_be hs
    obtain ⟨x, y, r, rfl, rfl, rfl, rfl⟩ := am_i2_eq hp
    exact lv_ior hx hb hdg (k ls hL)
  | ixor =>
    cases am_be hs
    obtain ⟨x, y, r, rfl, rfl, rfl, rfl⟩ := am_i2_eq hp
    exact lv_ixor hx hb hdg (k ls hL)
  | ishl =>
    cases am_be hs
    obtain ⟨x, y, r, rfl, rfl, rfl, rfl⟩ := am_i2_eq hp
    exact lv_ishl hx hb hdg (k ls hL)
  | ishr =>
    cases am_be hs
    obtain ⟨x, y, r, rfl, rfl, rfl, rfl⟩ := am_i2_eq hp
    exact lv_ishr hx hb hdg (k ls hL)
  | iushr =>
    cases am_be hs
    obtain ⟨x, y, r, rfl, rfl, rfl, rfl⟩ := am_i2_eq hp
    exact lv_iushr hx hb hdg rfl (k ls hL)
  | idiv =>
    cases am_be hs
    obtain ⟨x, y, r, rfl, n, rfl, rfl, rfl⟩ := am_i2d_eq hp
    exact lv_idiv hx hb hdg n (k ls hL)
  | irem =>
    cases am_be hs
    obtain ⟨x, y, r, rfl, n, rfl, rfl, rfl⟩ := am_i2d_eq hp
    exact lv_irem hx hb hdg n (k ls hL)
  | ladd =>
    cases am_be hs
    obtain ⟨x, y, r, rfl, rfl, rfl, rfl⟩ := am_l2_eq hp
    exact lv_ladd hx hb hdg (k ls hL)
  | lsub =>
    cases am_be hs
    obtain ⟨x, y, r, rfl, rfl, rfl, rfl⟩ := am_l2_eq hp
    exact lv_lsub hx hb hdg (k ls hL)
  | lmul =>
    cases am_be hs
    obtain ⟨x, y, r, rfl, rfl, rfl, rfl⟩ := am_l2_eq hp
    exact lv_lmul hx hb hdg (k ls hL)
  | land =>
    cases am_be hs
    obtain ⟨x, y, r, rfl, rfl, rfl, rfl⟩ := am_l2_eq hp
    exact lv_land hx hb hdg (k ls hL)
  | lor =>
    cases am_be hs
    obtain ⟨x, y, r, rfl, rfl, rfl, rfl⟩ := am_l2_eq hp
    exact lv_lor hx hb hdg (k ls hL)
  | ldiv =>
    cases am_be hs
    obtain ⟨x, y, r, rfl, n, rfl, rfl, rfl⟩ := am_l2d_eq hp
    exact lv_ldiv hx hb hdg n (k ls hL)
  | lrem =>
    cases am_be hs
    obtain ⟨x, y, r, rfl, n, rfl, rfl, rfl⟩ := am_l2d_eq hp
    exact lv_lrem hx hb hdg n (k ls hL)
  | lshl =>
    cases am_be hs
    obtain ⟨x, y, r, rfl, rfl, rfl, rfl⟩ := am_lsh_eq hp
    exact lv_lshl hx hb hdg rfl (k ls hL)
  | lushr =>
    cases am_be hs
    obtain ⟨x, y, r, rfl, rfl, rfl, rfl⟩ := am_lsh_eq hp
    exact lv_lushr hx hb hdg rfl (k ls hL)
  | i2l =>
    cases am_be hs
    simp only [am_pure] at hp
    split at hp
    · cases hp
      exact lv_i2l hx hb hdg rfl (k ls hL)
    · cases hp
  | l2i =>
    cases am_be hs
    simp only [am_pure] at hp
    split at hp
    · cases hp
      exact lv_l2i hx hb hdg rfl (k ls hL)
    · cases hp
  | i2b =>
    cases am_be hs
    simp only [am_pure] at hp
    split at hp
    · cases hp
      exact lv_i2b hx hb hdg rfl (k ls hL)
    · cases hp
  | lcmp =>
    cases am_be hs
    simp only [am_pure] at hp
    split at hp
    · cases hp
      exact W.lcmp hx hb hdg (k ls hL)
    · cases hp
  | dup =>
    cases am_be hs
    simp only [am_pure] at hp
    split at hp
    · rename_i a r
      cases ha : am_c1 a with
      | false => rw [ha] at hp; cases hp
      | true =>
        rw [ha] at hp
        cases hp
        exact lv_dup hx hb hdg ((am_rv_cat ad sa a).trans (am_c1_cat ha)) (k ls hL)
    · cases hp
  | pop =>
    cases am_be hs
    simp only [am_pure] at hp
    split at hp
    · rename_i a r
      cases ha : am_c1 a with
      | false => rw [ha] at hp; cases hp
      | true =>
        rw [ha] at hp
        cases hp
        exact lv_pop hx hb hdg ((am_rv_cat ad sa a).trans (am_c1_cat ha)) (k ls hL)
    · cases hp
  | dup_x1 =>
    cases am_be hs
    simp only [am_pure] at hp
    split at hp
    · rename_i a b r
      cases ha : am_c1 a with
      | false => rw [ha] at hp; cases hp
      | true =>
        cases hb2 : am_c1 b with
        | false => rw [ha, hb2] at hp; cases hp
        | true =>
          rw [ha, hb2] at hp
          cases hp
          exact lv_dup_x1 hx hb hdg ((am_rv_cat ad sa a).trans (am_c1_cat ha)) ((am_rv_cat ad sa b).trans (am_c1_cat hb2)) (k ls hL)
    · cases hp
  | dup2 =>
    cases am_be hs
    simp only [am_pure] at hp
    split at hp
    · rename_i a b r
      cases ha : am_c1 a with
      | false => rw [ha] at hp; cases hp
      | true =>
        cases hb2 : am_c1 b with
        | false => rw [ha, hb2] at hp; cases hp
        | true =>
          rw [ha, hb2] at hp
          cases hp
          exact lv_dup2_11 hx hb hdg ((am_rv_cat ad sa a).trans (am_c1_cat ha)) ((am_rv_cat ad sa b).trans (am_c1_cat hb2)) (k ls hL)
    · cases hp
  | goto off =>
    cases am_be hs
    obtain ⟨ht, rfl, rfl⟩ := am_jmp_eq hp
    exact lv_goto hx hb hdg ht (k ls hL)
  | ifCond cnd off =>
    cases am_be hs
    simp only [am_pure] at hp
    split at hp
    · have hLL : L' = L := by cases cnd <;> first | exact (am_br_eq hp).1 | exact (am_brn_eq hp).1
      subst hLL
      exact (am_if0_W cnd hp hx hb hdg (k ls hL)).2
    · cases hp
  | if_icmp cnd off =>
    cases am_be hs
    simp only [am_pure] at hp
    split at hp
    · have hLL : L' = L := by cases cnd <;> first | exact (am_br_eq hp).1 | exact (am_brn_eq hp).1
      subst hLL
      exact (am_if_W cnd hp hx hb hdg (k ls hL)).2
    · cases hp
  | tableswitch dflt lo hi offs =>
    simp only [am_pure] at hp
    split at hp
    · split at hp
      · rename_i hc
        obtain ⟨ht, rfl, rfl⟩ := am_jmp_eq hp
        exact lv_tableOut hx hb hdg hc ht (k ls hL)
      · rename_i hc
        split at hp
        · rename_i off ho
          obtain ⟨ht, rfl, rfl⟩ := am_jmp_eq hp
          exact lv_tableIn hx hb hdg (fun q => hc (Or.inl q)) (fun q => hc (Or.inr q)) ho ht (k ls hL)
        · cases hp
    · cases hp
  | _ => exact nomatch (show (none : AmP) = some (pc', L', st') from hp)
end AmPure

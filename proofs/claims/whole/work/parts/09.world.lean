/-! soundness, part 3: how heaps stand for the machine's -/
def am_ra (ad : Nat → Nat) (a : vp_A) : vp_A := match a with
  | (n, .inl f) => (n, .inl f)
  | (n, .inr (.inl f)) => (n, .inr (.inl f))
  | (n, .inr (.inr (.inl f))) => (n, .inr (.inr (.inl f)))
  | (n, .inr (.inr (.inr (.inl f)))) => (n, .inr (.inr (.inr (.inl f))))
  | (n, .inr (.inr (.inr (.inr f)))) => (n, .inr (.inr (.inr (.inr (fun i => (f i).map ad)))))
def am_rc (ad sa : Nat → Nat) (ca : ClassId) (e : AmE) : va_E := match e with
  | .inl (_, a) => .inl (ca, am_ra ad a)
  | .inr (c, fs) => .inr (c, fs.map (am_rv ad sa))
def am_ws (ad sa : Nat → Nat) (ca : Nat → ClassId) (h : AmH) : va_W := h.mapIdx (fun k e => (ad k, am_rc ad sa (ca k) e))
theorem am_ws_get (ad sa : Nat → Nat) (ca : Nat → ClassId) (h : AmH) (k : Nat) : (am_ws ad sa ca h)[k]? = (h[k]?).map (fun e => (ad k, am_rc ad sa (ca k) e)) := List.getElem?_mapIdx
theorem am_ws_at {ad sa : Nat → Nat} {ca : Nat → ClassId} {h : AmH} {k : Nat} {e : AmE} (hk : h[k]? = some e) : (am_ws ad sa ca h)[k]? = some (ad k, am_rc ad sa (ca k) e) := by
  rw [am_ws_get, hk]
  rfl
theorem am_ws_set (ad sa : Nat → Nat) (ca : Nat → ClassId) (h : AmH) (k : Nat) (e : AmE) : (am_ws ad sa ca h).set k (ad k, am_rc ad sa (ca k) e) = am_ws ad sa ca (h.set k e) := by
  apply List.ext_getElem?
  intro j
  rw [am_ws_get, List.getElem?_set, List.getElem?_set, am_ws_get]
  have hl : (am_ws ad sa ca h).length = h.length := List.length_mapIdx
  rw [hl]
  by_cases e1 : k = j
  · subst e1
    rw [if_pos rfl, if_pos rfl]
    by_cases e2 : k < h.length
    · rw [if_pos e2, if_pos e2]
      rfl
    · rw [if_neg e2, if_neg e2]
      rfl
  · rw [if_neg e1, if_neg e1]
/-- references lie below n -/
def am_okv (n : Nat) (v : Value) : Prop := ∀ k, v = .ref k → k < n
def am_oke (n : Nat) (e : AmE) : Prop := match e with
  | .inl (_, _, .inr (.inr (.inr (.inr f)))) => ∀ i k, f i = some k → k < n
  | .inr (_, fs) => ∀ v ∈ fs, am_okv n v
  | _ => True
def am_okh (n : Nat) (h : AmH) : Prop := ∀ (k : Nat) (e : AmE), h[k]? = some e → am_oke n e
def am_okl (n : Nat) (L : AmL) : Prop := ∀ k v, am_get L k = some v → am_okv n v
def am_oks (n : Nat) (st : List Value) : Prop := ∀ v ∈ st, am_okv n v
theorem am_okv_i (n : Nat) (x : Int32) : am_okv n (.int x) := fun _ h => nomatch h
theorem am_okv_l (n : Nat) (x : Int64) : am_okv n (.long x) := fun _ h => nomatch h
theorem am_okv_n (n : Nat) : am_okv n .null := fun _ h => nomatch h
theorem am_okv_t (n j : Nat) : am_okv n (.retAddr j) := fun _ h => nomatch h
theorem am_okv_r {n a : Nat} (h : a < n) : am_okv n (.ref a) := fun k e => by cases e; exact h
theorem am_okv_m {n n' : Nat} (hn : n ≤ n') {v : Value} (h : am_okv n v) : am_okv n' v := fun k e => Nat.lt_of_lt_of_le (h k e) hn
theorem am_oke_m {n n' : Nat} (hn : n ≤ n') {e : AmE} (h : am_oke n e) : am_oke n' e := by
  unfold am_oke at h ⊢
  split at h
  · exact fun i k q => Nat.lt_of_lt_of_le (h i k q) hn
  · exact fun v hv => am_okv_m hn (h v hv)
  · trivial
theorem am_okh_m {n n' : Nat} (hn : n ≤ n') {h : AmH} (hh : am_okh n h) : am_okh n' h := fun k e he => am_oke_m hn (hh k e he)
theorem am_okl_m {n n' : Nat} (hn : n ≤ n') {L : AmL} (h : am_okl n L) : am_okl n' L := fun k v q => am_okv_m hn (h k v q)
theorem am_oks_m {n n' : Nat} (hn : n ≤ n') {st : List Value} (h : am_oks n st) : am_oks n' st := fun v q => am_okv_m hn (h v q)
theorem am_oks_c {n : Nat} {v : Value} {st : List Value} (hv : am_okv n v) (h : am_oks n st) : am_oks n (v :: st) := fun w q => by
  rcases List.mem_cons.mp q with rfl | q
  · exact hv
  · exact h w q
theorem am_oks_t {n : Nat} {v : Value} {st : List Value} (h : am_oks n (v :: st)) : am_oks n st := fun w q => h w (List.mem_cons_of_mem _ q)
theorem am_oks_h {n : Nat} {v : Value} {st : List Value} (h : am_oks n (v :: st)) : am_okv n v := h v List.mem_cons_self
theorem am_okh_set {n : Nat} {h : AmH} (hh : am_okh n h) {k : Nat} {e : AmE} (he : am_oke n e) : am_okh n (h.set k e) := by
  intro j x hx
  rw [List.getElem?_set] at hx
  split at hx
  · split at hx
    · cases hx
      exact he
    · cases hx
  · exact hh j x hx
theorem am_okl_set1 {n : Nat} {L : AmL} (h : am_okl n L) {i : Nat} {v : Value} (hv : am_okv n v) : am_okl n (am_set1 L i v) := by
  intro k w hw
  rcases am_get_set1 hw with ⟨-, rfl⟩ | ⟨-, e2, -⟩
  · exact hv
  · exact h k w e2
theorem am_okl_set2 {n : Nat} {L : AmL} (h : am_okl n L) {i : Nat} {v : Value} (hv : am_okv n v) : am_okl n (am_set2 L i v) := by
  intro k w hw
  rcases am_get_set2 hw with ⟨-, rfl⟩ | ⟨-, -, e2, -⟩
  · exact hv
  · exact h k w e2
/-- two ways of standing that agree below n stand alike for what lies below n -/
theorem am_rv_ag {ad ad' sa : Nat → Nat} {n : Nat} (ha : ∀ k, k < n → ad' k = ad k) {v : Value} (hv : am_okv n v) : am_rv ad' sa v = am_rv ad sa v := by
  cases v with
  | ref k => exact congrArg Value.ref (ha k (hv k rfl))
  | _ => rfl
theorem am_rvs_ag {ad ad' sa : Nat → Nat} {n : Nat} (ha : ∀ k, k < n → ad' k = ad k) {st : List Value} (h : am_oks n st) : st.map (am_rv ad' sa) = st.map (am_rv ad sa) := List.map_congr_left fun v hv => am_rv_ag ha (h v hv)
theorem am_rc_ag {ad ad' sa : Nat → Nat} {n : Nat} (ha : ∀ k, k < n → ad' k = ad k) {c : ClassId} {e : AmE} (he : am_oke n e) : am_rc ad' sa c e = am_rc ad sa c e := by
  match e, he with
  | .inl (ty, k, .inl f), _ => rfl
  | .inl (ty, k, .inr (.inl f)), _ => rfl
  | .inl (ty, k, .inr (.inr (.inl f))), _ => rfl
  | .inl (ty, k, .inr (.inr (.inr (.inl f)))), _ => rfl
  | .inl (ty, k, .inr (.inr (.inr (.inr f)))), he =>
    have hf : (fun i => (f i).map ad') = (fun i => (f i).map ad) := by
      funext i
      cases q : f i with
      | none => rfl
      | some j => exact congrArg some (ha j (he i j q))
    show (.inl (c, k, .inr (.inr (.inr (.inr (fun i => (f i).map ad'))))) : va_E) = .inl (c, k, .inr (.inr (.inr (.inr (fun i => (f i).map ad)))))
    rw [hf]
  | .inr (ci, fs), he => exact congrArg (fun x => (.inr (ci, x) : va_E)) (am_rvs_ag ha he)
theorem am_lr_ag {ad ad' sa : Nat → Nat} {n : Nat} (ha : ∀ k, k < n → ad' k = ad k) {ls : Array Slot} {nL : Nat} {L : AmL} (h : am_lr ad sa ls nL L) (hL : am_okl n L) : am_lr ad' sa ls nL L := ⟨h.1, fun k v q => by rw [am_rv_ag ha (hL k v q)]; exact h.2 k v q⟩
/-- the heap h stands in the machine's heap H -/
def am_wd (D : va_G) (ad sa : Nat → Nat) (ca : Nat → ClassId) (h : AmH) (s : State) (A : Nat → Prop) (H0 H : Heap) (locs : List Loc) : Prop :=
  va_K D vwCl [] s ∧ (∀ (k : Nat) (ty : FieldType) (a : vp_A), h[k]? = some (.inl (ty, a)) → va_K D vwCl [(ca k, ty)] s) ∧ va_P D vwCl (am_ws ad sa ca h) H ∧ va_D A (am_ws ad sa ca h) ∧ va_S A H0 H locs ∧ am_okh h.length h
/-- straight instructions keep what is below n below n -/
theorem am_pure_ok {n own nL len pc pc' : Nat} {i : Jvm.ClassFile.Instr} {v : Value} {L L' : AmL} {st st' : List Value} (hs : am_stat own nL i len v = true) (hp : am_pure i v pc L st = some (pc', L', st')) (hL : am_okl n L) (ht : am_oks n st) : am_okl n L' ∧ am_oks n st' := by
  have hv : am_look (am_kl own) 0 = am_look (am_kl own) 0 := rfl
  cases i with
  | iconst k =>
    cases hp
    have hv := of_decide_eq_true (am_and hs).2
    subst hv
    exact ⟨hL, am_oks_c (am_okv_i _ _) ht⟩
  | bipush k =>
    cases hp
    have hv := of_decide_eq_true (am_and hs).2
    subst hv
    exact ⟨hL, am_oks_c (am_okv_i _ _) ht⟩
  | sipush k =>
    cases hp
    have hv := of_decide_eq_true (am_and hs).2
    subst hv
    exact ⟨hL, am_oks_c (am_okv_i _ _) ht⟩
  | lconst k =>
    cases hp
    have hv := of_decide_eq_true (am_and hs).2
    subst hv
    exact ⟨hL, am_oks_c (am_okv_l _ _) ht⟩
  | ldc k =>
    cases hp
    have hv := (am_and (am_and hs).2).1
    refine ⟨hL, am_oks_c ?_ ht⟩
    intro j e
    subst e
    cases hv
  | ldc_w k =>
    cases hp
    have hv := (am_and (am_and hs).2).1
    refine ⟨hL, am_oks_c ?_ ht⟩
    intro j e
    subst e
    cases hv
  | ldc2_w k =>
    cases hp
    have hv := (am_and (am_and hs).2).1
    refine ⟨hL, am_oks_c ?_ ht⟩
    intro j e
    subst e
    cases hv
  | iload_n j =>
    obtain ⟨x, g, rfl, rfl, rfl⟩ := am_ldI_eq hp
    exact ⟨hL, am_oks_c (hL _ _ g) ht⟩
  | iload j =>
    obtain ⟨x, g, rfl, rfl, rfl⟩ := am_ldI_eq hp
    exact ⟨hL, am_oks_c (hL _ _ g) ht⟩
  | lload_n j =>
    obtain ⟨x, g, rfl, rfl, rfl⟩ := am_ldJ_eq hp
    exact ⟨hL, am_oks_c (hL _ _ g) ht⟩
  | lload j =>
    obtain ⟨x, g, rfl, rfl, rfl⟩ := am_ldJ_eq hp
    exact ⟨hL, am_oks_c (hL _ _ g) ht⟩
  | aload_n j =>
    obtain ⟨x, g, -, rfl, rfl, rfl⟩ := am_ldA_eq hp
    exact ⟨hL, am_oks_c (hL _ _ g) ht⟩
  | aload j =>
    obtain ⟨x, g, -, rfl, rfl, rfl⟩ := am_ldA_eq hp
    exact ⟨hL, am_oks_c (hL _ _ g) ht⟩
  | istore_n j =>
    obtain ⟨x, rfl, rfl, rfl⟩ := am_stI_eq hp
    exact ⟨am_okl_set1 hL (am_oks_h ht), am_oks_t ht⟩
  | istore j =>
    obtain ⟨x, rfl, rfl, rfl⟩ := am_stI_eq hp
    exact ⟨am_okl_set1 hL (am_oks_h ht), am_oks_t ht⟩
  | lstore_n j =>
    obtain ⟨x, rfl, rfl, rfl⟩ := am_stJ_eq hp
    exact ⟨am_okl_set2 hL (am_oks_h ht), am_oks_t ht⟩
  | lstore j =>
    obtain ⟨x, rfl, rfl, rfl⟩ := am_stJ_eq hp
    exact ⟨am_okl_set2 hL (am_oks_h ht), am_oks_t ht⟩
  | astore_n j =>
    obtain ⟨x, rfl, rfl, rfl⟩ := am_stA_eq hp
    exact ⟨am_okl_set1 hL (am_oks_h ht), am_oks_t ht⟩
  | astore j =>
    obtain ⟨x, rfl, rfl, rfl⟩ := am_stA_eq hp
    exact ⟨am_okl_set1 hL (am_oks_h ht), am_oks_t ht⟩
  | iinc j n =>
    simp only [am_pure] at hp
    split at hp
    · cases hp
      exact ⟨am_okl_set1 hL (am_okv_i _ _), ht⟩
    · cases hp
  | iadd => obtain ⟨x, y, r, rfl, rfl, rfl, rfl⟩ := am_i2_eq hp; exact ⟨hL, am_oks_c (am_okv_i _ _) (am_oks_t (am_oks_t ht))⟩
  | isub => obtain ⟨x, y, r, rfl, rfl, rfl, rfl⟩ := am_i2_eq hp; exact ⟨hL, am_oks_c (am_okv_i _ _) (am_oks_t (am_oks_t ht))⟩
  | imul => obtain ⟨x, y, r, rfl, rfl, rfl, rfl⟩ := am_i2_eq hp; exact ⟨hL, am_oks_c (am_okv_i _ _) (am_oks_t (am_oks_t ht))⟩
  | iand => obtain ⟨x, y, r, rfl, rfl, rfl, rfl⟩ := am_i2_eq hp; exact ⟨hL, am_oks_c (am_okv_i _ _) (am_oks_t (am_oks_t ht))⟩
  | ior => obtain ⟨x, y, r, rfl, rfl, rfl, rfl⟩ := am_i2_eq hp; exact ⟨hL, am_oks_c (am_okv_i _ _) (am_oks_t (am_oks_t ht))⟩
  | ixor => obtain ⟨x, y, r, rfl, rfl, rfl, rfl⟩ := am_i2_eq hp; exact ⟨hL, am_oks_c (am_okv_i _ _) (am_oks_t (am_oks_t ht))⟩
  | ishl => obtain ⟨x, y, r, rfl, rfl, rfl, rfl⟩ := am_i2_eq hp; exact ⟨hL, am_oks_c (am_okv_i _ _) (am_oks_t (am_oks_t ht))⟩
  | ishr => obtain ⟨x, y, r, rfl, rfl, rfl, rfl⟩ := am_i2_eq hp; exact ⟨hL, am_oks_c (am_okv_i _ _) (am_oks_t (am_oks_t ht))⟩
  | iushr => obtain ⟨x, y, r, rfl, rfl, rfl, rfl⟩ := am_i2_eq hp; exact ⟨hL, am_oks_c (am_okv_i _ _) (am_oks_t (am_oks_t ht))⟩
  | idiv => obtain ⟨x, y, r, rfl, -, rfl, rfl, rfl⟩ := am_i2d_eq hp; exact ⟨hL, am_oks_c (am_okv_i _ _) (am_oks_t (am_oks_t ht))⟩
  | irem => obtain ⟨x, y, r, rfl, -, rfl, rfl, rfl⟩ := am_i2d_eq hp; exact ⟨hL, am_oks_c (am_okv_i _ _) (am_oks_t (am_oks_t ht))⟩
  | ladd => obtain ⟨x, y, r, rfl, rfl, rfl, rfl⟩ := am_l2_eq hp; exact ⟨hL, am_oks_c (am_okv_l _ _) (am_oks_t (am_oks_t ht))⟩
  | lsub => obtain ⟨x, y, r, rfl, rfl, rfl, rfl⟩ := am_l2_eq hp; exact ⟨hL, am_oks_c (am_okv_l _ _) (am_oks_t (am_oks_t ht))⟩
  | lmul => obtain ⟨x, y, r, rfl, rfl, rfl, rfl⟩ := am_l2_eq hp; exact ⟨hL, am_oks_c (am_okv_l _ _) (am_oks_t (am_oks_t ht))⟩
  | land => obtain ⟨x, y, r, rfl, rfl, rfl, rfl⟩ := am_l2_eq hp; exact ⟨hL, am_oks_c (am_okv_l _ _) (am_oks_t (am_oks_t ht))⟩
  | lor => obtain ⟨x, y, r, rfl, rfl, rfl, rfl⟩ := am_l2_eq hp; exact ⟨hL, am_oks_c (am_okv_l _ _) (am_oks_t (am_oks_t ht))⟩
  | ldiv => obtain ⟨x, y, r, rfl, -, rfl, rfl, rfl⟩ := am_l2d_eq hp; exact ⟨hL, am_oks_c (am_okv_l _ _) (am_oks_t (am_oks_t ht))⟩
  | lrem => obtain ⟨x, y, r, rfl, -, rfl, rfl, rfl⟩ := am_l2d_eq hp; exact ⟨hL, am_oks_c (am_okv_l _ _) (am_oks_t (am_oks_t ht))⟩
  | lshl => obtain ⟨x, y, r, rfl, rfl, rfl, rfl⟩ := am_lsh_eq hp; exact ⟨hL, am_oks_c (am_okv_l _ _) (am_oks_t (am_oks_t ht))⟩
  | lushr => obtain ⟨x, y, r, rfl, rfl, rfl, rfl⟩ := am_lsh_eq hp; exact ⟨hL, am_oks_c (am_okv_l _ _) (am_oks_t (am_oks_t ht))⟩
  | i2l =>
    simp only [am_pure] at hp
    split at hp
    · cases hp; exact ⟨hL, am_oks_c (am_okv_l _ _) (am_oks_t ht)⟩
    · cases hp
  | l2i =>
    simp only [am_pure] at hp
    split at hp
    · cases hp; exact ⟨hL, am_oks_c (am_okv_i _ _) (am_oks_t ht)⟩
    · cases hp
  | i2b =>
    simp only [am_pure] at hp
    split at hp
    · cases hp; exact ⟨hL, am_oks_c (am_okv_i _ _) (am_oks_t ht)⟩
    · cases hp
  | lcmp =>
    simp only [am_pure] at hp
    split at hp
    · cases hp; exact ⟨hL, am_oks_c (am_okv_i _ _) (am_oks_t (am_oks_t ht))⟩
    · cases hp
  | dup =>
    simp only [am_pure] at hp
    split at hp
    · rename_i a r
      cases ha : am_c1 a with
      | false => rw [ha] at hp; cases hp
      | true => rw [ha] at hp; cases hp; exact ⟨hL, am_oks_c (am_oks_h ht) ht⟩
    · cases hp
  | pop =>
    simp only [am_pure] at hp
    split at hp
    · rename_i a r
      cases ha : am_c1 a with
      | false => rw [ha] at hp; cases hp
      | true => rw [ha] at hp; cases hp; exact ⟨hL, am_oks_t ht⟩
    · cases hp
  | dup_x1 =>
    simp only [am_pure] at hp
    split at hp
    · rename_i a b r
      cases ha : am_c1 a && am_c1 b with
      | false => rw [ha] at hp; cases hp
      | true => rw [ha] at hp; cases hp; exact ⟨hL, am_oks_c (am_oks_h ht) (am_oks_c (am_oks_h (am_oks_t ht)) (am_oks_c (am_oks_h ht) (am_oks_t (am_oks_t ht))))⟩
    · cases hp
  | dup2 =>
    simp only [am_pure] at hp
    split at hp
    · rename_i a b r
      cases ha : am_c1 a && am_c1 b with
      | false => rw [ha] at hp; cases hp
      | true => rw [ha] at hp; cases hp; exact ⟨hL, am_oks_c (am_oks_h ht) (am_oks_c (am_oks_h (am_oks_t ht)) ht)⟩
    · cases hp
  | goto off => obtain ⟨-, rfl, rfl⟩ := am_jmp_eq hp; exact ⟨hL, ht⟩
  | ifCond cnd off =>
    simp only [am_pure] at hp
    split at hp
    · have h2 : L' = L ∧ ∀ r, st' = r → True := ⟨by cases cnd <;> first | exact (am_br_eq hp).1 | exact (am_brn_eq hp).1, fun _ _ => trivial⟩
      rw [h2.1]
      refine ⟨hL, ?_⟩
      cases cnd <;> first | (rw [(am_br_eq hp).2.1]; exact am_oks_t ht) | (rw [(am_brn_eq hp).2.1]; exact am_oks_t ht)
    · cases hp
  | if_icmp cnd off =>
    simp only [am_pure] at hp
    split at hp
    · have h2 : L' = L := by cases cnd <;> first | exact (am_br_eq hp).1 | exact (am_brn_eq hp).1
      rw [h2]
      refine ⟨hL, ?_⟩
      cases cnd <;> first | (rw [(am_br_eq hp).2.1]; exact am_oks_t (am_oks_t ht)) | (rw [(am_brn_eq hp).2.1]; exact am_oks_t (am_oks_t ht))
    · cases hp
  | tableswitch dflt lo hi offs =>
    simp only [am_pure] at hp
    split at hp
    · split at hp
      · obtain ⟨-, rfl, rfl⟩ := am_jmp_eq hp; exact ⟨hL, am_oks_t ht⟩
      · split at hp
        · obtain ⟨-, rfl, rfl⟩ := am_jmp_eq hp; exact ⟨hL, am_oks_t ht⟩
        · cases hp
    · cases hp
  | _ => exact nomatch (show (none : AmP) = some (pc', L', st') from hp)

/-- the heap h lies in G at the places ρ -/
def am_Emb (ρ : Nat → Nat) (h G : AmH) : Prop := (∀ i j, i < h.length → j < h.length → ρ i = ρ j → i = j) ∧ ∀ (k : Nat) (e : AmE), h[k]? = some e → G[ρ k]? = some (am_re ρ e)
/-- nothing but at the places ρ has changed -/
def am_Fr (ρ : Nat → Nat) (n : Nat) (G G' : AmH) : Prop := G'.length = G.length ∧ ∀ p : Nat, (∀ k, k < n → ρ k ≠ p) → G'[p]? = G[p]?
theorem am_Fr.rf (ρ : Nat → Nat) (n : Nat) (G : AmH) : am_Fr ρ n G G := ⟨rfl, fun _ _ => rfl⟩
theorem am_Fr.tr {ρ : Nat → Nat} {n : Nat} {G G1 G2 : AmH} (a : am_Fr ρ n G G1) (b : am_Fr ρ n G1 G2) : am_Fr ρ n G G2 := ⟨b.1.trans a.1, fun p hp => (b.2 p hp).trans (a.2 p hp)⟩
theorem am_Emb.set {ρ : Nat → Nat} {h G : AmH} (hE : am_Emb ρ h G) {k : Nat} {e0 : AmE} (hk : h[k]? = some e0) (e : AmE) : am_Emb ρ (h.set k e) (G.set (ρ k) (am_re ρ e)) ∧ am_Fr ρ h.length G (G.set (ρ k) (am_re ρ e)) := by
  have hkl : k < h.length := (List.getElem?_eq_some_iff.mp hk).1
  have hGl : ρ k < G.length := (List.getElem?_eq_some_iff.mp (hE.2 k e0 hk)).1
  refine ⟨⟨by rw [List.length_set]; exact hE.1, fun j x hx => ?_⟩, by rw [List.length_set], fun p hp => ?_⟩
  · rw [List.getElem?_set] at hx ⊢
    by_cases q : k = j
    · subst q
      rw [if_pos rfl, if_pos hkl] at hx
      rw [if_pos rfl, if_pos hGl]
      cases hx
      rfl
    · rw [if_neg q] at hx
      have hjl : j < h.length := (List.getElem?_eq_some_iff.mp hx).1
      rw [if_neg (fun q2 => q (hE.1 k j hkl hjl q2))]
      exact hE.2 j x hx
  · rw [List.getElem?_set, if_neg (hp k hkl)]
theorem am_fit_rn (ρ : Nat → Nat) (fk : Nat) (v : Value) : am_fit fk (am_rn ρ v) = am_fit fk v := by
  match fk with
  | 0 => cases v <;> rfl
  | 1 => cases v <;> rfl
  | 2 => cases v <;> rfl
  | 3 => cases v <;> rfl
  | n + 4 => cases v <;> rfl
theorem am_low_rn (ρ : Nat → Nat) (r : List Value) : am_low (r.map (am_rn ρ)) = am_low r := by
  unfold am_low
  have e : ((r.map (am_rn ρ)).map fun v => v.category) = r.map fun v => v.category := by
    rw [List.map_map]
    exact List.map_congr_left fun v _ => am_rn_cat ρ v
  rw [e]
theorem am_gf_rn {ρ : Nat → Nat} {h h' G : AmH} {fe : Nat × Nat × Nat × Bool} {a n : Nat} {r st' : List Value} (hE : am_Emb ρ h G) (hp : am_gf fe a r h = some (n, st', h')) : h' = h ∧ am_gf fe (ρ a) (r.map (am_rn ρ)) G = some (n, st'.map (am_rn ρ), G) := by
  unfold am_gf at hp ⊢
  rw [am_nth_eq] at hp ⊢
  split at hp
  · rename_i c fs he
    rw [hE.2 a _ he]
    cases hb : Nat.beq c fe.1 with
    | false => rw [hb] at hp; cases hp
    | true =>
      rw [hb] at hp
      simp only [am_re, hb, cond_true, am_nth_map] at hp ⊢
      split at hp
      · rename_i v hv
        cases hp
        rw [hv]
        exact ⟨rfl, rfl⟩
      · cases hp
  · cases hp
theorem am_pf_rn {ρ : Nat → Nat} {h h' G : AmH} {own : Nat} {ini : Bool} {fe : Nat × Nat × Nat × Bool} {v : Value} {a n : Nat} {r st' : List Value} (hE : am_Emb ρ h G) (hp : am_pf own ini fe v a r h = some (n, st', h')) : h'.length = h.length ∧ ∃ G', am_pf own ini fe (am_rn ρ v) (ρ a) (r.map (am_rn ρ)) G = some (n, st'.map (am_rn ρ), G') ∧ am_Emb ρ h' G' ∧ am_Fr ρ h.length G G' := by
  unfold am_pf at hp ⊢
  rw [am_nth_eq] at hp ⊢
  split at hp
  · rename_i c fs he
    rw [hE.2 a _ he]
    simp only [am_re, am_fit_rn, List.length_map] at hp ⊢
    cases hb : (Nat.beq c fe.1 && (am_fit fe.2.2.1 v && ((!fe.2.2.2 || (ini && Nat.beq (am_oc own) fe.1)) && Nat.blt fe.2.1 fs.length))) with
    | false => rw [hb] at hp; cases hp
    | true =>
      rw [hb] at hp
      cases hp
      rw [am_put_eq, am_put_eq]
      refine ⟨List.length_set, _, rfl, ?_⟩
      rw [am_put_eq, am_put_map, am_put_eq]
      exact hE.set he (.inr (c, fs.set fe.2.1 v))
  · cases hp
theorem am_re_int {ρ : Nat → Nat} {ty : FieldType} {n : Nat} {f : Nat → Int32} : am_re ρ (.inl (ty, n, .inl f)) = .inl (ty, n, .inl f) := rfl
set_option maxHeartbeats 4000000 in
theorem am_heap_rn {ρ : Nat → Nat} {h h' G : AmH} {own n : Nat} {ini : Bool} {i : Jvm.ClassFile.Instr} {st st' : List Value} (hE : am_Emb ρ h G) (hp : am_heap own ini i st h = some (n, st', h')) : h'.length = h.length ∧ ∃ G', am_heap own ini i (st.map (am_rn ρ)) G = some (n, st'.map (am_rn ρ), G') ∧ am_Emb ρ h' G' ∧ am_Fr ρ h.length G G' := by
  cases i with
  | getfield x =>
    simp only [am_heap] at hp ⊢
    split at hp
    · rename_i fe a r hf
      obtain ⟨rfl, e⟩ := am_gf_rn hE hp
      refine ⟨rfl, G, ?_, hE, am_Fr.rf _ _ _⟩
      rw [hf]
      exact e
    · cases hp
  | putfield x =>
    simp only [am_heap] at hp ⊢
    split at hp
    · rename_i fe v a r hf
      obtain ⟨e1, G', e2, e3⟩ := am_pf_rn hE hp
      refine ⟨e1, G', ?_, e3⟩
      rw [hf]
      exact e2
    · cases hp
  | iaload =>
    simp only [am_heap] at hp ⊢
    split at hp
    · rename_i j a r
      rw [am_nth_eq] at hp
      split at hp
      · rename_i N f he
        split at hp
        · cases hp
        · rename_i hin'
          cases hp
          refine ⟨rfl, G, ?_, hE, am_Fr.rf _ _ _⟩
          simp only [List.map_cons, am_rn, am_nth_eq, hE.2 a _ he, am_re_int, if_neg hin']
      · cases hp
    · cases hp
  | baload =>
    simp only [am_heap] at hp ⊢
    split at hp
    · rename_i j a r
      rw [am_nth_eq] at hp
      split at hp
      · rename_i N f he
        split at hp
        · cases hp
        · rename_i hin'
          cases hp
          refine ⟨rfl, G, ?_, hE, am_Fr.rf _ _ _⟩
          simp only [List.map_cons, am_rn, am_nth_eq, hE.2 a _ he, am_re_int, if_neg hin']
      · cases hp
    · cases hp
  | laload =>
    simp only [am_heap] at hp ⊢
    split at hp
    · rename_i j a r
      rw [am_nth_eq] at hp
      split at hp
      · rename_i N f he
        split at hp
        · cases hp
        · rename_i hin'
          cases hp
          refine ⟨rfl, G, ?_, hE, am_Fr.rf _ _ _⟩
          simp only [List.map_cons, am_rn, am_nth_eq, hE.2 a _ he, am_re, am_ra, if_neg hin']
      · cases hp
    · cases hp
  | aaload =>
    simp only [am_heap] at hp ⊢
    split at hp
    · rename_i j a r
      rw [am_nth_eq] at hp
      split at hp
      · rename_i ty N f he
        cases hrf : am_isRf ty with
        | false => rw [hrf] at hp; cases hp
        | true =>
        rw [hrf] at hp
        simp only [cond_true] at hp
        split at hp
        · cases hp
        · rename_i hin'
          split at hp
          · rename_i b hfb
            cases hp
            refine ⟨rfl, G, ?_, hE, am_Fr.rf _ _ _⟩
            simp only [List.map_cons, am_rn, am_nth_eq, hE.2 a _ he, am_re, am_ra, if_neg hin', hrf, cond_true, hfb, Option.map_some]
          · cases hp
      · cases hp
    · cases hp
  | iastore =>
    simp only [am_heap] at hp ⊢
    split at hp
    · rename_i x j a r
      rw [am_nth_eq] at hp
      split at hp
      · rename_i N f he
        split at hp
        · cases hp
        · rename_i hin'
          rw [am_put_eq] at hp
          cases hp
          obtain ⟨g1, g2⟩ := hE.set he (.inl (.int, N, .inl (upd f j.toNatClampNeg x)))
          refine ⟨List.length_set, _, ?_, g1, g2⟩
          simp only [List.map_cons, am_rn, am_nth_eq, am_put_eq, hE.2 a _ he, am_re_int, if_neg hin']
      · cases hp
    · cases hp
  | bastore =>
    simp only [am_heap] at hp ⊢
    split at hp
    · rename_i x j a r
      rw [am_nth_eq] at hp
      split at hp
      · rename_i N f he
        split at hp
        · cases hp
        · rename_i hin'
          rw [am_put_eq] at hp
          cases hp
          obtain ⟨g1, g2⟩ := hE.set he (.inl (.byte, N, .inl (upd f j.toNatClampNeg (vp_nar .byte x))))
          refine ⟨List.length_set, _, ?_, g1, g2⟩
          simp only [List.map_cons, am_rn, am_nth_eq, am_put_eq, hE.2 a _ he, am_re_int, if_neg hin']
      · cases hp
    · cases hp
  | lastore =>
    simp only [am_heap] at hp ⊢
    split at hp
    · rename_i x j a r
      rw [am_nth_eq] at hp
      split at hp
      · rename_i N f he
        split at hp
        · cases hp
        · rename_i hin'
          rw [am_put_eq] at hp
          cases hp
          obtain ⟨g1, g2⟩ := hE.set he (.inl (.long, N, .inr (.inl (vp_updL f j.toNatClampNeg x))))
          refine ⟨List.length_set, _, ?_, g1, g2⟩
          simp only [List.map_cons, am_rn, am_nth_eq, am_put_eq, hE.2 a _ he, am_re, am_ra, if_neg hin']
      · cases hp
    · cases hp
  | aastore =>
    simp only [am_heap] at hp ⊢
    split at hp
    · rename_i b j a r
      rw [am_nth_eq, am_nth_eq] at hp
      split at hp
      · rename_i C N f ci fs he hb2
        split at hp
        · rename_i hC
          split at hp
          · cases hp
          · rename_i hin'
            rw [am_put_eq] at hp
            cases hp
            obtain ⟨g1, g2⟩ := hE.set he (.inl (.object C, N, .inr (.inr (.inr (.inr (va_up f j.toNatClampNeg (some b)))))))
            refine ⟨List.length_set, _, ?_, g1, g2⟩
            simp only [List.map_cons, am_rn, am_nth_eq, am_put_eq, hE.2 a _ he, hE.2 b _ hb2, am_re, am_ra, if_neg hin', am_map_up]
            rw [if_pos hC]
        · cases hp
      · cases hp
    · cases hp
  | arraylength =>
    simp only [am_heap] at hp ⊢
    split at hp
    · rename_i a r
      rw [am_nth_eq] at hp
      split at hp
      · rename_i ty N g he
        cases hp
        refine ⟨rfl, G, ?_, hE, am_Fr.rf _ _ _⟩
        rcases g with f | f | f | f | f <;> simp only [List.map_cons, am_rn, am_nth_eq, hE.2 a _ he, am_re, am_ra]
      · cases hp
    · cases hp
  | invokespecial x =>
    simp only [am_heap] at hp ⊢
    split at hp
    · rename_i a r hf
      cases hlo : am_low r with
      | false => rw [hlo] at hp; cases hp
      | true =>
        rw [hlo] at hp
        cases hp
        refine ⟨rfl, G, ?_, hE, am_Fr.rf _ _ _⟩
        rw [hf]
        simp only [List.map_cons, am_rn, am_low_rn, hlo, cond_true]
    · cases hp
  | invokestatic x =>
    simp only [am_heap] at hp ⊢
    split at hp
    · rename_i kk hf
      rcases am_sl_ok hf with ⟨rfl, -⟩ | ⟨rfl, -⟩ | ⟨rfl, -⟩ | rfl | ⟨rfl, -⟩ | ⟨rfl, -⟩ | ⟨rfl, -⟩ | ⟨rfl, -⟩
      · cases hp
      · simp only [am_spc, am_cpy] at hp ⊢
        split at hp
        · rename_i n9 dp b sp a r
          cases hlo : am_low r with
          | false => rw [hlo] at hp; cases hp
          | true =>
          rw [hlo] at hp
          simp only [Bool.not_true, cond_false] at hp
          rw [am_nth_eq, am_nth_eq] at hp
          split at hp
          · rename_i N0 f N1 g9 he hb2
            split at hp
            · cases hp
            · rename_i hc9
              rw [am_put_eq] at hp
              cases hp
              obtain ⟨g1, g2⟩ := hE.set hb2 (.inl (.int, N1, .inl (va_cpy f g9 sp.toNatClampNeg dp.toNatClampNeg n9.toNatClampNeg)))
              refine ⟨List.length_set, _, ?_, g1, g2⟩
              simp only [List.map_cons, am_rn, am_low_rn, hlo, Bool.not_true, cond_false, am_nth_eq, am_put_eq, hE.2 a _ he, hE.2 b _ hb2, am_re_int, if_neg hc9]
          · cases hp
        · cases hp
      · simp only [am_spc] at hp ⊢
        split at hp
        · rename_i t j r
          cases hlo : am_low r && Nat.blt j 2 with
          | false => rw [hlo] at hp; cases hp
          | true =>
          rw [hlo] at hp
          cases hp
          refine ⟨rfl, G, ?_, hE, am_Fr.rf _ _ _⟩
          simp only [List.map_cons, am_rn, am_low_rn, hlo, cond_true]
        · cases hp
      · cases hp
      · simp only [am_spc] at hp ⊢
        split at hp
        · rename_i y x9 r
          cases hlo : am_low r with
          | false => rw [hlo] at hp; cases hp
          | true =>
          rw [hlo] at hp
          cases hp
          refine ⟨rfl, G, ?_, hE, am_Fr.rf _ _ _⟩
          simp only [List.map_cons, am_rn, am_low_rn, hlo, cond_true]
        · cases hp
      · simp only [am_spc] at hp ⊢
        split at hp
        · rename_i y x9 r
          cases hlo : am_low r with
          | false => rw [hlo] at hp; cases hp
          | true =>
          rw [hlo] at hp
          cases hp
          refine ⟨rfl, G, ?_, hE, am_Fr.rf _ _ _⟩
          simp only [List.map_cons, am_rn, am_low_rn, hlo, cond_true]
        · cases hp
      · simp only [am_spc] at hp ⊢
        split at hp
        · rename_i y x9 r
          cases hlo : am_low r with
          | false => rw [hlo] at hp; cases hp
          | true =>
          rw [hlo] at hp
          cases hp
          refine ⟨rfl, G, ?_, hE, am_Fr.rf _ _ _⟩
          simp only [List.map_cons, am_rn, am_low_rn, hlo, cond_true]
        · cases hp
      · simp only [am_spc] at hp ⊢
        split at hp
        · rename_i y x9 r
          cases hlo : am_low r with
          | false => rw [hlo] at hp; cases hp
          | true =>
          rw [hlo] at hp
          cases hp
          refine ⟨rfl, G, ?_, hE, am_Fr.rf _ _ _⟩
          simp only [List.map_cons, am_rn, am_low_rn, hlo, cond_true]
        · cases hp
    · cases hp
  | _ => exact nomatch (show (none : AmQ) = some (n, st', h') from hp)

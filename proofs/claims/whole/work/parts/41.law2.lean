/-! THE LAW: its state, a call on either side, loads of the script -/
abbrev lw_A (s : State) : Nat → Prop := fun q => s.heap.size ≤ q
def LwC (p : Program) (s : State) (m : MethodId) (c : Code) (b Ln : Nat) (xs : Nat → Int32) (sa av : Nat → Nat) : Prop := p.tables.exec = Jvm.exec ∧ c.code = code ∧ c.maxLocals = 7 ∧ s.vm.findClass (am_on 16) = some m.cls ∧ (∀ w ∈ am_gt, w.before #[Value.ref b] s = true) ∧ am_env sa av (lw_A s) s ∧ va_X b Ln xs s s.heap ∧ b < s.heap.size ∧ Ln ≤ 384
def LwS (D : va_G) (sa : Nat → Nat) (s : State) (H : Heap) (locs : List Loc) (hx hm : AmH) (qx qm qo : Nat) : Prop := ∃ (adx : Nat → Nat) (cax : Nat → ClassId) (adm : Nat → Nat) (cam : Nat → ClassId) (co : ClassId) (fo : Nat → Int64), adx 0 = qx ∧ adm 0 = qm ∧ am_wd D adx sa cax hx s (lw_A s) s.heap H locs ∧ am_wd D adm sa cam hm s (lw_A s) s.heap H locs ∧ va_K D vwCl [(co, .long)] s ∧ va_P D vwCl [(qo, .inl (co, 1, .inr (.inl fo)))] H ∧ s.heap.size ≤ qo ∧ lw_dis (am_ws adx sa cax hx) (am_ws adm sa cam hm) ∧ lw_dis (am_ws adx sa cax hx) [(qo, .inl (co, 1, .inr (.inl fo)))] ∧ lw_dis (am_ws adm sa cam hm) [(qo, .inl (co, 1, .inr (.inl fo)))]
def lw_sa (b qx qm qo : Nat) : Nat → Nat := fun j => if j = 9 then b else if j = 10 then qx else if j = 11 then qm else qo
theorem lw_Ks {s : State} {b : Nat} (hts : ∀ w ∈ am_gt, w.before #[Value.ref b] s = true) (sa : Nat → Nat) : am_Ks 16 sa #[Value.ref b] s := by
  intro x v hv
  rcases am_kl_ok hv with ⟨n, rfl, g⟩ | ⟨n, rfl, g⟩ | ⟨q, -⟩ | ⟨q, -⟩ | ⟨q, -⟩
  · exact hts _ g
  · exact hts _ g
  all_goals cases q
theorem lw_dis.symm {a b : va_W} (h : lw_dis a b) : lw_dis b a := fun i j p q hp hq e => h j i q p hq hp e.symm
theorem lw_dis_app {a b c : va_W} (h1 : lw_dis a b) (h2 : lw_dis a c) : lw_dis a (b ++ c) := fun i j p q hp hq e => by
  rcases Nat.lt_or_ge j b.length with z | z
  · rw [List.getElem?_append_left z] at hq
    exact h1 i j p q hp hq e
  · rw [List.getElem?_append_right z] at hq
    exact h2 i _ p q hp hq e
theorem lw_dis_l {a b c : va_W} (h : lw_dis a (b ++ c)) : lw_dis a b := fun i j p q hp hq e => h i j p q hp (by rw [List.getElem?_append_left (List.getElem?_eq_some_iff.mp hq).1]; exact hq) e
theorem lw_dis_r {a b c : va_W} (h : lw_dis a (b ++ c)) : lw_dis a c := fun i j p q hp hq e => h i (b.length + j) p q hp (by rw [List.getElem?_append_right (Nat.le_add_right _ _), Nat.add_sub_cancel_left]; exact hq) e
theorem lw_P_l {D : va_G} {cl : List vw_C} {a b : va_W} {H : Heap} (h : va_P D cl (a ++ b) H) : va_P D cl a H := fun k q hq => h k q (by rw [List.getElem?_append_left (List.getElem?_eq_some_iff.mp hq).1]; exact hq)
theorem lw_P_r {D : va_G} {cl : List vw_C} {a b : va_W} {H : Heap} (h : va_P D cl (a ++ b) H) : va_P D cl b H := fun k q hq => h (a.length + k) q (by rw [List.getElem?_append_right (Nat.le_add_right _ _), Nat.add_sub_cancel_left]; exact hq)
section LawTwo
variable {p : Program} {l : Launch} {e : Env} {s : State} {m : MethodId} {below : List Frame} {meth : Method} {c : Code} {H : Heap} {locs : List Loc} {cells slots : Nat} {Q : State → Prop} {b Ln : Nat} {xs : Nat → Int32} {sa av : Nat → Nat} {D : va_G} {hx hm : AmH} {qx qm qo pc : Nat} {ls : Array Slot}
theorem lw_room1 : 200 ≤ room_1.frames ∧ 8000 ≤ room_1.locals ∧ room_1.cells = 600128 ∧ room_1.slots = 7301098 := by decide +kernel
theorem lw_callX {M : AmM} {x na : Nat} {as rest : List Value} {fs : List Value} {hf : AmH} {v : Value} {k j : Nat} (C : LwC p s m c b Ln xs sa av) (hlr : ls.size = 7) (hdg : decode code pc = .ok (.invokevirtual x, 3)) (hf2 : am_look (am_ml 16) x = some (3, M, na, 10)) (hna : as.length = na) (hpl : ∀ v ∈ as, am_pl v) (hsl : (am_sl1 (.ref 0 :: as)).length ≤ M.2.2.2.1) (he : hx[0]? = some (.inr (10, fs))) (hrun : Rn 100 M 0 (am_ent (.ref 0 :: as) M.2.2.2.1) [] hx (some v, hf, k, j)) (hv : am_pl v) (hlow : (rest.map fun v => v.category).sum ≤ 8) (hce : cells + k ≤ 600128) (hss : slots + j ≤ 7301098)
    (S : LwS D sa s H locs hx hm qx qm qo) (kk : ∀ (H1 : Heap) (locs1 : List Loc), LwS D sa s H1 locs1 hf hm qx qm qo → W p l e room_1 s m #[Value.ref b] below meth c H1 locs1 (cells + k) (slots + j) Q (F0 m (pc + 3) ls (v :: rest))) : W p l e room_1 s m #[Value.ref b] below meth c H locs cells slots Q (F0 m pc ls (as.reverse ++ .ref qx :: rest)) := by
  obtain ⟨hexe, hb, hml, hown, hts, hen, -⟩ := C
  obtain ⟨adx, cax, adm, cam, co, fo, rfl, e2, w1, w2, w3, w4, w5, w6, w7, w8⟩ := S
  refine lw_call (fr := am_ws adm sa cam hm ++ [(qo, .inl (co, 1, .inr (.inl fo)))]) (am_ia l) hexe hb hml hlr hown hts lw_room1.1 lw_room1.2.1 hen (fun _ h => h) hdg hf2 hna hpl hsl he hrun (fun w hw => by cases hw; exact hv) hlow (by rw [lw_room1.2.2.1]; exact hce) (by rw [lw_room1.2.2.2]; exact hss) w1 (va_P.app w2.2.2.1 w4) (lw_dis_app w6 w7) (fun ad' ca' H1 locs1 g1 g2 g3 g4 => ?_)
  refine kk H1 locs1 ⟨ad', ca', adm, cam, co, fo, g1, e2, g2, ⟨w2.1, w2.2.1, lw_P_l g3, w2.2.2.2.1, g2.2.2.2.2.1, w2.2.2.2.2.2⟩, w3, lw_P_r g3, w5, lw_dis_l g4, lw_dis_r g4, w8⟩
theorem lw_callM {M : AmM} {x na : Nat} {as rest : List Value} {fs : List Value} {hf : AmH} {v : Value} {k j : Nat} (C : LwC p s m c b Ln xs sa av) (hlr : ls.size = 7) (hdg : decode code pc = .ok (.invokevirtual x, 3)) (hf2 : am_look (am_ml 16) x = some (3, M, na, 11)) (hna : as.length = na) (hpl : ∀ v ∈ as, am_pl v) (hsl : (am_sl1 (.ref 0 :: as)).length ≤ M.2.2.2.1) (he : hm[0]? = some (.inr (11, fs))) (hrun : Rn 100 M 0 (am_ent (.ref 0 :: as) M.2.2.2.1) [] hm (some v, hf, k, j)) (hv : am_pl v) (hlow : (rest.map fun v => v.category).sum ≤ 8) (hce : cells + k ≤ 600128) (hss : slots + j ≤ 7301098)
    (S : LwS D sa s H locs hx hm qx qm qo) (kk : ∀ (H1 : Heap) (locs1 : List Loc), LwS D sa s H1 locs1 hx hf qx qm qo → W p l e room_1 s m #[Value.ref b] below meth c H1 locs1 (cells + k) (slots + j) Q (F0 m (pc + 3) ls (v :: rest))) : W p l e room_1 s m #[Value.ref b] below meth c H locs cells slots Q (F0 m pc ls (as.reverse ++ .ref qm :: rest)) := by
  obtain ⟨hexe, hb, hml, hown, hts, hen, -⟩ := C
  obtain ⟨adx, cax, adm, cam, co, fo, e1, rfl, w1, w2, w3, w4, w5, w6, w7, w8⟩ := S
  refine lw_call (fr := am_ws adx sa cax hx ++ [(qo, .inl (co, 1, .inr (.inl fo)))]) (am_ia l) hexe hb hml hlr hown hts lw_room1.1 lw_room1.2.1 hen (fun _ h => h) hdg hf2 hna hpl hsl he hrun (fun w hw => by cases hw; exact hv) hlow (by rw [lw_room1.2.2.1]; exact hce) (by rw [lw_room1.2.2.2]; exact hss) w2 (va_P.app w1.2.2.1 w4) (lw_dis_app w6.symm w8) (fun ad' ca' H1 locs1 g1 g2 g3 g4 => ?_)
  refine kk H1 locs1 ⟨adx, cax, ad', ca', co, fo, e1, g1, ⟨w1.1, w1.2.1, lw_P_l g3, w1.2.2.2.1, g2.2.2.2.2.1, w1.2.2.2.2.2⟩, g2, w3, lw_P_r g3, w5, (lw_dis_l g4).symm, w7, lw_dis_r g4⟩
/-- the law's locals -/
def lw_L (i : Nat) (u w : Option Value) : AmL := [some (.retAddr 9), some (.retAddr 10), some (.retAddr 11), some (.retAddr 12), some (.int (nI i)), u, w]
/-- a place of the script comes onto the stack -/
theorem lw_ld (C : LwC p s m c b Ln xs sa av) (S : LwS D sa s H locs hx hm qx qm qo) {i k : Nat} {kc : Int32} {u w : Option Value} {st : List Value} (hk : nI i + kc = nI (i + k)) (hi : i + k < Ln) (hw4 : lw_wk 4 pc (lw_L i u w) st = some (pc + 5, lw_L i u w, .int (nI i + kc) :: .retAddr 9 :: st)) (hdg : decode code (pc + 5) = .ok (.iaload, 1)) (hl : am_lr (fun _ => 0) (lw_sa b qx qm qo) ls 7 (lw_L i u w))
    (kk : ∀ ls', am_lr (fun _ => 0) (lw_sa b qx qm qo) ls' 7 (lw_L i u w) → W p l e room_1 s m #[Value.ref b] below meth c H locs cells slots Q (F0 m (pc + 6) ls' ((.int (xs (i + k)) :: st).map (am_rv (fun _ => 0) (lw_sa b qx qm qo))))) : W p l e room_1 s m #[Value.ref b] below meth c H locs cells slots Q (F0 m pc ls (st.map (am_rv (fun _ => 0) (lw_sa b qx qm qo)))) := by
  obtain ⟨hexe, hb, hml, hown, hts, hen, hX, hbl, hLn⟩ := C
  refine lw_W hexe hb hown (lw_Ks hts _) 4 hw4 hl (fun ls' hl' => ?_)
  have hS : va_S (lw_A s) s.heap H locs := by
    obtain ⟨_, _, _, _, _, _, _, _, w1, _⟩ := S
    exact w1.2.2.2.2.1
  have key := kk ls' hl'
  rw [hk]
  have hin : vp_in (nI (i + k)) Ln := vp_in_nI hi (by omega)
  refine va_sld hexe hb hX hbl (Nat.not_le.mpr hbl) hS hin hdg ?_
  rw [nI_clamp (by omega)]
  exact key
end LawTwo

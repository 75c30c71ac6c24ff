/-! soundness, part 5: one instruction that reads or writes cells -/
section AmHeap2
variable {p : Program} {l : Launch} {e : Env} {R : Room} {s : State} {m : MethodId} {args : Array Value} {below : List Frame} {meth : Method} {c : Code} {H : Heap} {locs : List Loc} {cells slots : Nat} {Q : State → Prop}
variable {cc : ByteArray} {pc n len : Nat} {ls : Array Slot} {own nL : Nat} {ad sa : Nat → Nat} {i : Jvm.ClassFile.Instr} {v : Value} {L : AmL} {st st' : List Value} {h h' : AmH} {D : va_G} {ca : Nat → ClassId} {A : Nat → Prop} {ini : Bool} {H0 : Heap}
theorem am_low_le {r : List Value} (h : am_low r = true) (ad sa : Nat → Nat) : ((r.map (am_rv ad sa)).map fun v => v.category).sum ≤ 8 := by
  have e : ((r.map (am_rv ad sa)).map fun v => v.category) = r.map fun v => v.category := by
    rw [List.map_map]
    exact List.map_congr_left fun v _ => am_rv_cat ad sa v
  rw [e]
  exact Nat.le_of_ble_eq_true h
theorem am_map_up (ad : Nat → Nat) (f : Nat → Option Nat) (k b : Nat) : (fun i => (va_up f k (some b) i).map ad) = va_up (fun i => (f i).map ad) k (some (ad b)) := by
  funext i
  unfold va_up
  by_cases q : i = k
  · rw [if_pos q, if_pos q]; rfl
  · rw [if_neg q, if_neg q]
theorem am_cn_ok {ci : Nat} {r0 : vw_C} (h : vwCl[ci]? = some r0) : am_cn ci = r0.1 := by
  match ci, h with
  | 0, h => cases h; rfl
  | 1, h => cases h; rfl
  | 2, h => cases h; rfl
  | 3, h => cases h; rfl
  | 4, h => cases h; rfl
  | 5, h => cases h; rfl
  | 6, h => cases h; rfl
  | 7, h => cases h; rfl
  | 8, h => cases h; rfl
  | 9, h => cases h; rfl
  | 10, h => cases h; rfl
  | 11, h => cases h; rfl
  | n + 12, h => simp [vwCl] at h
set_option maxHeartbeats 4000000 in
/-- one instruction that reads or writes cells -/
theorem am_heap_W (hx : p.tables.exec = Jvm.exec) (hb : c.code = cc) (hml : c.maxLocals = nL) (hown : s.vm.findClass (am_on own) = some m.cls) (hts : ∀ w ∈ am_gt, w.before args s = true) (hin : ini = true → meth.name = "<init>") (hdg : decode cc pc = .ok (i, len)) (hs : am_stat own nL i len v = true)
    (hlr : ls.size = nL) (hR : 10 ≤ R.frames ∧ 400 ≤ R.locals) (hce : cells ≤ R.cells) (hsl : slots ≤ R.slots)
    (hIA : ∀ (x j : Nat) (t : Int32) (r : List Value), am_look (am_sl own) x = some 2 → decode cc pc = .ok (.invokestatic x, 3) → j < 2 → am_low r = true → W p l e R s m args below meth c H locs cells slots Q (F0 m (pc + 3) ls ((.int (am_among (am_txt j) t) :: r).map (am_rv ad sa))) → W p l e R s m args below meth c H locs cells slots Q (F0 m pc ls ((.int t :: .retAddr j :: r).map (am_rv ad sa))))
    (hW : am_wd D ad sa ca h s A H0 H locs) (hst : am_oks h.length st) (hp : am_heap own ini i st h = some (n, st', h'))
    (k : h'.length = h.length → am_oks h.length st' → ∀ H1 locs1, am_wd D ad sa ca h' s A H0 H1 locs1 → W p l e R s m args below meth c H1 locs1 cells slots Q (F0 m (pc + n) ls (st'.map (am_rv ad sa)))) : W p l e R s m args below meth c H locs cells slots Q (F0 m pc ls (st.map (am_rv ad sa))) := by
  have hW0 := hW
  obtain ⟨k1, k2, k3, k4, k5, k6⟩ := hW
  cases i with
  | getfield x =>
    cases am_be hs
    simp only [am_heap] at hp
    split at hp
    · rename_i fe a r hf
      refine am_gf_W hx hb hown hts hdg hW0 hf (am_oks_t hst) hp (fun e1 e2 => ?_)
      subst e1
      exact k rfl e2 _ _ hW0
    · cases hp
  | putfield x =>
    cases am_be hs
    simp only [am_heap] at hp
    split at hp
    · rename_i fe v a r hf
      exact am_pf_W hx hb hown hts hin hdg hW0 hf (am_oks_h hst) hp (fun e1 e2 H1 locs1 w => k e1 (by rw [e2]; exact am_oks_t (am_oks_t hst)) H1 locs1 w)
    · cases hp
  | iaload =>
    cases am_be hs
    simp only [am_heap] at hp
    split at hp
    · rename_i j a r
      rw [am_nth_eq] at hp
      split at hp
      · rename_i N f he
        split at hp
        · cases hp
        · rename_i hin'
          cases hp
          exact va_iald hx hb (k2 a _ _ he) k3 a 0 (am_ws_at he) rfl hin' hdg (k rfl (am_oks_c (am_okv_i _ _) (am_oks_t (am_oks_t hst))) _ _ hW0)
      · cases hp
    · cases hp
  | baload =>
    cases am_be hs
    simp only [am_heap] at hp
    split at hp
    · rename_i j a r
      rw [am_nth_eq] at hp
      split at hp
      · rename_i N f he
        split at hp
        · cases hp
        · rename_i hin'
          cases hp
          exact va_bald hx hb (k2 a _ _ he) k3 a 0 (am_ws_at he) rfl hin' hdg (k rfl (am_oks_c (am_okv_i _ _) (am_oks_t (am_oks_t hst))) _ _ hW0)
      · cases hp
    · cases hp
  | laload =>
    cases am_be hs
    simp only [am_heap] at hp
    split at hp
    · rename_i j a r
      rw [am_nth_eq] at hp
      split at hp
      · rename_i N f he
        split at hp
        · cases hp
        · rename_i hin'
          cases hp
          exact va_lald hx hb (k2 a _ _ he) k3 a 0 (am_ws_at he) rfl hin' hdg (k rfl (am_oks_c (am_okv_l _ _) (am_oks_t (am_oks_t hst))) _ _ hW0)
      · cases hp
    · cases hp
  | aaload =>
    cases am_be hs
    simp only [am_heap] at hp
    split at hp
    · rename_i j a r
      rw [am_nth_eq] at hp
      split at hp
      · rename_i ty N f he
        cases hrf : am_isRf ty with
        | false => rw [hrf] at hp; cases hp
        | true =>
        rw [hrf] at hp
        simp only [cond_true] at hp
        split at hp
        · cases hp
        · rename_i hin'
          split at hp
          · rename_i b hfb
            cases hp
            have hrt : ty.isReference = true := by cases ty <;> first | rfl | cases hrf
            have hv : va_rf ((fun i => (f i).map ad) j.toNatClampNeg) = .ref (ad b) := by
              show va_rf ((f j.toNatClampNeg).map ad) = _
              rw [hfb]; rfl
            refine am_aald hx hb (k2 a _ _ he) k3 a 0 hrt (am_ws_at he) rfl hin' hdg ?_
            rw [hv]
            exact k rfl (am_oks_c (am_okv_r (k6 a _ he _ _ hfb)) (am_oks_t (am_oks_t hst))) _ _ hW0
          · cases hp
      · cases hp
    · cases hp
  | iastore =>
    cases am_be hs
    simp only [am_heap] at hp
    split at hp
    · rename_i x j a r
      rw [am_nth_eq] at hp
      split at hp
      · rename_i N f he
        split at hp
        · cases hp
        · rename_i hin'
          rw [am_put_eq] at hp
          cases hp
          exact va_iast hx hb (k2 a _ _ he) k3 k4 k5 a 0 (am_ws_at he) rfl hin' hdg (fun H1 locs1 g1 g2 g3 => k List.length_set (am_oks_t (am_oks_t (am_oks_t hst))) H1 locs1 (am_wd_set (e' := .inl (.int, N, .inl (upd f j.toNatClampNeg x))) hW0 he (fun ty b q => by cases q; exact ⟨_, rfl⟩) trivial g1 g2 g3))
      · cases hp
    · cases hp
  | bastore =>
    cases am_be hs
    simp only [am_heap] at hp
    split at hp
    · rename_i x j a r
      rw [am_nth_eq] at hp
      split at hp
      · rename_i N f he
        split at hp
        · cases hp
        · rename_i hin'
          rw [am_put_eq] at hp
          cases hp
          exact va_bast hx hb (k2 a _ _ he) k3 k4 k5 a 0 (am_ws_at he) rfl hin' hdg (fun H1 locs1 g1 g2 g3 => k List.length_set (am_oks_t (am_oks_t (am_oks_t hst))) H1 locs1 (am_wd_set (e' := .inl (.byte, N, .inl (upd f j.toNatClampNeg (vp_nar .byte x)))) hW0 he (fun ty b q => by cases q; exact ⟨_, rfl⟩) trivial g1 g2 g3))
      · cases hp
    · cases hp
  | lastore =>
    cases am_be hs
    simp only [am_heap] at hp
    split at hp
    · rename_i x j a r
      rw [am_nth_eq] at hp
      split at hp
      · rename_i N f he
        split at hp
        · cases hp
        · rename_i hin'
          rw [am_put_eq] at hp
          cases hp
          exact va_last hx hb (k2 a _ _ he) k3 k4 k5 a 0 (am_ws_at he) rfl hin' hdg (fun H1 locs1 g1 g2 g3 => k List.length_set (am_oks_t (am_oks_t (am_oks_t hst))) H1 locs1 (am_wd_set (e' := .inl (.long, N, .inr (.inl (vp_updL f j.toNatClampNeg x)))) hW0 he (fun ty b q => by cases q; exact ⟨_, rfl⟩) trivial g1 g2 g3))
      · cases hp
    · cases hp
  | aastore =>
    cases am_be hs
    simp only [am_heap] at hp
    split at hp
    · rename_i b j a r
      rw [am_nth_eq, am_nth_eq] at hp
      split at hp
      · rename_i C N f ci fs he hb2
        split at hp
        · rename_i hC
          split at hp
          · cases hp
          · rename_i hin'
            rw [am_put_eq] at hp
            cases hp
            obtain ⟨r0, hr0, -⟩ := k3 b _ (am_ws_at hb2)
            have hr0 : vwCl[ci]? = some r0 := hr0
            have hC' : C = r0.1 := hC.trans (am_cn_ok hr0)
            subst hC'
            refine va_astq hx hb (k2 a _ _ he) k3 k4 k5 a 0 b ci (am_ws_at he) rfl (am_ws_at hb2) hr0 hin' hdg (fun H1 locs1 g1 g2 g3 => k List.length_set (am_oks_t (am_oks_t (am_oks_t hst))) H1 locs1 (am_wd_set (e' := .inl (.object r0.1, N, .inr (.inr (.inr (.inr (va_up f j.toNatClampNeg (some b))))))) hW0 he (fun ty b q => by cases q; exact ⟨_, rfl⟩) ?_ ?_ ?_ g3))
            · intro i9 k9 q9
              unfold va_up at q9
              split at q9
              · cases q9
                exact am_oks_h hst b rfl
              · exact k6 a _ he i9 k9 q9
            · rw [← am_map_up] at g1
              exact g1
            · rw [← am_map_up] at g2
              exact g2
        · cases hp
      · cases hp
    · cases hp
  | arraylength =>
    cases am_be hs
    simp only [am_heap] at hp
    split at hp
    · rename_i a r
      rw [am_nth_eq] at hp
      split at hp
      · rename_i ty N g he
        cases hp
        have hv : Int32.ofNat (am_ra ad (N, g)).1 = Int32.ofNat N := by
          rcases g with f | f | f | f | f <;> rfl
        exact va_alen hx hb (k2 a _ _ he) k3 a 0 (am_ws_at he) rfl hv hdg (k rfl (am_oks_c (am_okv_i _ _) (am_oks_t hst)) _ _ hW0)
      · cases hp
    · cases hp
  | invokespecial x =>
    cases am_be hs
    simp only [am_heap] at hp
    split at hp
    · rename_i a r hf
      cases hlo : am_low r with
      | false => rw [hlo] at hp; cases hp
      | true =>
        rw [hlo] at hp
        cases hp
        have hl0 := am_low_le hlo ad sa
        rcases am_sl_ok hf with ⟨-, g⟩ | ⟨q, -⟩ | ⟨q, -⟩ | q | ⟨q, -⟩ | ⟨q, -⟩ | ⟨q, -⟩ | ⟨q, -⟩
        · exact W.objInit (g := F0 m pc ls _) hx hb hown (hts _ g) (hts _ gs_oi) (hts _ gs_oc) rfl (hlr.trans hml.symm) rfl hdg (by omega) (by have := lv_room (m := m) (pc := pc) (ls := ls) (rest := (Value.ref a :: st').map (am_rv ad sa)) hl0; omega) (k rfl (am_oks_t hst) _ _ hW0)
        all_goals cases q
    · cases hp
  | invokestatic x =>
    cases am_be hs
    simp only [am_heap] at hp
    split at hp
    · rename_i kk hf
      rcases am_sl_ok hf with ⟨rfl, -⟩ | ⟨rfl, g⟩ | ⟨rfl, g⟩ | rfl | ⟨rfl, g⟩ | ⟨rfl, g⟩ | ⟨rfl, g⟩ | ⟨rfl, g⟩
      · cases hp
      · simp only [am_spc, am_cpy] at hp
        split at hp
        · rename_i n9 dp b sp a r
          cases hlo : am_low r with
          | false => rw [hlo] at hp; cases hp
          | true =>
          rw [hlo] at hp
          have hl0 := am_low_le hlo ad sa
          simp only [Bool.not_true, cond_false] at hp
          rw [am_nth_eq, am_nth_eq] at hp
          split at hp
          · rename_i N0 f N1 g9 he hb2
            split at hp
            · cases hp
            · rename_i hc9
              rw [am_put_eq] at hp
              cases hp
              have q1 : ¬ sp < 0 := fun q => hc9 (Or.inl q)
              have q2 : ¬ dp < 0 := fun q => hc9 (Or.inr (Or.inl q))
              have q3 : ¬ n9 < 0 := fun q => hc9 (Or.inr (Or.inr (Or.inl q)))
              have q4 : ¬ N0 < sp.toNatClampNeg + n9.toNatClampNeg := fun q => hc9 (Or.inr (Or.inr (Or.inr (Or.inl q))))
              have q5 : ¬ N1 < dp.toNatClampNeg + n9.toNatClampNeg := fun q => hc9 (Or.inr (Or.inr (Or.inr (Or.inr q))))
              have hnf : nativeFrameWords "java/lang/System" "arraycopy" 5 + 11 ≤ 300 := by decide +kernel
              have kA := va_K.app (k2 a _ _ he) (k2 b _ _ hb2)
              exact va_copyi hx hb (hml.trans hlr.symm) hown (hts _ g) (hts _ gs_an) (hts _ gs_as) (hts _ gs_ai) kA k3 k4 k5 a b 0 1 (am_ws_at he) (am_ws_at hb2) rfl rfl rfl q1 q2 q3 (Nat.not_lt.mp q4) (Nat.not_lt.mp q5) (fun _ _ => rfl) (by omega) (by omega) hdg (fun H1 locs1 g1 g2 g3 => k List.length_set (am_oks_t (am_oks_t (am_oks_t (am_oks_t (am_oks_t hst))))) H1 locs1 (am_wd_set (e' := .inl (.int, N1, .inl (va_cpy f g9 sp.toNatClampNeg dp.toNatClampNeg n9.toNatClampNeg))) hW0 hb2 (fun ty b q => by cases q; exact ⟨_, rfl⟩) trivial g1 g2 g3))
          · cases hp
        · cases hp
      · simp only [am_spc] at hp
        split at hp
        · rename_i t j r
          cases hlo : am_low r && Nat.blt j 2 with
          | false => rw [hlo] at hp; cases hp
          | true =>
          rw [hlo] at hp
          cases hp
          obtain ⟨hl1, hl2⟩ := am_and hlo
          exact hIA x j t r hf hdg (am_bl hl2) hl1 (k rfl (am_oks_c (am_okv_i _ _) (am_oks_t (am_oks_t hst))) _ _ hW0)
        · cases hp
      · cases hp
      · simp only [am_spc] at hp
        split at hp
        · rename_i y x9 r
          cases hlo : am_low r with
          | false => rw [hlo] at hp; cases hp
          | true =>
          rw [hlo] at hp
          cases hp
          have hl0 := am_low_le hlo ad sa
          exact va_mmax hx hb (hml.trans hlr.symm) hown (hts _ g) (hts _ gs_smax) (hts _ gs_mi) (hts _ gs_cmax) (by omega) (by omega) hce hsl hdg (k rfl (am_oks_c (am_okv_i _ _) (am_oks_t (am_oks_t hst))) _ _ hW0)
        · cases hp
      · simp only [am_spc] at hp
        split at hp
        · rename_i y x9 r
          cases hlo : am_low r with
          | false => rw [hlo] at hp; cases hp
          | true =>
          rw [hlo] at hp
          cases hp
          have hl0 := am_low_le hlo ad sa
          exact va_mmin hx hb (hml.trans hlr.symm) hown (hts _ g) (hts _ gs_smin) (hts _ gs_mi) (hts _ gs_cmin) (by omega) (by omega) hce hsl hdg (k rfl (am_oks_c (am_okv_i _ _) (am_oks_t (am_oks_t hst))) _ _ hW0)
        · cases hp
      · simp only [am_spc] at hp
        split at hp
        · rename_i y x9 r
          cases hlo : am_low r with
          | false => rw [hlo] at hp; cases hp
          | true =>
          rw [hlo] at hp
          cases hp
          have hl0 := am_low_le hlo ad sa
          exact va_mmax_long hx hb (hml.trans hlr.symm) hown (hts _ g) (hts _ gs_smaxL) (hts _ gs_mi) (hts _ gs_cmaxL) (by omega) (by omega) hce hsl hdg (k rfl (am_oks_c (am_okv_l _ _) (am_oks_t (am_oks_t hst))) _ _ hW0)
        · cases hp
      · simp only [am_spc] at hp
        split at hp
        · rename_i y x9 r
          cases hlo : am_low r with
          | false => rw [hlo] at hp; cases hp
          | true =>
          rw [hlo] at hp
          cases hp
          have hl0 := am_low_le hlo ad sa
          exact va_mmin_long hx hb (hml.trans hlr.symm) hown (hts _ g) (hts _ gs_sminL) (hts _ gs_mi) (hts _ gs_cminL) (by omega) (by omega) hce hsl hdg (k rfl (am_oks_c (am_okv_l _ _) (am_oks_t (am_oks_t hst))) _ _ hW0)
        · cases hp
    · cases hp
  | _ => exact nomatch (show (none : AmQ) = some (n, st', h') from hp)
end AmHeap2

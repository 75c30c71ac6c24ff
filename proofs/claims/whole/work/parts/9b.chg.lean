/-! change, amounts: class and model (printed by wip/whole/genchg.py) -/
set_option maxRecDepth 100000 in
set_option maxHeartbeats 4000000 in
theorem x_sopen (d : Nat) (z : Nat → Nat → Int) (f : Nat → Int → Int) (C : Nat → CuR) (T : Nat → TsR) (rc : Nat → Nat) (tl : AmH)  (K : Int) (hK : 0 ≤ K ∧ K ≤ 4) : Rx (d) m_X7_isOpen 0 (am_ent [.ref 3] 1) [] (cxW (u2 z 3 1 K) f C T rc tl) (fun rv h => ∃ r : Int, rv = some (.int (iz r)) ∧ h = cxW (u2 z 3 1 K) f C T rc tl ∧ ((r = 1 ∧ 0 < K) ∨ (r = 0 ∧ K = 0))) := by
  refine Rx.walk 0 (pc' := 0) (L' := [some (.ref 3)]) (st' := []) (h' := cxW (u2 z 3 1 K) f C T rc tl) rfl ?_
  refine Rx.walk 2 (pc' := 4) (L' := [some (.ref 3)]) (st' := [.int (iz K)]) (h' := cxW (u2 z 3 1 K) f C T rc tl) rfl ?_
  refine Rx.le1 rfl rfl ⟨by omega, by omega⟩ (fun b1 => ?_) (fun b1 => ?_)
  · refine Rx.walk 1 (pc' := 12) (L' := [some (.ref 3)]) (st' := [.int (iz 0)]) (h' := cxW (u2 z 3 1 K) f C T rc tl) rfl ?_
    refine Rx.ret rfl ?_
    exact ⟨_, rfl, rfl, (by omega)⟩
  · refine Rx.walk 2 (pc' := 12) (L' := [some (.ref 3)]) (st' := [.int (iz 1)]) (h' := cxW (u2 z 3 1 K) f C T rc tl) rfl ?_
    refine Rx.ret rfl ?_
    exact ⟨_, rfl, rfl, (by omega)⟩
set_option maxRecDepth 100000 in
set_option maxHeartbeats 4000000 in
theorem x_hasKind (d : Nat) (z : Nat → Nat → Int) (f : Nat → Int → Int) (C : Nat → CuR) (T : Nat → TsR) (rc : Nat → Nat) (tl : AmH)  (k : Int) (K : Int) (hK : 0 ≤ K ∧ K ≤ 4) (hk : bI k) : Rx (d) m_X7_hasKind 0 (am_ent [.ref 3, .int (iz k)] 2) [] (cxW (u2 z 3 1 K) f C T rc tl) (fun rv h => ∃ r : Int, rv = some (.int (iz r)) ∧ h = cxW (u2 z 3 1 K) f C T rc tl ∧ ((r = 1 ∧ 0 ≤ k ∧ k < K) ∨ (r = 0 ∧ ¬ (0 ≤ k ∧ k < K)))) := by
  obtain ⟨hk1, hk2⟩ := id hk
  refine Rx.walk 0 (pc' := 0) (L' := [some (.ref 3), some (.int (iz k))]) (st' := []) (h' := cxW (u2 z 3 1 K) f C T rc tl) rfl ?_
  refine Rx.walk 1 (pc' := 1) (L' := [some (.ref 3), some (.int (iz k))]) (st' := [.int (iz k)]) (h' := cxW (u2 z 3 1 K) f C T rc tl) rfl ?_
  refine Rx.lt1 rfl rfl ⟨by omega, by omega⟩ (fun b1 => ?_) (fun b1 => ?_)
  · refine Rx.walk 1 (pc' := 17) (L' := [some (.ref 3), some (.int (iz k))]) (st' := [.int (iz 0)]) (h' := cxW (u2 z 3 1 K) f C T rc tl) rfl ?_
    refine Rx.ret rfl ?_
    exact ⟨_, rfl, rfl, (by omega)⟩
  · refine Rx.walk 3 (pc' := 9) (L' := [some (.ref 3), some (.int (iz k))]) (st' := [.int (iz K), .int (iz k)]) (h' := cxW (u2 z 3 1 K) f C T rc tl) rfl ?_
    refine Rx.ge2 rfl rfl ⟨by omega, by omega⟩ ⟨by omega, by omega⟩ (fun b2 => ?_) (fun b2 => ?_)
    · refine Rx.walk 1 (pc' := 17) (L' := [some (.ref 3), some (.int (iz k))]) (st' := [.int (iz 0)]) (h' := cxW (u2 z 3 1 K) f C T rc tl) rfl ?_
      refine Rx.ret rfl ?_
      exact ⟨_, rfl, rfl, (by omega)⟩
    · refine Rx.walk 2 (pc' := 17) (L' := [some (.ref 3), some (.int (iz k))]) (st' := [.int (iz 1)]) (h' := cxW (u2 z 3 1 K) f C T rc tl) rfl ?_
      refine Rx.ret rfl ?_
      exact ⟨_, rfl, rfl, (by omega)⟩
set_option maxRecDepth 100000 in
set_option maxHeartbeats 4000000 in
theorem x_hasPipe (d : Nat) (z : Nat → Nat → Int) (f : Nat → Int → Int) (C : Nat → CuR) (T : Nat → TsR) (rc : Nat → Nat) (tl : AmH)  (k : Int) (pi_ : Int) (hK : 0 ≤ pi_ ∧ pi_ ≤ 2) (hk : bI k) : Rx (d) m_X7_hasPipe 0 (am_ent [.ref 3, .int (iz k)] 2) [] (cxW (u2 z 3 2 pi_) f C T rc tl) (fun rv h => ∃ r : Int, rv = some (.int (iz r)) ∧ h = cxW (u2 z 3 2 pi_) f C T rc tl ∧ ((r = 1 ∧ 0 ≤ k ∧ k < pi_) ∨ (r = 0 ∧ ¬ (0 ≤ k ∧ k < pi_)))) := by
  obtain ⟨hk1, hk2⟩ := id hk
  refine Rx.walk 0 (pc' := 0) (L' := [some (.ref 3), some (.int (iz k))]) (st' := []) (h' := cxW (u2 z 3 2 pi_) f C T rc tl) rfl ?_
  refine Rx.walk 1 (pc' := 1) (L' := [some (.ref 3), some (.int (iz k))]) (st' := [.int (iz k)]) (h' := cxW (u2 z 3 2 pi_) f C T rc tl) rfl ?_
  refine Rx.lt1 rfl rfl ⟨by omega, by omega⟩ (fun b1 => ?_) (fun b1 => ?_)
  · refine Rx.walk 1 (pc' := 17) (L' := [some (.ref 3), some (.int (iz k))]) (st' := [.int (iz 0)]) (h' := cxW (u2 z 3 2 pi_) f C T rc tl) rfl ?_
    refine Rx.ret rfl ?_
    exact ⟨_, rfl, rfl, (by omega)⟩
  · refine Rx.walk 3 (pc' := 9) (L' := [some (.ref 3), some (.int (iz k))]) (st' := [.int (iz pi_), .int (iz k)]) (h' := cxW (u2 z 3 2 pi_) f C T rc tl) rfl ?_
    refine Rx.ge2 rfl rfl ⟨by omega, by omega⟩ ⟨by omega, by omega⟩ (fun b2 => ?_) (fun b2 => ?_)
    · refine Rx.walk 1 (pc' := 17) (L' := [some (.ref 3), some (.int (iz k))]) (st' := [.int (iz 0)]) (h' := cxW (u2 z 3 2 pi_) f C T rc tl) rfl ?_
      refine Rx.ret rfl ?_
      exact ⟨_, rfl, rfl, (by omega)⟩
    · refine Rx.walk 2 (pc' := 17) (L' := [some (.ref 3), some (.int (iz k))]) (st' := [.int (iz 1)]) (h' := cxW (u2 z 3 2 pi_) f C T rc tl) rfl ?_
      refine Rx.ret rfl ?_
      exact ⟨_, rfl, rfl, (by omega)⟩
set_option maxRecDepth 100000 in
set_option maxHeartbeats 4000000 in
theorem n_isIn (d : Nat) (h0 : AmH)  (v : Int) (a : Int) (b : Int) (h1 : bJ v) (h2 : bJ a) (h3 : bJ b) : Rx (d) m_X12_isIn 0 (am_ent [.long (jz v), .long (jz a), .long (jz b)] 6) [] (h0) (fun rv h => ∃ r : Int, rv = some (.int (iz r)) ∧ h0 = h ∧ ((r = 1 ∧ a ≤ v ∧ v ≤ b) ∨ (r = 0 ∧ ¬ (a ≤ v ∧ v ≤ b)))) := by
  obtain ⟨h1a, h1b⟩ := id h1
  obtain ⟨h2a, h2b⟩ := id h2
  obtain ⟨h3a, h3b⟩ := id h3
  refine Rx.walk 0 (pc' := 0) (L' := [some (.long (jz v)), none, some (.long (jz a)), none, some (.long (jz b)), none]) (st' := []) (h' := h0) rfl ?_
  refine Rx.walk 2 (pc' := 2) (L' := [some (.long (jz v)), none, some (.long (jz a)), none, some (.long (jz b)), none]) (st' := [.long (jz a), .long (jz v)]) (h' := h0) rfl ?_
  refine Rx.lcmp rfl ⟨by omega, by omega⟩ ⟨by omega, by omega⟩ ?_
  refine Rx.ltc rfl rfl (fun b1 => ?_) (fun b1 => ?_)
  · refine Rx.walk 1 (pc' := 18) (L' := [some (.long (jz v)), none, some (.long (jz a)), none, some (.long (jz b)), none]) (st' := [.int (iz 0)]) (h' := h0) rfl ?_
    refine Rx.ret rfl ?_
    exact ⟨_, rfl, rfl, (by omega)⟩
  · refine Rx.walk 2 (pc' := 9) (L' := [some (.long (jz v)), none, some (.long (jz a)), none, some (.long (jz b)), none]) (st' := [.long (jz b), .long (jz v)]) (h' := h0) rfl ?_
    refine Rx.lcmp rfl ⟨by omega, by omega⟩ ⟨by omega, by omega⟩ ?_
    refine Rx.gtc rfl rfl (fun b2 => ?_) (fun b2 => ?_)
    · refine Rx.walk 1 (pc' := 18) (L' := [some (.long (jz v)), none, some (.long (jz a)), none, some (.long (jz b)), none]) (st' := [.int (iz 0)]) (h' := h0) rfl ?_
      refine Rx.ret rfl ?_
      exact ⟨_, rfl, rfl, (by omega)⟩
    · refine Rx.walk 2 (pc' := 18) (L' := [some (.long (jz v)), none, some (.long (jz a)), none, some (.long (jz b)), none]) (st' := [.int (iz 1)]) (h' := h0) rfl ?_
      refine Rx.ret rfl ?_
      exact ⟨_, rfl, rfl, (by omega)⟩
set_option maxRecDepth 100000 in
set_option maxHeartbeats 4000000 in
theorem x_change (d : Nat) (z : Nat → Nat → Int) (f : Nat → Int → Int) (C : Nat → CuR) (T : Nat → TsR) (rc : Nat → Nat) (tl : AmH)  (much : Int) (what : Int) (sd : Int) (K : Int) (w : Int → Int) (tr : Int) (len : Int) (pi_ : Int) (p0 : Int) (p1 : Int) (t0 : Int) (ot : Int) (wh : Int) (tl_ : Int) (qd : Int) (ed : Int) (st : Int) (R0 : Int → Int) (R1 : Int → Int) (K0 : Int → Int) (K1 : Int → Int) (q : Int → Int) (mo : Int → Int) (sm : Int → Int) (en : Int → Int) (hmu : bI much) (hwh : bI what) (hK : 0 ≤ K ∧ K ≤ 4) (hw : wOK w) (htr : 0 ≤ tr ∧ tr ≤ 1) (hlen : 1 ≤ len ∧ len ≤ 5) (hpi : 0 ≤ pi_ ∧ pi_ ≤ 2) (hp0 : 0 ≤ p0 ∧ p0 < 3125) (hp1 : 0 ≤ p1 ∧ p1 < 3125) (ht0 : 0 ≤ t0) (ht4 : t0 ≤ 4) (hti : sd = tn p0 p1 t0) (hS : pyS st sm) (hst : st + 1 < 2147483647) : Rx (d + 3) m_X11_change 0 (am_ent [.ref 0, .int (iz much), .int (iz what)] 4) [] (cxW (u2 (u2 (u2 (u2 (u2 (u2 (u2 (u2 (u2 (u2 (u2 z 0 9 sd) 3 1 K) 3 2 pi_) 3 3 len) 3 4 tr) 46 3 ot) 46 5 qd) 46 8 st) 46 10 ed) 46 11 wh) 46 12 tl_) (uf (uf (uf (uf (uf (uf (uf (uf (uf f 4 w) 48 R0) 49 R1) 51 K0) 52 K1) 53 q) 54 mo) 55 sm) 56 en) C T rc tl) (fun rv h => ∃ r : Int, ∃ ot' : Int, ∃ wh' : Int, ∃ tl_' : Int, ∃ qd' : Int, ∃ ed' : Int, ∃ st' : Int, ∃ R0' : Int → Int, ∃ R1' : Int → Int, ∃ K0' : Int → Int, ∃ K1' : Int → Int, ∃ q' : Int → Int, ∃ mo' : Int → Int, ∃ sm' : Int → Int, ∃ en' : Int → Int, rv = some (.int (iz r)) ∧ h = cxW (u2 (u2 (u2 (u2 (u2 (u2 (u2 (u2 (u2 (u2 (u2 z 0 9 sd) 3 1 K) 3 2 pi_) 3 3 len) 3 4 tr) 46 3 ot') 46 5 qd') 46 8 st') 46 10 ed') 46 11 wh') 46 12 tl_') (uf (uf (uf (uf (uf (uf (uf (uf (uf f 4 w) 48 R0') 49 R1') 51 K0') 52 K1') 53 q') 54 mo') 55 sm') 56 en') C T rc tl ∧ pyS st' sm' ∧ (st ≤ st' ∧ st' ≤ st + 1) ∧ (((K ≤ 0 ∨ much < 1 ∨ 99 < much ∨ what < 0 ∨ 1 < what) ∧ r = -2) ∨ (0 < K ∧ 1 ≤ much ∧ much ≤ 99 ∧ 0 ≤ what ∧ what ≤ 1 ∧ ∃ q, chR w tr (p0, p1, t0, much) q ∧ ((what = 1 ∧ r = q) ∨ (what = 0 ∧ ((q = -1 ∧ r = 0) ∨ (q ≠ -1 ∧ r = 1))))))) := by
  obtain ⟨hmu1, hmu2⟩ := id hmu
  obtain ⟨hwh1, hwh2⟩ := id hwh
  have hS0 := hS.1
  refine Rx.walk 0 (pc' := 0) (L' := [some (.ref 0), some (.int (iz much)), some (.int (iz what)), none]) (st' := []) (h' := cxW (u2 (u2 (u2 (u2 (u2 (u2 (u2 (u2 (u2 (u2 (u2 z 0 9 sd) 3 1 K) 3 2 pi_) 3 3 len) 3 4 tr) 46 3 ot) 46 5 qd) 46 8 st) 46 10 ed) 46 11 wh) 46 12 tl_) (uf (uf (uf (uf (uf (uf (uf (uf (uf f 4 w) 48 R0) 49 R1) 51 K0) 52 K1) 53 q) 54 mo) 55 sm) 56 en) C T rc tl) rfl ?_
  refine Rx.walk 2 (pc' := 4) (L' := [some (.ref 0), some (.int (iz much)), some (.int (iz what)), none]) (st' := [.ref 3]) (h' := cxW (u2 (u2 (u2 (u2 (u2 (u2 (u2 (u2 (u2 (u2 (u2 z 0 9 sd) 3 1 K) 3 2 pi_) 3 3 len) 3 4 tr) 46 3 ot) 46 5 qd) 46 8 st) 46 10 ed) 46 11 wh) 46 12 tl_) (uf (uf (uf (uf (uf (uf (uf (uf (uf f 4 w) 48 R0) 49 R1) 51 K0) 52 K1) 53 q) 54 mo) 55 sm) 56 en) C T rc tl) rfl ?_
  refine Rx.callx (m' := m_X7_isOpen) (as := [.ref 3]) (rest := []) rfl (x_sopen _ (u2 (u2 (u2 (u2 (u2 (u2 (u2 (u2 (u2 (u2 (u2 z 0 9 sd) 3 1 K) 3 2 pi_) 3 3 len) 3 4 tr) 46 3 ot) 46 5 qd) 46 8 st) 46 10 ed) 46 11 wh) 46 12 tl_) (uf (uf (uf (uf (uf (uf (uf (uf (uf f 4 w) 48 R0) 49 R1) 51 K0) 52 K1) 53 q) 54 mo) 55 sm) 56 en) C T rc tl  K (by first | assumption | omega)) (fun v3 h4 q5 => ?_)
  obtain ⟨r_1, rfl, rfl, f2⟩ := q5
  refine Rx.walk 0 (pc' := 7) (L' := [some (.ref 0), some (.int (iz much)), some (.int (iz what)), none]) (st' := [.int (iz r_1)]) (h' := cxW (u2 (u2 (u2 (u2 (u2 (u2 (u2 (u2 (u2 (u2 (u2 z 0 9 sd) 3 1 K) 3 2 pi_) 3 3 len) 3 4 tr) 46 3 ot) 46 5 qd) 46 8 st) 46 10 ed) 46 11 wh) 46 12 tl_) (uf (uf (uf (uf (uf (uf (uf (uf (uf f 4 w) 48 R0) 49 R1) 51 K0) 52 K1) 53 q) 54 mo) 55 sm) 56 en) C T rc tl) rfl ?_
  refine Rx.eq1 rfl rfl ⟨by omega, by omega⟩ (fun b6 => ?_) (fun b6 => ?_)
  · refine Rx.walk 1 (pc' := 32) (L' := [some (.ref 0), some (.int (iz much)), some (.int (iz what)), none]) (st' := [.int (iz (-2))]) (h' := cxW (u2 (u2 (u2 (u2 (u2 (u2 (u2 (u2 (u2 (u2 (u2 z 0 9 sd) 3 1 K) 3 2 pi_) 3 3 len) 3 4 tr) 46 3 ot) 46 5 qd) 46 8 st) 46 10 ed) 46 11 wh) 46 12 tl_) (uf (uf (uf (uf (uf (uf (uf (uf (uf f 4 w) 48 R0) 49 R1) 51 K0) 52 K1) 53 q) 54 mo) 55 sm) 56 en) C T rc tl) rfl ?_
    refine Rx.ret rfl ?_
    exact ⟨_, _, _, _, _, _, _, _, _, _, _, _, _, _, _, rfl, rfl, hS, ⟨by omega, by omega⟩, Or.inl ⟨by omega, rfl⟩⟩
  · refine Rx.walk 2 (pc' := 12) (L' := [some (.ref 0), some (.int (iz much)), some (.int (iz what)), none]) (st' := [.int (iz 1), .int (iz much)]) (h' := cxW (u2 (u2 (u2 (u2 (u2 (u2 (u2 (u2 (u2 (u2 (u2 z 0 9 sd) 3 1 K) 3 2 pi_) 3 3 len) 3 4 tr) 46 3 ot) 46 5 qd) 46 8 st) 46 10 ed) 46 11 wh) 46 12 tl_) (uf (uf (uf (uf (uf (uf (uf (uf (uf f 4 w) 48 R0) 49 R1) 51 K0) 52 K1) 53 q) 54 mo) 55 sm) 56 en) C T rc tl) rfl ?_
    refine Rx.lt2 rfl rfl ⟨by omega, by omega⟩ ⟨by omega, by omega⟩ (fun b7 => ?_) (fun b7 => ?_)
    · refine Rx.walk 1 (pc' := 32) (L' := [some (.ref 0), some (.int (iz much)), some (.int (iz what)), none]) (st' := [.int (iz (-2))]) (h' := cxW (u2 (u2 (u2 (u2 (u2 (u2 (u2 (u2 (u2 (u2 (u2 z 0 9 sd) 3 1 K) 3 2 pi_) 3 3 len) 3 4 tr) 46 3 ot) 46 5 qd) 46 8 st) 46 10 ed) 46 11 wh) 46 12 tl_) (uf (uf (uf (uf (uf (uf (uf (uf (uf f 4 w) 48 R0) 49 R1) 51 K0) 52 K1) 53 q) 54 mo) 55 sm) 56 en) C T rc tl) rfl ?_
      refine Rx.ret rfl ?_
      exact ⟨_, _, _, _, _, _, _, _, _, _, _, _, _, _, _, rfl, rfl, hS, ⟨by omega, by omega⟩, Or.inl ⟨by omega, rfl⟩⟩
    · refine Rx.walk 2 (pc' := 18) (L' := [some (.ref 0), some (.int (iz much)), some (.int (iz what)), none]) (st' := [.int (iz 99), .int (iz much)]) (h' := cxW (u2 (u2 (u2 (u2 (u2 (u2 (u2 (u2 (u2 (u2 (u2 z 0 9 sd) 3 1 K) 3 2 pi_) 3 3 len) 3 4 tr) 46 3 ot) 46 5 qd) 46 8 st) 46 10 ed) 46 11 wh) 46 12 tl_) (uf (uf (uf (uf (uf (uf (uf (uf (uf f 4 w) 48 R0) 49 R1) 51 K0) 52 K1) 53 q) 54 mo) 55 sm) 56 en) C T rc tl) rfl ?_
      refine Rx.gt2 rfl rfl ⟨by omega, by omega⟩ ⟨by omega, by omega⟩ (fun b8 => ?_) (fun b8 => ?_)
      · refine Rx.walk 1 (pc' := 32) (L' := [some (.ref 0), some (.int (iz much)), some (.int (iz what)), none]) (st' := [.int (iz (-2))]) (h' := cxW (u2 (u2 (u2 (u2 (u2 (u2 (u2 (u2 (u2 (u2 (u2 z 0 9 sd) 3 1 K) 3 2 pi_) 3 3 len) 3 4 tr) 46 3 ot) 46 5 qd) 46 8 st) 46 10 ed) 46 11 wh) 46 12 tl_) (uf (uf (uf (uf (uf (uf (uf (uf (uf f 4 w) 48 R0) 49 R1) 51 K0) 52 K1) 53 q) 54 mo) 55 sm) 56 en) C T rc tl) rfl ?_
        refine Rx.ret rfl ?_
        exact ⟨_, _, _, _, _, _, _, _, _, _, _, _, _, _, _, rfl, rfl, hS, ⟨by omega, by omega⟩, Or.inl ⟨by omega, rfl⟩⟩
      · refine Rx.walk 1 (pc' := 22) (L' := [some (.ref 0), some (.int (iz much)), some (.int (iz what)), none]) (st' := [.int (iz what)]) (h' := cxW (u2 (u2 (u2 (u2 (u2 (u2 (u2 (u2 (u2 (u2 (u2 z 0 9 sd) 3 1 K) 3 2 pi_) 3 3 len) 3 4 tr) 46 3 ot) 46 5 qd) 46 8 st) 46 10 ed) 46 11 wh) 46 12 tl_) (uf (uf (uf (uf (uf (uf (uf (uf (uf f 4 w) 48 R0) 49 R1) 51 K0) 52 K1) 53 q) 54 mo) 55 sm) 56 en) C T rc tl) rfl ?_
        refine Rx.lt1 rfl rfl ⟨by omega, by omega⟩ (fun b9 => ?_) (fun b9 => ?_)
        · refine Rx.walk 1 (pc' := 32) (L' := [some (.ref 0), some (.int (iz much)), some (.int (iz what)), none]) (st' := [.int (iz (-2))]) (h' := cxW (u2 (u2 (u2 (u2 (u2 (u2 (u2 (u2 (u2 (u2 (u2 z 0 9 sd) 3 1 K) 3 2 pi_) 3 3 len) 3 4 tr) 46 3 ot) 46 5 qd) 46 8 st) 46 10 ed) 46 11 wh) 46 12 tl_) (uf (uf (uf (uf (uf (uf (uf (uf (uf f 4 w) 48 R0) 49 R1) 51 K0) 52 K1) 53 q) 54 mo) 55 sm) 56 en) C T rc tl) rfl ?_
          refine Rx.ret rfl ?_
          exact ⟨_, _, _, _, _, _, _, _, _, _, _, _, _, _, _, rfl, rfl, hS, ⟨by omega, by omega⟩, Or.inl ⟨by omega, rfl⟩⟩
        · refine Rx.walk 2 (pc' := 27) (L' := [some (.ref 0), some (.int (iz much)), some (.int (iz what)), none]) (st' := [.int (iz 1), .int (iz what)]) (h' := cxW (u2 (u2 (u2 (u2 (u2 (u2 (u2 (u2 (u2 (u2 (u2 z 0 9 sd) 3 1 K) 3 2 pi_) 3 3 len) 3 4 tr) 46 3 ot) 46 5 qd) 46 8 st) 46 10 ed) 46 11 wh) 46 12 tl_) (uf (uf (uf (uf (uf (uf (uf (uf (uf f 4 w) 48 R0) 49 R1) 51 K0) 52 K1) 53 q) 54 mo) 55 sm) 56 en) C T rc tl) rfl ?_
          refine Rx.le2 rfl rfl ⟨by omega, by omega⟩ ⟨by omega, by omega⟩ (fun b10 => ?_) (fun b10 => ?_)
          · refine Rx.walk 4 (pc' := 41) (L' := [some (.ref 0), some (.int (iz much)), some (.int (iz what)), none]) (st' := [.int (iz sd), .ref 46]) (h' := cxW (u2 (u2 (u2 (u2 (u2 (u2 (u2 (u2 (u2 (u2 (u2 z 0 9 sd) 3 1 K) 3 2 pi_) 3 3 len) 3 4 tr) 46 3 ot) 46 5 qd) 46 8 st) 46 10 ed) 46 11 wh) 46 12 tl_) (uf (uf (uf (uf (uf (uf (uf (uf (uf f 4 w) 48 R0) 49 R1) 51 K0) 52 K1) 53 q) 54 mo) 55 sm) 56 en) C T rc tl) rfl ?_
            refine Rx.callx (m' := m_X4_startsFrom) (as := [.ref 46, .int (iz sd)]) (rest := []) rfl (x_startsFrom _ (u2 (u2 (u2 (u2 (u2 (u2 (u2 (u2 (u2 (u2 (u2 z 0 9 sd) 3 1 K) 3 2 pi_) 3 3 len) 3 4 tr) 46 3 ot) 46 5 qd) 46 8 st) 46 10 ed) 46 11 wh) 46 12 tl_) (uf (uf (uf (uf (uf (uf (uf (uf (uf f 4 w) 48 R0) 49 R1) 51 K0) 52 K1) 53 q) 54 mo) 55 sm) 56 en) C T rc tl  sd p0 p1 t0 ot wh R0 R1 K0 K1 w (by first | assumption | omega) (by first | assumption | omega) (by first | assumption | omega) (by first | assumption | omega) (by first | assumption | omega) hti) (fun v21 h22 q23 => ?_)
            obtain ⟨wh_11, R0_12, R1_13, K0_14, K1_15, rfl, rfl, f16, f17, f18, f19, f20⟩ := q23
            refine Rx.walk 0 (pc' := 44) (L' := [some (.ref 0), some (.int (iz much)), some (.int (iz what)), none]) (st' := []) (h' := cxW (u2 (u2 (u2 (u2 (u2 (u2 (u2 (u2 (u2 (u2 (u2 z 0 9 sd) 3 1 K) 3 2 pi_) 3 3 len) 3 4 tr) 46 3 t0) 46 5 qd) 46 8 st) 46 10 ed) 46 11 wh_11) 46 12 tl_) (uf (uf (uf (uf (uf (uf (uf (uf (uf f 4 w) 48 R0_12) 49 R1_13) 51 K0_14) 52 K1_15) 53 q) 54 mo) 55 sm) 56 en) C T rc tl) rfl ?_
            refine Rx.walk 3 (pc' := 49) (L' := [some (.ref 0), some (.int (iz much)), some (.int (iz what)), none]) (st' := [.int (iz much), .ref 46]) (h' := cxW (u2 (u2 (u2 (u2 (u2 (u2 (u2 (u2 (u2 (u2 (u2 z 0 9 sd) 3 1 K) 3 2 pi_) 3 3 len) 3 4 tr) 46 3 t0) 46 5 qd) 46 8 st) 46 10 ed) 46 11 wh_11) 46 12 tl_) (uf (uf (uf (uf (uf (uf (uf (uf (uf f 4 w) 48 R0_12) 49 R1_13) 51 K0_14) 52 K1_15) 53 q) 54 mo) 55 sm) 56 en) C T rc tl) rfl ?_
            refine Rx.callx (m' := m_X4_search) (as := [.ref 46, .int (iz much)]) (rest := []) rfl (x_search _ (u2 (u2 (u2 (u2 (u2 (u2 (u2 (u2 (u2 (u2 (u2 z 0 9 sd) 3 1 K) 3 2 pi_) 3 3 len) 3 4 tr) 46 3 t0) 46 5 qd) 46 8 st) 46 10 ed) 46 11 wh_11) 46 12 tl_) (uf (uf (uf (uf (uf (uf (uf (uf (uf f 4 w) 48 R0_12) 49 R1_13) 51 K0_14) 52 K1_15) 53 q) 54 mo) 55 sm) 56 en) C T rc tl  w R0_12 R1_13 K0_14 K1_15 tr st t0 wh_11 much qd ed q mo sm en (by first | assumption | omega) f16 f17 (by first | assumption | omega) (by first | assumption | omega) f20 (by first | assumption | omega) (by first | assumption | omega) (by first | assumption | omega) (by first | assumption | omega) hS.2 (by first | assumption | omega)) (fun v37 h38 q39 => ?_)
            obtain ⟨r_24, st_25, qd_26, ed_27, q_28, mo_29, sm_30, en_31, rfl, rfl, f32, f33, f34, f35, f36⟩ := q39
            refine Rx.walk 0 (pc' := 52) (L' := [some (.ref 0), some (.int (iz much)), some (.int (iz what)), none]) (st' := [.int (iz r_24)]) (h' := cxW (u2 (u2 (u2 (u2 (u2 (u2 (u2 (u2 (u2 (u2 (u2 z 0 9 sd) 3 1 K) 3 2 pi_) 3 3 len) 3 4 tr) 46 3 t0) 46 5 qd_26) 46 8 st_25) 46 10 ed_27) 46 11 wh_11) 46 12 tl_) (uf (uf (uf (uf (uf (uf (uf (uf (uf f 4 w) 48 R0_12) 49 R1_13) 51 K0_14) 52 K1_15) 53 q_28) 54 mo_29) 55 sm_30) 56 en_31) C T rc tl) rfl ?_
            have hqb : -1 ≤ r_24 ∧ r_24 ≤ 21 := by rcases f36 with z | z <;> omega
            refine Rx.walk 3 (pc' := 55) (L' := [some (.ref 0), some (.int (iz much)), some (.int (iz what)), some (.int (iz r_24))]) (st' := [.int (iz 1), .int (iz what)]) (h' := cxW (u2 (u2 (u2 (u2 (u2 (u2 (u2 (u2 (u2 (u2 (u2 z 0 9 sd) 3 1 K) 3 2 pi_) 3 3 len) 3 4 tr) 46 3 t0) 46 5 qd_26) 46 8 st_25) 46 10 ed_27) 46 11 wh_11) 46 12 tl_) (uf (uf (uf (uf (uf (uf (uf (uf (uf f 4 w) 48 R0_12) 49 R1_13) 51 K0_14) 52 K1_15) 53 q_28) 54 mo_29) 55 sm_30) 56 en_31) C T rc tl) rfl ?_
            refine Rx.ne2 rfl rfl ⟨by omega, by omega⟩ ⟨by omega, by omega⟩ (fun b40 => ?_) (fun b40 => ?_)
            · refine Rx.walk 2 (pc' := 62) (L' := [some (.ref 0), some (.int (iz much)), some (.int (iz what)), some (.int (iz r_24))]) (st' := [.int (iz (-1)), .int (iz r_24)]) (h' := cxW (u2 (u2 (u2 (u2 (u2 (u2 (u2 (u2 (u2 (u2 (u2 z 0 9 sd) 3 1 K) 3 2 pi_) 3 3 len) 3 4 tr) 46 3 t0) 46 5 qd_26) 46 8 st_25) 46 10 ed_27) 46 11 wh_11) 46 12 tl_) (uf (uf (uf (uf (uf (uf (uf (uf (uf f 4 w) 48 R0_12) 49 R1_13) 51 K0_14) 52 K1_15) 53 q_28) 54 mo_29) 55 sm_30) 56 en_31) C T rc tl) rfl ?_
              refine Rx.ne2 rfl rfl ⟨by omega, by omega⟩ ⟨by omega, by omega⟩ (fun b41 => ?_) (fun b41 => ?_)
              · refine Rx.walk 1 (pc' := 70) (L' := [some (.ref 0), some (.int (iz much)), some (.int (iz what)), some (.int (iz r_24))]) (st' := [.int (iz 1)]) (h' := cxW (u2 (u2 (u2 (u2 (u2 (u2 (u2 (u2 (u2 (u2 (u2 z 0 9 sd) 3 1 K) 3 2 pi_) 3 3 len) 3 4 tr) 46 3 t0) 46 5 qd_26) 46 8 st_25) 46 10 ed_27) 46 11 wh_11) 46 12 tl_) (uf (uf (uf (uf (uf (uf (uf (uf (uf f 4 w) 48 R0_12) 49 R1_13) 51 K0_14) 52 K1_15) 53 q_28) 54 mo_29) 55 sm_30) 56 en_31) C T rc tl) rfl ?_
                refine Rx.ret rfl ?_
                have hch := sea_chR hw f16 f17 f18 f19 ht0 ht4 f35 f36
                have hqr : r_24 = -1 ∨ 0 ≤ r_24 := by rcases f36 with z | z <;> omega
                exact ⟨_, _, _, _, _, _, _, _, _, _, _, _, _, _, _, rfl, rfl, ⟨by omega, f33⟩, ⟨by omega, by omega⟩, Or.inr ⟨by omega, by omega, by omega, by omega, by omega, _, hch, by omega⟩⟩
              · refine Rx.walk 2 (pc' := 70) (L' := [some (.ref 0), some (.int (iz much)), some (.int (iz what)), some (.int (iz r_24))]) (st' := [.int (iz 0)]) (h' := cxW (u2 (u2 (u2 (u2 (u2 (u2 (u2 (u2 (u2 (u2 (u2 z 0 9 sd) 3 1 K) 3 2 pi_) 3 3 len) 3 4 tr) 46 3 t0) 46 5 qd_26) 46 8 st_25) 46 10 ed_27) 46 11 wh_11) 46 12 tl_) (uf (uf (uf (uf (uf (uf (uf (uf (uf f 4 w) 48 R0_12) 49 R1_13) 51 K0_14) 52 K1_15) 53 q_28) 54 mo_29) 55 sm_30) 56 en_31) C T rc tl) rfl ?_
                refine Rx.ret rfl ?_
                have hch := sea_chR hw f16 f17 f18 f19 ht0 ht4 f35 f36
                have hqr : r_24 = -1 ∨ 0 ≤ r_24 := by rcases f36 with z | z <;> omega
                exact ⟨_, _, _, _, _, _, _, _, _, _, _, _, _, _, _, rfl, rfl, ⟨by omega, f33⟩, ⟨by omega, by omega⟩, Or.inr ⟨by omega, by omega, by omega, by omega, by omega, _, hch, by omega⟩⟩
            · refine Rx.walk 1 (pc' := 59) (L' := [some (.ref 0), some (.int (iz much)), some (.int (iz what)), some (.int (iz r_24))]) (st' := [.int (iz r_24)]) (h' := cxW (u2 (u2 (u2 (u2 (u2 (u2 (u2 (u2 (u2 (u2 (u2 z 0 9 sd) 3 1 K) 3 2 pi_) 3 3 len) 3 4 tr) 46 3 t0) 46 5 qd_26) 46 8 st_25) 46 10 ed_27) 46 11 wh_11) 46 12 tl_) (uf (uf (uf (uf (uf (uf (uf (uf (uf f 4 w) 48 R0_12) 49 R1_13) 51 K0_14) 52 K1_15) 53 q_28) 54 mo_29) 55 sm_30) 56 en_31) C T rc tl) rfl ?_
              refine Rx.ret rfl ?_
              have hch := sea_chR hw f16 f17 f18 f19 ht0 ht4 f35 f36
              have hqr : r_24 = -1 ∨ 0 ≤ r_24 := by rcases f36 with z | z <;> omega
              exact ⟨_, _, _, _, _, _, _, _, _, _, _, _, _, _, _, rfl, rfl, ⟨by omega, f33⟩, ⟨by omega, by omega⟩, Or.inr ⟨by omega, by omega, by omega, by omega, by omega, _, hch, by omega⟩⟩
          · refine Rx.walk 1 (pc' := 32) (L' := [some (.ref 0), some (.int (iz much)), some (.int (iz what)), none]) (st' := [.int (iz (-2))]) (h' := cxW (u2 (u2 (u2 (u2 (u2 (u2 (u2 (u2 (u2 (u2 (u2 z 0 9 sd) 3 1 K) 3 2 pi_) 3 3 len) 3 4 tr) 46 3 ot) 46 5 qd) 46 8 st) 46 10 ed) 46 11 wh) 46 12 tl_) (uf (uf (uf (uf (uf (uf (uf (uf (uf f 4 w) 48 R0) 49 R1) 51 K0) 52 K1) 53 q) 54 mo) 55 sm) 56 en) C T rc tl) rfl ?_
            refine Rx.ret rfl ?_
            exact ⟨_, _, _, _, _, _, _, _, _, _, _, _, _, _, _, rfl, rfl, hS, ⟨by omega, by omega⟩, Or.inl ⟨by omega, rfl⟩⟩
set_option maxRecDepth 100000 in
set_option maxHeartbeats 4000000 in
theorem m_lifts (d : Nat) (z : Nat → Int) (zl : Nat → Int) (f : Nat → Int → Int) (fl : Nat → Int → Int) (tx : Nat)  (much : Int) (K : Int) (p0 : Int) (p1 : Int) (t : Int) (pp : Int → Int) (li : Int → Int) (ty : Int → Int) (len : Int) (pi_ : Int) (tr : Int) (va : Int → Int) (mk : Int → Int) (fw : Int → Int) (mv : Int) (w : Int → Int) (l0 : 0 ≤ much) (l1 : much < 400) (hK : 1 ≤ K) (hM : mtI K pp li ty p0 p1 t) (hh0 : ht p0 ≤ len) (hh1 : ht p1 ≤ len) (hlen : 1 ≤ len ∧ len ≤ 5) (hpi : 1 ≤ pi_ ∧ pi_ ≤ 2) (hp1 : pi_ = 1 → p1 = 0) (htr : 0 ≤ tr ∧ tr ≤ 1) (hw : wOK w) (hva : ∀ k : Int, 0 ≤ k → k < K → va k = w (k + 1)) (hmv : 0 ≤ mv) (hmk : ∀ j : Int, 0 ≤ j → j < 72000 → 0 ≤ mk j ∧ mk j ≤ mv) (hmv2 : mv + 1 < 2147483648) : Rx (d + 30) m_X12_lifts 0 (am_ent [.ref 0, .int (iz much)] 2) [] (cmH (u1 (u1 (u1 (u1 (u1 z 21 K) 22 pi_) 23 len) 24 tr) 40 mv) zl (uf (uf (uf (uf (uf (uf f 5 va) 10 pp) 11 li) 12 ty) 16 mk) 25 fw) fl tx) (fun rv h => ∃ r : Int, ∃ mk' : Int → Int, ∃ fw' : Int → Int, rv = some (.int (iz r)) ∧ h = cmH (u1 (u1 (u1 (u1 (u1 z 21 K) 22 pi_) 23 len) 24 tr) 40 (mv + 1)) zl (uf (uf (uf (uf (uf (uf f 5 va) 10 pp) 11 li) 12 ty) 16 mk') 25 fw') fl tx ∧ (∀ j : Int, 0 ≤ j → j < 72000 → 0 ≤ mk' j ∧ mk' j ≤ mv + 1) ∧ (0 ≤ r ∧ r ≤ 99) ∧ ((99 ≤ r ∧ chR w tr (p0, p1, t, much) (-1)) ∨ (r < 99 ∧ chR w tr (p0, p1, t, much) r))) := by
  obtain ⟨⟨hm1, hm2, hm3⟩, ⟨hm4, hm5, hm6⟩, hm7, hm8, hm9⟩ := mtI_b hM
  obtain ⟨a0, ha0⟩ := pfx_ex hm1 hm2
  obtain ⟨a1, ha1⟩ := pfx_ex hm4 hm5
  have hz0 := ht_c p0
  have hz1 := ht_c p1
  have htb := tbit_c t
  refine Rx.walk 0 (pc' := 0) (L' := [some (.ref 0), some (.int (iz much))]) (st' := []) (h' := cmH (u1 (u1 (u1 (u1 (u1 z 21 K) 22 pi_) 23 len) 24 tr) 40 mv) zl (uf (uf (uf (uf (uf (uf f 5 va) 10 pp) 11 li) 12 ty) 16 mk) 25 fw) fl tx) rfl ?_
  refine Rx.walk 4 (pc' := 6) (L' := [some (.ref 0), some (.int (iz much))]) (st' := [.int (iz 1), .int (iz mv), .ref 0]) (h' := cmH (u1 (u1 (u1 (u1 (u1 z 21 K) 22 pi_) 23 len) 24 tr) 40 mv) zl (uf (uf (uf (uf (uf (uf f 5 va) 10 pp) 11 li) 12 ty) 16 mk) 25 fw) fl tx) rfl ?_
  refine Rx.iadd rfl ?_
  refine Rx.walk 3 (pc' := 12) (L' := [some (.ref 0), some (.int (iz much))]) (st' := [.int (iz much), .ref 0]) (h' := cmH (u1 (u1 (u1 (u1 (u1 z 21 K) 22 pi_) 23 len) 24 tr) 40 (mv + 1)) zl (uf (uf (uf (uf (uf (uf f 5 va) 10 pp) 11 li) 12 ty) 16 mk) 25 fw) fl tx) rfl ?_
  refine Rx.callx (m' := m_X12_liftsFor) (as := [.ref 0, .int (iz much)]) (rest := []) rfl (m_liftsFor _ 22 (u1 (u1 (u1 (u1 (u1 z 21 K) 22 pi_) 23 len) 24 tr) 40 (mv + 1)) zl (uf (uf (uf (uf (uf (uf f 5 va) 10 pp) 11 li) 12 ty) 16 mk) 25 fw) fl tx  much K p0 p1 t pp li ty len pi_ tr va mk fw (mv + 1) w a0 a1 (by first | assumption | omega) (by first | assumption | omega) (by first | assumption | omega) (by first | assumption | omega) (by first | assumption | omega) (by first | assumption | omega) (by first | assumption | omega) (by first | assumption | omega) (by first | assumption | omega) (by first | assumption | omega) (by first | assumption | omega) (by first | assumption | omega) ⟨by omega, by omega⟩ (by first | assumption | omega) (by first | assumption | omega) (fun j a b => ⟨by have := hmk j a b; omega, fun q => by have := hmk j a b; omega⟩) (by omega)) (fun v9 h10 q11 => ?_)
  obtain ⟨r_1, pp_2, li_3, ty_4, mk_5, fw_6, rfl, rfl, rfl, rfl, rfl, f7, f8⟩ := q11
  refine Rx.walk 0 (pc' := 15) (L' := [some (.ref 0), some (.int (iz much))]) (st' := [.int (iz r_1)]) (h' := cmH (u1 (u1 (u1 (u1 (u1 z 21 K) 22 pi_) 23 len) 24 tr) 40 (mv + 1)) zl (uf (uf (uf (uf (uf (uf f 5 va) 10 pp) 11 li) 12 ty) 16 mk_5) 25 fw_6) fl tx) rfl ?_
  refine Rx.ret rfl ?_
  exact ⟨_, _, _, rfl, rfl, fun j a b => (f7 j a b).1, ⟨f8.1, f8.2.1⟩, lfR_chR hw ⟨hm1, hm2⟩ ⟨hm4, hm5⟩ hm7 (by omega) f8⟩
set_option maxRecDepth 100000 in
set_option maxHeartbeats 4000000 in
theorem m_change (d : Nat) (z : Nat → Int) (zl : Nat → Int) (f : Nat → Int → Int) (fl : Nat → Int → Int) (tx : Nat)  (much : Int) (what : Int) (K : Int) (p0 : Int) (p1 : Int) (t : Int) (pp : Int → Int) (li : Int → Int) (ty : Int → Int) (len : Int) (pi_ : Int) (tr : Int) (va : Int → Int) (mk : Int → Int) (fw : Int → Int) (mv : Int) (w : Int → Int) (hmu : bI much) (hwh : bI what) (hK0 : 0 ≤ K ∧ K ≤ 4) (hop : 0 < K → (1 ≤ len ∧ len ≤ 5) ∧ (1 ≤ pi_ ∧ pi_ ≤ 2)) (hM : mtI K pp li ty p0 p1 t) (hh0 : ht p0 ≤ len) (hh1 : ht p1 ≤ len) (hp1 : pi_ = 1 → p1 = 0) (htr : 0 ≤ tr ∧ tr ≤ 1) (hw : wOK w) (hva : ∀ k : Int, 0 ≤ k → k < K → va k = w (k + 1)) (hmv : 0 ≤ mv) (hmk : ∀ j : Int, 0 ≤ j → j < 72000 → 0 ≤ mk j ∧ mk j ≤ mv) (hmv2 : mv + 1 < 2147483648) : Rx (d + 31) m_X12_change 0 (am_ent [.ref 0, .int (iz much), .int (iz what)] 4) [] (cmH (u1 (u1 (u1 (u1 (u1 z 21 K) 22 pi_) 23 len) 24 tr) 40 mv) zl (uf (uf (uf (uf (uf (uf f 5 va) 10 pp) 11 li) 12 ty) 16 mk) 25 fw) fl tx) (fun rv h => ∃ r : Int, ∃ mk' : Int → Int, ∃ fw' : Int → Int, ∃ mv' : Int, rv = some (.int (iz r)) ∧ h = cmH (u1 (u1 (u1 (u1 (u1 (u1 z 0 0) 21 K) 22 pi_) 23 len) 24 tr) 40 mv') zl (uf (uf (uf (uf (uf (uf f 5 va) 10 pp) 11 li) 12 ty) 16 mk') 25 fw') fl tx ∧ (mv ≤ mv' ∧ mv' ≤ mv + 1) ∧ (∀ j : Int, 0 ≤ j → j < 72000 → 0 ≤ mk' j ∧ mk' j ≤ mv') ∧ (((K ≤ 0 ∨ much < 1 ∨ 99 < much ∨ what < 0 ∨ 1 < what) ∧ r = -2) ∨ (0 < K ∧ 1 ≤ much ∧ much ≤ 99 ∧ 0 ≤ what ∧ what ≤ 1 ∧ ∃ q, chR w tr (p0, p1, t, much) q ∧ ((what = 1 ∧ r = q) ∨ (what = 0 ∧ ((q = -1 ∧ r = 0) ∨ (q ≠ -1 ∧ r = 1))))))) := by
  obtain ⟨hmu1, hmu2⟩ := id hmu
  obtain ⟨hwh1, hwh2⟩ := id hwh
  refine Rx.walk 0 (pc' := 0) (L' := [some (.ref 0), some (.int (iz much)), some (.int (iz what)), none]) (st' := []) (h' := cmH (u1 (u1 (u1 (u1 (u1 z 21 K) 22 pi_) 23 len) 24 tr) 40 mv) zl (uf (uf (uf (uf (uf (uf f 5 va) 10 pp) 11 li) 12 ty) 16 mk) 25 fw) fl tx) rfl ?_
  refine Rx.walk 5 (pc' := 9) (L' := [some (.ref 0), some (.int (iz much)), some (.int (iz what)), none]) (st' := [.int (iz K)]) (h' := cmH (u1 (u1 (u1 (u1 (u1 (u1 z 0 0) 21 K) 22 pi_) 23 len) 24 tr) 40 mv) zl (uf (uf (uf (uf (uf (uf f 5 va) 10 pp) 11 li) 12 ty) 16 mk) 25 fw) fl tx) rfl ?_
  refine Rx.eq1 rfl rfl ⟨by omega, by omega⟩ (fun b1 => ?_) (fun b1 => ?_)
  · refine Rx.walk 1 (pc' := 36) (L' := [some (.ref 0), some (.int (iz much)), some (.int (iz what)), none]) (st' := [.int (iz (-2))]) (h' := cmH (u1 (u1 (u1 (u1 (u1 (u1 z 0 0) 21 K) 22 pi_) 23 len) 24 tr) 40 mv) zl (uf (uf (uf (uf (uf (uf f 5 va) 10 pp) 11 li) 12 ty) 16 mk) 25 fw) fl tx) rfl ?_
    refine Rx.ret rfl ?_
    exact ⟨_, _, _, _, rfl, rfl, ⟨by omega, by omega⟩, hmk, Or.inl ⟨by omega, rfl⟩⟩
  · refine Rx.walk 1 (pc' := 13) (L' := [some (.ref 0), some (.int (iz much)), some (.int (iz what)), none]) (st' := [.int (iz much)]) (h' := cmH (u1 (u1 (u1 (u1 (u1 (u1 z 0 0) 21 K) 22 pi_) 23 len) 24 tr) 40 mv) zl (uf (uf (uf (uf (uf (uf f 5 va) 10 pp) 11 li) 12 ty) 16 mk) 25 fw) fl tx) rfl ?_
    refine Rx.i2l rfl ⟨by omega, by omega⟩ ?_
    refine Rx.walk 2 (pc' := 18) (L' := [some (.ref 0), some (.int (iz much)), some (.int (iz what)), none]) (st' := [.long (jz 99), .long (jz 1), .long (jz much)]) (h' := cmH (u1 (u1 (u1 (u1 (u1 (u1 z 0 0) 21 K) 22 pi_) 23 len) 24 tr) 40 mv) zl (uf (uf (uf (uf (uf (uf f 5 va) 10 pp) 11 li) 12 ty) 16 mk) 25 fw) fl tx) rfl ?_
    refine Rx.callx (m' := m_X12_isIn) (as := [.long (jz much), .long (jz 1), .long (jz 99)]) (rest := []) rfl (n_isIn _ (cmH (u1 (u1 (u1 (u1 (u1 (u1 z 0 0) 21 K) 22 pi_) 23 len) 24 tr) 40 mv) zl (uf (uf (uf (uf (uf (uf f 5 va) 10 pp) 11 li) 12 ty) 16 mk) 25 fw) fl tx)  much 1 99 ⟨by omega, by omega⟩ ⟨by omega, by omega⟩ ⟨by omega, by omega⟩) (fun v4 h5 q6 => ?_)
    obtain ⟨r_2, rfl, rfl, f3⟩ := q6
    refine Rx.walk 0 (pc' := 21) (L' := [some (.ref 0), some (.int (iz much)), some (.int (iz what)), none]) (st' := [.int (iz r_2)]) (h' := cmH (u1 (u1 (u1 (u1 (u1 (u1 z 0 0) 21 K) 22 pi_) 23 len) 24 tr) 40 mv) zl (uf (uf (uf (uf (uf (uf f 5 va) 10 pp) 11 li) 12 ty) 16 mk) 25 fw) fl tx) rfl ?_
    refine Rx.eq1 rfl rfl ⟨by omega, by omega⟩ (fun b7 => ?_) (fun b7 => ?_)
    · refine Rx.walk 1 (pc' := 36) (L' := [some (.ref 0), some (.int (iz much)), some (.int (iz what)), none]) (st' := [.int (iz (-2))]) (h' := cmH (u1 (u1 (u1 (u1 (u1 (u1 z 0 0) 21 K) 22 pi_) 23 len) 24 tr) 40 mv) zl (uf (uf (uf (uf (uf (uf f 5 va) 10 pp) 11 li) 12 ty) 16 mk) 25 fw) fl tx) rfl ?_
      refine Rx.ret rfl ?_
      exact ⟨_, _, _, _, rfl, rfl, ⟨by omega, by omega⟩, hmk, Or.inl ⟨by omega, rfl⟩⟩
    · refine Rx.walk 1 (pc' := 25) (L' := [some (.ref 0), some (.int (iz much)), some (.int (iz what)), none]) (st' := [.int (iz what)]) (h' := cmH (u1 (u1 (u1 (u1 (u1 (u1 z 0 0) 21 K) 22 pi_) 23 len) 24 tr) 40 mv) zl (uf (uf (uf (uf (uf (uf f 5 va) 10 pp) 11 li) 12 ty) 16 mk) 25 fw) fl tx) rfl ?_
      refine Rx.i2l rfl ⟨by omega, by omega⟩ ?_
      refine Rx.walk 2 (pc' := 28) (L' := [some (.ref 0), some (.int (iz much)), some (.int (iz what)), none]) (st' := [.long (jz 1), .long (jz 0), .long (jz what)]) (h' := cmH (u1 (u1 (u1 (u1 (u1 (u1 z 0 0) 21 K) 22 pi_) 23 len) 24 tr) 40 mv) zl (uf (uf (uf (uf (uf (uf f 5 va) 10 pp) 11 li) 12 ty) 16 mk) 25 fw) fl tx) rfl ?_
      refine Rx.callx (m' := m_X12_isIn) (as := [.long (jz what), .long (jz 0), .long (jz 1)]) (rest := []) rfl (n_isIn _ (cmH (u1 (u1 (u1 (u1 (u1 (u1 z 0 0) 21 K) 22 pi_) 23 len) 24 tr) 40 mv) zl (uf (uf (uf (uf (uf (uf f 5 va) 10 pp) 11 li) 12 ty) 16 mk) 25 fw) fl tx)  what 0 1 ⟨by omega, by omega⟩ ⟨by omega, by omega⟩ ⟨by omega, by omega⟩) (fun v10 h11 q12 => ?_)
      obtain ⟨r_8, rfl, rfl, f9⟩ := q12
      refine Rx.walk 0 (pc' := 31) (L' := [some (.ref 0), some (.int (iz much)), some (.int (iz what)), none]) (st' := [.int (iz r_8)]) (h' := cmH (u1 (u1 (u1 (u1 (u1 (u1 z 0 0) 21 K) 22 pi_) 23 len) 24 tr) 40 mv) zl (uf (uf (uf (uf (uf (uf f 5 va) 10 pp) 11 li) 12 ty) 16 mk) 25 fw) fl tx) rfl ?_
      refine Rx.ne1 rfl rfl ⟨by omega, by omega⟩ (fun b13 => ?_) (fun b13 => ?_)
      · refine Rx.walk 2 (pc' := 39) (L' := [some (.ref 0), some (.int (iz much)), some (.int (iz what)), none]) (st' := [.int (iz much), .ref 0]) (h' := cmH (u1 (u1 (u1 (u1 (u1 (u1 z 0 0) 21 K) 22 pi_) 23 len) 24 tr) 40 mv) zl (uf (uf (uf (uf (uf (uf f 5 va) 10 pp) 11 li) 12 ty) 16 mk) 25 fw) fl tx) rfl ?_
        refine Rx.callx (m' := m_X12_lifts) (as := [.ref 0, .int (iz much)]) (rest := []) rfl (m_lifts _ (u1 (u1 (u1 (u1 (u1 (u1 z 0 0) 21 K) 22 pi_) 23 len) 24 tr) 40 mv) zl (uf (uf (uf (uf (uf (uf f 5 va) 10 pp) 11 li) 12 ty) 16 mk) 25 fw) fl tx  much K p0 p1 t pp li ty len pi_ tr va mk fw mv w (by first | assumption | omega) (by first | assumption | omega) (by first | assumption | omega) (by first | assumption | omega) (by first | assumption | omega) (by first | assumption | omega) (hop (by omega)).1 (hop (by omega)).2 (by first | assumption | omega) (by first | assumption | omega) (by first | assumption | omega) (by first | assumption | omega) (by first | assumption | omega) (by first | assumption | omega) (by first | assumption | omega)) (fun v20 h21 q22 => ?_)
        obtain ⟨r_14, mk_15, fw_16, rfl, rfl, f17, f18, f19⟩ := q22
        refine Rx.walk 0 (pc' := 42) (L' := [some (.ref 0), some (.int (iz much)), some (.int (iz what)), none]) (st' := [.int (iz r_14)]) (h' := cmH (u1 (u1 (u1 (u1 (u1 (u1 z 0 0) 21 K) 22 pi_) 23 len) 24 tr) 40 (mv + 1)) zl (uf (uf (uf (uf (uf (uf f 5 va) 10 pp) 11 li) 12 ty) 16 mk_15) 25 fw_16) fl tx) rfl ?_
        refine Rx.walk 2 (pc' := 44) (L' := [some (.ref 0), some (.int (iz much)), some (.int (iz what)), some (.int (iz r_14))]) (st' := [.int (iz what)]) (h' := cmH (u1 (u1 (u1 (u1 (u1 (u1 z 0 0) 21 K) 22 pi_) 23 len) 24 tr) 40 (mv + 1)) zl (uf (uf (uf (uf (uf (uf f 5 va) 10 pp) 11 li) 12 ty) 16 mk_15) 25 fw_16) fl tx) rfl ?_
        refine Rx.ne1 rfl rfl ⟨by omega, by omega⟩ (fun b23 => ?_) (fun b23 => ?_)
        · refine Rx.walk 2 (pc' := 64) (L' := [some (.ref 0), some (.int (iz much)), some (.int (iz what)), some (.int (iz r_14))]) (st' := [.int (iz 99), .int (iz r_14)]) (h' := cmH (u1 (u1 (u1 (u1 (u1 (u1 z 0 0) 21 K) 22 pi_) 23 len) 24 tr) 40 (mv + 1)) zl (uf (uf (uf (uf (uf (uf f 5 va) 10 pp) 11 li) 12 ty) 16 mk_15) 25 fw_16) fl tx) rfl ?_
          refine Rx.lt2 rfl rfl ⟨by omega, by omega⟩ ⟨by omega, by omega⟩ (fun b24 => ?_) (fun b24 => ?_)
          · refine Rx.walk 1 (pc' := 72) (L' := [some (.ref 0), some (.int (iz much)), some (.int (iz what)), some (.int (iz r_14))]) (st' := [.int (iz r_14)]) (h' := cmH (u1 (u1 (u1 (u1 (u1 (u1 z 0 0) 21 K) 22 pi_) 23 len) 24 tr) 40 (mv + 1)) zl (uf (uf (uf (uf (uf (uf f 5 va) 10 pp) 11 li) 12 ty) 16 mk_15) 25 fw_16) fl tx) rfl ?_
            refine Rx.ret rfl ?_
            rcases f19 with ⟨z1, z2⟩ | ⟨z1, z2⟩
            · exact ⟨_, _, _, _, rfl, rfl, ⟨by omega, by omega⟩, f17, Or.inr ⟨by omega, by omega, by omega, by omega, by omega, _, z2, by omega⟩⟩
            · have hz3 : r_14 ≠ -1 := by omega
              exact ⟨_, _, _, _, rfl, rfl, ⟨by omega, by omega⟩, f17, Or.inr ⟨by omega, by omega, by omega, by omega, by omega, _, z2, by omega⟩⟩
          · refine Rx.walk 2 (pc' := 72) (L' := [some (.ref 0), some (.int (iz much)), some (.int (iz what)), some (.int (iz r_14))]) (st' := [.int (iz (-1))]) (h' := cmH (u1 (u1 (u1 (u1 (u1 (u1 z 0 0) 21 K) 22 pi_) 23 len) 24 tr) 40 (mv + 1)) zl (uf (uf (uf (uf (uf (uf f 5 va) 10 pp) 11 li) 12 ty) 16 mk_15) 25 fw_16) fl tx) rfl ?_
            refine Rx.ret rfl ?_
            rcases f19 with ⟨z1, z2⟩ | ⟨z1, z2⟩
            · exact ⟨_, _, _, _, rfl, rfl, ⟨by omega, by omega⟩, f17, Or.inr ⟨by omega, by omega, by omega, by omega, by omega, _, z2, by omega⟩⟩
            · have hz3 : r_14 ≠ -1 := by omega
              exact ⟨_, _, _, _, rfl, rfl, ⟨by omega, by omega⟩, f17, Or.inr ⟨by omega, by omega, by omega, by omega, by omega, _, z2, by omega⟩⟩
        · refine Rx.walk 2 (pc' := 50) (L' := [some (.ref 0), some (.int (iz much)), some (.int (iz what)), some (.int (iz r_14))]) (st' := [.int (iz 99), .int (iz r_14)]) (h' := cmH (u1 (u1 (u1 (u1 (u1 (u1 z 0 0) 21 K) 22 pi_) 23 len) 24 tr) 40 (mv + 1)) zl (uf (uf (uf (uf (uf (uf f 5 va) 10 pp) 11 li) 12 ty) 16 mk_15) 25 fw_16) fl tx) rfl ?_
          refine Rx.lt2 rfl rfl ⟨by omega, by omega⟩ ⟨by omega, by omega⟩ (fun b25 => ?_) (fun b25 => ?_)
          · refine Rx.walk 2 (pc' := 72) (L' := [some (.ref 0), some (.int (iz much)), some (.int (iz what)), some (.int (iz r_14))]) (st' := [.int (iz 1)]) (h' := cmH (u1 (u1 (u1 (u1 (u1 (u1 z 0 0) 21 K) 22 pi_) 23 len) 24 tr) 40 (mv + 1)) zl (uf (uf (uf (uf (uf (uf f 5 va) 10 pp) 11 li) 12 ty) 16 mk_15) 25 fw_16) fl tx) rfl ?_
            refine Rx.ret rfl ?_
            rcases f19 with ⟨z1, z2⟩ | ⟨z1, z2⟩
            · exact ⟨_, _, _, _, rfl, rfl, ⟨by omega, by omega⟩, f17, Or.inr ⟨by omega, by omega, by omega, by omega, by omega, _, z2, by omega⟩⟩
            · have hz3 : r_14 ≠ -1 := by omega
              exact ⟨_, _, _, _, rfl, rfl, ⟨by omega, by omega⟩, f17, Or.inr ⟨by omega, by omega, by omega, by omega, by omega, _, z2, by omega⟩⟩
          · refine Rx.walk 2 (pc' := 72) (L' := [some (.ref 0), some (.int (iz much)), some (.int (iz what)), some (.int (iz r_14))]) (st' := [.int (iz 0)]) (h' := cmH (u1 (u1 (u1 (u1 (u1 (u1 z 0 0) 21 K) 22 pi_) 23 len) 24 tr) 40 (mv + 1)) zl (uf (uf (uf (uf (uf (uf f 5 va) 10 pp) 11 li) 12 ty) 16 mk_15) 25 fw_16) fl tx) rfl ?_
            refine Rx.ret rfl ?_
            rcases f19 with ⟨z1, z2⟩ | ⟨z1, z2⟩
            · exact ⟨_, _, _, _, rfl, rfl, ⟨by omega, by omega⟩, f17, Or.inr ⟨by omega, by omega, by omega, by omega, by omega, _, z2, by omega⟩⟩
            · have hz3 : r_14 ≠ -1 := by omega
              exact ⟨_, _, _, _, rfl, rfl, ⟨by omega, by omega⟩, f17, Or.inr ⟨by omega, by omega, by omega, by omega, by omega, _, z2, by omega⟩⟩
      · refine Rx.walk 1 (pc' := 36) (L' := [some (.ref 0), some (.int (iz much)), some (.int (iz what)), none]) (st' := [.int (iz (-2))]) (h' := cmH (u1 (u1 (u1 (u1 (u1 (u1 z 0 0) 21 K) 22 pi_) 23 len) 24 tr) 40 mv) zl (uf (uf (uf (uf (uf (uf f 5 va) 10 pp) 11 li) 12 ty) 16 mk) 25 fw) fl tx) rfl ?_
        refine Rx.ret rfl ?_
        exact ⟨_, _, _, _, rfl, rfl, ⟨by omega, by omega⟩, hmk, Or.inl ⟨by omega, rfl⟩⟩

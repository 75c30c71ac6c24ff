/-! rules: the code of what is read, run on a stack, gives its value -/
def inB (x : Int) : Prop := -1000000 ≤ x ∧ x ≤ 1000000
def bdL (L : Int → Int) : Prop := ∀ j : Int, 0 ≤ j → j < 6 → inB (L j)
/-- code, whether it is being passed over, stack (its top first) -/
def rnW (L : Int → Int) : List Int → Bool → List Int → Int
  | [], _, _ => 0
  | s :: r, k, st => if k = true then rnW L r (decide (s ≠ -12)) st else if 0 ≤ s then rnW L r false (s :: st) else if s ≤ -13 then rnW L r false (L (-13 - s) :: st) else if s = -12 then st.headD 0 else if s = -11 then rnW L r (decide (st.headD 0 = 0)) st.tail else if s = -10 then rnW L r false ((1 - st.headD 0) :: st.tail) else rnW L r false (rk s (st.tail.headD 0) (st.headD 0) :: st.tail.tail)
def okW (L : Int → Int) : List Int → Bool → List Int → Prop
  | [], _, _ => True
  | s :: r, k, st => if k = true then okW L r (decide (s ≠ -12)) st else if 0 ≤ s then s ≤ 9999 ∧ okW L r false (s :: st) else if s ≤ -13 then -18 ≤ s ∧ okW L r false (L (-13 - s) :: st) else 1 ≤ st.length ∧ (if s = -12 then True else if s = -11 then okW L r (decide (st.headD 0 = 0)) st.tail else if s = -10 then (st.headD 0 = 0 ∨ st.headD 0 = 1) ∧ okW L r false ((1 - st.headD 0) :: st.tail) else 2 ≤ st.length ∧ (s = -8 ∨ s = -9 → (st.headD 0 = 0 ∨ st.headD 0 = 1) ∧ (st.tail.headD 0 = 0 ∨ st.tail.headD 0 = 1)) ∧ okW L r false (rk s (st.tail.headD 0) (st.headD 0) :: st.tail.tail))
section Ev1
variable {L : Int → Int} {s x y : Int} {r st : List Int}
theorem rnW_k : rnW L (s :: r) true st = rnW L r (decide (s ≠ -12)) st := by show (if _ then _ else _) = _; rw [if_pos rfl]
theorem rnW_num (h : 0 ≤ s) : rnW L (s :: r) false st = rnW L r false (s :: st) := by
  show (if _ then _ else _) = _
  rw [if_neg (by decide), if_pos h]
theorem rnW_let (h : s ≤ -13) : rnW L (s :: r) false st = rnW L r false (L (-13 - s) :: st) := by
  show (if _ then _ else _) = _
  rw [if_neg (by decide), if_neg (by omega), if_pos h]
theorem rnW_ans : rnW L (-12 :: r) false (x :: st) = x := by
  show (if _ then _ else _) = _
  rw [if_neg (by decide), if_neg (by decide), if_neg (by decide), if_pos rfl]; rfl
theorem rnW_unl : rnW L (-11 :: r) false (x :: st) = rnW L r (decide (x = 0)) st := by
  show (if _ then _ else _) = _
  rw [if_neg (by decide), if_neg (by decide), if_neg (by decide), if_neg (by decide), if_pos rfl]; rfl
theorem rnW_not : rnW L (-10 :: r) false (x :: st) = rnW L r false ((1 - x) :: st) := by
  show (if _ then _ else _) = _
  rw [if_neg (by decide), if_neg (by decide), if_neg (by decide), if_neg (by decide), if_neg (by decide), if_pos rfl]; rfl
theorem rnW_op (h0 : -9 ≤ s) (h1 : s ≤ -1) : rnW L (s :: r) false (x :: y :: st) = rnW L r false (rk s y x :: st) := by
  show (if _ then _ else _) = _
  rw [if_neg (by decide), if_neg (by omega), if_neg (by omega), if_neg (by omega), if_neg (by omega), if_neg (by omega)]; rfl
theorem okW_k : okW L (s :: r) true st = okW L r (decide (s ≠ -12)) st := by show (if _ then _ else _) = _; rw [if_pos rfl]
theorem okW_num (h : 0 ≤ s) : okW L (s :: r) false st = (s ≤ 9999 ∧ okW L r false (s :: st)) := by
  show (if _ then _ else _) = _
  rw [if_neg (by decide), if_pos h]
theorem okW_let (h : s ≤ -13) : okW L (s :: r) false st = (-18 ≤ s ∧ okW L r false (L (-13 - s) :: st)) := by
  show (if _ then _ else _) = _
  rw [if_neg (by decide), if_neg (by omega), if_pos h]
theorem okW_lo (h0 : -12 ≤ s) (h1 : s ≤ -1) : okW L (s :: r) false st = (1 ≤ st.length ∧ (if s = -12 then True else if s = -11 then okW L r (decide (st.headD 0 = 0)) st.tail else if s = -10 then (st.headD 0 = 0 ∨ st.headD 0 = 1) ∧ okW L r false ((1 - st.headD 0) :: st.tail) else 2 ≤ st.length ∧ (s = -8 ∨ s = -9 → (st.headD 0 = 0 ∨ st.headD 0 = 1) ∧ (st.tail.headD 0 = 0 ∨ st.tail.headD 0 = 1)) ∧ okW L r false (rk s (st.tail.headD 0) (st.headD 0) :: st.tail.tail))) := by
  show (if _ then _ else _) = _
  rw [if_neg (by decide), if_neg (by omega), if_neg (by omega)]
theorem okW_ans : okW L (-12 :: r) false (x :: st) := by
  rw [okW_lo (by decide) (by decide), if_pos rfl]
  exact ⟨by show 1 ≤ st.length + 1; omega, trivial⟩
theorem okW_unl (h : okW L r (decide (x = 0)) st) : okW L (-11 :: r) false (x :: st) := by
  rw [okW_lo (by decide) (by decide), if_neg (by decide), if_pos rfl]
  exact ⟨by show 1 ≤ st.length + 1; omega, h⟩
theorem okW_not (hx : x = 0 ∨ x = 1) (h : okW L r false ((1 - x) :: st)) : okW L (-10 :: r) false (x :: st) := by
  rw [okW_lo (by decide) (by decide), if_neg (by decide), if_neg (by decide), if_pos rfl]
  exact ⟨by show 1 ≤ st.length + 1; omega, hx, h⟩
theorem okW_op (h0 : -9 ≤ s) (h1 : s ≤ -1) (hb : s = -8 ∨ s = -9 → (x = 0 ∨ x = 1) ∧ (y = 0 ∨ y = 1)) (h : okW L r false (rk s y x :: st)) : okW L (s :: r) false (x :: y :: st) := by
  rw [okW_lo (by omega) h1, if_neg (by omega), if_neg (by omega), if_neg (by omega)]
  exact ⟨by show 1 ≤ st.length + 1 + 1; omega, by show 2 ≤ st.length + 1 + 1; omega, hb, h⟩
theorem rnW_skip : ∀ {S : List Int}, (∀ s ∈ S, s ≠ -12) → rnW L (S ++ -12 :: r) true st = rnW L r false st
  | [], _ => rnW_k
  | s :: S, h => by
    show rnW L (s :: (S ++ -12 :: r)) true st = _
    rw [rnW_k, show decide (s ≠ -12) = true from decide_eq_true (h s (List.mem_cons_self ..))]
    exact rnW_skip (fun s hs => h s (List.mem_cons_of_mem _ hs))
theorem okW_skip : ∀ {S : List Int}, (∀ s ∈ S, s ≠ -12) → okW L (S ++ -12 :: r) true st = okW L r false st
  | [], _ => okW_k
  | s :: S, h => by
    show okW L (s :: (S ++ -12 :: r)) true st = _
    rw [okW_k, show decide (s ≠ -12) = true from decide_eq_true (h s (List.mem_cons_self ..))]
    exact okW_skip (fun s hs => h s (List.mem_cons_of_mem _ hs))
end Ev1
theorem tdv_b {x y : Int} (h : inB x) : inB (x.tdiv y) := tdiv_b h
theorem wtn_b (x : Int) : inB (wtn x) := by unfold inB wtn; omega
theorem rk_b {op x y : Int} (h : inB x) : inB (rk op x y) := by
  unfold rk
  repeat' split
  all_goals first | exact wtn_b _ | exact tdv_b h | (unfold inB; omega)
theorem rk_01 {op x y : Int} (h : op ≤ -5) : rk op x y = 0 ∨ rk op x y = 1 := by
  unfold rk
  rw [if_neg (by omega), if_neg (by omega), if_neg (by omega), if_neg (by omega)]
  repeat' split
  all_goals omega
def sgB (s : Int) : Prop := -18 ≤ s ∧ s ≤ 9999
def evG (R : RsT) : Prop := R.1 = true → ((∀ s ∈ R.2.2.1, s ≠ -12) ∧ ∀ s ∈ R.2.2.1, sgB s) ∧ ∀ L, bdL L → inB (R.2.2.2 L) ∧ ∀ rest st, rnW L (R.2.2.1 ++ rest) false st = rnW L rest false (R.2.2.2 L :: st) ∧ (okW L rest false (R.2.2.2 L :: st) → okW L (R.2.2.1 ++ rest) false st)
def evB (R : RsT) : Prop := evG R ∧ (R.1 = true → ∀ L, bdL L → R.2.2.2 L = 0 ∨ R.2.2.2 L = 1)
section Ev2
variable {n : Int} {b : Int → Int}
theorem evG_F (p : Int) : evG (rsF p) := fun h => absurd h (by simp [rsF])
theorem evB_F (p : Int) : evB (rsF p) := ⟨evG_F p, fun h => absurd h (by simp [rsF])⟩
theorem evG_m {r : RsT} (p : Int) (h : r.1 = true) (hr : evG r) : evG (true, p, r.2.2) := fun _ => hr h
theorem evB_m {r : RsT} (p : Int) (h : r.1 = true) (hr : evB r) : evB (true, p, r.2.2) := ⟨evG_m p h hr.1, fun _ => hr.2 h⟩
theorem evG_N {acc q : RsT} {op : Int} (h0 : -9 ≤ op) (h1 : op ≤ -1) (ht : acc.1 = true) (ha : evG acc) (hq : evG q) (hb : op = -8 ∨ op = -9 → evB acc ∧ evB q) : evG (opN acc q op) := by
  unfold opN
  split
  · rename_i hq1
    intro _
    obtain ⟨a1, a2⟩ := ha ht
    obtain ⟨q1, q2⟩ := hq hq1
    refine ⟨⟨fun s hs => ?_, fun s hs => ?_⟩, fun L hL => ⟨rk_b (a2 L hL).1, fun rest st => ?_⟩⟩
    · rcases List.mem_append.mp hs with z | z
      · rcases List.mem_append.mp z with z | z
        · exact a1.1 s z
        · exact q1.1 s z
      · rw [List.mem_singleton.mp z]; omega
    · rcases List.mem_append.mp hs with z | z
      · rcases List.mem_append.mp z with z | z
        · exact a1.2 s z
        · exact q1.2 s z
      · rw [List.mem_singleton.mp z]; exact ⟨by omega, by omega⟩
    · obtain ⟨-, a3⟩ := a2 L hL
      obtain ⟨-, q3⟩ := q2 L hL
      show rnW L (acc.2.2.1 ++ q.2.2.1 ++ [op] ++ rest) false st = rnW L rest false (rk op (acc.2.2.2 L) (q.2.2.2 L) :: st) ∧ (okW L rest false (rk op (acc.2.2.2 L) (q.2.2.2 L) :: st) → okW L (acc.2.2.1 ++ q.2.2.1 ++ [op] ++ rest) false st)
      rw [List.append_assoc, List.append_assoc]
      refine ⟨?_, fun h => ?_⟩
      · rw [(a3 _ _).1, (q3 _ _).1]
        exact rnW_op h0 h1
      · refine (a3 _ _).2 ((q3 _ _).2 (okW_op h0 h1 (fun z => ?_) h))
        obtain ⟨z1, z2⟩ := hb z
        exact ⟨z2.2 hq1 L hL, z1.2 ht L hL⟩
  · exact evG_F _
theorem evB_N {acc q : RsT} {op : Int} (h0 : -9 ≤ op) (h1 : op ≤ -5) (ht : acc.1 = true) (ha : evG acc) (hq : evG q) (hb : op = -8 ∨ op = -9 → evB acc ∧ evB q) : evB (opN acc q op) := by
  refine ⟨evG_N h0 (by omega) ht ha hq hb, ?_⟩
  unfold opN
  split
  · exact fun _ L _ => rk_01 h1
  · exact fun h => absurd h (by simp [rsF])
theorem opL_Q {o1 o2 e1 e2 : Int} {A : Int → RsT} {Q : RsT → Prop} (hA : ∀ a, Q (A a)) (hm : ∀ (r : RsT) (p : Int), r.1 = true → Q r → Q (true, p, r.2.2)) (hn : ∀ (x y : RsT) (op : Int), (op = e1 ∨ op = e2) → x.1 = true → Q x → Q y → Q (opN x y op)) : ∀ (k : Nat) (r : RsT), Q r → Q (opL n b o1 o2 e1 e2 A k r)
  | 0, r, h => h
  | k + 1, r, h => by
    by_cases h1 : r.1 = true
    · by_cases h2 : sg n b (sks n b r.2.1) = o1 ∨ sg n b (sks n b r.2.1) = o2
      · rw [opL_n h1 h2]
        refine opL_Q hA hm hn k _ (hn _ _ _ ?_ h1 h (hA _))
        split
        · exact Or.inl rfl
        · exact Or.inr rfl
      · rw [opL_e h1 (fun z => h2 (Or.inl z)) (fun z => h2 (Or.inr z))]
        exact hm _ _ h1 h
    · rw [opL_f (by cases h3 : r.1 with | true => exact absurd h3 h1 | false => rfl)]
      exact h
theorem atomG_ev {S : Option (Int → RsT)} (hS : ∀ f, S = some f → ∀ a, evG (f a)) (a : Int) : evG (atomG n b S a) := by
  unfold atomG
  split
  · cases S with
    | none => exact evG_F _
    | some f =>
      simp only []
      split
      · rename_i h
        split
        · exact evG_m _ h (hS f rfl _)
        · exact evG_F _
      · exact evG_F _
  · split
    · have hb := ltr_b (sg n b (sks n b a))
      rename_i h2
      intro _
      refine ⟨⟨fun s hs => by rw [List.mem_singleton.mp hs]; omega, fun s hs => by rw [List.mem_singleton.mp hs]; exact ⟨by omega, by omega⟩⟩, fun L hL => ⟨hL _ (by omega) (by omega), fun rest st => ?_⟩⟩
      have e : -13 - (-13 - ltr (sg n b (sks n b a))) = ltr (sg n b (sks n b a)) := by omega
      show rnW L ((-13 - ltr (sg n b (sks n b a))) :: rest) false st = rnW L rest false (L (ltr (sg n b (sks n b a))) :: st) ∧ (okW L rest false (L (ltr (sg n b (sks n b a))) :: st) → okW L ((-13 - ltr (sg n b (sks n b a))) :: rest) false st)
      rw [rnW_let (by omega), okW_let (by omega), e]
      exact ⟨rfl, fun h => ⟨by omega, h⟩⟩
    · split
      · rename_i hd
        have h1 := dg_4 (n := n) (b := b) (p := sks n b a) (v := 0) (by omega)
        have h2 := dg_props (n := n) (b := b) 4 (sks n b a) 0 (by have := (isD_t.mp hd); omega) (by omega)
        split
        · exact evG_F _
        · intro _
          refine ⟨⟨fun s hs => by rw [List.mem_singleton.mp hs]; omega, fun s hs => by rw [List.mem_singleton.mp hs]; exact ⟨by omega, by omega⟩⟩, fun L hL => ⟨⟨by show _ ≤ (dg n b 4 (sks n b a) 0).2; omega, by show (dg n b 4 (sks n b a) 0).2 ≤ _; omega⟩, fun rest st => ?_⟩⟩
          show rnW L ((dg n b 4 (sks n b a) 0).2 :: rest) false st = rnW L rest false ((dg n b 4 (sks n b a) 0).2 :: st) ∧ (okW L rest false ((dg n b 4 (sks n b a) 0).2 :: st) → okW L ((dg n b 4 (sks n b a) 0).2 :: rest) false st)
          rw [rnW_num (by omega), okW_num (by omega)]
          exact ⟨rfl, fun h => ⟨by omega, h⟩⟩
      · exact evG_F _
theorem opG_ev {o1 o2 e1 e2 : Int} {A : Int → RsT} (hA : ∀ a, evG (A a)) (h1 : -4 ≤ e1 ∧ e1 ≤ -1) (h2 : -4 ≤ e2 ∧ e2 ≤ -1) (a : Int) : evG (opG n b o1 o2 e1 e2 A a) :=
  opL_Q (Q := evG) hA (fun r p h q => evG_m p h q) (fun x y op ho ht hx hy => evG_N (by omega) (by omega) ht hx hy (fun z => by exfalso; omega)) 161 _ (hA a)
theorem sumG_ev {A : Int → RsT} (hA : ∀ a, evG (A a)) (a : Int) : evG (sumG n b A a) := opG_ev (fun a => opG_ev hA (by omega) (by omega) a) (by omega) (by omega) a
theorem sumR_ev : ∀ (r : Nat) (a : Int), evG (sumR n b r a)
  | 0, a => sumG_ev (fun a => atomG_ev (fun f h => by cases h) a) a
  | r + 1, a => sumG_ev (fun a => atomG_ev (fun f h => by cases h; exact sumR_ev r) a) a
theorem cmpS_r {c : Int} (h : cmpS c ≠ 0) : -7 ≤ cmpS c ∧ cmpS c ≤ -5 := by
  rcases cmpS_0 h with z | z | z <;> rw [z] <;> decide
theorem cmpG_ev {S : Int → RsT} (hS : ∀ a, evG (S a)) {q : RsT} (hq : evG q) : evB (cmpG n b S q) := by
  unfold cmpG
  split
  · rename_i h
    split
    · exact evB_F _
    · rename_i hc
      have hb := cmpS_r hc
      exact evB_N (by omega) (by omega) h hq (hS _) (fun z => by exfalso; omega)
  · exact evB_F _
theorem notN_ev {q : RsT} (hq : evB q) : evB (notN q) := by
  unfold notN
  split
  · rename_i h
    obtain ⟨q1, q2⟩ := hq.1 h
    have q3 := hq.2 h
    refine ⟨fun _ => ⟨⟨fun s hs => ?_, fun s hs => ?_⟩, fun L hL => ⟨?_, fun rest st => ?_⟩⟩, fun _ L hL => ?_⟩
    · rcases List.mem_append.mp hs with z | z
      · exact q1.1 s z
      · rw [List.mem_singleton.mp z]; omega
    · rcases List.mem_append.mp hs with z | z
      · exact q1.2 s z
      · rw [List.mem_singleton.mp z]; exact ⟨by omega, by omega⟩
    · have := q3 L hL
      exact ⟨by show _ ≤ 1 - q.2.2.2 L; omega, by show 1 - q.2.2.2 L ≤ _; omega⟩
    · show rnW L (q.2.2.1 ++ [-10] ++ rest) false st = rnW L rest false ((1 - q.2.2.2 L) :: st) ∧ (okW L rest false ((1 - q.2.2.2 L) :: st) → okW L (q.2.2.1 ++ [-10] ++ rest) false st)
      rw [List.append_assoc]
      refine ⟨?_, fun z => ((q2 L hL).2 _ _).2 (okW_not (q3 L hL) z)⟩
      rw [((q2 L hL).2 _ _).1]
      exact rnW_not
    · have := q3 L hL
      show 1 - q.2.2.2 L = 0 ∨ 1 - q.2.2.2 L = 1
      omega
  · exact evB_F _
theorem clsN_ev {q : RsT} {k : Int} (hq : evB q) : evB (clsN n b q k) := by
  unfold clsN
  split
  · rename_i h
    split
    · exact evB_m _ h hq
    · exact evB_F _
  · exact evB_F _
theorem unitG_ev {U : Option (Int → RsT)} {C S : Int → RsT} (hU : ∀ u, U = some u → (∀ a, evB (u a)) ∧ ∀ a, evB (C a)) (hS : ∀ a, evG (S a)) (a : Int) : evB (unitG n b U C S a) := by
  unfold unitG
  split
  · cases U with
    | none => exact evB_F _
    | some u => exact notN_ev ((hU u rfl).1 _)
  · split
    · cases U with
      | none => exact evB_F _
      | some u => exact clsN_ev ((hU u rfl).2 _)
    · exact cmpG_ev hS (hS _)
theorem opL_evB {o1 o2 e : Int} {A : Int → RsT} (hA : ∀ a, evB (A a)) (he : e = -8 ∨ e = -9) (r : RsT) (hr : evB r) : evB (opL n b o1 o2 e e A 161 r) :=
  opL_Q (Q := evB) hA (fun r p h q => evB_m p h q) (fun x y op ho ht hx hy => evB_N (by omega) (by omega) ht hx.1 hy.1 (fun _ => ⟨hx, hy⟩)) 161 _ hr
theorem truthG_ev {U : Int → RsT} (hU : ∀ a, evB (U a)) (a : Int) : evB (truthG n b U a) := opL_evB hU (Or.inl rfl) _ (hU a)
theorem condG_ev {U : Int → RsT} (hU : ∀ a, evB (U a)) (a : Int) : evB (condG n b U a) := opL_evB (fun a => truthG_ev hU a) (Or.inr rfl) _ (truthG_ev hU a)
theorem unitR_ev : ∀ (r : Nat) (a : Int), evB (unitR n b r a)
  | 0, a => unitG_ev (fun u h => by cases h) (sumR_ev 0) a
  | r + 1, a => unitG_ev (fun u h => by cases h; exact ⟨unitR_ev r, condG_ev (unitR_ev r)⟩) (sumR_ev (r + 1)) a
theorem cndB_ev {q : RsT} (hq : evG q) : evB (cndB n b q) := opL_evB (fun a => truthG_ev (unitR_ev 6) a) (Or.inr rfl) _ (opL_evB (unitR_ev 6) (Or.inl rfl) _ (cmpG_ev (sumR_ev 6) hq))
/-- a clause: its value where its condition holds, else on -/
def evC (c : RsT × ((Int → Int) → Int)) : Prop := c.1.1 = true → ∀ L, bdL L → inB (c.1.2.2.2 L) ∧ ∀ rest st, rnW L (c.1.2.2.1 ++ rest) false st = (if c.2 L ≠ 0 then c.1.2.2.2 L else rnW L rest false st) ∧ (okW L rest false st → okW L (c.1.2.2.1 ++ rest) false st)
theorem evC_F (p : Int) (g : (Int → Int) → Int) : evC (rsF p, g) := fun h => absurd h (by simp [rsF])
theorem clQ_ev {q : RsT} (hq : evB q) : evC (clQ n b q, q.2.2.2) := by
  unfold clQ
  split
  · rename_i h
    split
    · rename_i h63
      split
      · rename_i hs
        intro _ L hL
        obtain ⟨s1, s2⟩ := sumR_ev (n := n) (b := b) 6 (sks n b q.2.1 + 1) hs
        obtain ⟨q1, q2⟩ := hq.1 h
        refine ⟨(s2 L hL).1, fun rest st => ?_⟩
        show rnW L (q.2.2.1 ++ [-11] ++ (sumR n b 6 (sks n b q.2.1 + 1)).2.2.1 ++ [-12] ++ rest) false st = (if q.2.2.2 L ≠ 0 then (sumR n b 6 (sks n b q.2.1 + 1)).2.2.2 L else rnW L rest false st) ∧ (okW L rest false st → okW L (q.2.2.1 ++ [-11] ++ (sumR n b 6 (sks n b q.2.1 + 1)).2.2.1 ++ [-12] ++ rest) false st)
        rw [List.append_assoc, List.append_assoc, List.append_assoc]
        show rnW L (q.2.2.1 ++ (-11 :: ((sumR n b 6 (sks n b q.2.1 + 1)).2.2.1 ++ (-12 :: rest)))) false st = _ ∧ (_ → okW L (q.2.2.1 ++ (-11 :: ((sumR n b 6 (sks n b q.2.1 + 1)).2.2.1 ++ (-12 :: rest)))) false st)
        refine ⟨?_, fun z => ((q2 L hL).2 _ _).2 (okW_unl ?_)⟩
        · rw [((q2 L hL).2 _ _).1, rnW_unl]
          by_cases h0 : q.2.2.2 L = 0
          · rw [decide_eq_true h0, rnW_skip s1.1, if_neg (fun z => z h0)]
          · rw [decide_eq_false h0, ((s2 L hL).2 _ _).1, rnW_ans, if_pos h0]
        · by_cases h0 : q.2.2.2 L = 0
          · rw [decide_eq_true h0, okW_skip s1.1]; exact z
          · rw [decide_eq_false h0]; exact ((s2 L hL).2 _ _).2 okW_ans
      · exact evC_F _ _
    · exact evC_F _ _
  · exact evC_F _ _
theorem clU_ev (u : Int) : evC (clU n b u) := by
  unfold clU
  split
  · exact clQ_ev (condG_ev (unitR_ev 6) _)
  · split
    · rename_i hs
      split
      · intro _ L hL
        obtain ⟨s1, s2⟩ := sumR_ev (n := n) (b := b) 6 (sks n b u) hs
        refine ⟨(s2 L hL).1, fun rest st => ?_⟩
        show rnW L ((sumR n b 6 (sks n b u)).2.2.1 ++ [-12] ++ rest) false st = (if (1 : Int) ≠ 0 then (sumR n b 6 (sks n b u)).2.2.2 L else rnW L rest false st) ∧ (okW L rest false st → okW L ((sumR n b 6 (sks n b u)).2.2.1 ++ [-12] ++ rest) false st)
        rw [List.append_assoc, if_pos (by decide)]
        refine ⟨?_, fun _ => ((s2 L hL).2 _ _).2 okW_ans⟩
        rw [((s2 L hL).2 _ _).1]
        exact rnW_ans
      · exact clQ_ev (cndB_ev (sumR_ev 6 _))
    · exact evC_F _ _
theorem clauseG_ev (a : Int) : evC (clauseG n b a) := by
  unfold clauseG
  split
  · split
    · exact clU_ev _
    · exact evC_F _ _
  · exact evC_F _ _
theorem sgB_app {a b : List Int} (ha : ∀ s ∈ a, sgB s) (hb : ∀ s ∈ b, sgB s) : ∀ s ∈ a ++ b, sgB s := fun s hs => (List.mem_append.mp hs).elim (ha s) (hb s)
theorem sgB_one {x : Int} (h : sgB x) : ∀ s ∈ [x], sgB s := fun s hs => by rw [List.mem_singleton.mp hs]; exact h
theorem clQ_b {q : RsT} (hq : evB q) (h : (clQ n b q).1 = true) : ∀ s ∈ (clQ n b q).2.2.1, sgB s := by
  unfold clQ at h ⊢
  split at h
  · rename_i h1
    rw [if_pos h1]
    split at h
    · rename_i h2
      rw [if_pos h2]
      split at h
      · rename_i h3
        rw [if_pos h3]
        exact sgB_app (sgB_app (sgB_app (hq.1 h1).1.2 (sgB_one ⟨by decide, by decide⟩)) (sumR_ev (n := n) (b := b) 6 _ h3).1.2) (sgB_one ⟨by decide, by decide⟩)
      · exact absurd h (by simp [rsF])
    · exact absurd h (by simp [rsF])
  · exact absurd h (by simp [rsF])
theorem clauseG_b (a : Int) (h : (clauseG n b a).1.1 = true) : ∀ s ∈ (clauseG n b a).1.2.2.1, sgB s := by
  unfold clauseG at h ⊢
  split at h
  · rename_i h1
    rw [if_pos h1]
    split at h
    · rename_i h2
      rw [if_pos h2]
      unfold clU at h ⊢
      split at h
      · rename_i h3
        rw [if_pos h3]
        exact clQ_b (condG_ev (unitR_ev 6) _) h
      · rename_i h3
        rw [if_neg h3]
        split at h
        · rename_i h4
          rw [if_pos h4]
          split at h
          · rename_i h5
            rw [if_pos h5]
            exact sgB_app (sumR_ev (n := n) (b := b) 6 _ h4).1.2 (sgB_one ⟨by decide, by decide⟩)
          · rename_i h5
            rw [if_neg h5]
            exact clQ_b (cndB_ev (sumR_ev 6 _)) h
        · exact absurd h (by simp [rsF])
    · exact absurd h (by simp [rsF])
  · exact absurd h (by simp [rsF])
theorem ruleL_b : ∀ (k : Nat) (a : Int), (ruleL n b k a).1 = true → ∀ s ∈ (ruleL n b k a).2.2.1, sgB s
  | 0, a, h => absurd h (by show ¬ false = true; decide)
  | k + 1, a, h => by
    by_cases h1 : (clauseG n b a).1.1 = true
    · by_cases h2 : sg n b (sks n b (clauseG n b a).1.2.1) = 59
      · rw [ruleL_s h1 h2] at h ⊢
        exact sgB_app (clauseG_b a h1) (ruleL_b k _ h)
      · rw [ruleL_e h1 h2]
        exact clauseG_b a h1
    · rw [ruleL_f (by cases h3 : (clauseG n b a).1.1 with | true => exact absurd h3 h1 | false => rfl)] at h
      exact absurd h (by show ¬ false = true; decide)
theorem ruleL_ev {L : Int → Int} (hL : bdL L) : ∀ (k : Nat) (a : Int) (st : List Int), (ruleL n b k a).1 = true → rnW L (ruleL n b k a).2.2.1 false st = fnd L (ruleL n b k a).2.2.2 ∧ okW L (ruleL n b k a).2.2.1 false st ∧ inB (fnd L (ruleL n b k a).2.2.2)
  | 0, a, st, h => absurd h (by show ¬ false = true; decide)
  | k + 1, a, st, h => by
    have hev := clauseG_ev (n := n) (b := b) a
    by_cases h1 : (clauseG n b a).1.1 = true
    · obtain ⟨c1, c2⟩ := hev h1 L hL
      by_cases h2 : sg n b (sks n b (clauseG n b a).1.2.1) = 59
      · rw [ruleL_s h1 h2] at h ⊢
        obtain ⟨i1, i2, i3⟩ := ruleL_ev hL k _ st h
        refine ⟨?_, (c2 _ _).2 i2, ?_⟩
        · rw [(c2 _ _).1, i1]; rfl
        · show inB (if _ then _ else _)
          split
          · exact c1
          · exact i3
      · rw [ruleL_e h1 h2]
        have c3 := c2 [] st
        rw [List.append_nil] at c3
        refine ⟨?_, c3.2 trivial, ?_⟩
        · rw [c3.1]; rfl
        · show inB (if _ then _ else _)
          split
          · exact c1
          · exact ⟨by show (-1000000 : Int) ≤ 0; decide, by show (0 : Int) ≤ 1000000; decide⟩
    · rw [ruleL_f (by cases h3 : (clauseG n b a).1.1 with | true => exact absurd h3 h1 | false => rfl)] at h
      exact absurd h (by show ¬ false = true; decide)
end Ev2

/-! THE CLAIM OUT OF ONE WALK OF THE LAW'S BODY. Your part is whole_start (and what it stands on); all else here is the same for every law, but numbers. -/
def R_law : String := "CutBoardLaw"
def lw_P (b : Addr) (xs : List Int32) (args : Array Value) (s : State) : Prop := args = #[.ref b] ∧ s.IntsAt b xs ∧ xs.length ≤ 2048 ∧ (Jvm.Cond.and given_1 narrow_1).before args s = true
def lw_Q (_ : Array Value) (s : State) (o : Outcome) (t : State) : Prop := o = .returned (some (.int 1)) ∧ Framed s o t [] 600000 7302250
def lw_Z (below : List Frame) (a : Array Value) (s : State) : State → Prop := fun t => ∃ o, t.status = .running ∧ Ended t below o ∧ lw_Q a s o t
/-- the law's own end, with 1 on the stack, nothing written that was there before, its room as the claim has it -/
theorem lw_ret {p : Program} {l : Launch} {e : Env} {s : State} {m : MethodId} {below : List Frame} {meth : Method} {c : Code} {b : Nat} (hx : p.tables.exec = Jvm.exec) (hb : c.code = code) (hr : meth.sig.returnType = ret) (hlocks : meth.locks = false) {pc : Nat} {H : Heap} {ls : Array Slot} (hdg : decode code pc = .ok (.ireturn, 1)) : W p l e room_1 s m #[Value.ref b] below meth c H [] 600000 7302250 (lw_Z below #[Value.ref b] s) (F0 m pc ls [.int 1]) := by
  intro T hT X
  obtain ⟨fs, hret, hrun, hended, hW, hframe⟩ := X.leave (v := some (.int 1)) (hlocks := hlocks) (fun h => by rw [hr] at h; cases h)
  have hmeth' : T.vm.method? m = some meth := X.method'
  refine ⟨T.setFrames fs, ?_, .returned (some (.int 1)), hrun, hended, rfl, ⟨_, rfl⟩, hW, hframe⟩
  jvm_step X.here [X.here.top, hx, hb, hdg, hmeth', hr, ret, narrow_b1]
  (try refine ⟨rfl, ?_⟩); (try refine ⟨rfl, ?_⟩)
  first | (intro acts; rw [hret _ acts rfl rfl rfl]) | rw [hret _ _ rfl rfl rfl]
  exact Steps.refl _
/-- what holds at the law's entry: the machine, the code, the tables' words (any of lw_tbl by 'hts w (by decide +kernel)'), the script of L ints xs at the cell b, what the Statement gives of the start (any of its parts by flat_of_before) -/
def lw_At (p : Program) (s : State) (m : MethodId) (meth : Method) (c : Code) (b L : Nat) (xs : Nat → Int32) : Prop :=
  p.tables.exec = Jvm.exec ∧ c.code = code ∧ meth.sig.returnType = ret ∧ c.maxLocals = 4 ∧ s.vm.findClass R_law = some m.cls ∧ (∀ w ∈ lw_tbl, w.before #[Value.ref b] s = true) ∧ va_X b L xs s s.heap ∧ b < s.heap.size ∧ meth.locks = false ∧ (Jvm.Cond.and given_1 narrow_1).before #[Value.ref b] s = true
theorem lw_T0 {args : Array Value} {s : State} {A : Nat → Prop} (hs : ∀ c ∈ flatC (Jvm.Cond.and given_1 narrow_1), c.before args s = true) (hA : ∀ a : Nat, a < s.heap.size → ¬ A a) (g : cb_G) : ∃ t : Nat, (Term.static "CutBoard$RowSearch" "HOLDING" "[I").eval args s none [] s = some (.ref t) ∧ va_T .int t 5 (fun k => .int ((cb_ro g 0).2 k)) A s s.heap := by
  refine va_Tof (tm := (.static "CutBoard$RowSearch" "HOLDING" "[I")) (ty := .int) (N := 5) (by decide) (hs (Cond.arrayOf (.static "CutBoard$RowSearch" "HOLDING" "[I") .int) (by decide +kernel)) (va_eqt (hs (Cond.eq (.length (.static "CutBoard$RowSearch" "HOLDING" "[I")) (.int 5)) (by decide +kernel))) (fun j hj => ?_) hA
  match j, hj with
    | 0, _ => exact va_eqt (hs (Cond.eq (.elem (.static "CutBoard$RowSearch" "HOLDING" "[I") (.int 0)) (.int (-1431655766))) (by decide +kernel))
    | 1, _ => exact va_eqt (hs (Cond.eq (.elem (.static "CutBoard$RowSearch" "HOLDING" "[I") (.int 1)) (.int (-858993460))) (by decide +kernel))
    | 2, _ => exact va_eqt (hs (Cond.eq (.elem (.static "CutBoard$RowSearch" "HOLDING" "[I") (.int 2)) (.int (-252645136))) (by decide +kernel))
    | 3, _ => exact va_eqt (hs (Cond.eq (.elem (.static "CutBoard$RowSearch" "HOLDING" "[I") (.int 3)) (.int (-16711936))) (by decide +kernel))
    | 4, _ => exact va_eqt (hs (Cond.eq (.elem (.static "CutBoard$RowSearch" "HOLDING" "[I") (.int 4)) (.int (-65536))) (by decide +kernel))
theorem lw_T1 {args : Array Value} {s : State} {A : Nat → Prop} (hs : ∀ c ∈ flatC (Jvm.Cond.and given_1 narrow_1), c.before args s = true) (hA : ∀ a : Nat, a < s.heap.size → ¬ A a) (g : cb_G) : ∃ t : Nat, (Term.static "CutBoard$Board" "ROW_STEPS" "[I").eval args s none [] s = some (.ref t) ∧ va_T .int t 4 (fun k => .int ((cb_ro g 1).2 k)) A s s.heap := by
  refine va_Tof (tm := (.static "CutBoard$Board" "ROW_STEPS" "[I")) (ty := .int) (N := 4) (by decide) (hs (Cond.arrayOf (.static "CutBoard$Board" "ROW_STEPS" "[I") .int) (by decide +kernel)) (va_eqt (hs (Cond.eq (.length (.static "CutBoard$Board" "ROW_STEPS" "[I")) (.int 4)) (by decide +kernel))) (fun j hj => ?_) hA
  match j, hj with
    | 0, _ => exact va_eqt (hs (Cond.eq (.elem (.static "CutBoard$Board" "ROW_STEPS" "[I") (.int 0)) (.int (-1))) (by decide +kernel))
    | 1, _ => exact va_eqt (hs (Cond.eq (.elem (.static "CutBoard$Board" "ROW_STEPS" "[I") (.int 1)) (.int (1))) (by decide +kernel))
    | 2, _ => exact va_eqt (hs (Cond.eq (.elem (.static "CutBoard$Board" "ROW_STEPS" "[I") (.int 2)) (.int (0))) (by decide +kernel))
    | 3, _ => exact va_eqt (hs (Cond.eq (.elem (.static "CutBoard$Board" "ROW_STEPS" "[I") (.int 3)) (.int (0))) (by decide +kernel))
theorem lw_T2 {args : Array Value} {s : State} {A : Nat → Prop} (hs : ∀ c ∈ flatC (Jvm.Cond.and given_1 narrow_1), c.before args s = true) (hA : ∀ a : Nat, a < s.heap.size → ¬ A a) (g : cb_G) : ∃ t : Nat, (Term.static "CutBoard$Board" "COLUMN_STEPS" "[I").eval args s none [] s = some (.ref t) ∧ va_T .int t 4 (fun k => .int ((cb_ro g 2).2 k)) A s s.heap := by
  refine va_Tof (tm := (.static "CutBoard$Board" "COLUMN_STEPS" "[I")) (ty := .int) (N := 4) (by decide) (hs (Cond.arrayOf (.static "CutBoard$Board" "COLUMN_STEPS" "[I") .int) (by decide +kernel)) (va_eqt (hs (Cond.eq (.length (.static "CutBoard$Board" "COLUMN_STEPS" "[I")) (.int 4)) (by decide +kernel))) (fun j hj => ?_) hA
  match j, hj with
    | 0, _ => exact va_eqt (hs (Cond.eq (.elem (.static "CutBoard$Board" "COLUMN_STEPS" "[I") (.int 0)) (.int (0))) (by decide +kernel))
    | 1, _ => exact va_eqt (hs (Cond.eq (.elem (.static "CutBoard$Board" "COLUMN_STEPS" "[I") (.int 1)) (.int (0))) (by decide +kernel))
    | 2, _ => exact va_eqt (hs (Cond.eq (.elem (.static "CutBoard$Board" "COLUMN_STEPS" "[I") (.int 2)) (.int (-1))) (by decide +kernel))
    | 3, _ => exact va_eqt (hs (Cond.eq (.elem (.static "CutBoard$Board" "COLUMN_STEPS" "[I") (.int 3)) (.int (1))) (by decide +kernel))
theorem lw_kn {args : Array Value} {s : State} (hts : ∀ w ∈ cb_gw, w.before args s = true) : ∃ D : (Nat → ClassId) × (Nat → Nat → Nat), ∀ ci, ci < 12 → u_Kn s (cb_C ci) (cb_T ci) (cb_nf ci) (D.1 ci) (D.2 ci) := by
  have h : ∀ ci, ci < 12 → ∃ (c : ClassId) (i : Nat → Nat), u_Kn s (cb_C ci) (cb_T ci) (cb_nf ci) c i := by
    intro ci hci
    match ci, hci with
    | 0, _ => exact u_known (C := cb_C 0) (T := cb_T 0) (N := cb_nf 0) (n := cb_nf 0) hts ct_0.2.1 (hts _ in_X0)
    | 1, _ => exact u_known (C := cb_C 1) (T := cb_T 1) (N := cb_nf 1) (n := cb_nf 1) hts ct_1.2.1 (hts _ in_X1)
    | 2, _ => exact u_known (C := cb_C 2) (T := cb_T 2) (N := cb_nf 2) (n := cb_nf 2) hts ct_2.2.1 (hts _ in_X2)
    | 3, _ => exact u_known (C := cb_C 3) (T := cb_T 3) (N := cb_nf 3) (n := cb_nf 3) hts ct_3.2.1 (hts _ in_X3)
    | 4, _ => exact u_known (C := cb_C 4) (T := cb_T 4) (N := cb_nf 4) (n := cb_nf 4) hts ct_4.2.1 (hts _ in_X4)
    | 5, _ => exact u_known (C := cb_C 5) (T := cb_T 5) (N := cb_nf 5) (n := cb_nf 5) hts ct_5.2.1 (hts _ in_X5)
    | 6, _ => exact u_known (C := cb_C 6) (T := cb_T 6) (N := cb_nf 6) (n := cb_nf 6) hts ct_6.2.1 (hts _ in_X6)
    | 7, _ => exact u_known (C := cb_C 7) (T := cb_T 7) (N := cb_nf 7) (n := cb_nf 7) hts ct_7.2.1 (hts _ in_X7)
    | 8, _ => exact u_known (C := cb_C 8) (T := cb_T 8) (N := cb_nf 8) (n := cb_nf 8) hts ct_8.2.1 (hts _ in_X8)
    | 9, _ => exact u_known (C := cb_C 9) (T := cb_T 9) (N := cb_nf 9) (n := cb_nf 9) hts ct_9.2.1 (hts _ in_X9)
    | 10, _ => exact u_known (C := cb_C 10) (T := cb_T 10) (N := cb_nf 10) (n := cb_nf 10) hts ct_10.2.1 (hts _ in_X10)
    | 11, _ => exact u_known (C := cb_C 11) (T := cb_T 11) (N := cb_nf 11) (n := cb_nf 11) hts ct_11.2.1 (hts _ in_X11)
  have h2 : ∀ ci, ∃ p : ClassId × (Nat → Nat), ci < 12 → u_Kn s (cb_C ci) (cb_T ci) (cb_nf ci) p.1 p.2 := fun ci => by
    by_cases e : ci < 12
    · obtain ⟨c, i, hk⟩ := h ci e
      exact ⟨(c, i), fun _ => hk⟩
    · obtain ⟨c, i, -⟩ := h 0 (by decide)
      exact ⟨(c, i), fun h => absurd h e⟩
  exact ⟨(fun ci => (Classical.choose (h2 ci)).1, fun ci => (Classical.choose (h2 ci)).2), fun ci hci => Classical.choose_spec (h2 ci) hci⟩
theorem lw_ty {args : Array Value} {s : State} (hts : ∀ w ∈ lw_tbl, w.before args s = true) : ∃ a : Nat → ClassId, (ArrOfT s (a 1) .int ∧ va_RA s (a 1) .int) ∧ (ArrOfT s (a 2) .boolean ∧ va_RA s (a 2) .boolean) ∧ (ArrOfT s (a 3) (.object "CutBoard$Sheet") ∧ va_RA s (a 3) (.object "CutBoard$Sheet")) ∧ (ArrOfT s (a 4) (.object "CutBoard$Entry") ∧ va_RA s (a 4) (.object "CutBoard$Entry")) ∧ (ArrOfT s (a 5) (.array .int) ∧ va_RA s (a 5) (.array .int)) := by
  obtain ⟨c1, k1, p1, f1, g1, e1⟩ := Cond.arrayClass_spec (hts _ (List.mem_filter.mp ac_int).1)
  obtain ⟨c2, k2, p2, f2, g2, e2⟩ := Cond.arrayClass_spec (hts _ (List.mem_filter.mp ac_boolean).1)
  obtain ⟨p3, c3, k3, f3, -, g3, e3, n3⟩ := Cond.arrayOver_spec (n := "CutBoard$Sheet") (hts _ (List.mem_of_getElem? (i := 140) (by decide +kernel)))
  obtain ⟨p4, c4, k4, f4, -, g4, e4, n4⟩ := Cond.arrayOver_spec (n := "CutBoard$Entry") (hts _ (List.mem_of_getElem? (i := 142) (by decide +kernel)))
  obtain ⟨p5, c5, k5, f5, -, g5, e5, n5⟩ := arrayOverA_spec (t := .int) (hts _ (List.mem_of_getElem? (i := 97) (by decide +kernel)))
  refine ⟨fun k => if k = 1 then c1 else if k = 2 then c2 else if k = 3 then c3 else if k = 4 then c4 else c5, ⟨fun n z => ⟨fun k h => (by cases h), k1, g1, p1, e1⟩, f1⟩, ⟨fun n z => ⟨fun k h => (by cases h), k2, g2, p2, e2⟩, f2⟩, ⟨fun n z => ⟨fun k h => (by cases h), k3, g3, p3, e3⟩, k3, p3, g3, e3, f3, n3⟩, ⟨fun n z => ⟨fun k h => (by cases h), k4, g4, p4, e4⟩, k4, p4, g4, e4, f4, n4⟩, ⟨fun n z => ⟨fun k h => (by cases h), k5, g5, p5, e5⟩, n5⟩⟩
theorem lw_ev {p : Program} {s : State} {m : MethodId} {meth : Method} {c : Code} {b L : Nat} {xs : Nat → Int32} (hL : L ≤ 2048) (C0 : lw_At p s m meth c b L xs) : ∃ g : cb_G, cb_Ev g s.heap.size s ∧ g.2.2.2.1 3 = b ∧ g.2.2.2.2.1 = L ∧ g.2.2.2.2.2 = xs := by
  obtain ⟨hx, hb, hr, hml, hown, hts, hX, hbl, hlocks, hgv⟩ := C0
  have hA : ∀ a : Nat, a < s.heap.size → ¬ cb_A s.heap.size a := fun a h => Nat.not_le.mpr h
  have hg : ∀ w ∈ cb_gw, w.before #[Value.ref b] s = true := fun w hw => hts w (List.mem_filter.mp hw).1
  have hs := flat_of_before _ hgv
  obtain ⟨D, hD⟩ := lw_kn hg
  obtain ⟨aC, t1, t2, t3, t4, t5⟩ := lw_ty hts
  obtain ⟨tH, vH, TH⟩ := lw_T0 (A := cb_A s.heap.size) hs hA (D.1, D.2, aC, fun _ => b, L, xs)
  obtain ⟨tR, vR, TR⟩ := lw_T1 (A := cb_A s.heap.size) hs hA (D.1, D.2, aC, fun _ => b, L, xs)
  obtain ⟨tC, vC, TC⟩ := lw_T2 (A := cb_A s.heap.size) hs hA (D.1, D.2, aC, fun _ => b, L, xs)
  refine ⟨(D.1, D.2, aC, fun j => if j = 0 then tH else if j = 1 then tR else if j = 2 then tC else b, L, xs), ⟨⟨fun ci q hq => ?_, fun k q hk => ?_⟩, Nat.le_refl _, fun w hw => ?_, va_AO.of (hts _ (List.mem_of_getElem? (i := 140) (by decide +kernel))), va_AO.of (hts _ (List.mem_of_getElem? (i := 142) (by decide +kernel))), (show cb_AOA s from hts (Cond.arrayOver (.array .int)) (List.mem_of_getElem? (i := 97) (by decide +kernel))), va_Zref (hts _ (List.mem_of_getElem? (i := 675) (by decide +kernel))) (hg _ ini_X8) vH hA, va_Zref (hts _ (List.mem_of_getElem? (i := 468) (by decide +kernel))) (hg _ ini_X1) vR hA, va_Zref (hts _ (List.mem_of_getElem? (i := 470) (by decide +kernel))) (hg _ ini_X1) vC hA, fun j hj => ?_⟩, rfl, rfl, rfl⟩
  · have hci : ci < 12 := (List.getElem?_eq_some_iff.mp hq).1
    have h9 := hD ci hci
    match ci, hci, hq, h9 with
    | 0, _, hq, h9 => cases hq; exact h9
    | 1, _, hq, h9 => cases hq; exact h9
    | 2, _, hq, h9 => cases hq; exact h9
    | 3, _, hq, h9 => cases hq; exact h9
    | 4, _, hq, h9 => cases hq; exact h9
    | 5, _, hq, h9 => cases hq; exact h9
    | 6, _, hq, h9 => cases hq; exact h9
    | 7, _, hq, h9 => cases hq; exact h9
    | 8, _, hq, h9 => cases hq; exact h9
    | 9, _, hq, h9 => cases hq; exact h9
    | 10, _, hq, h9 => cases hq; exact h9
    | 11, _, hq, h9 => cases hq; exact h9
  · have hk5 : k < 5 := (List.getElem?_eq_some_iff.mp hk).1
    match k, hk5, hk with
    | 0, _, hk => cases hk; exact t1
    | 1, _, hk => cases hk; exact t2
    | 2, _, hk => cases hk; exact t3
    | 3, _, hk => cases hk; exact t4
    | 4, _, hk => cases hk; exact t5
  · have h1 := hts w (List.mem_filter.mp hw).1
    have h2 := (List.mem_filter.mp hw).2
    cases w <;> first | (exact va_Nw.of rfl h1) | (exact absurd h2 (by simp [cb_isN]))
  · match j, hj with
    | 0, _ => exact TH
    | 1, _ => exact TR
    | 2, _ => exact TC
    | 3, _ =>
      obtain ⟨scr, y1, y2, y3, y4, y5⟩ := hX
      exact ⟨scr, y1, y2, y3, Nat.le_of_eq y4.symm, by rw [y4]; rfl, y5, hA b hbl⟩
theorem lw_out {p : Program} {l : Launch} {e : Env} {s : State} {m : MethodId} {below : List Frame} {meth : Method} {c : Code} {b : Nat} {g : cb_G} {ad0 : Nat → Nat} (hx : p.tables.exec = Jvm.exec) (hb : c.code = code) (hr : meth.sig.returnType = ret) (hlocks : meth.locks = false) (O : cb_Ok ((p, l, e, room_1, s), (m, #[Value.ref b], below, meth, c), (g, s.heap.size), (ad0, (fun _ => false), lw_Z below #[Value.ref b] s)) cL_law 4 RL room_1) (w : cb_W) (ca sl : Nat) (lv : List (Option cb_V)) (h1 : ca ≤ 600000) (h2 : sl ≤ 7302250) : cb_X ((p, l, e, room_1, s), (m, #[Value.ref b], below, meth, c), (g, s.heap.size), (ad0, (fun _ => false), lw_Z below #[Value.ref b] s)) w ca sl 1188 lv [] := by
  refine cb_iconst (pc := 1188) (v := 1) O dL_law_1188 (by decide) ?_
  intro ad H locs ls hW hk hS hl
  refine va_forget (fun q hq => hS.2.2 q hq) ?_
  refine W.widen (k := 600000) (n := 7302250) h1 h2 ?_
  exact lw_ret hx hb hr hlocks dL_law_1189
def w_0 : cb_W := (fun _ => false, fun _ _ => 0, fun _ _ => none)
set_option maxRecDepth 100000 in
theorem lw_begin {κ : cb_K} (O : cb_Ok κ cL_law 4 RL room_1) (hkf : ∀ q, κ.2.2.2.2.1 q = false) (hb : (cb_ro κ.2.2.1.1 3).1 ≤ 2048) (K9 : ∀ (w : cb_W) (ca sl : Nat) (lv : List (Option cb_V)), ca ≤ 600000 → sl ≤ 7302250 → cb_X κ w ca sl 1188 lv []) : cb_X κ w_0 0 0 0 [some (.inr (some 903)), none, none, none] [] := by
  have hkk : ∀ (P : Nat → Bool) (q : Nat), κ.2.2.2.2.1 q = true → P q = true := fun P q h => by rw [hkf q] at h; cases h
  refine cb_new (pc := 0) O 0 ct_10 cl_L_7 in_X10 ini_X10 rfl dL_law_0 (by decide) (hkf 0) rfl (Nat.le_of_ble_eq_true rfl) (Nat.le_of_ble_eq_true rfl) rfl ?_
  refine cb_dup (pc := 3) O dL_law_3 ?_
  have a0 : (cb_nw1 w_0 0).1 0 = true := rfl
  have a1 : ∀ q, q ≠ 0 → (cb_nw1 w_0 0).1 q = false := fun q h => if_neg h
  refine cb_cIv (pc := 4) O (c_X10_init (cb_nw1 w_0 0) a0 a1) my_X10_init mi_X10_init rfl ml_L_9 dL_law_4 rfl rfl ⟨(Nat.le_of_ble_eq_true rfl), (Nat.le_of_ble_eq_true rfl)⟩ (Nat.le_of_ble_eq_true rfl) rfl ⟨(Nat.le_of_ble_eq_true rfl), (Nat.le_of_ble_eq_true rfl)⟩ (hkk _) (fun w1 hw1 => ?_)
  obtain ⟨hC1, hF1⟩ := c_init_I (cb_nw1 w_0 0) a0 a1 (fun k => rfl)
  rw [← hw1] at hC1 hF1
  have hdead : ∀ q, 1000 ≤ q → w1.1 q = false := fun q hq => by rw [(hF1 q hq).1]; exact a1 q (by omega)
  refine cb_astore_n (pc := 7) O dL_law_7 (by decide) ?_
  dsimp only [List.set]
  refine cb_new (pc := 8) O 1000 ct_11 cl_L_10 in_X11 ini_X11 rfl dL_law_8 (by decide) (hkf 1000) rfl (Nat.le_of_ble_eq_true rfl) (Nat.le_of_ble_eq_true rfl) (hdead 1000 (by omega)) ?_
  refine cb_dup (pc := 11) O dL_law_11 ?_
  refine cb_cIv (pc := 12) O (c_X11_init (cb_nw1 w1 1000) (by show (if 1000 = 1000 then true else w1.1 1000) = true; rw [if_pos rfl]) (fun k => by show (if 1000 = 1000 then (fun _ => none) else w1.2.2 1000) k = none; rw [if_pos rfl]) (by show (if 1000 = 1000 then (fun _ => (0 : Int32)) else w1.2.1 1000) = _; rw [if_pos rfl]) (fun q hq => by show (if q = 1000 then true else w1.1 q) = false; rw [if_neg (by omega)]; exact hdead q (by omega))) my_X11_init mi_X11_init rfl ml_L_12 dL_law_12 rfl rfl ⟨(Nat.le_of_ble_eq_true rfl), (Nat.le_of_ble_eq_true rfl)⟩ (Nat.le_of_ble_eq_true rfl) rfl ⟨(Nat.le_of_ble_eq_true rfl), (Nat.le_of_ble_eq_true rfl)⟩ (hkk _) (fun w2 hw2 => ?_)
  obtain ⟨hM2, g1, g2⟩ := hw2
  have hnw : ∀ q, q ≠ 1000 → EQ9 w1 (cb_nw1 w1 1000) q := fun q h => q_nw h
  have hC2 : cc_I w2 A_0 0 := hC1.mvi J_0.1 (fun q hq => by
    obtain ⟨y1, y2, y3⟩ := g1 q (Or.inl hq)
    obtain ⟨x1, x2, x3⟩ := hnw q (by omega)
    exact ⟨y1.trans x1, y2.trans x2, y3.trans x3⟩) (fun q hq => by
    rw [(g1 q (Or.inr hq)).1, (hnw q (by omega)).1]
    exact hdead q (by omega)) g2
  refine cb_astore_n (pc := 15) O dL_law_15 (by decide) ?_
  dsimp only [List.set]
  refine cb_iconst (pc := 16) (v := 0) O dL_law_16 (by decide) ?_
  refine cb_istore_n (pc := 17) O dL_law_17 (by decide) ?_
  dsimp only [List.set]
  refine cb_wid (ca' := 87) (sl' := 9172) (Nat.le_of_ble_eq_true rfl) (Nat.le_of_ble_eq_true rfl) ?_
  exact lw_loop O hkf hb (fun w ca sl i h1 h2 => K9 w ca sl _ h1 h2) 512 w2 A_0 0 0 87 9172 ⟨J_0, hC2, hM2⟩ (by omega) (by omega) (by omega) (by omega)
theorem whole_start {p : Program} {e : Env} {s : State} {m : MethodId} {below : List Frame} {meth : Method} {c : Code} (l : Launch) {b L : Nat} {xs : Nat → Int32} (hL : L ≤ 2048) (C0 : lw_At p s m meth c b L xs) : W p l e room_1 s m #[Value.ref b] below meth c s.heap [] 0 0 (lw_Z below #[Value.ref b] s) (entryFrame m ([Value.ref b] : List Value).toArray 4) := by
  obtain ⟨g, hE, hg3, hgL, hgx⟩ := lw_ev hL C0
  obtain ⟨hx, hb, hr, hml, hown, hts, hX, hbl, hlocks, hgv⟩ := id C0
  have O : cb_Ok ((p, l, e, room_1, s), (m, #[Value.ref b], below, meth, c), (g, s.heap.size), ((fun q => g.2.2.2.1 (q - 900)), (fun _ => false), lw_Z below #[Value.ref b] s)) cL_law 4 RL room_1 := ⟨hx, hb, hml, hown, fun w hw => hts w (List.mem_filter.mp hw).1, hE, rfl, hlocks⟩
  have hW0 : cb_Wo g s.heap.size (fun q => g.2.2.2.1 (q - 900)) w_0 s.heap := ⟨[], fun r => ⟨fun h => absurd h List.not_mem_nil, fun h => absurd h (by show ¬ (false = true); decide)⟩, fun k q h => by simp [cb_ls] at h, ⟨fun i j p q h => by simp [cb_ls] at h, fun k q h => by simp [cb_ls] at h⟩, (fun r h => absurd h (by show ¬ (false = true); decide)), fun j hj => ⟨by show g.2.2.2.1 (900 + j - 900) = _; rw [Nat.add_sub_cancel_left], rfl⟩⟩
  have hX0 := lw_begin O (fun _ => rfl) (by show g.2.2.2.2.1 ≤ 2048; rw [hgL]; exact hL) (fun w ca sl lv h1 h2 => lw_out hx hb hr hlocks O w ca sl lv h1 h2)
  have h9 := hX0 (fun q => g.2.2.2.1 (q - 900)) s.heap [] _ hW0 (fun q h => by cases h) va_S.rf (by
    show cb_lh _ _ c.maxLocals _
    rw [hml]
    exact cb_entry (fun q => g.2.2.2.1 (q - 900)) [.inr (some 903)] (n := 4) (by decide))
  have hv : ([.inr (some 903)] : List cb_V).map (cb_vv (fun q => g.2.2.2.1 (q - 900))) = [Value.ref b] := by
    show [Value.ref (g.2.2.2.1 (903 - 900))] = _
    rw [show (903 - 900 : Nat) = 3 from rfl, hg3]
  rw [lg_entry_eq]
  rw [hv] at h9
  exact h9
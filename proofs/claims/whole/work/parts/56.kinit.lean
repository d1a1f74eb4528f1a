def cb_mkf (w : cb_W) (i : Nat) : cb_W := (w.1, fun q k => if 100 ≤ q ∧ q < 100 + i ∧ k < 16 then nI (q - 99) else w.2.1 q k, w.2.2)
theorem cb_mkf0 (w : cb_W) : cb_mkf w 0 = w := cb_W.ext rfl (fun r k => if_neg (by omega)) rfl
theorem cb_mkfS (w : cb_W) (i : Nat) : cb_fl (cb_mkf w i) (100 + i) 0 16 (nI (i + 1)) = cb_mkf w (i + 1) := by
  refine cb_W.ext rfl (fun r k => ?_) rfl
  show (if r = 100 + i ∧ 0 ≤ k ∧ k < 16 then nI (i + 1) else if 100 ≤ r ∧ r < 100 + i ∧ k < 16 then nI (r - 99) else w.2.1 r k) = (if 100 ≤ r ∧ r < 100 + (i + 1) ∧ k < 16 then nI (r - 99) else w.2.1 r k)
  by_cases e : r = 100 + i ∧ 0 ≤ k ∧ k < 16
  · rw [if_pos e, if_pos (by omega)]
    congr 1
    omega
  · rw [if_neg e]
    by_cases e2 : 100 ≤ r ∧ r < 100 + i ∧ k < 16
    · rw [if_pos e2, if_pos (by omega)]
    · rw [if_neg e2, if_neg (by omega)]
def ik0 (w : cb_W) : cb_W := cb_fl (cb_ur (cb_nwM (cb_ur (cb_nwM (cb_ur (cb_nw1 (cb_ur (cb_nwM w 8 100 10) 1 0 (some 8)) 9) 1 1 (some 9)) 10 110 10) 1 2 (some 10)) 11 120 10) 1 3 (some 11)) 9 0 10 60
def sr0 (w : cb_W) : cb_W := cb_ur (cb_um (cb_ur (cb_nwM (cb_ur (cb_nw1 w 12) 6 0 (some 12)) 13 130 6) 6 1 (some 13)) 6 3 0) 6 2 (some 1)
def pl0 (w : cb_W) : cb_W := cb_fl (cb_ur (cb_nw1 (cb_ur (cb_um (cb_ur (cb_nw1 (cb_nw1 w 14) 15) 14 0 (some 15)) 14 1 0) 7 0 (some 14)) 16) 7 1 (some 16)) 16 0 16 (-1)
def bd0 (w : cb_W) : cb_W := cb_um (cb_um (cb_um (cb_um (cb_ur (cb_nw1 (cb_ur (cb_nw1 (cb_ur (cb_nw1 (cb_ur (cb_nw1 (cb_ur (cb_nw1 w 21) 20 2 (some 21)) 22) 20 3 (some 22)) 23) 20 4 (some 23)) 24) 20 6 (some 24)) 25) 20 7 (some 25)) 20 0 0) 20 1 0) 20 5 0) 23 0 1
def pc0 (w : cb_W) : cb_W := cb_um (cb_um (cb_ur (cb_nw1 w 27) 26 2 (some 27)) 26 0 0) 26 1 0
def s1 (w : cb_W) : cb_W := cb_ur (cb_mkf (ik0 (cb_nw1 w 1)) 10) 0 0 (some 1)
def s2 (w : cb_W) : cb_W := cb_ur (cb_um (cb_um (cb_nw1 w 2) 2 0 0) 2 1 0) 0 1 (some 2)
def s3 (w : cb_W) : cb_W := cb_ur (cb_nw1 w 3) 0 2 (some 3)
def s4 (w : cb_W) : cb_W := cb_ur (cb_nw1 w 4) 0 3 (some 4)
def s5 (w : cb_W) : cb_W := cb_ur (cb_nw1 w 5) 0 4 (some 5)
def s6 (w : cb_W) : cb_W := cb_ur (sr0 (cb_nw1 w 6)) 0 5 (some 6)
def s7 (w : cb_W) : cb_W := cb_ur (pl0 (cb_nw1 w 7)) 0 6 (some 7)
def s8 (w : cb_W) : cb_W := cb_ur (bd0 (cb_nw1 w 20)) 0 7 (some 20)
def s9 (w : cb_W) : cb_W := cb_ur (pc0 (cb_nw1 w 26)) 0 8 (some 26)
def s10 (w : cb_W) : cb_W := cb_um (cb_um (cb_um w 0 9 0) 0 10 0) 0 11 0
def EQ9 (w w' : cb_W) (q : Nat) : Prop := w'.1 q = w.1 q ∧ w'.2.1 q = w.2.1 q ∧ w'.2.2 q = w.2.2 q
theorem EQ9.trans {a b c : cb_W} {q : Nat} (h1 : EQ9 a b q) (h2 : EQ9 b c q) : EQ9 a c q := ⟨h2.1.trans h1.1, h2.2.1.trans h1.2.1, h2.2.2.trans h1.2.2⟩
theorem q_nw {w : cb_W} {r q : Nat} (h : q ≠ r) : EQ9 w (cb_nw1 w r) q := ⟨if_neg h, if_neg h, if_neg h⟩
theorem q_nM {w : cb_W} {r b n q : Nat} (h : ¬ (q = r ∨ (b ≤ q ∧ q < b + n))) : EQ9 w (cb_nwM w r b n) q := ⟨if_neg h, if_neg h, by
  show (if q = r then _ else if _ then _ else _) = _
  rw [if_neg (fun e => h (Or.inl e)), if_neg (fun e => h (Or.inr e))]⟩
theorem q_ur {w : cb_W} {r k q : Nat} {x : Option Nat} (h : q ≠ r) : EQ9 w (cb_ur w r k x) q := ⟨rfl, rfl, cb_u2r h⟩
theorem q_um {w : cb_W} {r k q : Nat} {x : Int32} (h : q ≠ r) : EQ9 w (cb_um w r k x) q := ⟨rfl, cb_u2r h, rfl⟩
theorem q_fl {w : cb_W} {r a b q : Nat} {x : Int32} (h : q ≠ r) : EQ9 w (cb_fl w r a b x) q := ⟨rfl, funext fun _ => if_neg (fun e => h e.1), rfl⟩
theorem q_mk {w : cb_W} {i q : Nat} (h : ¬ (100 ≤ q ∧ q < 100 + i)) : EQ9 w (cb_mkf w i) q := ⟨rfl, funext fun _ => if_neg (fun e => h ⟨e.1, e.2.1⟩), rfl⟩
theorem s1_f (w : cb_W) {q : Nat} (h0 : q ≠ 0) (h : ¬ (q = 1 ∨ (8 ≤ q ∧ q < 12) ∨ (100 ≤ q ∧ q < 130))) : EQ9 w (s1 w) q := ((((((((((((q_nw (by omega)).trans (q_nM (by omega))).trans (q_ur (by omega))).trans (q_nw (by omega))).trans (q_ur (by omega))).trans (q_nM (by omega))).trans (q_ur (by omega))).trans (q_nM (by omega))).trans (q_ur (by omega))).trans (q_fl (by omega))).trans (q_mk (by omega))).trans (q_ur (by omega)))
theorem s1_z (w : cb_W) : (s1 w).1 0 = w.1 0 ∧ (s1 w).2.1 0 = w.2.1 0 ∧ ∀ j, (s1 w).2.2 0 j = if j = 0 then some 1 else w.2.2 0 j := by
  have h0 : (0 : Nat) ≠ 1000 := by decide
  have e : EQ9 w (cb_mkf (ik0 (cb_nw1 w 1)) 10) 0 := (((((((((((q_nw (by omega)).trans (q_nM (by omega))).trans (q_ur (by omega))).trans (q_nw (by omega))).trans (q_ur (by omega))).trans (q_nM (by omega))).trans (q_ur (by omega))).trans (q_nM (by omega))).trans (q_ur (by omega))).trans (q_fl (by omega))).trans (q_mk (by omega)))
  refine ⟨e.1, e.2.1, fun j => ?_⟩
  show cb_u2 _ 0 0 (some 1) 0 j = _
  by_cases hj : j = 0
  · rw [hj, cb_u2s, if_pos rfl]
  · rw [cb_u2n (Or.inr hj), if_neg hj, e.2.2]
theorem s2_f (w : cb_W) {q : Nat} (h0 : q ≠ 0) (h : ¬ (q = 2)) : EQ9 w (s2 w) q := ((((q_nw (by omega)).trans (q_um (by omega))).trans (q_um (by omega))).trans (q_ur (by omega)))
theorem s2_z (w : cb_W) : (s2 w).1 0 = w.1 0 ∧ (s2 w).2.1 0 = w.2.1 0 ∧ ∀ j, (s2 w).2.2 0 j = if j = 1 then some 2 else w.2.2 0 j := by
  have h0 : (0 : Nat) ≠ 1000 := by decide
  have e : EQ9 w (cb_um (cb_um (cb_nw1 w 2) 2 0 0) 2 1 0) 0 := (((q_nw (by omega)).trans (q_um (by omega))).trans (q_um (by omega)))
  refine ⟨e.1, e.2.1, fun j => ?_⟩
  show cb_u2 _ 0 1 (some 2) 0 j = _
  by_cases hj : j = 1
  · rw [hj, cb_u2s, if_pos rfl]
  · rw [cb_u2n (Or.inr hj), if_neg hj, e.2.2]
theorem s3_f (w : cb_W) {q : Nat} (h0 : q ≠ 0) (h : ¬ (q = 3)) : EQ9 w (s3 w) q := ((q_nw (by omega)).trans (q_ur (by omega)))
theorem s3_z (w : cb_W) : (s3 w).1 0 = w.1 0 ∧ (s3 w).2.1 0 = w.2.1 0 ∧ ∀ j, (s3 w).2.2 0 j = if j = 2 then some 3 else w.2.2 0 j := by
  have h0 : (0 : Nat) ≠ 1000 := by decide
  have e : EQ9 w (cb_nw1 w 3) 0 := (q_nw (by omega))
  refine ⟨e.1, e.2.1, fun j => ?_⟩
  show cb_u2 _ 0 2 (some 3) 0 j = _
  by_cases hj : j = 2
  · rw [hj, cb_u2s, if_pos rfl]
  · rw [cb_u2n (Or.inr hj), if_neg hj, e.2.2]
theorem s4_f (w : cb_W) {q : Nat} (h0 : q ≠ 0) (h : ¬ (q = 4)) : EQ9 w (s4 w) q := ((q_nw (by omega)).trans (q_ur (by omega)))
theorem s4_z (w : cb_W) : (s4 w).1 0 = w.1 0 ∧ (s4 w).2.1 0 = w.2.1 0 ∧ ∀ j, (s4 w).2.2 0 j = if j = 3 then some 4 else w.2.2 0 j := by
  have h0 : (0 : Nat) ≠ 1000 := by decide
  have e : EQ9 w (cb_nw1 w 4) 0 := (q_nw (by omega))
  refine ⟨e.1, e.2.1, fun j => ?_⟩
  show cb_u2 _ 0 3 (some 4) 0 j = _
  by_cases hj : j = 3
  · rw [hj, cb_u2s, if_pos rfl]
  · rw [cb_u2n (Or.inr hj), if_neg hj, e.2.2]
theorem s5_f (w : cb_W) {q : Nat} (h0 : q ≠ 0) (h : ¬ (q = 5)) : EQ9 w (s5 w) q := ((q_nw (by omega)).trans (q_ur (by omega)))
theorem s5_z (w : cb_W) : (s5 w).1 0 = w.1 0 ∧ (s5 w).2.1 0 = w.2.1 0 ∧ ∀ j, (s5 w).2.2 0 j = if j = 4 then some 5 else w.2.2 0 j := by
  have h0 : (0 : Nat) ≠ 1000 := by decide
  have e : EQ9 w (cb_nw1 w 5) 0 := (q_nw (by omega))
  refine ⟨e.1, e.2.1, fun j => ?_⟩
  show cb_u2 _ 0 4 (some 5) 0 j = _
  by_cases hj : j = 4
  · rw [hj, cb_u2s, if_pos rfl]
  · rw [cb_u2n (Or.inr hj), if_neg hj, e.2.2]
theorem s6_f (w : cb_W) {q : Nat} (h0 : q ≠ 0) (h : ¬ (q = 6 ∨ q = 12 ∨ q = 13 ∨ (130 ≤ q ∧ q < 136))) : EQ9 w (s6 w) q := ((((((((q_nw (by omega)).trans (q_nw (by omega))).trans (q_ur (by omega))).trans (q_nM (by omega))).trans (q_ur (by omega))).trans (q_um (by omega))).trans (q_ur (by omega))).trans (q_ur (by omega)))
theorem s6_z (w : cb_W) : (s6 w).1 0 = w.1 0 ∧ (s6 w).2.1 0 = w.2.1 0 ∧ ∀ j, (s6 w).2.2 0 j = if j = 5 then some 6 else w.2.2 0 j := by
  have h0 : (0 : Nat) ≠ 1000 := by decide
  have e : EQ9 w (sr0 (cb_nw1 w 6)) 0 := (((((((q_nw (by omega)).trans (q_nw (by omega))).trans (q_ur (by omega))).trans (q_nM (by omega))).trans (q_ur (by omega))).trans (q_um (by omega))).trans (q_ur (by omega)))
  refine ⟨e.1, e.2.1, fun j => ?_⟩
  show cb_u2 _ 0 5 (some 6) 0 j = _
  by_cases hj : j = 5
  · rw [hj, cb_u2s, if_pos rfl]
  · rw [cb_u2n (Or.inr hj), if_neg hj, e.2.2]
theorem s7_f (w : cb_W) {q : Nat} (h0 : q ≠ 0) (h : ¬ (q = 7 ∨ (14 ≤ q ∧ q < 17))) : EQ9 w (s7 w) q := ((((((((((q_nw (by omega)).trans (q_nw (by omega))).trans (q_nw (by omega))).trans (q_ur (by omega))).trans (q_um (by omega))).trans (q_ur (by omega))).trans (q_nw (by omega))).trans (q_ur (by omega))).trans (q_fl (by omega))).trans (q_ur (by omega)))
theorem s7_z (w : cb_W) : (s7 w).1 0 = w.1 0 ∧ (s7 w).2.1 0 = w.2.1 0 ∧ ∀ j, (s7 w).2.2 0 j = if j = 6 then some 7 else w.2.2 0 j := by
  have h0 : (0 : Nat) ≠ 1000 := by decide
  have e : EQ9 w (pl0 (cb_nw1 w 7)) 0 := (((((((((q_nw (by omega)).trans (q_nw (by omega))).trans (q_nw (by omega))).trans (q_ur (by omega))).trans (q_um (by omega))).trans (q_ur (by omega))).trans (q_nw (by omega))).trans (q_ur (by omega))).trans (q_fl (by omega)))
  refine ⟨e.1, e.2.1, fun j => ?_⟩
  show cb_u2 _ 0 6 (some 7) 0 j = _
  by_cases hj : j = 6
  · rw [hj, cb_u2s, if_pos rfl]
  · rw [cb_u2n (Or.inr hj), if_neg hj, e.2.2]
theorem s8_f (w : cb_W) {q : Nat} (h0 : q ≠ 0) (h : ¬ ((20 ≤ q ∧ q < 26))) : EQ9 w (s8 w) q := ((((((((((((((((q_nw (by omega)).trans (q_nw (by omega))).trans (q_ur (by omega))).trans (q_nw (by omega))).trans (q_ur (by omega))).trans (q_nw (by omega))).trans (q_ur (by omega))).trans (q_nw (by omega))).trans (q_ur (by omega))).trans (q_nw (by omega))).trans (q_ur (by omega))).trans (q_um (by omega))).trans (q_um (by omega))).trans (q_um (by omega))).trans (q_um (by omega))).trans (q_ur (by omega)))
theorem s8_z (w : cb_W) : (s8 w).1 0 = w.1 0 ∧ (s8 w).2.1 0 = w.2.1 0 ∧ ∀ j, (s8 w).2.2 0 j = if j = 7 then some 20 else w.2.2 0 j := by
  have h0 : (0 : Nat) ≠ 1000 := by decide
  have e : EQ9 w (bd0 (cb_nw1 w 20)) 0 := (((((((((((((((q_nw (by omega)).trans (q_nw (by omega))).trans (q_ur (by omega))).trans (q_nw (by omega))).trans (q_ur (by omega))).trans (q_nw (by omega))).trans (q_ur (by omega))).trans (q_nw (by omega))).trans (q_ur (by omega))).trans (q_nw (by omega))).trans (q_ur (by omega))).trans (q_um (by omega))).trans (q_um (by omega))).trans (q_um (by omega))).trans (q_um (by omega)))
  refine ⟨e.1, e.2.1, fun j => ?_⟩
  show cb_u2 _ 0 7 (some 20) 0 j = _
  by_cases hj : j = 7
  · rw [hj, cb_u2s, if_pos rfl]
  · rw [cb_u2n (Or.inr hj), if_neg hj, e.2.2]
theorem s9_f (w : cb_W) {q : Nat} (h0 : q ≠ 0) (h : ¬ (q = 26 ∨ q = 27)) : EQ9 w (s9 w) q := ((((((q_nw (by omega)).trans (q_nw (by omega))).trans (q_ur (by omega))).trans (q_um (by omega))).trans (q_um (by omega))).trans (q_ur (by omega)))
theorem s9_z (w : cb_W) : (s9 w).1 0 = w.1 0 ∧ (s9 w).2.1 0 = w.2.1 0 ∧ ∀ j, (s9 w).2.2 0 j = if j = 8 then some 26 else w.2.2 0 j := by
  have h0 : (0 : Nat) ≠ 1000 := by decide
  have e : EQ9 w (pc0 (cb_nw1 w 26)) 0 := (((((q_nw (by omega)).trans (q_nw (by omega))).trans (q_ur (by omega))).trans (q_um (by omega))).trans (q_um (by omega)))
  refine ⟨e.1, e.2.1, fun j => ?_⟩
  show cb_u2 _ 0 8 (some 26) 0 j = _
  by_cases hj : j = 8
  · rw [hj, cb_u2s, if_pos rfl]
  · rw [cb_u2n (Or.inr hj), if_neg hj, e.2.2]
theorem s10_f (w : cb_W) {q : Nat} (h0 : q ≠ 0) : EQ9 w (s10 w) q := (((q_um (by omega)).trans (q_um (by omega))).trans (q_um (by omega)))
theorem c_X5_init (w : cb_W) (h2 : w.1 2 = true) : cb_Con yX5_init cX5_init 1 none 1 20 0 0 (fun _ => true) [.inr (some 2)] w (cb_pv (fun w' => w' = cb_um (cb_um w 2 0 0) 2 1 0)) := by
  refine cb_con (by decide) (Nat.le_of_ble_eq_true rfl) (fun κ O Rt hnm => ?_)
  show cb_X κ w 0 0 0 [some (.inr (some 2))] []
  refine cb_aload_n (pc := 0) O dX5_init_0 rfl ?_
  refine cb_objInit (pc := 1) O dX5_init_1 oi_X5_1 oi_inst oi_code ⟨(Nat.le_of_ble_eq_true rfl), (Nat.le_of_ble_eq_true rfl)⟩ (Nat.le_of_ble_eq_true rfl) ?_
  refine cb_aload_n (pc := 4) O dX5_init_4 rfl ?_
  refine cb_iconst (pc := 5) (v := 0) O dX5_init_5 (by decide) ?_
  refine cb_putIc (pc := 6) O fl_X5_7 (Or.inl rfl) rfl rfl dX5_init_6 rfl rfl h2 ?_
  refine cb_aload_n (pc := 9) O dX5_init_9 rfl ?_
  refine cb_iconst (pc := 10) (v := 0) O dX5_init_10 (by decide) ?_
  refine cb_putIc (pc := 11) O fl_X5_13 (Or.inl rfl) rfl rfl dX5_init_11 rfl rfl h2 ?_
  exact cb_vret (pc := 14) O Rt (Nat.le_of_ble_eq_true rfl) (Nat.le_of_ble_eq_true rfl) dX5_init_14 rfl

theorem c_X3_init14 (w : cb_W) (h14 : w.1 14 = true) (h15 : w.1 15 = false) : cb_Con yX3_init cX3_init 1 none 1 20 1 5 (fun q => !(q == 15)) [.inr (some 14)] w (cb_pv (fun w' => w' = cb_um (cb_ur (cb_nw1 w 15) 14 0 (some 15)) 14 1 0)) := by
  refine cb_con (by decide) (Nat.le_of_ble_eq_true rfl) (fun κ O Rt hnm => ?_)
  show cb_X κ w 0 0 0 [some (.inr (some 14))] []
  refine cb_aload_n (pc := 0) O dX3_init_0 rfl ?_
  refine cb_objInit (pc := 1) O dX3_init_1 oi_X3_3 oi_inst oi_code ⟨(Nat.le_of_ble_eq_true rfl), (Nat.le_of_ble_eq_true rfl)⟩ (Nat.le_of_ble_eq_true rfl) ?_
  refine cb_aload_n (pc := 4) O dX3_init_4 rfl ?_
  refine cb_iconst (pc := 5) (v := 5) O dX3_init_5 (by decide) ?_
  refine cb_newa (pc := 6) (atype := .int) (ty := .int) O 15 rfl (Or.inl ⟨rfl, rfl⟩) ac_int rfl dX3_init_6 (by decide) rfl (by decide) (by decide) (by rw [Rt.2.2]; rfl) rfl (Nat.le_of_ble_eq_true rfl) (Nat.le_of_ble_eq_true rfl) h15 ?_
  refine cb_putRc (pc := 8) O fl_X3_9 (Or.inr ⟨rfl, hnm, rfl, fm_X3_9⟩) rfl rfl dX3_init_8 (fun _ => rfl) (fun _ => rfl) (by simp [cb_nw1, cb_ur, cb_um, cb_nwM, cb_fl, cb_u2, *]) (by simp [cb_nw1, cb_ur, cb_um, cb_nwM, cb_fl, cb_u2, *]) ?_
  refine cb_aload_n (pc := 11) O dX3_init_11 rfl ?_
  refine cb_iconst (pc := 12) (v := 0) O dX3_init_12 (by decide) ?_
  refine cb_putIc (pc := 13) O fl_X3_15 (Or.inl rfl) rfl rfl dX3_init_13 rfl rfl (by simp [cb_nw1, cb_ur, cb_um, cb_nwM, cb_fl, cb_u2, *]) ?_
  exact cb_vret (pc := 16) O Rt (Nat.le_of_ble_eq_true rfl) (Nat.le_of_ble_eq_true rfl) dX3_init_16 rfl

theorem c_X7_init (w : cb_W) (h7 : w.1 7 = true) (h14 : w.1 14 = false) (h15 : w.1 15 = false) (h16 : w.1 16 = false) : cb_Con yX7_init cX7_init 1 none 2 40 3 23 (fun q => !(q == 14) && !(q == 15) && !(q == 16)) [.inr (some 7)] w (cb_pv (fun w' => w' = pl0 w)) := by
  refine cb_con (by decide) (Nat.le_of_ble_eq_true rfl) (fun κ O Rt hnm => ?_)
  show cb_X κ w 0 0 0 [some (.inr (some 7))] []
  refine cb_aload_n (pc := 0) O dX7_init_0 rfl ?_
  refine cb_objInit (pc := 1) O dX7_init_1 oi_X7_3 oi_inst oi_code ⟨(Nat.le_of_ble_eq_true rfl), (Nat.le_of_ble_eq_true rfl)⟩ (Nat.le_of_ble_eq_true rfl) ?_
  refine cb_aload_n (pc := 4) O dX7_init_4 rfl ?_
  refine cb_new (pc := 5) O 14 ct_3 cl_X7_9 in_X3 ini_X3 rfl dX7_init_5 (by decide) (by rw [Rt.2.2]; rfl) rfl (Nat.le_of_ble_eq_true rfl) (Nat.le_of_ble_eq_true rfl) h14 ?_
  refine cb_dup (pc := 8) O dX7_init_8 ?_
  refine cb_cIv (pc := 9) O (c_X3_init14 (cb_nw1 w 14) (by simp [cb_nw1]) (by simp [cb_nw1, h15])) my_X3_init mi_X3_init rfl ml_X7_11 dX7_init_9 rfl rfl ⟨(Nat.le_of_ble_eq_true rfl), (Nat.le_of_ble_eq_true rfl)⟩ (Nat.le_of_ble_eq_true rfl) rfl ⟨(Nat.le_of_ble_eq_true rfl), (Nat.le_of_ble_eq_true rfl)⟩ (fun q h => by rw [Rt.2.2] at h; simp at h ⊢; omega) (fun w_9 hp_9 => ?_)
  rw [hp_9]
  refine cb_putRc (pc := 12) O fl_X7_12 (Or.inr ⟨rfl, hnm, rfl, fm_X7_12⟩) rfl rfl dX7_init_12 (fun _ => rfl) (fun _ => rfl) (by simp [cb_nw1, cb_ur, cb_um, cb_nwM, cb_fl, cb_u2, *]) (by simp [cb_nw1, cb_ur, cb_um, cb_nwM, cb_fl, cb_u2, *]) ?_
  refine cb_aload_n (pc := 15) O dX7_init_15 rfl ?_
  refine cb_bipush (pc := 16) (v := 16) O dX7_init_16 (by decide) ?_
  refine cb_newa (pc := 18) (atype := .int) (ty := .int) O 16 rfl (Or.inl ⟨rfl, rfl⟩) ac_int rfl dX7_init_18 (by decide) rfl (by decide) (by decide) (by rw [Rt.2.2]; rfl) rfl (Nat.le_of_ble_eq_true rfl) (Nat.le_of_ble_eq_true rfl) (by simp [cb_nw1, cb_ur, cb_um, cb_nwM, cb_fl, cb_u2, *]) ?_
  refine cb_putRc (pc := 20) O fl_X7_18 (Or.inr ⟨rfl, hnm, rfl, fm_X7_18⟩) rfl rfl dX7_init_20 (fun _ => rfl) (fun _ => rfl) (by simp [cb_nw1, cb_ur, cb_um, cb_nwM, cb_fl, cb_u2, *]) (by simp [cb_nw1, cb_ur, cb_um, cb_nwM, cb_fl, cb_u2, *]) ?_
  refine cb_aload_n (pc := 23) O dX7_init_23 rfl ?_
  refine cb_getR (pc := 24) O fl_X7_18 rfl rfl dX7_init_24 (by simp [cb_nw1, cb_ur, cb_um, cb_nwM, cb_fl, cb_u2, *]) (Eq.trans (by simp [cb_nw1, cb_ur, cb_um, cb_u2]) (rfl : some 16 = some 16)) ?_
  refine cb_iconst (pc := 27) (v := (-1)) O dX7_init_27 (by decide) ?_
  refine cb_cSv (pc := 28) O (c_fill _ 16 16 (-1) rfl (by simp [cb_nw1, cb_ur, cb_um]) (by decide)) my_J7_fill_53178 mt_J7_fill_53178 ml_X7_22 dX7_init_28 rfl rfl ⟨(Nat.le_of_ble_eq_true rfl), (Nat.le_of_ble_eq_true rfl)⟩ (Nat.le_of_ble_eq_true rfl) rfl ⟨(Nat.le_of_ble_eq_true rfl), (Nat.le_of_ble_eq_true rfl)⟩ (fun _ _ => rfl) (fun w_28 hp_28 => ?_)
  rw [hp_28]
  exact cb_vret (pc := 31) O Rt (Nat.le_of_ble_eq_true rfl) (Nat.le_of_ble_eq_true rfl) dX7_init_31 rfl

theorem c_X8_init (w : cb_W) (h6 : w.1 6 = true) (h1 : w.1 1 = true) (h12 : w.1 12 = false) (h13 : w.1 13 = false) (h130 : ∀ i, i < 6 → w.1 (130 + i) = false) : cb_Con yX8_init cX8_init 2 none 1 20 8 118 (fun q => !(q == 12) && !(q == 13) && !(decide (130 ≤ q) && decide (q < 136))) [.inr (some 6), .inr (some 1)] w (cb_pv (fun w' => w' = sr0 w)) := by
  refine cb_con (by decide) (Nat.le_of_ble_eq_true rfl) (fun κ O Rt hnm => ?_)
  show cb_X κ w 0 0 0 [some (.inr (some 6)), some (.inr (some 1))] []
  refine cb_aload_n (pc := 0) O dX8_init_0 rfl ?_
  refine cb_objInit (pc := 1) O dX8_init_1 oi_X8_3 oi_inst oi_code ⟨(Nat.le_of_ble_eq_true rfl), (Nat.le_of_ble_eq_true rfl)⟩ (Nat.le_of_ble_eq_true rfl) ?_
  refine cb_aload_n (pc := 4) O dX8_init_4 rfl ?_
  refine cb_bipush (pc := 5) (v := 16) O dX8_init_5 (by decide) ?_
  refine cb_newa (pc := 7) (atype := .int) (ty := .int) O 12 rfl (Or.inl ⟨rfl, rfl⟩) ac_int rfl dX8_init_7 (by decide) rfl (by decide) (by decide) (by rw [Rt.2.2]; rfl) rfl (Nat.le_of_ble_eq_true rfl) (Nat.le_of_ble_eq_true rfl) h12 ?_
  refine cb_putRc (pc := 9) O fl_X8_9 (Or.inr ⟨rfl, hnm, rfl, fm_X8_9⟩) rfl rfl dX8_init_9 (fun _ => rfl) (fun _ => rfl) (by simp [cb_nw1, cb_ur, cb_um, cb_nwM, cb_fl, cb_u2, *]) (by simp [cb_nw1, cb_ur, cb_um, cb_nwM, cb_fl, cb_u2, *]) ?_
  refine cb_aload_n (pc := 12) O dX8_init_12 rfl ?_
  refine cb_bipush (pc := 13) (v := 6) O dX8_init_13 (by decide) ?_
  refine cb_bipush (pc := 15) (v := 16) O dX8_init_15 (by decide) ?_
  refine cb_mnew (pc := 17) O 13 130 cl_X8_15 ac_int rfl (fun i hi => sh_en hi) dX8_init_17 (by decide) rfl (by decide) rfl (by decide) (by decide) (fun q h => by rw [Rt.2.2] at h; simp at h; omega) rfl (Nat.le_of_ble_eq_true rfl) (Nat.le_of_ble_eq_true rfl) (by simp [cb_nw1, cb_ur, cb_um, cb_nwM, cb_fl, cb_u2, *]) (fun i hi => by show (if 130 + i = 12 then true else w.1 (130 + i)) = false; rw [if_neg (by omega)]; exact h130 i hi) ?_
  refine cb_putRc (pc := 21) O fl_X8_17 (Or.inr ⟨rfl, hnm, rfl, fm_X8_17⟩) rfl rfl dX8_init_21 (fun _ => rfl) (fun _ => rfl) (by simp [cb_nw1, cb_ur, cb_um, cb_nwM, cb_fl, cb_u2, *]) (by simp [cb_nw1, cb_ur, cb_um, cb_nwM, cb_fl, cb_u2, *]) ?_
  refine cb_aload_n (pc := 24) O dX8_init_24 rfl ?_
  refine cb_iconst (pc := 25) (v := 0) O dX8_init_25 (by decide) ?_
  refine cb_putIc (pc := 26) O fl_X8_20 (Or.inl rfl) rfl rfl dX8_init_26 rfl rfl (by simp [cb_nw1, cb_ur, cb_um, cb_nwM, cb_fl, cb_u2, *]) ?_
  refine cb_aload_n (pc := 29) O dX8_init_29 rfl ?_
  refine cb_aload_n (pc := 30) O dX8_init_30 rfl ?_
  refine cb_putRc (pc := 31) O fl_X8_24 (Or.inr ⟨rfl, hnm, rfl, fm_X8_24⟩) rfl rfl dX8_init_31 (fun _ => rfl) (fun _ => rfl) (by simp [cb_nw1, cb_ur, cb_um, cb_nwM, cb_fl, cb_u2, *]) (by simp [cb_nw1, cb_ur, cb_um, cb_nwM, cb_fl, cb_u2, *]) ?_
  exact cb_vret (pc := 34) O Rt (Nat.le_of_ble_eq_true rfl) (Nat.le_of_ble_eq_true rfl) dX8_init_34 rfl

theorem c_X6_init0 (w : cb_W) (h26 : w.1 26 = true) (h27 : w.1 27 = false) : cb_Con yX6_init cX6_init 3 none 1 20 1 16 (fun q => !(q == 27)) [.inr (some 26), .inl 0, .inl 0] w (cb_pv (fun w' => w' = pc0 w)) := by
  refine cb_con (by decide) (Nat.le_of_ble_eq_true rfl) (fun κ O Rt hnm => ?_)
  show cb_X κ w 0 0 0 [some (.inr (some 26)), some (.inl 0), some (.inl 0)] []
  refine cb_aload_n (pc := 0) O dX6_init_0 rfl ?_
  refine cb_objInit (pc := 1) O dX6_init_1 oi_X6_3 oi_inst oi_code ⟨(Nat.le_of_ble_eq_true rfl), (Nat.le_of_ble_eq_true rfl)⟩ (Nat.le_of_ble_eq_true rfl) ?_
  refine cb_aload_n (pc := 4) O dX6_init_4 rfl ?_
  refine cb_bipush (pc := 5) (v := 16) O dX6_init_5 (by decide) ?_
  refine cb_newa (pc := 7) (atype := .int) (ty := .int) O 27 rfl (Or.inl ⟨rfl, rfl⟩) ac_int rfl dX6_init_7 (by decide) rfl (by decide) (by decide) (by rw [Rt.2.2]; rfl) rfl (Nat.le_of_ble_eq_true rfl) (Nat.le_of_ble_eq_true rfl) h27 ?_
  refine cb_putRc (pc := 9) O fl_X6_9 (Or.inr ⟨rfl, hnm, rfl, fm_X6_9⟩) rfl rfl dX6_init_9 (fun _ => rfl) (fun _ => rfl) (by simp [cb_nw1, cb_ur, cb_um, cb_nwM, cb_fl, cb_u2, *]) (by simp [cb_nw1, cb_ur, cb_um, cb_nwM, cb_fl, cb_u2, *]) ?_
  refine cb_aload_n (pc := 12) O dX6_init_12 rfl ?_
  refine cb_iload_n (pc := 13) O dX6_init_13 rfl ?_
  refine cb_putIc (pc := 14) O fl_X6_15 (Or.inr ⟨rfl, hnm, rfl, fm_X6_15⟩) rfl rfl dX6_init_14 rfl rfl (by simp [cb_nw1, cb_ur, cb_um, cb_nwM, cb_fl, cb_u2, *]) ?_
  refine cb_aload_n (pc := 17) O dX6_init_17 rfl ?_
  refine cb_iload_n (pc := 18) O dX6_init_18 rfl ?_
  refine cb_putIc (pc := 19) O fl_X6_19 (Or.inr ⟨rfl, hnm, rfl, fm_X6_19⟩) rfl rfl dX6_init_19 rfl rfl (by simp [cb_nw1, cb_ur, cb_um, cb_nwM, cb_fl, cb_u2, *]) ?_
  exact cb_vret (pc := 22) O Rt (Nat.le_of_ble_eq_true rfl) (Nat.le_of_ble_eq_true rfl) dX6_init_22 rfl

theorem c_X1_init0 (w : cb_W) (h20 : w.1 20 = true) (h21 : w.1 21 = false) (h22 : w.1 22 = false) (h23 : w.1 23 = false) (h24 : w.1 24 = false) (h25 : w.1 25 = false) : cb_Con yX1_init cX1_init 4 none 2 46 5 264 (fun q => !(decide (21 ≤ q) && decide (q < 26))) [.inr (some 20), .inl 0, .inl 0] w (cb_pv (fun w' => w' = bd0 w)) := by
  refine cb_con (by decide) (Nat.le_of_ble_eq_true rfl) (fun κ O Rt hnm => ?_)
  show cb_X κ w 0 0 0 [some (.inr (some 20)), some (.inl 0), some (.inl 0), none] []
  refine cb_aload_n (pc := 0) O dX1_init_0 rfl ?_
  refine cb_objInit (pc := 1) O dX1_init_1 oi_X1_3 oi_inst oi_code ⟨(Nat.le_of_ble_eq_true rfl), (Nat.le_of_ble_eq_true rfl)⟩ (Nat.le_of_ble_eq_true rfl) ?_
  refine cb_aload_n (pc := 4) O dX1_init_4 rfl ?_
  refine cb_bipush (pc := 5) (v := 64) O dX1_init_5 (by decide) ?_
  refine cb_newa (pc := 7) (atype := .int) (ty := .int) O 21 rfl (Or.inl ⟨rfl, rfl⟩) ac_int rfl dX1_init_7 (by decide) rfl (by decide) (by decide) (by rw [Rt.2.2]; rfl) rfl (Nat.le_of_ble_eq_true rfl) (Nat.le_of_ble_eq_true rfl) h21 ?_
  refine cb_putRc (pc := 9) O fl_X1_9 (Or.inr ⟨rfl, hnm, rfl, fm_X1_9⟩) rfl rfl dX1_init_9 (fun _ => rfl) (fun _ => rfl) (by simp [cb_nw1, cb_ur, cb_um, cb_nwM, cb_fl, cb_u2, *]) (by simp [cb_nw1, cb_ur, cb_um, cb_nwM, cb_fl, cb_u2, *]) ?_
  refine cb_aload_n (pc := 12) O dX1_init_12 rfl ?_
  refine cb_bipush (pc := 13) (v := 64) O dX1_init_13 (by decide) ?_
  refine cb_newa (pc := 15) (atype := .int) (ty := .int) O 22 rfl (Or.inl ⟨rfl, rfl⟩) ac_int rfl dX1_init_15 (by decide) rfl (by decide) (by decide) (by rw [Rt.2.2]; rfl) rfl (Nat.le_of_ble_eq_true rfl) (Nat.le_of_ble_eq_true rfl) (by simp [cb_nw1, cb_ur, cb_um, cb_nwM, cb_fl, cb_u2, *]) ?_
  refine cb_putRc (pc := 17) O fl_X1_15 (Or.inr ⟨rfl, hnm, rfl, fm_X1_15⟩) rfl rfl dX1_init_17 (fun _ => rfl) (fun _ => rfl) (by simp [cb_nw1, cb_ur, cb_um, cb_nwM, cb_fl, cb_u2, *]) (by simp [cb_nw1, cb_ur, cb_um, cb_nwM, cb_fl, cb_u2, *]) ?_
  refine cb_aload_n (pc := 20) O dX1_init_20 rfl ?_
  refine cb_bipush (pc := 21) (v := 8) O dX1_init_21 (by decide) ?_
  refine cb_newa (pc := 23) (atype := .int) (ty := .int) O 23 rfl (Or.inl ⟨rfl, rfl⟩) ac_int rfl dX1_init_23 (by decide) rfl (by decide) (by decide) (by rw [Rt.2.2]; rfl) rfl (Nat.le_of_ble_eq_true rfl) (Nat.le_of_ble_eq_true rfl) (by simp [cb_nw1, cb_ur, cb_um, cb_nwM, cb_fl, cb_u2, *]) ?_
  refine cb_putRc (pc := 25) O fl_X1_18 (Or.inr ⟨rfl, hnm, rfl, fm_X1_18⟩) rfl rfl dX1_init_25 (fun _ => rfl) (fun _ => rfl) (by simp [cb_nw1, cb_ur, cb_um, cb_nwM, cb_fl, cb_u2, *]) (by simp [cb_nw1, cb_ur, cb_um, cb_nwM, cb_fl, cb_u2, *]) ?_
  refine cb_aload_n (pc := 28) O dX1_init_28 rfl ?_
  refine cb_bipush (pc := 29) (v := 64) O dX1_init_29 (by decide) ?_
  refine cb_newa (pc := 31) (atype := .int) (ty := .int) O 24 rfl (Or.inl ⟨rfl, rfl⟩) ac_int rfl dX1_init_31 (by decide) rfl (by decide) (by decide) (by rw [Rt.2.2]; rfl) rfl (Nat.le_of_ble_eq_true rfl) (Nat.le_of_ble_eq_true rfl) (by simp [cb_nw1, cb_ur, cb_um, cb_nwM, cb_fl, cb_u2, *]) ?_
  refine cb_putRc (pc := 33) O fl_X1_21 (Or.inr ⟨rfl, hnm, rfl, fm_X1_21⟩) rfl rfl dX1_init_33 (fun _ => rfl) (fun _ => rfl) (by simp [cb_nw1, cb_ur, cb_um, cb_nwM, cb_fl, cb_u2, *]) (by simp [cb_nw1, cb_ur, cb_um, cb_nwM, cb_fl, cb_u2, *]) ?_
  refine cb_aload_n (pc := 36) O dX1_init_36 rfl ?_
  refine cb_bipush (pc := 37) (v := 64) O dX1_init_37 (by decide) ?_
  refine cb_newa (pc := 39) (atype := .int) (ty := .int) O 25 rfl (Or.inl ⟨rfl, rfl⟩) ac_int rfl dX1_init_39 (by decide) rfl (by decide) (by decide) (by rw [Rt.2.2]; rfl) rfl (Nat.le_of_ble_eq_true rfl) (Nat.le_of_ble_eq_true rfl) (by simp [cb_nw1, cb_ur, cb_um, cb_nwM, cb_fl, cb_u2, *]) ?_
  refine cb_putRc (pc := 41) O fl_X1_24 (Or.inr ⟨rfl, hnm, rfl, fm_X1_24⟩) rfl rfl dX1_init_41 (fun _ => rfl) (fun _ => rfl) (by simp [cb_nw1, cb_ur, cb_um, cb_nwM, cb_fl, cb_u2, *]) (by simp [cb_nw1, cb_ur, cb_um, cb_nwM, cb_fl, cb_u2, *]) ?_
  refine cb_aload_n (pc := 44) O dX1_init_44 rfl ?_
  refine cb_iload_n (pc := 45) O dX1_init_45 rfl ?_
  refine cb_putIc (pc := 46) O fl_X1_27 (Or.inr ⟨rfl, hnm, rfl, fm_X1_27⟩) rfl rfl dX1_init_46 rfl rfl (by simp [cb_nw1, cb_ur, cb_um, cb_nwM, cb_fl, cb_u2, *]) ?_
  refine cb_aload_n (pc := 49) O dX1_init_49 rfl ?_
  refine cb_iload_n (pc := 50) O dX1_init_50 rfl ?_
  refine cb_putIc (pc := 51) O fl_X1_31 (Or.inr ⟨rfl, hnm, rfl, fm_X1_31⟩) rfl rfl dX1_init_51 rfl rfl (by simp [cb_nw1, cb_ur, cb_um, cb_nwM, cb_fl, cb_u2, *]) ?_
  refine cb_iconst (pc := 54) (v := 0) O dX1_init_54 (by decide) ?_
  refine cb_istore_n (pc := 55) O dX1_init_55 (by decide) ?_
  dsimp only [List.set]
  refine cb_iload_n (pc := 56) O dX1_init_56 rfl ?_
  refine cb_iload_n (pc := 57) O dX1_init_57 rfl ?_
  refine cb_icmp_ge (pc := 58) O 85 dX1_init_58 (by decide) (fun c_58 => ?_) (fun c_58 => ?_)
  · skip
    refine cb_aload_n (pc := 85) O dX1_init_85 rfl ?_
    refine cb_iload_n (pc := 86) O dX1_init_86 rfl ?_
    refine cb_if_le (pc := 87) O 94 dX1_init_87 (by decide) (fun c_87 => ?_) (fun c_87 => ?_)
    · skip
      refine cb_iconst (pc := 94) (v := 0) O dX1_init_94 (by decide) ?_
      refine cb_putIc (pc := 95) O fl_X1_40 (Or.inl rfl) rfl rfl dX1_init_95 rfl rfl (by simp [cb_nw1, cb_ur, cb_um, cb_nwM, cb_fl, cb_u2, *]) ?_
      refine cb_aload_n (pc := 98) O dX1_init_98 rfl ?_
      refine cb_getR (pc := 99) O fl_X1_18 rfl rfl dX1_init_99 (by simp [cb_nw1, cb_ur, cb_um, cb_nwM, cb_fl, cb_u2, *]) (Eq.trans (by simp [cb_nw1, cb_ur, cb_um, cb_u2]) (rfl : some 23 = some 23)) ?_
      refine cb_iconst (pc := 102) (v := 0) O dX1_init_102 (by decide) ?_
      refine cb_iconst (pc := 103) (v := 1) O dX1_init_103 (by decide) ?_
      refine cb_iast (pc := 104) O 0 rfl dX1_init_104 (by decide) (by simp [cb_nw1, cb_ur, cb_um, cb_nwM, cb_fl, cb_u2, *]) rfl (by decide) ?_
      exact cb_vret (pc := 105) O Rt (Nat.le_of_ble_eq_true rfl) (Nat.le_of_ble_eq_true rfl) dX1_init_105 rfl
    · skip
      exact absurd (by decide) c_87
  · skip
    exact absurd (by decide) c_58

theorem c_X4_init (w : cb_W) (h1 : w.1 1 = true) (h8 : ∀ q, 8 ≤ q → q < 12 → w.1 q = false) (h100 : ∀ q, 100 ≤ q → q < 130 → w.1 q = false) : cb_Con yX4_init cX4_init 2 none 1 23 34 400 (fun q => !(decide (8 ≤ q) && decide (q < 12)) && !(decide (100 ≤ q) && decide (q < 130))) [.inr (some 1)] w (cb_pv (fun w' => w' = cb_mkf (ik0 w) 10)) := by
  have h8a := h8 8 (by omega) (by omega)
  have h8b := h8 9 (by omega) (by omega)
  have h8c := h8 10 (by omega) (by omega)
  have h8d := h8 11 (by omega) (by omega)
  refine cb_con (by decide) (Nat.le_of_ble_eq_true rfl) (fun κ O Rt hnm => ?_)
  show cb_X κ w 0 0 0 [some (.inr (some 1)), none] []
  refine cb_aload_n (pc := 0) O dX4_init_0 rfl ?_
  refine cb_objInit (pc := 1) O dX4_init_1 oi_X4_3 oi_inst oi_code ⟨(Nat.le_of_ble_eq_true rfl), (Nat.le_of_ble_eq_true rfl)⟩ (Nat.le_of_ble_eq_true rfl) ?_
  refine cb_aload_n (pc := 4) O dX4_init_4 rfl ?_
  refine cb_bipush (pc := 5) (v := 10) O dX4_init_5 (by decide) ?_
  refine cb_bipush (pc := 7) (v := 16) O dX4_init_7 (by decide) ?_
  refine cb_mnew (pc := 9) O 8 100 cl_X4_9 ac_int rfl (fun i hi => sh_mk hi) dX4_init_9 (by decide) rfl (by decide) rfl (by decide) (by decide) (fun q h => by rw [Rt.2.2] at h; simp at h; omega) rfl (Nat.le_of_ble_eq_true rfl) (Nat.le_of_ble_eq_true rfl) h8a (fun i hi => h100 _ (by omega) (by omega)) ?_
  refine cb_putRc (pc := 13) O fl_X4_11 (Or.inr ⟨rfl, hnm, rfl, fm_X4_11⟩) rfl rfl dX4_init_13 (fun _ => rfl) (fun _ => rfl) (by simp [cb_nw1, cb_ur, cb_um, cb_nwM, cb_fl, cb_u2, *]) (by simp [cb_nw1, cb_ur, cb_um, cb_nwM, cb_fl, cb_u2, *]) ?_
  refine cb_aload_n (pc := 16) O dX4_init_16 rfl ?_
  refine cb_bipush (pc := 17) (v := 10) O dX4_init_17 (by decide) ?_
  refine cb_newa (pc := 19) (atype := .int) (ty := .int) O 9 rfl (Or.inl ⟨rfl, rfl⟩) ac_int rfl dX4_init_19 (by decide) rfl (by decide) (by decide) (by rw [Rt.2.2]; rfl) rfl (Nat.le_of_ble_eq_true rfl) (Nat.le_of_ble_eq_true rfl) (by simp [cb_nw1, cb_ur, cb_um, cb_nwM, cb_fl, cb_u2, *]) ?_
  refine cb_putRc (pc := 21) O fl_X4_16 (Or.inr ⟨rfl, hnm, rfl, fm_X4_16⟩) rfl rfl dX4_init_21 (fun _ => rfl) (fun _ => rfl) (by simp [cb_nw1, cb_ur, cb_um, cb_nwM, cb_fl, cb_u2, *]) (by simp [cb_nw1, cb_ur, cb_um, cb_nwM, cb_fl, cb_u2, *]) ?_
  refine cb_aload_n (pc := 24) O dX4_init_24 rfl ?_
  refine cb_bipush (pc := 25) (v := 10) O dX4_init_25 (by decide) ?_
  refine cb_bipush (pc := 27) (v := 10) O dX4_init_27 (by decide) ?_
  refine cb_mnew (pc := 29) O 10 110 cl_X4_9 ac_int rfl (fun i hi => sh_cl hi) dX4_init_29 (by decide) rfl (by decide) rfl (by decide) (by decide) (fun q h => by rw [Rt.2.2] at h; simp at h; omega) rfl (Nat.le_of_ble_eq_true rfl) (Nat.le_of_ble_eq_true rfl) (by simp [cb_nw1, cb_ur, cb_um, cb_nwM, cb_fl, cb_u2, *]) (fun i hi => by simp only [cb_nwM, cb_nw1, cb_ur]; rw [if_neg (by omega), if_neg (by omega)]; exact h100 _ (by omega) (by omega)) ?_
  refine cb_putRc (pc := 33) O fl_X4_20 (Or.inr ⟨rfl, hnm, rfl, fm_X4_20⟩) rfl rfl dX4_init_33 (fun _ => rfl) (fun _ => rfl) (by simp [cb_nw1, cb_ur, cb_um, cb_nwM, cb_fl, cb_u2, *]) (by simp [cb_nw1, cb_ur, cb_um, cb_nwM, cb_fl, cb_u2, *]) ?_
  refine cb_aload_n (pc := 36) O dX4_init_36 rfl ?_
  refine cb_bipush (pc := 37) (v := 10) O dX4_init_37 (by decide) ?_
  refine cb_bipush (pc := 39) (v := 10) O dX4_init_39 (by decide) ?_
  refine cb_mnew (pc := 41) O 11 120 cl_X4_9 ac_int rfl (fun i hi => sh_mx hi) dX4_init_41 (by decide) rfl (by decide) rfl (by decide) (by decide) (fun q h => by rw [Rt.2.2] at h; simp at h; omega) rfl (Nat.le_of_ble_eq_true rfl) (Nat.le_of_ble_eq_true rfl) (by simp [cb_nw1, cb_ur, cb_um, cb_nwM, cb_fl, cb_u2, *]) (fun i hi => by simp only [cb_nwM, cb_nw1, cb_ur]; rw [if_neg (by omega), if_neg (by omega), if_neg (by omega)]; exact h100 _ (by omega) (by omega)) ?_
  refine cb_putRc (pc := 45) O fl_X4_23 (Or.inr ⟨rfl, hnm, rfl, fm_X4_23⟩) rfl rfl dX4_init_45 (fun _ => rfl) (fun _ => rfl) (by simp [cb_nw1, cb_ur, cb_um, cb_nwM, cb_fl, cb_u2, *]) (by simp [cb_nw1, cb_ur, cb_um, cb_nwM, cb_fl, cb_u2, *]) ?_
  refine cb_aload_n (pc := 48) O dX4_init_48 rfl ?_
  refine cb_getR (pc := 49) O fl_X4_16 rfl rfl dX4_init_49 (by simp [cb_nw1, cb_ur, cb_um, cb_nwM, cb_fl, cb_u2, *]) (Eq.trans (by simp [cb_nw1, cb_ur, cb_um, cb_u2, cb_nwM]) (rfl : some 9 = some 9)) ?_
  refine cb_bipush (pc := 52) (v := 60) O dX4_init_52 (by decide) ?_
  refine cb_cSv (pc := 54) O (c_fill _ 9 10 60 rfl (by simp [cb_nw1, cb_ur, cb_um, cb_nwM]) (by decide)) my_J7_fill_53178 mt_J7_fill_53178 ml_X4_26 dX4_init_54 rfl rfl ⟨(Nat.le_of_ble_eq_true rfl), (Nat.le_of_ble_eq_true rfl)⟩ (Nat.le_of_ble_eq_true rfl) rfl ⟨(Nat.le_of_ble_eq_true rfl), (Nat.le_of_ble_eq_true rfl)⟩ (fun _ _ => rfl) (fun w_54 hp_54 => ?_)
  rw [hp_54]
  refine cb_iconst (pc := 57) (v := 0) O dX4_init_57 (by decide) ?_
  refine cb_istore_n (pc := 58) O dX4_init_58 (by decide) ?_
  dsimp only [List.set]
  refine cb_genw (fun b hb => ?_)
  have hb2 : b = ik0 w := hb
  have l1 : b.1 1 = true := by rw [hb]; simp [cb_nw1, cb_ur, cb_um, cb_nwM, cb_fl, h1]
  have l8 : b.1 8 = true := by rw [hb]; simp [cb_nw1, cb_ur, cb_um, cb_nwM, cb_fl]
  have r0 : b.2.2 1 0 = some 8 := by rw [hb]; simp [cb_nw1, cb_ur, cb_um, cb_nwM, cb_fl, cb_u2]
  have r8 : ∀ i, i < 10 → b.2.2 8 i = some (100 + i) := fun i hi => by rw [hb]; simp [cb_nw1, cb_ur, cb_um, cb_nwM, cb_fl, cb_u2, hi]
  have l100 : ∀ i, i < 10 → b.1 (100 + i) = true := fun i hi => by
    rw [hb]
    simp only [cb_nw1, cb_ur, cb_nwM, cb_fl]
    rw [if_neg (by omega), if_neg (by omega), if_neg (by omega), if_pos (by omega)]
  have L_59 : ∀ (n : Nat) (i : Nat), i ≤ 10 → 11 ≤ i + n → cb_X κ (cb_mkf b i) 34 400 59 [some (.inr (some 1)), some (.inl (nI i))] [] := by
    intro n
    induction n with
    | zero =>
      intro i hi hn
      exact absurd hn (by omega)
    | succ n ih_59 =>
      intro i hi hn
      refine cb_iload_n (pc := 59) O dX4_init_59 rfl ?_
      refine cb_bipush (pc := 60) (v := 10) O dX4_init_60 (by decide) ?_
      refine cb_icmp_ge (pc := 62) O 83 dX4_init_62 (by decide) (fun c_62 => ?_) (fun c_62 => ?_)
      · skip
        have e : i = 10 := by
          have := ci_ge (b := 10) c_62 (by omega) (by decide)
          omega
        subst e
        exact cb_vret (pc := 83) O Rt (Nat.le_of_ble_eq_true rfl) (Nat.le_of_ble_eq_true rfl) dX4_init_83 (by show _ = _; rw [hb2])
      · skip
        have hi10 : i < 10 := ci_nge (b := 10) c_62 (by omega) (by decide)
        refine cb_aload_n (pc := 65) O dX4_init_65 rfl ?_
        refine cb_getR (pc := 66) O fl_X4_11 rfl rfl dX4_init_66 l1 r0 ?_
        refine cb_iload_n (pc := 69) O dX4_init_69 rfl ?_
        refine cb_aald (pc := 70) O i rfl (by decide) (by decide) dX4_init_70 (by decide) l8 rfl (by omega) (r8 i hi10) ?_
        refine cb_iload_n (pc := 71) O dX4_init_71 rfl ?_
        refine cb_iconst (pc := 72) (v := 1) O dX4_init_72 (by decide) ?_
        refine cb_iadd (pc := 73) O dX4_init_73 ?_
        refine cb_topv (nI (i + 1)) (nI_add _ _) ?_
        refine cb_cSv (pc := 74) O (c_fill (cb_mkf b i) (100 + i) 16 (nI (i + 1)) (sh_mk hi10) (l100 i hi10) (by decide)) my_J7_fill_53178 mt_J7_fill_53178 ml_X4_26 dX4_init_74 rfl rfl ⟨(Nat.le_of_ble_eq_true rfl), (Nat.le_of_ble_eq_true rfl)⟩ (Nat.le_of_ble_eq_true rfl) rfl ⟨(Nat.le_of_ble_eq_true rfl), (Nat.le_of_ble_eq_true rfl)⟩ (fun _ _ => rfl) (fun w_74 hp_74 => ?_)
        rw [hp_74, cb_mkfS]
        refine cb_iinc (pc := 77) O (nI (i + 1)) dX4_init_77 rfl (by decide) (ci_inc i) ?_
        dsimp only [List.set]
        refine cb_goto (pc := 80) O 59 dX4_init_80 (by decide) ?_
        exact ih_59 (i + 1) (by omega) (by omega)
  rw [← cb_mkf0 b]
  exact L_59 11 0 (by omega) (by omega)

theorem c_X10_init (w : cb_W) (h0 : w.1 0 = true) (hd : ∀ q, q ≠ 0 → w.1 q = false) : cb_Con yX10_init cX10_init 1 none 3 69 60 1074 cb_kpub [.inr (some 0)] w (cb_pv (fun w' => w' = s10 (s9 (s8 (s7 (s6 (s5 (s4 (s3 (s2 (s1 w))))))))))) := by
  obtain ⟨v1, hv1⟩ : ∃ v, v = s1 w := ⟨_, rfl⟩
  have f1 : ∀ q, q ≠ 0 → ¬ (q = 1 ∨ (8 ≤ q ∧ q < 12) ∨ (100 ≤ q ∧ q < 130)) → EQ9 w v1 q := fun q a b => by rw [hv1]; exact s1_f w a b
  have z1 : v1.1 0 = w.1 0 ∧ v1.2.1 0 = w.2.1 0 ∧ ∀ j, v1.2.2 0 j = if j = 0 then some 1 else w.2.2 0 j := by rw [hv1]; exact s1_z w
  have l1 : v1.1 0 = true := z1.1.trans h0
  obtain ⟨v2, hv2⟩ : ∃ v, v = s2 v1 := ⟨_, rfl⟩
  have f2 : ∀ q, q ≠ 0 → ¬ (q = 2) → EQ9 v1 v2 q := fun q a b => by rw [hv2]; exact s2_f v1 a b
  have z2 : v2.1 0 = v1.1 0 ∧ v2.2.1 0 = v1.2.1 0 ∧ ∀ j, v2.2.2 0 j = if j = 1 then some 2 else v1.2.2 0 j := by rw [hv2]; exact s2_z v1
  have l2 : v2.1 0 = true := z2.1.trans l1
  obtain ⟨v3, hv3⟩ : ∃ v, v = s3 v2 := ⟨_, rfl⟩
  have f3 : ∀ q, q ≠ 0 → ¬ (q = 3) → EQ9 v2 v3 q := fun q a b => by rw [hv3]; exact s3_f v2 a b
  have z3 : v3.1 0 = v2.1 0 ∧ v3.2.1 0 = v2.2.1 0 ∧ ∀ j, v3.2.2 0 j = if j = 2 then some 3 else v2.2.2 0 j := by rw [hv3]; exact s3_z v2
  have l3 : v3.1 0 = true := z3.1.trans l2
  obtain ⟨v4, hv4⟩ : ∃ v, v = s4 v3 := ⟨_, rfl⟩
  have f4 : ∀ q, q ≠ 0 → ¬ (q = 4) → EQ9 v3 v4 q := fun q a b => by rw [hv4]; exact s4_f v3 a b
  have z4 : v4.1 0 = v3.1 0 ∧ v4.2.1 0 = v3.2.1 0 ∧ ∀ j, v4.2.2 0 j = if j = 3 then some 4 else v3.2.2 0 j := by rw [hv4]; exact s4_z v3
  have l4 : v4.1 0 = true := z4.1.trans l3
  obtain ⟨v5, hv5⟩ : ∃ v, v = s5 v4 := ⟨_, rfl⟩
  have f5 : ∀ q, q ≠ 0 → ¬ (q = 5) → EQ9 v4 v5 q := fun q a b => by rw [hv5]; exact s5_f v4 a b
  have z5 : v5.1 0 = v4.1 0 ∧ v5.2.1 0 = v4.2.1 0 ∧ ∀ j, v5.2.2 0 j = if j = 4 then some 5 else v4.2.2 0 j := by rw [hv5]; exact s5_z v4
  have l5 : v5.1 0 = true := z5.1.trans l4
  obtain ⟨v6, hv6⟩ : ∃ v, v = s6 v5 := ⟨_, rfl⟩
  have f6 : ∀ q, q ≠ 0 → ¬ (q = 6 ∨ q = 12 ∨ q = 13 ∨ (130 ≤ q ∧ q < 136)) → EQ9 v5 v6 q := fun q a b => by rw [hv6]; exact s6_f v5 a b
  have z6 : v6.1 0 = v5.1 0 ∧ v6.2.1 0 = v5.2.1 0 ∧ ∀ j, v6.2.2 0 j = if j = 5 then some 6 else v5.2.2 0 j := by rw [hv6]; exact s6_z v5
  have l6 : v6.1 0 = true := z6.1.trans l5
  obtain ⟨v7, hv7⟩ : ∃ v, v = s7 v6 := ⟨_, rfl⟩
  have f7 : ∀ q, q ≠ 0 → ¬ (q = 7 ∨ (14 ≤ q ∧ q < 17)) → EQ9 v6 v7 q := fun q a b => by rw [hv7]; exact s7_f v6 a b
  have z7 : v7.1 0 = v6.1 0 ∧ v7.2.1 0 = v6.2.1 0 ∧ ∀ j, v7.2.2 0 j = if j = 6 then some 7 else v6.2.2 0 j := by rw [hv7]; exact s7_z v6
  have l7 : v7.1 0 = true := z7.1.trans l6
  obtain ⟨v8, hv8⟩ : ∃ v, v = s8 v7 := ⟨_, rfl⟩
  have f8 : ∀ q, q ≠ 0 → ¬ ((20 ≤ q ∧ q < 26)) → EQ9 v7 v8 q := fun q a b => by rw [hv8]; exact s8_f v7 a b
  have z8 : v8.1 0 = v7.1 0 ∧ v8.2.1 0 = v7.2.1 0 ∧ ∀ j, v8.2.2 0 j = if j = 7 then some 20 else v7.2.2 0 j := by rw [hv8]; exact s8_z v7
  have l8 : v8.1 0 = true := z8.1.trans l7
  obtain ⟨v9, hv9⟩ : ∃ v, v = s9 v8 := ⟨_, rfl⟩
  have f9 : ∀ q, q ≠ 0 → ¬ (q = 26 ∨ q = 27) → EQ9 v8 v9 q := fun q a b => by rw [hv9]; exact s9_f v8 a b
  have z9 : v9.1 0 = v8.1 0 ∧ v9.2.1 0 = v8.2.1 0 ∧ ∀ j, v9.2.2 0 j = if j = 8 then some 26 else v8.2.2 0 j := by rw [hv9]; exact s9_z v8
  have l9 : v9.1 0 = true := z9.1.trans l8
  obtain ⟨v10, hv10⟩ : ∃ v, v = s10 v9 := ⟨_, rfl⟩
  have f10 : ∀ q, q ≠ 0 → EQ9 v9 v10 q := fun q a => by rw [hv10]; exact s10_f v9 a
  have d2 : ∀ q, q ≠ 0 → ((q = 2) ∨ (q = 3) ∨ (q = 4) ∨ (q = 5) ∨ (q = 6 ∨ q = 12 ∨ q = 13 ∨ (130 ≤ q ∧ q < 136)) ∨ (q = 7 ∨ (14 ≤ q ∧ q < 17)) ∨ ((20 ≤ q ∧ q < 26)) ∨ (q = 26 ∨ q = 27)) → v1.1 q = false := fun q a b => by
    rw [(f1 q a (by omega)).1]
    exact hd q a
  have d3 : ∀ q, q ≠ 0 → ((q = 3) ∨ (q = 4) ∨ (q = 5) ∨ (q = 6 ∨ q = 12 ∨ q = 13 ∨ (130 ≤ q ∧ q < 136)) ∨ (q = 7 ∨ (14 ≤ q ∧ q < 17)) ∨ ((20 ≤ q ∧ q < 26)) ∨ (q = 26 ∨ q = 27)) → v2.1 q = false := fun q a b => by
    rw [(f2 q a (by omega)).1]
    exact d2 q a (by omega)
  have d4 : ∀ q, q ≠ 0 → ((q = 4) ∨ (q = 5) ∨ (q = 6 ∨ q = 12 ∨ q = 13 ∨ (130 ≤ q ∧ q < 136)) ∨ (q = 7 ∨ (14 ≤ q ∧ q < 17)) ∨ ((20 ≤ q ∧ q < 26)) ∨ (q = 26 ∨ q = 27)) → v3.1 q = false := fun q a b => by
    rw [(f3 q a (by omega)).1]
    exact d3 q a (by omega)
  have d5 : ∀ q, q ≠ 0 → ((q = 5) ∨ (q = 6 ∨ q = 12 ∨ q = 13 ∨ (130 ≤ q ∧ q < 136)) ∨ (q = 7 ∨ (14 ≤ q ∧ q < 17)) ∨ ((20 ≤ q ∧ q < 26)) ∨ (q = 26 ∨ q = 27)) → v4.1 q = false := fun q a b => by
    rw [(f4 q a (by omega)).1]
    exact d4 q a (by omega)
  have d6 : ∀ q, q ≠ 0 → ((q = 6 ∨ q = 12 ∨ q = 13 ∨ (130 ≤ q ∧ q < 136)) ∨ (q = 7 ∨ (14 ≤ q ∧ q < 17)) ∨ ((20 ≤ q ∧ q < 26)) ∨ (q = 26 ∨ q = 27)) → v5.1 q = false := fun q a b => by
    rw [(f5 q a (by omega)).1]
    exact d5 q a (by omega)
  have d7 : ∀ q, q ≠ 0 → ((q = 7 ∨ (14 ≤ q ∧ q < 17)) ∨ ((20 ≤ q ∧ q < 26)) ∨ (q = 26 ∨ q = 27)) → v6.1 q = false := fun q a b => by
    rw [(f6 q a (by omega)).1]
    exact d6 q a (by omega)
  have d8 : ∀ q, q ≠ 0 → (((20 ≤ q ∧ q < 26)) ∨ (q = 26 ∨ q = 27)) → v7.1 q = false := fun q a b => by
    rw [(f7 q a (by omega)).1]
    exact d7 q a (by omega)
  have d9 : ∀ q, q ≠ 0 → ((q = 26 ∨ q = 27)) → v8.1 q = false := fun q a b => by
    rw [(f8 q a (by omega)).1]
    exact d8 q a (by omega)
  have d1 : ∀ q, q ≠ 0 → w.1 q = false := hd
  have i1 : v1.1 1 = true := by
    rw [hv1]
    simp [s1, cb_mkf, ik0, cb_fl, cb_ur, cb_nwM, cb_nw1]
  have i5 : v5.1 1 = true := by
    rw [(f5 1 (by decide) (by decide)).1, (f4 1 (by decide) (by decide)).1, (f3 1 (by decide) (by decide)).1, (f2 1 (by decide) (by decide)).1]; exact i1
  have j5 : v5.2.2 0 0 = some 1 := by
    rw [z5.2.2, if_neg (by decide), z4.2.2, if_neg (by decide), z3.2.2, if_neg (by decide), z2.2.2, if_neg (by decide), z1.2.2, if_pos rfl]
  refine cb_con (by decide) (Nat.le_of_ble_eq_true rfl) (fun κ O Rt hnm => ?_)
  show cb_X κ w 0 0 0 [some (.inr (some 0))] []
  refine cb_aload_n (pc := 0) O dX10_init_0 rfl ?_
  refine cb_objInit (pc := 1) O dX10_init_1 oi_X10_3 oi_inst oi_code ⟨(Nat.le_of_ble_eq_true rfl), (Nat.le_of_ble_eq_true rfl)⟩ (Nat.le_of_ble_eq_true rfl) ?_
  refine cb_aload_n (pc := 4) O dX10_init_4 rfl ?_
  refine cb_new (pc := 5) O 1 ct_4 cl_X10_9 in_X4 ini_X4 rfl dX10_init_5 (by decide) (by rw [Rt.2.2]; rfl) rfl (Nat.le_of_ble_eq_true rfl) (Nat.le_of_ble_eq_true rfl) (hd 1 (by decide)) ?_
  refine cb_dup (pc := 8) O dX10_init_8 ?_
  refine cb_cIv (pc := 9) O (c_X4_init (cb_nw1 w 1) (by simp [cb_nw1]) (fun q a b => by show (if q = 1 then true else w.1 q) = false; rw [if_neg (by omega)]; exact hd q (by omega)) (fun q a b => by show (if q = 1 then true else w.1 q) = false; rw [if_neg (by omega)]; exact hd q (by omega))) my_X4_init mi_X4_init rfl ml_X10_11 dX10_init_9 rfl rfl ⟨(Nat.le_of_ble_eq_true rfl), (Nat.le_of_ble_eq_true rfl)⟩ (Nat.le_of_ble_eq_true rfl) rfl ⟨(Nat.le_of_ble_eq_true rfl), (Nat.le_of_ble_eq_true rfl)⟩ (fun q h => by rcases cb_kpubE (by rw [← Rt.2.2]; exact h) with rfl | rfl <;> rfl) (fun w_9 hp_9 => ?_)
  rw [hp_9]
  refine cb_putRc (pc := 12) O fl_X10_12 (Or.inr ⟨rfl, hnm, rfl, fm_X10_12⟩) rfl rfl dX10_init_12 (fun _ => rfl) (fun _ => rfl) (by simp [cb_nw1, cb_ur, cb_um, cb_nwM, cb_fl, cb_u2, cb_mkf, ik0, sr0, pl0, bd0, pc0, h0]) (by simp [cb_nw1, cb_ur, cb_um, cb_nwM, cb_fl, cb_u2, cb_mkf, ik0, sr0, pl0, bd0, pc0, h0]) ?_
  refine cb_eqw v1 (by rw [hv1]; rfl) ?_
  refine cb_aload_n (pc := 15) O dX10_init_15 rfl ?_
  refine cb_new (pc := 16) O 2 ct_5 cl_X10_16 in_X5 ini_X5 rfl dX10_init_16 (by decide) (by rw [Rt.2.2]; rfl) rfl (Nat.le_of_ble_eq_true rfl) (Nat.le_of_ble_eq_true rfl) (d2 2 (by decide) (by decide)) ?_
  refine cb_dup (pc := 19) O dX10_init_19 ?_
  refine cb_cIv (pc := 20) O (c_X5_init (cb_nw1 v1 2) (by simp [cb_nw1])) my_X5_init mi_X5_init rfl ml_X10_18 dX10_init_20 rfl rfl ⟨(Nat.le_of_ble_eq_true rfl), (Nat.le_of_ble_eq_true rfl)⟩ (Nat.le_of_ble_eq_true rfl) rfl ⟨(Nat.le_of_ble_eq_true rfl), (Nat.le_of_ble_eq_true rfl)⟩ (fun _ _ => rfl) (fun w_20 hp_20 => ?_)
  rw [hp_20]
  refine cb_putRc (pc := 23) O fl_X10_19 (Or.inr ⟨rfl, hnm, rfl, fm_X10_19⟩) rfl rfl dX10_init_23 (fun _ => rfl) (fun _ => rfl) (by simp [cb_nw1, cb_ur, cb_um, cb_nwM, cb_fl, cb_u2, cb_mkf, ik0, sr0, pl0, bd0, pc0, l1]) (by simp [cb_nw1, cb_ur, cb_um, cb_nwM, cb_fl, cb_u2, cb_mkf, ik0, sr0, pl0, bd0, pc0, l1]) ?_
  refine cb_eqw v2 (by rw [hv2]; rfl) ?_
  refine cb_aload_n (pc := 26) O dX10_init_26 rfl ?_
  refine cb_bipush (pc := 27) (v := 20) O dX10_init_27 (by decide) ?_
  refine cb_anew (pc := 29) O 3 (Or.inl ⟨rfl, rfl⟩) cl_X10_23 rfl dX10_init_29 (by decide) rfl (by decide) (by decide) (by rw [Rt.2.2]; rfl) rfl (Nat.le_of_ble_eq_true rfl) (Nat.le_of_ble_eq_true rfl) (d3 3 (by decide) (by decide)) ?_
  refine cb_putRc (pc := 32) O fl_X10_25 (Or.inr ⟨rfl, hnm, rfl, fm_X10_25⟩) rfl rfl dX10_init_32 (fun _ => rfl) (fun _ => rfl) (by simp [cb_nw1, cb_ur, cb_um, cb_nwM, cb_fl, cb_u2, cb_mkf, ik0, sr0, pl0, bd0, pc0, l2]) (by simp [cb_nw1, cb_ur, cb_um, cb_nwM, cb_fl, cb_u2, cb_mkf, ik0, sr0, pl0, bd0, pc0, l2]) ?_
  refine cb_eqw v3 (by rw [hv3]; rfl) ?_
  refine cb_aload_n (pc := 35) O dX10_init_35 rfl ?_
  refine cb_sipush (pc := 36) (v := 200) O dX10_init_36 (by decide) ?_
  refine cb_anew (pc := 39) O 4 (Or.inr ⟨rfl, rfl⟩) cl_X10_29 rfl dX10_init_39 (by decide) rfl (by decide) (by decide) (by rw [Rt.2.2]; rfl) rfl (Nat.le_of_ble_eq_true rfl) (Nat.le_of_ble_eq_true rfl) (d4 4 (by decide) (by decide)) ?_
  refine cb_putRc (pc := 42) O fl_X10_31 (Or.inr ⟨rfl, hnm, rfl, fm_X10_31⟩) rfl rfl dX10_init_42 (fun _ => rfl) (fun _ => rfl) (by simp [cb_nw1, cb_ur, cb_um, cb_nwM, cb_fl, cb_u2, cb_mkf, ik0, sr0, pl0, bd0, pc0, l3]) (by simp [cb_nw1, cb_ur, cb_um, cb_nwM, cb_fl, cb_u2, cb_mkf, ik0, sr0, pl0, bd0, pc0, l3]) ?_
  refine cb_eqw v4 (by rw [hv4]; rfl) ?_
  refine cb_aload_n (pc := 45) O dX10_init_45 rfl ?_
  refine cb_bipush (pc := 46) (v := 8) O dX10_init_46 (by decide) ?_
  refine cb_newa (pc := 48) (atype := .int) (ty := .int) O 5 rfl (Or.inl ⟨rfl, rfl⟩) ac_int rfl dX10_init_48 (by decide) rfl (by decide) (by decide) (by rw [Rt.2.2]; rfl) rfl (Nat.le_of_ble_eq_true rfl) (Nat.le_of_ble_eq_true rfl) (d5 5 (by decide) (by decide)) ?_
  refine cb_putRc (pc := 50) O fl_X10_35 (Or.inr ⟨rfl, hnm, rfl, fm_X10_35⟩) rfl rfl dX10_init_50 (fun _ => rfl) (fun _ => rfl) (by simp [cb_nw1, cb_ur, cb_um, cb_nwM, cb_fl, cb_u2, cb_mkf, ik0, sr0, pl0, bd0, pc0, l4]) (by simp [cb_nw1, cb_ur, cb_um, cb_nwM, cb_fl, cb_u2, cb_mkf, ik0, sr0, pl0, bd0, pc0, l4]) ?_
  refine cb_eqw v5 (by rw [hv5]; rfl) ?_
  refine cb_aload_n (pc := 53) O dX10_init_53 rfl ?_
  refine cb_new (pc := 54) O 6 ct_8 cl_X10_39 in_X8 ini_X8 rfl dX10_init_54 (by decide) (by rw [Rt.2.2]; rfl) rfl (Nat.le_of_ble_eq_true rfl) (Nat.le_of_ble_eq_true rfl) (d6 6 (by decide) (by decide)) ?_
  refine cb_dup (pc := 57) O dX10_init_57 ?_
  refine cb_aload_n (pc := 58) O dX10_init_58 rfl ?_
  refine cb_getR (pc := 59) O fl_X10_12 rfl rfl dX10_init_59 (by simp [cb_nw1, cb_ur, cb_um, cb_nwM, cb_fl, cb_u2, cb_mkf, ik0, sr0, pl0, bd0, pc0, l5]) (by show (if 0 = 6 then (fun _ => none) else v5.2.2 0) 0 = some 1; rw [if_neg (by decide)]; exact j5) ?_
  refine cb_cIv (pc := 62) O (c_X8_init (cb_nw1 v5 6) (by simp [cb_nw1]) (by simp [cb_nw1, i5]) (by simp [cb_nw1]; exact d6 12 (by decide) (by decide)) (by simp [cb_nw1]; exact d6 13 (by decide) (by decide)) (fun i hi => by show (if 130 + i = 6 then true else v5.1 (130 + i)) = false; rw [if_neg (by omega)]; exact d6 _ (by omega) (by omega))) my_X8_init mi_X8_init rfl ml_X10_41 dX10_init_62 rfl rfl ⟨(Nat.le_of_ble_eq_true rfl), (Nat.le_of_ble_eq_true rfl)⟩ (Nat.le_of_ble_eq_true rfl) rfl ⟨(Nat.le_of_ble_eq_true rfl), (Nat.le_of_ble_eq_true rfl)⟩ (fun q h => by rcases cb_kpubE (by rw [← Rt.2.2]; exact h) with rfl | rfl <;> rfl) (fun w_62 hp_62 => ?_)
  rw [hp_62]
  refine cb_putRc (pc := 65) O fl_X10_44 (Or.inr ⟨rfl, hnm, rfl, fm_X10_44⟩) rfl rfl dX10_init_65 (fun _ => rfl) (fun _ => rfl) (by simp [cb_nw1, cb_ur, cb_um, cb_nwM, cb_fl, cb_u2, cb_mkf, ik0, sr0, pl0, bd0, pc0, l5]) (by simp [cb_nw1, cb_ur, cb_um, cb_nwM, cb_fl, cb_u2, cb_mkf, ik0, sr0, pl0, bd0, pc0, l5]) ?_
  refine cb_eqw v6 (by rw [hv6]; rfl) ?_
  refine cb_aload_n (pc := 68) O dX10_init_68 rfl ?_
  refine cb_new (pc := 69) O 7 ct_7 cl_X10_48 in_X7 ini_X7 rfl dX10_init_69 (by decide) (by rw [Rt.2.2]; rfl) rfl (Nat.le_of_ble_eq_true rfl) (Nat.le_of_ble_eq_true rfl) (d7 7 (by decide) (by decide)) ?_
  refine cb_dup (pc := 72) O dX10_init_72 ?_
  refine cb_cIv (pc := 73) O (c_X7_init (cb_nw1 v6 7) (by simp [cb_nw1]) (by simp [cb_nw1]; exact d7 14 (by decide) (by decide)) (by simp [cb_nw1]; exact d7 15 (by decide) (by decide)) (by simp [cb_nw1]; exact d7 16 (by decide) (by decide))) my_X7_init mi_X7_init rfl ml_X10_50 dX10_init_73 rfl rfl ⟨(Nat.le_of_ble_eq_true rfl), (Nat.le_of_ble_eq_true rfl)⟩ (Nat.le_of_ble_eq_true rfl) rfl ⟨(Nat.le_of_ble_eq_true rfl), (Nat.le_of_ble_eq_true rfl)⟩ (fun q h => by rcases cb_kpubE (by rw [← Rt.2.2]; exact h) with rfl | rfl <;> rfl) (fun w_73 hp_73 => ?_)
  rw [hp_73]
  refine cb_putRc (pc := 76) O fl_X10_51 (Or.inr ⟨rfl, hnm, rfl, fm_X10_51⟩) rfl rfl dX10_init_76 (fun _ => rfl) (fun _ => rfl) (by simp [cb_nw1, cb_ur, cb_um, cb_nwM, cb_fl, cb_u2, cb_mkf, ik0, sr0, pl0, bd0, pc0, l6]) (by simp [cb_nw1, cb_ur, cb_um, cb_nwM, cb_fl, cb_u2, cb_mkf, ik0, sr0, pl0, bd0, pc0, l6]) ?_
  refine cb_eqw v7 (by rw [hv7]; rfl) ?_
  refine cb_aload_n (pc := 79) O dX10_init_79 rfl ?_
  refine cb_new (pc := 80) O 20 ct_1 cl_X10_55 in_X1 ini_X1 rfl dX10_init_80 (by decide) (by rw [Rt.2.2]; rfl) rfl (Nat.le_of_ble_eq_true rfl) (Nat.le_of_ble_eq_true rfl) (d8 20 (by decide) (by decide)) ?_
  refine cb_dup (pc := 83) O dX10_init_83 ?_
  refine cb_iconst (pc := 84) (v := 0) O dX10_init_84 (by decide) ?_
  refine cb_iconst (pc := 85) (v := 0) O dX10_init_85 (by decide) ?_
  refine cb_cIv (pc := 86) O (c_X1_init0 (cb_nw1 v7 20) (by simp [cb_nw1]) (by simp [cb_nw1]; exact d8 21 (by decide) (by decide)) (by simp [cb_nw1]; exact d8 22 (by decide) (by decide)) (by simp [cb_nw1]; exact d8 23 (by decide) (by decide)) (by simp [cb_nw1]; exact d8 24 (by decide) (by decide)) (by simp [cb_nw1]; exact d8 25 (by decide) (by decide))) my_X1_init mi_X1_init rfl ml_X10_57 dX10_init_86 rfl rfl ⟨(Nat.le_of_ble_eq_true rfl), (Nat.le_of_ble_eq_true rfl)⟩ (Nat.le_of_ble_eq_true rfl) rfl ⟨(Nat.le_of_ble_eq_true rfl), (Nat.le_of_ble_eq_true rfl)⟩ (fun q h => by rcases cb_kpubE (by rw [← Rt.2.2]; exact h) with rfl | rfl <;> rfl) (fun w_86 hp_86 => ?_)
  rw [hp_86]
  refine cb_putRc (pc := 89) O fl_X10_60 (Or.inl rfl) rfl rfl dX10_init_89 (fun _ => rfl) (fun _ => rfl) (by simp [cb_nw1, cb_ur, cb_um, cb_nwM, cb_fl, cb_u2, cb_mkf, ik0, sr0, pl0, bd0, pc0, l7]) (by simp [cb_nw1, cb_ur, cb_um, cb_nwM, cb_fl, cb_u2, cb_mkf, ik0, sr0, pl0, bd0, pc0, l7]) ?_
  refine cb_eqw v8 (by rw [hv8]; rfl) ?_
  refine cb_aload_n (pc := 92) O dX10_init_92 rfl ?_
  refine cb_new (pc := 93) O 26 ct_6 cl_X10_64 in_X6 ini_X6 rfl dX10_init_93 (by decide) (by rw [Rt.2.2]; rfl) rfl (Nat.le_of_ble_eq_true rfl) (Nat.le_of_ble_eq_true rfl) (d9 26 (by decide) (by decide)) ?_
  refine cb_dup (pc := 96) O dX10_init_96 ?_
  refine cb_iconst (pc := 97) (v := 0) O dX10_init_97 (by decide) ?_
  refine cb_iconst (pc := 98) (v := 0) O dX10_init_98 (by decide) ?_
  refine cb_cIv (pc := 99) O (c_X6_init0 (cb_nw1 v8 26) (by simp [cb_nw1]) (by simp [cb_nw1]; exact d9 27 (by decide) (by decide))) my_X6_init mi_X6_init rfl ml_X10_66 dX10_init_99 rfl rfl ⟨(Nat.le_of_ble_eq_true rfl), (Nat.le_of_ble_eq_true rfl)⟩ (Nat.le_of_ble_eq_true rfl) rfl ⟨(Nat.le_of_ble_eq_true rfl), (Nat.le_of_ble_eq_true rfl)⟩ (fun q h => by rcases cb_kpubE (by rw [← Rt.2.2]; exact h) with rfl | rfl <;> rfl) (fun w_99 hp_99 => ?_)
  rw [hp_99]
  refine cb_putRc (pc := 102) O fl_X10_67 (Or.inl rfl) rfl rfl dX10_init_102 (fun _ => rfl) (fun _ => rfl) (by simp [cb_nw1, cb_ur, cb_um, cb_nwM, cb_fl, cb_u2, cb_mkf, ik0, sr0, pl0, bd0, pc0, l8]) (by simp [cb_nw1, cb_ur, cb_um, cb_nwM, cb_fl, cb_u2, cb_mkf, ik0, sr0, pl0, bd0, pc0, l8]) ?_
  refine cb_eqw v9 (by rw [hv9]; rfl) ?_
  refine cb_aload_n (pc := 105) O dX10_init_105 rfl ?_
  refine cb_iconst (pc := 106) (v := 0) O dX10_init_106 (by decide) ?_
  refine cb_putIc (pc := 107) O fl_X10_71 (Or.inl rfl) rfl rfl dX10_init_107 rfl rfl l9 ?_
  refine cb_aload_n (pc := 110) O dX10_init_110 rfl ?_
  refine cb_iconst (pc := 111) (v := 0) O dX10_init_111 (by decide) ?_
  refine cb_putIc (pc := 112) O fl_X10_75 (Or.inl rfl) rfl rfl dX10_init_112 rfl rfl (by simp only [cb_um]; exact l9) ?_
  refine cb_aload_n (pc := 115) O dX10_init_115 rfl ?_
  refine cb_iconst (pc := 116) (v := 0) O dX10_init_116 (by decide) ?_
  refine cb_putIc (pc := 117) O fl_X10_78 (Or.inl rfl) rfl rfl dX10_init_117 rfl rfl (by simp only [cb_um]; exact l9) ?_
  exact cb_vret (pc := 120) O Rt (Nat.le_of_ble_eq_true rfl) (Nat.le_of_ble_eq_true rfl) dX10_init_120 (by
    show _ = _
    rw [← hv1, ← hv2, ← hv3, ← hv4, ← hv5, ← hv6, ← hv7, ← hv8, ← hv9]
    rfl)

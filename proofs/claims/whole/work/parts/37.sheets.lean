abbrev sv_sheets (A : ca_A) (n : Int32) : Prop := (1 ≤ n ∧ n ≤ 20) ∧ 0 < A 0 0
def ca_ns (A : ca_A) (n : Nat) : ca_A := fun q i => if q = 16 ∧ 64 * A 0 20 ≤ i ∧ i < 64 * (A 0 20 + n) then 0 else if q = 0 ∧ i = 20 then A 0 20 + n else A q i
def sr_sheets (A : ca_A) (n : Int32) : Int32 := if sv_sheets A n then (if A 0 20 + n.toNatClampNeg ≤ 20 then nI (A 0 20 + n.toNatClampNeg) else -2) else -1
def sA_sheets (A : ca_A) (n : Int32) : ca_A := if sv_sheets A n ∧ A 0 20 + n.toNatClampNeg ≤ 20 then ca_ns A n.toNatClampNeg else A
theorem cb_eqc {κ : cb_K} {w : cb_W} {ca sl ca' sl' pc : Nat} {lv : List (Option cb_V)} {st : List cb_V} (h1 : ca = ca') (h2 : sl = sl') (k : cb_X κ w ca' sl' pc lv st) : cb_X κ w ca sl pc lv st := by rw [h1, h2]; exact k
def cb_s9 (w : cb_W) (s : Nat) : cb_W := cb_fl (cb_um (cb_ur (cb_nw1 (cb_ur (cb_nw1 (cb_ur (cb_nw1 (cb_ur (cb_nw1 (cb_ur (cb_nw1 w (201 + 6 * s)) (200 + 6 * s) 0 (some (201 + 6 * s))) (202 + 6 * s)) (200 + 6 * s) 1 (some (202 + 6 * s))) (203 + 6 * s)) (200 + 6 * s) 2 (some (203 + 6 * s))) (204 + 6 * s)) (200 + 6 * s) 3 (some (204 + 6 * s))) (205 + 6 * s)) (200 + 6 * s) 4 (some (205 + 6 * s))) (200 + 6 * s) 5 1) (203 + 6 * s) 0 64 (-1)
def cb_ns (w w' : cb_W) (a k : Nat) : Prop :=
  (∀ r, ¬ (200 + 6 * a ≤ r ∧ r < 200 + 6 * (a + k)) → w'.1 r = w.1 r ∧ w'.2.1 r = w.2.1 r ∧ (r ≠ 3 → w'.2.2 r = w.2.2 r)) ∧ (∀ i, ¬ (a ≤ i ∧ i < a + k) → w'.2.2 3 i = w.2.2 3 i) ∧
  (∀ s, a ≤ s → s < a + k → (∀ j, j < 6 → w'.1 (200 + 6 * s + j) = true) ∧ w'.2.2 3 s = some (200 + 6 * s) ∧ (∀ j, j < 5 → w'.2.2 (200 + 6 * s) j = some (201 + 6 * s + j)) ∧ w'.2.1 (200 + 6 * s) 5 = 1 ∧
    (∀ i, i < 64 → w'.2.1 (201 + 6 * s) i = 0 ∧ w'.2.1 (202 + 6 * s) i = 0 ∧ w'.2.1 (203 + 6 * s) i = -1 ∧ w'.2.1 (204 + 6 * s) i = 0 ∧ w'.2.1 (205 + 6 * s) i = 0) ∧ (∀ j i q, j < 6 → w'.2.2 (200 + 6 * s + j) i = some q → 100 ≤ q))
theorem cb_ns0 (w : cb_W) (a : Nat) : cb_ns w w a 0 := ⟨fun _ _ => ⟨rfl, rfl, fun _ => rfl⟩, fun _ _ => rfl, fun s h1 h2 => absurd h2 (by omega)⟩
theorem cb_nsS {w w' : cb_W} {a k : Nat} (h : cb_ns w w' a k) : cb_ns w (cb_ur (cb_s9 (cb_nw1 w' (200 + 6 * (a + k))) (a + k)) 3 (a + k) (some (200 + 6 * (a + k)))) a (k + 1) := by
  obtain ⟨h1, h2, h3⟩ := h
  obtain ⟨b, hb⟩ : ∃ b, b = a + k := ⟨_, rfl⟩
  rw [← hb]
  have f1 : ∀ r, ¬ (200 + 6 * b ≤ r ∧ r < 206 + 6 * b) → (cb_s9 (cb_nw1 w' (200 + 6 * b)) b).1 r = w'.1 r ∧ (cb_s9 (cb_nw1 w' (200 + 6 * b)) b).2.1 r = w'.2.1 r ∧ (cb_s9 (cb_nw1 w' (200 + 6 * b)) b).2.2 r = w'.2.2 r := by
    intro r hr
    have e0 : ¬ r = 200 + 6 * b := by omega
    have e1 : ¬ r = 201 + 6 * b := by omega
    have e2 : ¬ r = 202 + 6 * b := by omega
    have e3 : ¬ r = 203 + 6 * b := by omega
    have e4 : ¬ r = 204 + 6 * b := by omega
    have e5 : ¬ r = 205 + 6 * b := by omega
    refine ⟨by simp [cb_s9, cb_fl, cb_um, cb_ur, cb_nw1, e0, e1, e2, e3, e4, e5], ?_, ?_⟩
    · funext i; simp [cb_s9, cb_fl, cb_um, cb_ur, cb_nw1, cb_u2, e0, e1, e2, e3, e4, e5]
    · funext i; simp [cb_s9, cb_fl, cb_um, cb_ur, cb_nw1, cb_u2, e0, e1, e2, e3, e4, e5]
  refine ⟨fun r hr => ?_, fun i hi => ?_, fun s hs1 hs2 => ?_⟩
  · obtain ⟨g1, g2, g3⟩ := f1 r (by omega)
    obtain ⟨k1, k2, k3⟩ := h1 r (by omega)
    refine ⟨g1.trans k1, g2.trans k2, fun e => ?_⟩
    show cb_u2 _ 3 b _ r = _
    rw [cb_u2r e]
    exact g3.trans (k3 e)
  · show cb_u2 (cb_s9 (cb_nw1 w' (200 + 6 * b)) b).2.2 3 b (some (200 + 6 * b)) 3 i = _
    rw [cb_u2n (by omega), (f1 3 (by omega)).2.2]
    exact h2 i (by omega)
  · rcases (show s < a + k ∨ s = b by omega) with e | e
    · obtain ⟨k1, k2, k3, k4, k5, k6⟩ := h3 s hs1 e
      have f2 : ∀ j, j < 6 → (cb_s9 (cb_nw1 w' (200 + 6 * b)) b).1 (200 + 6 * s + j) = w'.1 (200 + 6 * s + j) ∧ (cb_s9 (cb_nw1 w' (200 + 6 * b)) b).2.1 (200 + 6 * s + j) = w'.2.1 (200 + 6 * s + j) ∧ (cb_s9 (cb_nw1 w' (200 + 6 * b)) b).2.2 (200 + 6 * s + j) = w'.2.2 (200 + 6 * s + j) := fun j hj => f1 _ (by omega)
      have f3 : ∀ j i, j < 6 → cb_u2 (cb_s9 (cb_nw1 w' (200 + 6 * b)) b).2.2 3 b (some (200 + 6 * b)) (200 + 6 * s + j) i = w'.2.2 (200 + 6 * s + j) i := fun j i hj => by
        rw [cb_u2r (by omega), (f2 j hj).2.2]
      refine ⟨fun j hj => (f2 j hj).1.trans (k1 j hj), ?_, fun j hj => (f3 0 j (by omega)).trans (k3 j hj), ?_, fun i hi => ?_, fun j i q hj hq => k6 j i q hj ((f3 j i hj).symm.trans hq)⟩
      · show cb_u2 (cb_s9 (cb_nw1 w' (200 + 6 * b)) b).2.2 3 b (some (200 + 6 * b)) 3 s = _
        rw [cb_u2n (by omega), (f1 3 (by omega)).2.2]
        exact k2
      · show (cb_s9 (cb_nw1 w' (200 + 6 * b)) b).2.1 (200 + 6 * s) 5 = 1
        rw [(f1 _ (by omega)).2.1]; exact k4
      · show (cb_s9 (cb_nw1 w' (200 + 6 * b)) b).2.1 (201 + 6 * s) i = 0 ∧ (cb_s9 (cb_nw1 w' (200 + 6 * b)) b).2.1 (202 + 6 * s) i = 0 ∧ (cb_s9 (cb_nw1 w' (200 + 6 * b)) b).2.1 (203 + 6 * s) i = -1 ∧ (cb_s9 (cb_nw1 w' (200 + 6 * b)) b).2.1 (204 + 6 * s) i = 0 ∧ (cb_s9 (cb_nw1 w' (200 + 6 * b)) b).2.1 (205 + 6 * s) i = 0
        rw [(f1 _ (by omega)).2.1, (f1 _ (by omega)).2.1, (f1 _ (by omega)).2.1, (f1 _ (by omega)).2.1, (f1 _ (by omega)).2.1]
        exact k5 i hi
    · subst e
      have r3 : ∀ j, ¬ 200 + 6 * s + j = 3 := fun j => by omega
      refine ⟨fun j hj => ?_, ?_, fun j hj => ?_, ?_, fun i hi => ?_, fun j i q hj hq => ?_⟩
      · rcases j with _ | _ | _ | _ | _ | _ | j
        all_goals first | (exfalso; omega) | (simp [cb_s9, cb_fl, cb_um, cb_ur, cb_nw1]; done) | (simp [cb_s9, cb_fl, cb_um, cb_ur, cb_nw1]; omega)
      · show cb_u2 _ 3 s _ 3 s = _
        rw [cb_u2s]
      · show cb_u2 _ 3 s _ (200 + 6 * s) j = _
        rw [cb_u2r (by omega)]
        rcases j with _ | _ | _ | _ | _ | j
        all_goals first | (exfalso; omega) | (simp [cb_s9, cb_fl, cb_um, cb_ur, cb_nw1, cb_u2]; done) | (simp [cb_s9, cb_fl, cb_um, cb_ur, cb_nw1, cb_u2]; omega)
      · simp [cb_s9, cb_fl, cb_um, cb_ur, cb_nw1, cb_u2]
      · simp [cb_s9, cb_fl, cb_um, cb_ur, cb_nw1, cb_u2, hi]
      · have hq2 : cb_u2 (cb_s9 (cb_nw1 w' (200 + 6 * s)) s).2.2 3 s (some (200 + 6 * s)) (200 + 6 * s + j) i = some q := hq
        rw [cb_u2r (r3 j)] at hq2
        rcases (show j = 0 ∨ j = 1 ∨ j = 2 ∨ j = 3 ∨ j = 4 ∨ j = 5 by omega) with rfl | rfl | rfl | rfl | rfl | rfl
        · rcases i with _ | _ | _ | _ | _ | i <;> simp [cb_s9, cb_fl, cb_um, cb_ur, cb_nw1, cb_u2] at hq2 <;> omega
        · rw [show 200 + 6 * s + 1 = 201 + 6 * s by omega] at hq2
          simp [cb_s9, cb_fl, cb_um, cb_ur, cb_nw1, cb_u2] at hq2
        · rw [show 200 + 6 * s + 2 = 202 + 6 * s by omega] at hq2
          simp [cb_s9, cb_fl, cb_um, cb_ur, cb_nw1, cb_u2] at hq2
        · rw [show 200 + 6 * s + 3 = 203 + 6 * s by omega] at hq2
          simp [cb_s9, cb_fl, cb_um, cb_ur, cb_nw1, cb_u2] at hq2
        · rw [show 200 + 6 * s + 4 = 204 + 6 * s by omega] at hq2
          simp [cb_s9, cb_fl, cb_um, cb_ur, cb_nw1, cb_u2] at hq2
        · rw [show 200 + 6 * s + 5 = 205 + 6 * s by omega] at hq2
          simp [cb_s9, cb_fl, cb_um, cb_ur, cb_nw1, cb_u2] at hq2
theorem c_X9_init (w : cb_W) (s : Nat) (hs : s < 20) (hb : w.1 (200 + 6 * s) = true) (h0 : w.1 (201 + 6 * s) = false) (h1 : w.1 (202 + 6 * s) = false) (h2 : w.1 (203 + 6 * s) = false) (h3 : w.1 (204 + 6 * s) = false) (h4 : w.1 (205 + 6 * s) = false) : cb_Con yX9_init cX9_init 1 none 1 23 5 320 (fun q => !(decide (201 + 6 * s ≤ q) && decide (q < 206 + 6 * s))) [.inr (some (200 + 6 * s))] w (cb_pv (fun w' => w' = cb_s9 w s)) := by
  refine cb_con (by decide) (Nat.le_of_ble_eq_true rfl) (fun κ O Rt hnm => ?_)
  show cb_X κ w 0 0 0 [some (.inr (some (200 + 6 * s)))] []
  refine cb_aload_n (pc := 0) O dX9_init_0 rfl ?_
  refine cb_objInit (pc := 1) O dX9_init_1 oi_X9_3 oi_inst oi_code ⟨(Nat.le_of_ble_eq_true rfl), (Nat.le_of_ble_eq_true rfl)⟩ (Nat.le_of_ble_eq_true rfl) ?_
  refine cb_aload_n (pc := 4) O dX9_init_4 rfl ?_
  refine cb_bipush (pc := 5) (v := 64) O dX9_init_5 (by decide) ?_
  refine cb_newa (pc := 7) (atype := .int) (ty := .int) O (201 + 6 * s) rfl (Or.inl ⟨rfl, rfl⟩) ac_int (sh_sj (s := s) (j := 0) hs (by omega) (by omega)) dX9_init_7 (by decide) rfl (by decide) (by omega) (by rw [Rt.2.2]; simp) (by simp [cb_fr, cb_nr] <;> omega) (Nat.le_of_ble_eq_true rfl) (Nat.le_of_ble_eq_true rfl) (by first | exact h0 | (simp [cb_nw1, cb_ur, cb_um]; exact h0)) ?_
  refine cb_putRc (pc := 9) O fl_X9_9 (Or.inr ⟨rfl, hnm, rfl, fm_X9_9⟩) rfl (sh_s0 hs) dX9_init_9 (fun _ => rfl) (fun _ => rfl) (by simp [cb_nw1, cb_ur, cb_um, hb]) (by simp [cb_nw1, cb_ur, cb_um, hb]) ?_
  refine cb_aload_n (pc := 12) O dX9_init_12 rfl ?_
  refine cb_bipush (pc := 13) (v := 64) O dX9_init_13 (by decide) ?_
  refine cb_newa (pc := 15) (atype := .int) (ty := .int) O (202 + 6 * s) rfl (Or.inl ⟨rfl, rfl⟩) ac_int (sh_sj (s := s) (j := 1) hs (by omega) (by omega)) dX9_init_15 (by decide) rfl (by decide) (by omega) (by rw [Rt.2.2]; simp) (by simp [cb_fr, cb_nr] <;> omega) (Nat.le_of_ble_eq_true rfl) (Nat.le_of_ble_eq_true rfl) (by first | exact h1 | (simp [cb_nw1, cb_ur, cb_um]; exact h1)) ?_
  refine cb_putRc (pc := 17) O fl_X9_15 (Or.inr ⟨rfl, hnm, rfl, fm_X9_15⟩) rfl (sh_s0 hs) dX9_init_17 (fun _ => rfl) (fun _ => rfl) (by simp [cb_nw1, cb_ur, cb_um, hb]) (by simp [cb_nw1, cb_ur, cb_um, hb]) ?_
  refine cb_aload_n (pc := 20) O dX9_init_20 rfl ?_
  refine cb_bipush (pc := 21) (v := 64) O dX9_init_21 (by decide) ?_
  refine cb_newa (pc := 23) (atype := .int) (ty := .int) O (203 + 6 * s) rfl (Or.inl ⟨rfl, rfl⟩) ac_int (sh_sj (s := s) (j := 2) hs (by omega) (by omega)) dX9_init_23 (by decide) rfl (by decide) (by omega) (by rw [Rt.2.2]; simp) (by simp [cb_fr, cb_nr] <;> omega) (Nat.le_of_ble_eq_true rfl) (Nat.le_of_ble_eq_true rfl) (by first | exact h2 | (simp [cb_nw1, cb_ur, cb_um]; exact h2)) ?_
  refine cb_putRc (pc := 25) O fl_X9_18 (Or.inr ⟨rfl, hnm, rfl, fm_X9_18⟩) rfl (sh_s0 hs) dX9_init_25 (fun _ => rfl) (fun _ => rfl) (by simp [cb_nw1, cb_ur, cb_um, hb]) (by simp [cb_nw1, cb_ur, cb_um, hb]) ?_
  refine cb_aload_n (pc := 28) O dX9_init_28 rfl ?_
  refine cb_bipush (pc := 29) (v := 64) O dX9_init_29 (by decide) ?_
  refine cb_newa (pc := 31) (atype := .int) (ty := .int) O (204 + 6 * s) rfl (Or.inl ⟨rfl, rfl⟩) ac_int (sh_sj (s := s) (j := 3) hs (by omega) (by omega)) dX9_init_31 (by decide) rfl (by decide) (by omega) (by rw [Rt.2.2]; simp) (by simp [cb_fr, cb_nr] <;> omega) (Nat.le_of_ble_eq_true rfl) (Nat.le_of_ble_eq_true rfl) (by first | exact h3 | (simp [cb_nw1, cb_ur, cb_um]; exact h3)) ?_
  refine cb_putRc (pc := 33) O fl_X9_21 (Or.inr ⟨rfl, hnm, rfl, fm_X9_21⟩) rfl (sh_s0 hs) dX9_init_33 (fun _ => rfl) (fun _ => rfl) (by simp [cb_nw1, cb_ur, cb_um, hb]) (by simp [cb_nw1, cb_ur, cb_um, hb]) ?_
  refine cb_aload_n (pc := 36) O dX9_init_36 rfl ?_
  refine cb_bipush (pc := 37) (v := 64) O dX9_init_37 (by decide) ?_
  refine cb_newa (pc := 39) (atype := .int) (ty := .int) O (205 + 6 * s) rfl (Or.inl ⟨rfl, rfl⟩) ac_int (sh_sj (s := s) (j := 4) hs (by omega) (by omega)) dX9_init_39 (by decide) rfl (by decide) (by omega) (by rw [Rt.2.2]; simp) (by simp [cb_fr, cb_nr] <;> omega) (Nat.le_of_ble_eq_true rfl) (Nat.le_of_ble_eq_true rfl) (by first | exact h4 | (simp [cb_nw1, cb_ur, cb_um]; exact h4)) ?_
  refine cb_putRc (pc := 41) O fl_X9_24 (Or.inr ⟨rfl, hnm, rfl, fm_X9_24⟩) rfl (sh_s0 hs) dX9_init_41 (fun _ => rfl) (fun _ => rfl) (by simp [cb_nw1, cb_ur, cb_um, hb]) (by simp [cb_nw1, cb_ur, cb_um, hb]) ?_
  refine cb_aload_n (pc := 44) O dX9_init_44 rfl ?_
  refine cb_iconst (pc := 45) (v := 1) O dX9_init_45 (by decide) ?_
  refine cb_putIc (pc := 46) O fl_X9_27 (Or.inl rfl) rfl (sh_s0 hs) dX9_init_46 rfl rfl (by simp [cb_nw1, cb_ur, cb_um, hb]) ?_
  refine cb_aload_n (pc := 49) O dX9_init_49 rfl ?_
  refine cb_getR (pc := 50) O fl_X9_18 rfl (sh_s0 hs) dX9_init_50 (by simp [cb_nw1, cb_ur, cb_um, hb]) (Eq.trans (by simp [cb_nw1, cb_ur, cb_um, cb_u2]) (rfl : some (203 + 6 * s) = some (203 + 6 * s))) ?_
  refine cb_iconst (pc := 53) (v := (-1)) O dX9_init_53 (by decide) ?_
  refine cb_cSv (pc := 54) O (c_fill _ (203 + 6 * s) 64 (-1) (sh_sj (s := s) (j := 2) hs (by omega) (by omega)) (by simp [cb_nw1, cb_ur, cb_um]) (by decide)) my_J7_fill_53178 mt_J7_fill_53178 ml_X9_31 dX9_init_54 rfl rfl ⟨(Nat.le_of_ble_eq_true rfl), (Nat.le_of_ble_eq_true rfl)⟩ (Nat.le_of_ble_eq_true rfl) (by simp [cb_kp, cb_okv] <;> omega) ⟨(Nat.le_of_ble_eq_true rfl), (Nat.le_of_ble_eq_true rfl)⟩ (fun _ _ => rfl) (fun w_54 hp_54 => ?_)
  rw [hp_54]
  exact cb_vret (pc := 57) O Rt (Nat.le_of_ble_eq_true rfl) (Nat.le_of_ble_eq_true rfl) dX9_init_57 rfl

theorem cc_I.ns {w w' : cb_W} {A : ca_A} {z : Int32} {n : Nat} (hC : cc_I w A z) (hI : ca_I A) (hn : A 0 20 + n ≤ 20) (h : cb_ns w w' (A 0 20) n) : cc_I (cb_um w' 0 9 (nI (A 0 20 + n))) (ca_ns A n) z ∧ cb_M1 w (cb_um w' 0 9 (nI (A 0 20 + n))) := by
  obtain ⟨h1, h2, h3⟩ := h
  have hm : ∀ r k, ¬ (200 + 6 * A 0 20 ≤ r ∧ r < 200 + 6 * (A 0 20 + n)) → ¬ (r = 0 ∧ k = 9) → (cb_um w' 0 9 (nI (A 0 20 + n))).2.1 r k = w.2.1 r k := fun r k g1 g2 => by
    show cb_u2 w'.2.1 0 9 _ r k = _
    rw [cb_u2n (by omega), (h1 r g1).2.1]
  have ha : ∀ k i, k ≠ 16 → ¬ (k = 0 ∧ i = 20) → ca_ns A n k i = A k i := fun k i g1 g2 => by
    unfold ca_ns
    rw [if_neg (fun e => g1 e.1), if_neg g2]
  have a20 : ca_ns A n 0 20 = A 0 20 + n := by
    unfold ca_ns
    rw [if_neg (by omega), if_pos ⟨rfl, rfl⟩]
  obtain ⟨⟨w1, w2⟩, hB, ⟨n1, n2, n3, n4, n5⟩, hK, ⟨s1, s2⟩, hE, hP, hL, l1, l2, l3⟩ := hC
  refine ⟨⟨⟨fun r hr => ?_, fun r k q hq => ?_⟩, hB.cg (fun r k e => hm r k (by omega) (by omega)) (fun k i e => ha k i (by omega) (by omega)), ⟨?_, ?_, ?_, ?_, ?_⟩, hK.cg (fun r k e => hm r k (by omega) (by omega)) (fun k i e => ha k i (by omega) (by omega)), ⟨fun s hs => ?_, fun s hs hs2 j hj => ?_⟩, hE.cg hI.1.2.2.2.2.1 (fun r g1 g2 => (h1 r (by omega)).1) (fun k => ?_) (fun r k g1 g2 => hm r k (by omega) (by omega)) (fun k i e => ha k i (by omega) (by omega)), hP.cg (fun r k e => hm r k (by omega) (by omega)) (fun k i e => ha k i (by omega) (by omega)), hL.cg (fun r k e => hm r k (by omega) (by omega)) (fun k i e => ha k i (by omega) (by omega)), fun r g1 g2 => ?_, fun r g1 => ?_, fun r k q hr hr4 hk g1 g2 => ?_⟩, fun r hr => ?_⟩
  · exact (h1 r (by simp [cc_Lv] at hr; omega)).1.trans (w1 r hr)
  · have e3 : r ≠ 3 := fun e => by subst e; simp [cc_Rf] at hq
    show w'.2.2 r k = _
    rw [(h1 r (by have := cc_Rf_lo hq; omega)).2.2 e3]
    exact w2 r k q hq
  · rw [a20]
    show cb_u2 w'.2.1 0 9 (nI (A 0 20 + n)) 0 9 = _
    rw [cb_u2s]
  · rw [hm 0 10 (by omega) (by omega), ha 0 26 (by decide) (by decide)]; exact n2
  · rw [hm 0 11 (by omega) (by omega), ha 0 8 (by decide) (by decide)]; exact n3
  · rw [hm 2 0 (by omega) (by omega)]; exact n4
  · rw [hm 2 1 (by omega) (by omega), ha 0 6 (by decide) (by decide)]; exact n5
  · rw [a20] at hs
    rcases Nat.lt_or_ge s (A 0 20) with e | e
    · obtain ⟨x1, x2, x3, x4, x5⟩ := s1 s e
      refine ⟨fun j hj => (h1 _ (by omega)).1.trans (x1 j hj), (h2 s (by omega)).trans x2, fun j hj => ?_, ?_, fun k hk => ?_⟩
      · show w'.2.2 _ _ = _
        rw [(h1 _ (by omega)).2.2 (by omega)]; exact x3 j hj
      · rw [hm _ _ (by omega) (by omega), ha 20 s (by omega) (by omega)]; exact x4
      · rw [hm _ _ (by omega) (by omega), hm _ _ (by omega) (by omega), hm _ _ (by omega) (by omega), hm _ _ (by omega) (by omega), hm _ _ (by omega) (by omega), ha 15 _ (by omega) (by omega), ha 17 _ (by omega) (by omega), ha 18 _ (by omega) (by omega), ha 19 _ (by omega) (by omega), show ca_ns A n 16 (64 * s + k) = A 16 (64 * s + k) from by unfold ca_ns; rw [if_neg (by omega), if_neg (by omega)]]
        exact x5 k hk
    · obtain ⟨x1, x2, x3, x4, x5, x6⟩ := h3 s e hs
      obtain ⟨y1, y2⟩ := hI.2.2.2.2.2.2.1 s e (by omega)
      have u : ∀ r k, 200 ≤ r → (cb_um w' 0 9 (nI (A 0 20 + n))).2.1 r k = w'.2.1 r k := fun r k g => by
        show cb_u2 w'.2.1 0 9 _ r k = _
        rw [cb_u2n (by omega)]
      refine ⟨x1, x2, x3, ?_, fun k hk => ?_⟩
      · rw [u _ _ (by omega), x4, ha 20 s (by omega) (by omega), y2]; rfl
      · obtain ⟨z1, z2, z3, z4⟩ := y1 k hk
        obtain ⟨v1, v2, v3, v4, v5⟩ := x5 k hk
        rw [u _ _ (by omega), u _ _ (by omega), u _ _ (by omega), u _ _ (by omega), u _ _ (by omega), ha 15 _ (by omega) (by omega), ha 17 _ (by omega) (by omega), ha 18 _ (by omega) (by omega), ha 19 _ (by omega) (by omega), z1, z2, z3, z4, v1, v2, v3, v4, v5, show ca_ns A n 16 (64 * s + k) = 0 from by unfold ca_ns; rw [if_pos ⟨rfl, by omega, by omega⟩]]
        exact ⟨rfl, rfl, rfl, rfl, rfl⟩
  · rw [a20] at hs
    exact (h1 _ (by omega)).1.trans (s2 s (by omega) hs2 j hj)
  · show w'.2.2 4 k = _
    rw [(h1 4 (by omega)).2.2 (by omega)]
  · exact (h1 r (by omega)).1.trans (l1 r g1 g2)
  · exact (h1 r (by omega)).1.trans (l2 r g1)
  · have hk : w'.2.2 r k = some q := hk
    have hr : w'.1 r = true := hr
    by_cases e : 200 + 6 * A 0 20 ≤ r ∧ r < 200 + 6 * (A 0 20 + n)
    · have := (h3 ((r - 200) / 6) (by omega) (by omega)).2.2.2.2.2 ((r - 200) % 6) k q (by omega) (by rw [show 200 + 6 * ((r - 200) / 6) + (r - 200) % 6 = r by omega]; exact hk)
      omega
    · by_cases e3 : r = 3
      · subst e3
        by_cases e4 : A 0 20 ≤ k ∧ k < A 0 20 + n
        · have := (h3 k e4.1 e4.2).2.1
          rw [this] at hk
          cases hk
          omega
        · rw [h2 k e4] at hk
          rw [(h1 3 (by omega)).1] at hr
          exact l3 3 k q hr hr4 hk g1 g2
      · rw [(h1 r e).2.2 e3] at hk
        rw [(h1 r e).1] at hr
        exact l3 r k q hr hr4 hk g1 g2
  · obtain ⟨g1, g2, g3⟩ := h1 r (by omega)
    refine ⟨g1, ?_, fun _ => g3 (by omega)⟩
    show cb_u2 w'.2.1 0 9 _ r = _
    rw [cb_u2r (by omega)]
    exact g2
theorem k_sheets (w : cb_W) (A : ca_A) (z : Int32) (hI : ca_I A) (hC : cc_I w A z) (n : Int32) : cb_Con yX10_sheets cX10_sheets 3 (some .int) 2 43 120 6520 cb_kpub [.inr (some 0), .inl n] w (cb_pi (fun x w' => x = sr_sheets A n ∧ cc_I w' (sA_sheets A n) z ∧ cb_M1 w w')) := by
  have l := hI.1
  refine cb_con (by decide) (Nat.le_of_ble_eq_true rfl) (fun κ O Rt hnm => ?_)
  show cb_X κ w 0 0 0 [some (.inr (some 0)), some (.inl n), none] []
  refine cb_iload_n (pc := 0) O dX10_sheets_0 rfl ?_
  refine cb_iconst (pc := 1) (v := 1) O dX10_sheets_1 (by decide) ?_
  refine cb_bipush (pc := 2) (v := 20) O dX10_sheets_2 (by decide) ?_
  refine cb_cSp (pc := 4) O (c_X10_within _ _ _ _) my_X10_within mt_X10_within ml_X10_81 dX10_sheets_4 rfl rfl ⟨(Nat.le_of_ble_eq_true rfl), (Nat.le_of_ble_eq_true rfl)⟩ (Nat.le_of_ble_eq_true rfl) rfl ⟨(Nat.le_of_ble_eq_true rfl), (Nat.le_of_ble_eq_true rfl)⟩ ?_
  refine cb_ifp_eq (pc := 7) O 20 dX10_sheets_7 (by decide) (fun c_7 => ?_) (fun c_7 => ?_)
  · skip
    refine cb_iconst (pc := 20) (v := (-1)) O dX10_sheets_20 (by decide) ?_
    exact cb_iret (pc := 21) O Rt rfl (Nat.le_of_ble_eq_true rfl) (Nat.le_of_ble_eq_true rfl) dX10_sheets_21 (by
      have hv : ¬ sv_sheets A n := by
        intro h
        first | exact c_7 h.1 | exact c_17 h.2
      exact ⟨by rw [sr_sheets, if_neg hv], by rw [sA_sheets, if_neg (fun h => hv h.1)]; exact hC, cb_M1.rfl'⟩)
  · skip
    refine cb_aload_n (pc := 10) O dX10_sheets_10 rfl ?_
    refine cb_getR (pc := 11) O fl_X10_60 rfl rfl dX10_sheets_11 (hC.1.1 _ rfl) (hC.1.2 _ _ _ rfl) ?_
    refine cb_cVp (pc := 14) O (c_X1_isTold w A z hI hC) my_X1_isTold mi_X1_isTold mx_X1_isTold ml_X10_85 dX10_sheets_14 rfl ct_1 rfl rfl rfl ⟨(Nat.le_of_ble_eq_true rfl), (Nat.le_of_ble_eq_true rfl)⟩ (Nat.le_of_ble_eq_true rfl) rfl ⟨(Nat.le_of_ble_eq_true rfl), (Nat.le_of_ble_eq_true rfl)⟩ (hC.1.1 _ rfl) ?_
    refine cb_ifp_ne (pc := 17) O 22 dX10_sheets_17 (by decide) (fun c_17 => ?_) (fun c_17 => ?_)
    · skip
      have hv : sv_sheets A n := ⟨c_7, c_17⟩
      obtain ⟨n, hn1, hn, rfl⟩ := ci_in1 (n := 20) c_7 rfl
      refine cb_aload_n (pc := 22) O dX10_sheets_22 rfl ?_
      refine cb_getI (pc := 23) O fl_X10_71 rfl rfl dX10_sheets_23 (hC.1.1 _ rfl) ?_
      refine cb_iload_n (pc := 26) O dX10_sheets_26 rfl ?_
      refine cb_iadd (pc := 27) O dX10_sheets_27 ?_
      refine cb_topv (nI (A 0 20 + n)) (by rw [hC.2.2.1.1, nI_add]) ?_
      refine cb_bipush (pc := 28) (v := 20) O dX10_sheets_28 (by decide) ?_
      refine cb_icmp_le (pc := 30) O 36 dX10_sheets_30 (by decide) (fun c_30 => ?_) (fun c_30 => ?_)
      · skip
        rw [show (20 : Int32) = nI 20 from rfl, nI_leI (by omega) (by omega)] at c_30
        refine cb_iconst (pc := 36) (v := 0) O dX10_sheets_36 (by decide) ?_
        refine cb_istore_n (pc := 37) O dX10_sheets_37 (by decide) ?_
        dsimp only [List.set]
        have L_38 : ∀ (m : Nat) (k : Nat) (w9 : cb_W), k ≤ n → cb_ns w w9 (A 0 20) k → n + 1 ≤ k + m → cb_X κ w9 (6 * k) (326 * k) 38 [some (.inr (some 0)), some (.inl (nI n)), some (.inl (nI k))] [] := by
          intro m
          induction m with
          | zero =>
            intro k w9 hk hst hn9
            exact absurd hn (by omega)
          | succ m ih_38 =>
            intro k w9 hk hst hn9
            have l0v : w9.1 0 = true := by
              rw [(hst.1 0 (by omega)).1]; exact hC.1.1 _ rfl
            have l3v : w9.1 3 = true := by
              rw [(hst.1 3 (by omega)).1]; exact hC.1.1 _ rfl
            refine cb_iload_n (pc := 38) O dX10_sheets_38 rfl ?_
            refine cb_iload_n (pc := 39) O dX10_sheets_39 rfl ?_
            refine cb_icmp_ge (pc := 40) O 67 dX10_sheets_40 (by decide) (fun c_40 => ?_) (fun c_40 => ?_)
            · skip
              rw [nI_leI (by omega) (by omega)] at c_40
              have ek : k = n := by omega
              subst ek
              refine cb_aload_n (pc := 67) O dX10_sheets_67 rfl ?_
              refine cb_dup (pc := 68) O dX10_sheets_68 ?_
              refine cb_getI (pc := 69) O fl_X10_71 rfl rfl dX10_sheets_69 l0v ?_
              refine cb_iload_n (pc := 72) O dX10_sheets_72 rfl ?_
              refine cb_iadd (pc := 73) O dX10_sheets_73 ?_
              refine cb_topv (nI (A 0 20 + k)) (by
                rw [(hst.1 0 (by omega)).2.1, hC.2.2.1.1, nI_add]) ?_
              refine cb_putIc (pc := 74) O fl_X10_71 (Or.inl rfl) rfl rfl dX10_sheets_74 rfl rfl l0v ?_
              refine cb_aload_n (pc := 77) O dX10_sheets_77 rfl ?_
              refine cb_getI (pc := 78) O fl_X10_71 rfl rfl dX10_sheets_78 l0v ?_
              refine cb_topv (nI (A 0 20 + k)) (by
                show cb_u2 w9.2.1 0 9 (nI (A 0 20 + k)) 0 9 = _
                rw [cb_u2s]) ?_
              exact cb_iret (pc := 81) O Rt rfl (by omega) (by omega) dX10_sheets_81 (by
                have h9 := hC.ns hI c_30 hst
                rw [sr_sheets, if_pos hv, ci_nz (by omega), if_pos c_30, sA_sheets, if_pos ⟨hv, by rw [ci_nz (by omega)]; exact c_30⟩, ci_nz (by omega)]
                exact ⟨rfl, h9⟩)
            · skip
              rw [nI_leI (by omega) (by omega)] at c_40
              have hdd : ∀ j, j < 6 → w9.1 (200 + 6 * (A 0 20 + k) + j) = false := fun j hj => by
                rw [(hst.1 _ (by omega)).1]
                exact hC.2.2.2.2.1.2 _ (by omega) (by omega) j hj
              refine cb_aload_n (pc := 43) O dX10_sheets_43 rfl ?_
              refine cb_getR (pc := 44) O fl_X10_25 rfl rfl dX10_sheets_44 l0v (by rw [(hst.1 0 (by omega)).2.2 (by decide)]; exact hC.1.2 _ _ _ rfl) ?_
              refine cb_aload_n (pc := 47) O dX10_sheets_47 rfl ?_
              refine cb_getI (pc := 48) O fl_X10_71 rfl rfl dX10_sheets_48 l0v ?_
              refine cb_iload_n (pc := 51) O dX10_sheets_51 rfl ?_
              refine cb_iadd (pc := 52) O dX10_sheets_52 ?_
              refine cb_topv (nI (A 0 20 + k)) (by
                rw [(hst.1 0 (by omega)).2.1, hC.2.2.1.1, nI_add]) ?_
              refine cb_new (pc := 53) O (200 + 6 * (A 0 20 + k)) ct_9 cl_X10_23 in_X9 ini_X9 (sh_s0 (by omega)) dX10_sheets_53 (by omega) (by rw [Rt.2.2]; simp [cb_kpub] <;> omega) (by simp [cb_fr, cb_nr] <;> omega) (by show _ ≤ 120; omega) (by show 326 * k + 6 ≤ 6520; omega) (hdd 0 (by omega)) ?_
              refine cb_dup (pc := 56) O dX10_sheets_56 ?_
              refine cb_cIv (pc := 57) O (c_X9_init (cb_nw1 w9 (200 + 6 * (A 0 20 + k))) (A 0 20 + k) (by omega) (by simp [cb_nw1]) (by simp [cb_nw1]; rw [show 201 + 6 * (A 0 20 + k) = 200 + 6 * (A 0 20 + k) + 1 by omega]; exact hdd 1 (by omega)) (by simp [cb_nw1]; rw [show 202 + 6 * (A 0 20 + k) = 200 + 6 * (A 0 20 + k) + 2 by omega]; exact hdd 2 (by omega)) (by simp [cb_nw1]; rw [show 203 + 6 * (A 0 20 + k) = 200 + 6 * (A 0 20 + k) + 3 by omega]; exact hdd 3 (by omega)) (by simp [cb_nw1]; rw [show 204 + 6 * (A 0 20 + k) = 200 + 6 * (A 0 20 + k) + 4 by omega]; exact hdd 4 (by omega)) (by simp [cb_nw1]; rw [show 205 + 6 * (A 0 20 + k) = 200 + 6 * (A 0 20 + k) + 5 by omega]; exact hdd 5 (by omega))) my_X9_init mi_X9_init rfl ml_X10_189 dX10_sheets_57 rfl rfl ⟨(Nat.le_of_ble_eq_true rfl), (Nat.le_of_ble_eq_true rfl)⟩ (Nat.le_of_ble_eq_true rfl) (by simp [cb_kp, cb_okv] <;> omega) ⟨by show 6 * k + 1 + 5 ≤ 120; omega, by show 326 * k + 6 + 320 ≤ 6520; omega⟩ (fun q h => by rcases cb_kpubE (by rw [← Rt.2.2]; exact h) with rfl | rfl <;> simp <;> omega) (fun w_57 hp_57 => ?_)
              rw [hp_57]
              refine cb_aast (pc := 60) O (A 0 20 + k) (Or.inl ⟨rfl, rfl⟩) rfl (sh_s0 (by omega)) dX10_sheets_60 (by decide) (by simp [cb_s9, cb_fl, cb_um, cb_ur, cb_nw1, l3v]) (by simp [cb_s9, cb_fl, cb_um, cb_ur, cb_nw1]) rfl (by omega) ?_
              refine cb_iinc (pc := 61) O (nI (k + 1)) dX10_sheets_61 rfl (by decide) (ci_inc k) ?_
              dsimp only [List.set]
              refine cb_goto (pc := 64) O 38 dX10_sheets_64 (by decide) ?_
              refine cb_eqc (ca' := 6 * (k + 1)) (sl' := 326 * (k + 1)) (by omega) (by show 326 * k + 6 + 320 = 326 * (k + 1); omega) ?_
              exact ih_38 (k + 1) _ (by omega) (cb_nsS hst) (by omega)
        exact L_38 (n + 1) 0 w (by omega) (cb_ns0 w _) (by omega)
      · skip
        rw [show (20 : Int32) = nI 20 from rfl, nI_leI (by omega) (by omega)] at c_30
        refine cb_bipush (pc := 33) (v := (-2)) O dX10_sheets_33 (by decide) ?_
        exact cb_iret (pc := 35) O Rt rfl (Nat.le_of_ble_eq_true rfl) (Nat.le_of_ble_eq_true rfl) dX10_sheets_35 (by
          exact ⟨by rw [sr_sheets, if_pos hv, ci_nz (by omega), if_neg c_30], by rw [sA_sheets, if_neg (fun h => c_30 (by have := h.2; rw [ci_nz (by omega)] at this; exact this))]; exact hC, cb_M1.rfl'⟩)
    · skip
      refine cb_iconst (pc := 20) (v := (-1)) O dX10_sheets_20 (by decide) ?_
      exact cb_iret (pc := 21) O Rt rfl (Nat.le_of_ble_eq_true rfl) (Nat.le_of_ble_eq_true rfl) dX10_sheets_21 (by
        have hv : ¬ sv_sheets A n := by
          intro h
          first | exact c_7 h.1 | exact c_17 h.2
        exact ⟨by rw [sr_sheets, if_neg hv], by rw [sA_sheets, if_neg (fun h => hv h.1)]; exact hC, cb_M1.rfl'⟩)

theorem cm_I.ns {w : cb_W} {A : ca_A} {z : Int32} {n : Nat} (hM : cm_I w A z) : cm_I (cb_um (cb_fl w 1016 (64 * A 0 20) (64 * (A 0 20 + n)) (-1)) 1000 20 (nI (A 0 20 + n))) (ca_ns A n) z := by
  obtain ⟨h1, h2, h3⟩ := hM
  refine ⟨h1, fun k i hk => ?_, ?_⟩
  · show cb_u2 (cb_fl w 1016 (64 * A 0 20) (64 * (A 0 20 + n)) (-1)).2.1 1000 20 (nI (A 0 20 + n)) (1000 + k) i = ca_v k i (ca_ns A n k i)
    unfold ca_ns
    by_cases e : k = 0 ∧ i = 20
    · obtain ⟨rfl, rfl⟩ := e
      rw [if_neg (by omega), if_pos ⟨rfl, rfl⟩]
      show cb_u2 (cb_fl w 1016 (64 * A 0 20) (64 * (A 0 20 + n)) (-1)).2.1 1000 20 (nI (A 0 20 + n)) 1000 20 = _
      rw [cb_u2s]
      rfl
    · rw [cb_u2n (by omega), if_neg (c := k = 0 ∧ i = 20) e]
      show (if 1000 + k = 1016 ∧ 64 * A 0 20 ≤ i ∧ i < 64 * (A 0 20 + n) then (-1 : Int32) else w.2.1 (1000 + k) i) = _
      by_cases e2 : k = 16 ∧ 64 * A 0 20 ≤ i ∧ i < 64 * (A 0 20 + n)
      · rw [if_pos (by omega), if_pos e2]
        obtain ⟨rfl, -⟩ := e2
        rfl
      · rw [if_neg (by omega), if_neg e2]
        exact h2 k i hk
  · show cb_u2 (cb_fl w 1016 (64 * A 0 20) (64 * (A 0 20 + n)) (-1)).2.1 1000 20 (nI (A 0 20 + n)) 1000 7 = z
    rw [cb_u2n (by omega)]
    exact h3
theorem cb_C1.fl {w w' : cb_W} {r a b : Nat} {v : Int32} (h : cb_C1 w w') (hr : 1000 ≤ r) : cb_C1 w (cb_fl w' r a b v) := by
  refine ⟨h.1, h.2.1, fun q hq => ?_⟩
  funext k
  show (if q = r ∧ _ then v else w'.2.1 q k) = _
  rw [if_neg (fun e => by have := e.1; omega), h.2.2 q hq]
theorem cb_M1.fl {w w' : cb_W} {r a b : Nat} {v : Int32} (h : cb_M1 w w') (hr : r < 1000) : cb_M1 w (cb_fl w' r a b v) := by
  refine fun q hq => ⟨(h q hq).1, ?_, (h q hq).2.2⟩
  funext k
  show (if q = r ∧ _ then v else w'.2.1 q k) = _
  rw [if_neg (fun e => by have := e.1; omega), (h q hq).2.1]
theorem ci_m64a (a : Nat) : (64 : Int32) * nI a = nI (64 * a) := by rw [show (64 : Int32) = nI 64 from rfl, pk_mul]
theorem m_sheets (w : cb_W) (A : ca_A) (z : Int32) (hI : ca_I A) (hM : cm_I w A z) (n : Int32) : cb_Con yX11_sheets cX11_sheets 3 (some .int) 1 22 0 0 (fun _ => true) [.inr (some 1000), .inl n] w (cb_pi (fun x w' => x = sr_sheets A n ∧ cm_I w' (sA_sheets A n) z ∧ cb_C1 w w')) := by
  have l := hI.1
  have q20 : w.2.1 1000 20 = nI (A 0 20) := cm_at hM 0 20 rfl (by omega)
  refine cb_con (by decide) (Nat.le_of_ble_eq_true rfl) (fun κ O Rt hnm => ?_)
  show cb_X κ w 0 0 0 [some (.inr (some 1000)), some (.inl n), none] []
  refine cb_iload_n (pc := 0) O dX11_sheets_0 rfl ?_
  refine cb_iconst (pc := 1) (v := 1) O dX11_sheets_1 (by decide) ?_
  refine cb_bipush (pc := 2) (v := 20) O dX11_sheets_2 (by decide) ?_
  refine cb_cSp (pc := 4) O (c_X11_within _ _ _ _) my_X11_within mt_X11_within ml_X11_90 dX11_sheets_4 rfl rfl ⟨(Nat.le_of_ble_eq_true rfl), (Nat.le_of_ble_eq_true rfl)⟩ (Nat.le_of_ble_eq_true rfl) rfl ⟨(Nat.le_of_ble_eq_true rfl), (Nat.le_of_ble_eq_true rfl)⟩ ?_
  refine cb_ifp_eq (pc := 7) O 17 dX11_sheets_7 (by decide) (fun c_7 => ?_) (fun c_7 => ?_)
  · skip
    refine cb_iconst (pc := 17) (v := (-1)) O dX11_sheets_17 (by decide) ?_
    exact cb_iret (pc := 18) O Rt rfl (Nat.le_of_ble_eq_true rfl) (Nat.le_of_ble_eq_true rfl) dX11_sheets_18 (by
      have hv : ¬ sv_sheets A n := by
        intro h
        first | exact c_7 h.1 | exact c_17 h.2
      exact ⟨by rw [sr_sheets, if_neg hv], by rw [sA_sheets, if_neg (fun h => hv h.1)]; exact hM, cb_C1.rfl'⟩)
  · skip
    refine cb_aload_n (pc := 10) O dX11_sheets_10 rfl ?_
    refine cb_getI (pc := 11) O fl_X11_94 rfl rfl dX11_sheets_11 (hM.1.1 _ rfl) ?_
    refine cb_if_ne (pc := 14) O 19 dX11_sheets_14 (by decide) (fun c_14 => ?_) (fun c_14 => ?_)
    · skip
      have c_17 : 0 < A 0 0 := by
        rw [show w.2.1 1000 0 = nI (A 0 0) from cm_at hM 0 0 rfl (by omega), show (0 : Int32) = nI 0 from rfl, nI_eq (by omega) (by omega)] at c_14
        omega
      have hv : sv_sheets A n := ⟨c_7, c_17⟩
      obtain ⟨n, hn1, hn, rfl⟩ := ci_in1 (n := 20) c_7 rfl
      refine cb_aload_n (pc := 19) O dX11_sheets_19 rfl ?_
      refine cb_getI (pc := 20) O fl_X11_155 rfl rfl dX11_sheets_20 (hM.1.1 _ rfl) ?_
      refine cb_iload_n (pc := 23) O dX11_sheets_23 rfl ?_
      refine cb_iadd (pc := 24) O dX11_sheets_24 ?_
      refine cb_topv (nI (A 0 20 + n)) (by rw [q20, nI_add]) ?_
      refine cb_bipush (pc := 25) (v := 20) O dX11_sheets_25 (by decide) ?_
      refine cb_icmp_le (pc := 27) O 33 dX11_sheets_27 (by decide) (fun c_27 => ?_) (fun c_27 => ?_)
      · skip
        rw [show (20 : Int32) = nI 20 from rfl, nI_leI (by omega) (by omega)] at c_27
        refine cb_bipush (pc := 33) (v := 64) O dX11_sheets_33 (by decide) ?_
        refine cb_aload_n (pc := 35) O dX11_sheets_35 rfl ?_
        refine cb_getI (pc := 36) O fl_X11_155 rfl rfl dX11_sheets_36 (hM.1.1 _ rfl) ?_
        refine cb_imul (pc := 39) O dX11_sheets_39 ?_
        refine cb_topv (nI (64 * A 0 20)) (by rw [q20, ci_m64a]) ?_
        refine cb_istore_n (pc := 40) O dX11_sheets_40 (by decide) ?_
        dsimp only [List.set]
        have L_41 : ∀ (m : Nat) (k : Nat), 64 * A 0 20 ≤ k → k ≤ 64 * (A 0 20 + n) → 64 * (A 0 20 + n) + 1 ≤ k + m → cb_X κ (cb_fl w 1016 (64 * A 0 20) k (-1)) 0 0 41 [some (.inr (some 1000)), some (.inl (nI n)), some (.inl (nI k))] [] := by
          intro m
          induction m with
          | zero =>
            intro k hk1 hk2 hn9
            exact absurd hn (by omega)
          | succ m ih_41 =>
            intro k hk1 hk2 hn9
            refine cb_iload_n (pc := 41) O dX11_sheets_41 rfl ?_
            refine cb_bipush (pc := 42) (v := 64) O dX11_sheets_42 (by decide) ?_
            refine cb_aload_n (pc := 44) O dX11_sheets_44 rfl ?_
            refine cb_getI (pc := 45) O fl_X11_155 rfl rfl dX11_sheets_45 (hM.1.1 _ rfl) ?_
            refine cb_iload_n (pc := 48) O dX11_sheets_48 rfl ?_
            refine cb_iadd (pc := 49) O dX11_sheets_49 ?_
            refine cb_topv (nI (A 0 20 + n)) (by
              refine Eq.trans ?_ (nI_add _ _)
              congr 1) ?_
            refine cb_imul (pc := 50) O dX11_sheets_50 ?_
            refine cb_topv _ (ci_m64a _) ?_
            refine cb_icmp_ge (pc := 51) O 67 dX11_sheets_51 (by decide) (fun c_51 => ?_) (fun c_51 => ?_)
            · skip
              rw [nI_leI (by omega) (by omega)] at c_51
              have ek : k = 64 * (A 0 20 + n) := by omega
              subst ek
              refine cb_aload_n (pc := 67) O dX11_sheets_67 rfl ?_
              refine cb_dup (pc := 68) O dX11_sheets_68 ?_
              refine cb_getI (pc := 69) O fl_X11_155 rfl rfl dX11_sheets_69 (hM.1.1 _ rfl) ?_
              refine cb_iload_n (pc := 72) O dX11_sheets_72 rfl ?_
              refine cb_iadd (pc := 73) O dX11_sheets_73 ?_
              refine cb_topv (nI (A 0 20 + n)) (by
                refine Eq.trans ?_ (nI_add _ _)
                congr 1) ?_
              refine cb_putIc (pc := 74) O fl_X11_155 (Or.inl rfl) rfl rfl dX11_sheets_74 rfl rfl (hM.1.1 _ rfl) ?_
              refine cb_aload_n (pc := 77) O dX11_sheets_77 rfl ?_
              refine cb_getI (pc := 78) O fl_X11_155 rfl rfl dX11_sheets_78 (hM.1.1 _ rfl) ?_
              refine cb_topv (nI (A 0 20 + n)) (by
                show cb_u2 (cb_fl w 1016 (64 * A 0 20) (64 * (A 0 20 + n)) (-1)).2.1 1000 20 (nI (A 0 20 + n)) 1000 20 = _
                rw [cb_u2s]) ?_
              exact cb_iret (pc := 81) O Rt rfl (Nat.le_of_ble_eq_true rfl) (Nat.le_of_ble_eq_true rfl) dX11_sheets_81 (by
                rw [sr_sheets, if_pos hv, ci_nz (by omega), if_pos c_27, sA_sheets, if_pos ⟨hv, by rw [ci_nz (by omega)]; exact c_27⟩, ci_nz (by omega)]
                exact ⟨rfl, hM.ns, (cb_C1.rfl'.fl (by omega)).um (by omega)⟩)
            · skip
              rw [nI_leI (by omega) (by omega)] at c_51
              refine cb_aload_n (pc := 54) O dX11_sheets_54 rfl ?_
              refine cb_getR (pc := 55) O fl_X11_38 rfl rfl dX11_sheets_55 (hM.1.1 _ rfl) (hM.1.2 _ _ _ rfl) ?_
              refine cb_iload_n (pc := 58) O dX11_sheets_58 rfl ?_
              refine cb_iconst (pc := 59) (v := (-1)) O dX11_sheets_59 (by decide) ?_
              refine cb_iast (pc := 60) O k rfl dX11_sheets_60 (by decide) (hM.1.1 _ rfl) rfl (by omega) ?_
              refine cb_iinc (pc := 61) O (nI (k + 1)) dX11_sheets_61 rfl (by decide) (ci_inc k) ?_
              dsimp only [List.set]
              refine cb_goto (pc := 64) O 41 dX11_sheets_64 (by decide) ?_
              rw [cb_flS _ _ _ _ _ (by omega)]
              exact ih_41 (k + 1) (by omega) (by omega) (by omega)
        rw [← cb_fl0 w 1016 (64 * A 0 20) (-1)]
        exact L_41 (64 * (A 0 20 + n) + 1) _ (by omega) (by omega) (by omega)
      · skip
        rw [show (20 : Int32) = nI 20 from rfl, nI_leI (by omega) (by omega)] at c_27
        refine cb_bipush (pc := 30) (v := (-2)) O dX11_sheets_30 (by decide) ?_
        exact cb_iret (pc := 32) O Rt rfl (Nat.le_of_ble_eq_true rfl) (Nat.le_of_ble_eq_true rfl) dX11_sheets_32 (by
          exact ⟨by rw [sr_sheets, if_pos hv, ci_nz (by omega), if_neg c_27], by rw [sA_sheets, if_neg (fun h => c_27 (by have := h.2; rw [ci_nz (by omega)] at this; exact this))]; exact hM, cb_C1.rfl'⟩)
    · skip
      have c_17 : ¬ 0 < A 0 0 := by
        rw [show w.2.1 1000 0 = nI (A 0 0) from cm_at hM 0 0 rfl (by omega), show (0 : Int32) = nI 0 from rfl, nI_eq (by omega) (by omega)] at c_14
        omega
      refine cb_iconst (pc := 17) (v := (-1)) O dX11_sheets_17 (by decide) ?_
      exact cb_iret (pc := 18) O Rt rfl (Nat.le_of_ble_eq_true rfl) (Nat.le_of_ble_eq_true rfl) dX11_sheets_18 (by
        have hv : ¬ sv_sheets A n := by
          intro h
          first | exact c_7 h.1 | exact c_17 h.2
        exact ⟨by rw [sr_sheets, if_neg hv], by rw [sA_sheets, if_neg (fun h => hv h.1)]; exact hM, cb_C1.rfl'⟩)

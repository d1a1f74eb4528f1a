theorem c_X6_init (w : cb_W) (r c : Int32) (h36 : w.1 36 = true) (h37 : w.1 37 = false) : cb_Con yX6_init cX6_init 3 none 1 20 1 16 (fun q => !(q == 37)) [.inr (some 36), .inl r, .inl c] w (cb_pv (fun w' => w' = cb_um (cb_um (cb_ur (cb_nw1 w 37) 36 2 (some 37)) 36 0 r) 36 1 c)) := by
  refine cb_con (by decide) (Nat.le_of_ble_eq_true rfl) (fun κ O Rt hnm => ?_)
  show cb_X κ w 0 0 0 [some (.inr (some 36)), some (.inl r), some (.inl c)] []
  refine cb_aload_n (pc := 0) O dX6_init_0 rfl ?_
  refine cb_objInit (pc := 1) O dX6_init_1 oi_X6_3 oi_inst oi_code ⟨(Nat.le_of_ble_eq_true rfl), (Nat.le_of_ble_eq_true rfl)⟩ (Nat.le_of_ble_eq_true rfl) ?_
  refine cb_aload_n (pc := 4) O dX6_init_4 rfl ?_
  refine cb_bipush (pc := 5) (v := 16) O dX6_init_5 (by decide) ?_
  refine cb_newa (pc := 7) (atype := .int) (ty := .int) O 37 rfl (Or.inl ⟨rfl, rfl⟩) ac_int rfl dX6_init_7 (by decide) rfl (by decide) (by decide) (by rw [Rt.2.2]; rfl) rfl (Nat.le_of_ble_eq_true rfl) (Nat.le_of_ble_eq_true rfl) (by simp [cb_nw1, cb_ur, cb_um, *]) ?_
  refine cb_putRc (pc := 9) O fl_X6_9 (Or.inr ⟨rfl, hnm, rfl, fm_X6_9⟩) rfl rfl dX6_init_9 (fun _ => rfl) (fun _ => rfl) (by simp [cb_nw1, cb_ur, cb_um, *]) (by simp [cb_nw1, cb_ur, cb_um, *]) ?_
  refine cb_aload_n (pc := 12) O dX6_init_12 rfl ?_
  refine cb_iload_n (pc := 13) O dX6_init_13 rfl ?_
  refine cb_putIc (pc := 14) O fl_X6_15 (Or.inr ⟨rfl, hnm, rfl, fm_X6_15⟩) rfl rfl dX6_init_14 rfl rfl (by simp [cb_nw1, cb_ur, cb_um, *]) ?_
  refine cb_aload_n (pc := 17) O dX6_init_17 rfl ?_
  refine cb_iload_n (pc := 18) O dX6_init_18 rfl ?_
  refine cb_putIc (pc := 19) O fl_X6_19 (Or.inr ⟨rfl, hnm, rfl, fm_X6_19⟩) rfl rfl dX6_init_19 rfl rfl (by simp [cb_nw1, cb_ur, cb_um, *]) ?_
  exact cb_vret (pc := 22) O Rt (Nat.le_of_ble_eq_true rfl) (Nat.le_of_ble_eq_true rfl) dX6_init_22 rfl

theorem cc_W9 {w : cb_W} {A : ca_A} {z : Int32} (hC : cc_I w A z) : (∀ r, 30 ≤ r → r < 40 → w.1 r = false) := hC.2.2.2.2.2.2.2.2.1
theorem k_wanted0 (w : cb_W) (A : ca_A) (z : Int32) (hI : ca_I A) (hC : cc_I w A z) (ht4 : ∀ r, 40 ≤ r → r < 46 → w.1 r = false) (r c : Int32) : cb_Con yX10_wanted cX10_wanted 3 (some .int) 2 42 2 19 cb_kpub [.inr (some 0), .inl r, .inl c] w (cb_pi (fun x w' => x = sr_wanted r c ∧ cc_I w' (sA_wanted A r c) z ∧ cb_M1 w w')) := by
  have t36 : w.1 36 = false := cc_W9 hC 36 (by decide) (by decide)
  have t37 : w.1 37 = false := cc_W9 hC 37 (by decide) (by decide)
  have t0 : w.1 0 = true := hC.1.1 0 rfl
  refine cb_con (by decide) (Nat.le_of_ble_eq_true rfl) (fun κ O Rt hnm => ?_)
  show cb_X κ w 0 0 0 [some (.inr (some 0)), some (.inl r), some (.inl c)] []
  refine cb_gcl (fun hcl0 => ?_)
  refine cb_iload_n (pc := 0) O dX10_wanted_0 rfl ?_
  refine cb_iconst (pc := 1) (v := 1) O dX10_wanted_1 (by decide) ?_
  refine cb_iconst (pc := 2) (v := 4) O dX10_wanted_2 (by decide) ?_
  refine cb_cSp (pc := 3) O (c_X10_within _ _ _ _) my_X10_within mt_X10_within ml_X10_81 dX10_wanted_3 rfl rfl ⟨(Nat.le_of_ble_eq_true rfl), (Nat.le_of_ble_eq_true rfl)⟩ (Nat.le_of_ble_eq_true rfl) rfl ⟨(Nat.le_of_ble_eq_true rfl), (Nat.le_of_ble_eq_true rfl)⟩ ?_
  refine cb_ifp_eq (pc := 6) O 18 dX10_wanted_6 (by decide) (fun c_6 => ?_) (fun c_6 => ?_)
  · skip
    refine cb_iconst (pc := 18) (v := (-1)) O dX10_wanted_18 (by decide) ?_
    exact cb_iret (pc := 19) O Rt rfl (Nat.le_of_ble_eq_true rfl) (Nat.le_of_ble_eq_true rfl) dX10_wanted_19 (by
      have hv : ¬ sv_wanted r c := by
        intro h
        simp_all
      exact ⟨by rw [sr_wanted, if_neg hv], by rw [sA_wanted, if_neg hv]; exact hC, cb_M1.rfl'⟩)
  · skip
    refine cb_iload_n (pc := 9) O dX10_wanted_9 rfl ?_
    refine cb_iconst (pc := 10) (v := 1) O dX10_wanted_10 (by decide) ?_
    refine cb_iconst (pc := 11) (v := 4) O dX10_wanted_11 (by decide) ?_
    refine cb_cSp (pc := 12) O (c_X10_within _ _ _ _) my_X10_within mt_X10_within ml_X10_81 dX10_wanted_12 rfl rfl ⟨(Nat.le_of_ble_eq_true rfl), (Nat.le_of_ble_eq_true rfl)⟩ (Nat.le_of_ble_eq_true rfl) rfl ⟨(Nat.le_of_ble_eq_true rfl), (Nat.le_of_ble_eq_true rfl)⟩ ?_
    refine cb_ifp_ne (pc := 15) O 20 dX10_wanted_15 (by decide) (fun c_15 => ?_) (fun c_15 => ?_)
    · skip
      have hv : sv_wanted r c := ⟨c_6, c_15⟩
      obtain ⟨r, hr1, hr, rfl⟩ := ci_in1 (n := 4) c_6 rfl
      obtain ⟨c, hc1, hc, rfl⟩ := ci_in1 (n := 4) c_15 rfl
      refine cb_aload_n (pc := 20) O dX10_wanted_20 rfl ?_
      refine cb_new (pc := 21) O 36 ct_6 cl_X10_64 in_X6 ini_X6 rfl dX10_wanted_21 (by decide) (by rw [Rt.2.2]; rfl) rfl (Nat.le_of_ble_eq_true rfl) (Nat.le_of_ble_eq_true rfl) (by simp [cb_nw1, cb_ur, cb_um, *]) ?_
      refine cb_dup (pc := 24) O dX10_wanted_24 ?_
      refine cb_iload_n (pc := 25) O dX10_wanted_25 rfl ?_
      refine cb_iload_n (pc := 26) O dX10_wanted_26 rfl ?_
      refine cb_cIv (pc := 27) O (c_X6_init (cb_nw1 w 36) (nI r) (nI c) (by simp [cb_nw1]) (by simp [cb_nw1, t37])) my_X6_init mi_X6_init rfl ml_X10_66 dX10_wanted_27 rfl rfl ⟨(Nat.le_of_ble_eq_true rfl), (Nat.le_of_ble_eq_true rfl)⟩ (Nat.le_of_ble_eq_true rfl) rfl ⟨(Nat.le_of_ble_eq_true rfl), (Nat.le_of_ble_eq_true rfl)⟩ (fun q h => by rcases cb_kpubE (by rw [← Rt.2.2]; exact h) with rfl | rfl <;> rfl) (fun w_27 hp_27 => ?_)
      rw [hp_27]
      refine cb_putRc (pc := 30) O fl_X10_67 (Or.inl rfl) rfl rfl dX10_wanted_30 (fun _ => rfl) (fun _ => rfl) (by simp [cb_nw1, cb_ur, cb_um, *]) (by simp [cb_nw1, cb_ur, cb_um, *]) ?_
      refine cb_genw (fun w1 hw1 => ?_)
      have hAL : cc_AL w w1 26 2 8 := by
        rw [hw1]
        refine ⟨fun q hq => ?_, fun q h1 h2 => ?_, fun q hq => ?_, fun q k hq h0 => ?_, ?_, fun q k x h1 h2 => ?_⟩
        · simp only [cb_nw1, cb_ur, cb_um]
          rw [if_neg (by omega), if_neg (by omega)]
        · rcases (show q = 36 ∨ q = 37 by omega) with rfl | rfl <;> simp [cb_nw1, cb_ur, cb_um]
        · simp only [cb_nw1, cb_ur, cb_um]
          rw [cb_u2r (by omega), cb_u2r (by omega), if_neg (by omega), if_neg (by omega)]
        · simp only [cb_nw1, cb_ur, cb_um]
          rw [cb_u2n (by omega), cb_u2n (by omega), if_neg (by omega), if_neg (by omega)]
        · simp [cb_nw1, cb_ur, cb_um, cb_u2]
        · rcases (show q = 26 ∨ q = 27 by omega) with rfl | rfl
          · have h5 : cc_Rf 26 k = if k = 2 then some 27 else none := by
              unfold cc_Rf
              simp only [show ¬ (26 : Nat) = 0 by decide, show ¬ (26 : Nat) = 1 by decide, show ¬ (26 : Nat) = 6 by decide, show ¬ (26 : Nat) = 7 by decide, show ¬ (26 : Nat) = 8 by decide, show ¬ (26 : Nat) = 10 by decide, show ¬ (26 : Nat) = 11 by decide, show ¬ (26 : Nat) = 13 by decide, show ¬ (26 : Nat) = 14 by decide, show ¬ (26 : Nat) = 20 by decide, if_false, if_true]
              rcases k with _ | _ | _ | k <;> rfl
            rw [h5]
            by_cases e : k = 2
            · simp [cb_nw1, cb_ur, cb_um, cb_u2, e]; exact eq_comm
            · simp [cb_nw1, cb_ur, cb_um, cb_u2, e]
          · simp [cb_nw1, cb_ur, cb_um, cb_u2, cc_Rf]
      refine cb_gcl (fun hcl1 => ?_)
      refine cb_g9 (fun h9 => ?_)
      refine cb_rename 26 2 10 (by decide) hcl1 (fun r h1 h2 => by rcases (show r = 26 ∨ r = 27 by omega) with rfl | rfl <;> rfl) (hAL.rf (Or.inl ⟨rfl, rfl, rfl⟩) hC ht4) (fun r h1 h2 => hAL.2.1 _ (by omega) (by omega)) (fun r h1 => by rw [hAL.1 r (by omega)]; exact hC.2.2.2.2.2.2.2.2.2.1 r h1) h9 (fun q h => by rcases cb_kpubE (by rw [← Rt.2.2]; exact h) with rfl | rfl <;> decide) rfl ?_
      refine cb_iconst (pc := 33) (v := 1) O dX10_wanted_33 (by decide) ?_
      exact cb_iret (pc := 34) O Rt rfl (Nat.le_of_ble_eq_true rfl) (Nat.le_of_ble_eq_true rfl) dX10_wanted_34 (by
        have hM : ∀ r, ¬ (26 ≤ r ∧ r < 28) → (r < 30 ∨ 46 ≤ r) → (cb_rn 26 2 10 w1).2.1 r = w.2.1 r := by
          intro a h1 h2
          show w1.2.1 (cb_gm 26 2 10 a) = w.2.1 a
          unfold cb_gm
          rw [if_neg h1, hAL.2.2.1 a (by omega)]
        refine ⟨by rw [sr_wanted, if_pos hv], ?_⟩
        rw [sA_wanted, if_pos hv, ci_nz (by omega), ci_nz (by omega)]
        refine hAL.I (Or.inl ⟨rfl, rfl, rfl⟩) hC hI hcl0 ?_ ?_ ?_
        · refine hC.2.1.cg (fun r k h => by rw [hM r (by omega) (by omega)]) (fun k i h => ?_)
          rw [cb_u2n (by omega), cb_u2n (by omega), ca_z, if_neg (by omega)]
        · rw [hw1]
          refine ⟨?_, ?_, fun k hk => ?_⟩
          · simp [cb_rn, cb_gm, cb_nw1, cb_ur, cb_um, cb_u2]
          · simp [cb_rn, cb_gm, cb_nw1, cb_ur, cb_um, cb_u2]
          · simp [cb_rn, cb_gm, cb_nw1, cb_ur, cb_um, cb_u2, ca_z]
            rfl
        · intro k i h1 h2
          rw [cb_u2n (by omega), cb_u2n (by omega), ca_z, if_neg h2])
    · skip
      refine cb_iconst (pc := 18) (v := (-1)) O dX10_wanted_18 (by decide) ?_
      exact cb_iret (pc := 19) O Rt rfl (Nat.le_of_ble_eq_true rfl) (Nat.le_of_ble_eq_true rfl) dX10_wanted_19 (by
        have hv : ¬ sv_wanted r c := by
          intro h
          simp_all
        exact ⟨by rw [sr_wanted, if_neg hv], by rw [sA_wanted, if_neg hv]; exact hC, cb_M1.rfl'⟩)

def cb_BI (w w' : cb_W) (R C : Nat) : Prop :=
  (∀ r, r < 30 ∨ 36 ≤ r → w'.1 r = w.1 r ∧ w'.2.1 r = w.2.1 r ∧ w'.2.2 r = w.2.2 r) ∧ (∀ r, 30 ≤ r → r < 36 → w'.1 r = true) ∧ (w'.2.1 30 0 = nI R ∧ w'.2.1 30 1 = nI C ∧ w'.2.1 30 5 = nI (if 0 < R then 1 else 0)) ∧ (∀ k, k < 64 → w'.2.1 31 k = nI (if k / 8 < R ∧ k % 8 < C then 1 else 0)) ∧ (∀ k, w'.2.1 32 k = 0) ∧ w'.2.1 33 0 = 1 ∧ (∀ r k q, 20 ≤ r → r < 26 → (w'.2.2 (r + 10) k = some q ↔ ∃ q', cc_Rf r k = some q' ∧ q = q' + 10))
def cb_Fr (w : cb_W) (C i : Nat) : cb_W := (w.1, fun q k => if q = 31 ∧ k / 8 < i ∧ k % 8 < C then 1 else w.2.1 q k, w.2.2)
theorem cb_Fr0 (w : cb_W) (C : Nat) : cb_Fr w C 0 = w := by
  refine cb_W.ext rfl (fun q k => ?_) rfl
  show (if q = 31 ∧ k / 8 < 0 ∧ k % 8 < C then 1 else w.2.1 q k) = _
  rw [if_neg (by omega)]
theorem cb_FrS (w : cb_W) (C i : Nat) (h : C ≤ 8) : cb_fl (cb_Fr w C i) 31 (8 * i) (8 * i + C) 1 = cb_Fr w C (i + 1) := by
  refine cb_W.ext rfl (fun q k => ?_) rfl
  show (if q = 31 ∧ 8 * i ≤ k ∧ k < 8 * i + C then 1 else (if q = 31 ∧ k / 8 < i ∧ k % 8 < C then 1 else w.2.1 q k)) = (if q = 31 ∧ k / 8 < i + 1 ∧ k % 8 < C then 1 else w.2.1 q k)
  by_cases e1 : q = 31 ∧ 8 * i ≤ k ∧ k < 8 * i + C
  · rw [if_pos e1, if_pos (by omega)]
  · rw [if_neg e1]
    by_cases e2 : q = 31 ∧ k / 8 < i ∧ k % 8 < C
    · rw [if_pos e2, if_pos (by omega)]
    · rw [if_neg e2, if_neg (by omega)]
theorem ci_x8 (i : Nat) : nI i * 8 = nI (8 * i) := by rw [show (8 : Int32) = nI 8 from rfl, pk_mul, Nat.mul_comm]
theorem cc_Rf20 (k : Nat) : cc_Rf 20 k = if k = 2 then some 21 else if k = 3 then some 22 else if k = 4 then some 23 else if k = 6 then some 24 else if k = 7 then some 25 else none := by
  unfold cc_Rf
  simp only [show ¬ (20 : Nat) = 0 by decide, show ¬ (20 : Nat) = 1 by decide, show ¬ (20 : Nat) = 6 by decide, show ¬ (20 : Nat) = 7 by decide, show ¬ (20 : Nat) = 8 by decide, show ¬ (20 : Nat) = 10 by decide, show ¬ (20 : Nat) = 11 by decide, show ¬ (20 : Nat) = 13 by decide, show ¬ (20 : Nat) = 14 by decide, if_false, if_true]
  rcases k with _ | _ | _ | _ | _ | _ | _ | _ | k
  all_goals first | rfl | simp
theorem cc_Rf2x {r : Nat} (k : Nat) (h1 : 21 ≤ r) (h2 : r < 26) : cc_Rf r k = none := by
  unfold cc_Rf
  rw [if_neg (by omega), if_neg (by omega), if_neg (by omega), if_neg (by omega), if_neg (by omega), if_neg (by omega), if_neg (by omega), if_neg (by omega), if_neg (by omega), if_neg (by omega), if_neg (by omega)]
theorem c_X1_init (w : cb_W) (R C : Nat) (hR : R ≤ 8) (hC8 : C ≤ 8) (h30 : w.1 30 = true) (h31 : w.1 31 = false) (h32 : w.1 32 = false) (h33 : w.1 33 = false) (h34 : w.1 34 = false) (h35 : w.1 35 = false) (hno : ∀ k, w.2.2 30 k = none) : cb_Con yX1_init cX1_init 4 none 2 46 5 264 (fun q => !(decide (31 ≤ q) && decide (q < 36))) [.inr (some 30), .inl (nI R), .inl (nI C)] w (cb_pv (fun w' => cb_BI w w' R C)) := by
  refine cb_con (by decide) (Nat.le_of_ble_eq_true rfl) (fun κ O Rt hnm => ?_)
  show cb_X κ w 0 0 0 [some (.inr (some 30)), some (.inl (nI R)), some (.inl (nI C)), none] []
  refine cb_aload_n (pc := 0) O dX1_init_0 rfl ?_
  refine cb_objInit (pc := 1) O dX1_init_1 oi_X1_3 oi_inst oi_code ⟨(Nat.le_of_ble_eq_true rfl), (Nat.le_of_ble_eq_true rfl)⟩ (Nat.le_of_ble_eq_true rfl) ?_
  refine cb_aload_n (pc := 4) O dX1_init_4 rfl ?_
  refine cb_bipush (pc := 5) (v := 64) O dX1_init_5 (by decide) ?_
  refine cb_newa (pc := 7) (atype := .int) (ty := .int) O 31 rfl (Or.inl ⟨rfl, rfl⟩) ac_int rfl dX1_init_7 (by decide) rfl (by decide) (by decide) (by rw [Rt.2.2]; rfl) rfl (Nat.le_of_ble_eq_true rfl) (Nat.le_of_ble_eq_true rfl) (by simp [cb_nw1, cb_ur, cb_um, *]) ?_
  refine cb_putRc (pc := 9) O fl_X1_9 (Or.inr ⟨rfl, hnm, rfl, fm_X1_9⟩) rfl rfl dX1_init_9 (fun _ => rfl) (fun _ => rfl) (by simp [cb_nw1, cb_ur, cb_um, *]) (by simp [cb_nw1, cb_ur, cb_um, *]) ?_
  refine cb_aload_n (pc := 12) O dX1_init_12 rfl ?_
  refine cb_bipush (pc := 13) (v := 64) O dX1_init_13 (by decide) ?_
  refine cb_newa (pc := 15) (atype := .int) (ty := .int) O 32 rfl (Or.inl ⟨rfl, rfl⟩) ac_int rfl dX1_init_15 (by decide) rfl (by decide) (by decide) (by rw [Rt.2.2]; rfl) rfl (Nat.le_of_ble_eq_true rfl) (Nat.le_of_ble_eq_true rfl) (by simp [cb_nw1, cb_ur, cb_um, *]) ?_
  refine cb_putRc (pc := 17) O fl_X1_15 (Or.inr ⟨rfl, hnm, rfl, fm_X1_15⟩) rfl rfl dX1_init_17 (fun _ => rfl) (fun _ => rfl) (by simp [cb_nw1, cb_ur, cb_um, *]) (by simp [cb_nw1, cb_ur, cb_um, *]) ?_
  refine cb_aload_n (pc := 20) O dX1_init_20 rfl ?_
  refine cb_bipush (pc := 21) (v := 8) O dX1_init_21 (by decide) ?_
  refine cb_newa (pc := 23) (atype := .int) (ty := .int) O 33 rfl (Or.inl ⟨rfl, rfl⟩) ac_int rfl dX1_init_23 (by decide) rfl (by decide) (by decide) (by rw [Rt.2.2]; rfl) rfl (Nat.le_of_ble_eq_true rfl) (Nat.le_of_ble_eq_true rfl) (by simp [cb_nw1, cb_ur, cb_um, *]) ?_
  refine cb_putRc (pc := 25) O fl_X1_18 (Or.inr ⟨rfl, hnm, rfl, fm_X1_18⟩) rfl rfl dX1_init_25 (fun _ => rfl) (fun _ => rfl) (by simp [cb_nw1, cb_ur, cb_um, *]) (by simp [cb_nw1, cb_ur, cb_um, *]) ?_
  refine cb_aload_n (pc := 28) O dX1_init_28 rfl ?_
  refine cb_bipush (pc := 29) (v := 64) O dX1_init_29 (by decide) ?_
  refine cb_newa (pc := 31) (atype := .int) (ty := .int) O 34 rfl (Or.inl ⟨rfl, rfl⟩) ac_int rfl dX1_init_31 (by decide) rfl (by decide) (by decide) (by rw [Rt.2.2]; rfl) rfl (Nat.le_of_ble_eq_true rfl) (Nat.le_of_ble_eq_true rfl) (by simp [cb_nw1, cb_ur, cb_um, *]) ?_
  refine cb_putRc (pc := 33) O fl_X1_21 (Or.inr ⟨rfl, hnm, rfl, fm_X1_21⟩) rfl rfl dX1_init_33 (fun _ => rfl) (fun _ => rfl) (by simp [cb_nw1, cb_ur, cb_um, *]) (by simp [cb_nw1, cb_ur, cb_um, *]) ?_
  refine cb_aload_n (pc := 36) O dX1_init_36 rfl ?_
  refine cb_bipush (pc := 37) (v := 64) O dX1_init_37 (by decide) ?_
  refine cb_newa (pc := 39) (atype := .int) (ty := .int) O 35 rfl (Or.inl ⟨rfl, rfl⟩) ac_int rfl dX1_init_39 (by decide) rfl (by decide) (by decide) (by rw [Rt.2.2]; rfl) rfl (Nat.le_of_ble_eq_true rfl) (Nat.le_of_ble_eq_true rfl) (by simp [cb_nw1, cb_ur, cb_um, *]) ?_
  refine cb_putRc (pc := 41) O fl_X1_24 (Or.inr ⟨rfl, hnm, rfl, fm_X1_24⟩) rfl rfl dX1_init_41 (fun _ => rfl) (fun _ => rfl) (by simp [cb_nw1, cb_ur, cb_um, *]) (by simp [cb_nw1, cb_ur, cb_um, *]) ?_
  refine cb_aload_n (pc := 44) O dX1_init_44 rfl ?_
  refine cb_iload_n (pc := 45) O dX1_init_45 rfl ?_
  refine cb_putIc (pc := 46) O fl_X1_27 (Or.inr ⟨rfl, hnm, rfl, fm_X1_27⟩) rfl rfl dX1_init_46 rfl rfl (by simp [cb_nw1, cb_ur, cb_um, *]) ?_
  refine cb_aload_n (pc := 49) O dX1_init_49 rfl ?_
  refine cb_iload_n (pc := 50) O dX1_init_50 rfl ?_
  refine cb_putIc (pc := 51) O fl_X1_31 (Or.inr ⟨rfl, hnm, rfl, fm_X1_31⟩) rfl rfl dX1_init_51 rfl rfl (by simp [cb_nw1, cb_ur, cb_um, *]) ?_
  refine cb_iconst (pc := 54) (v := 0) O dX1_init_54 (by decide) ?_
  refine cb_istore_n (pc := 55) O dX1_init_55 (by decide) ?_
  dsimp only [List.set]
  refine cb_genw (fun w1 hw1 => ?_)
  have l30 : w1.1 30 = true := by rw [hw1]; simp [cb_nw1, cb_ur, cb_um, *]
  have l31 : w1.1 31 = true := by rw [hw1]; simp [cb_nw1, cb_ur, cb_um, *]
  have l33 : w1.1 33 = true := by rw [hw1]; simp [cb_nw1, cb_ur, cb_um, *]
  have r2 : w1.2.2 30 2 = some 31 := by rw [hw1]; simp [cb_nw1, cb_ur, cb_um, cb_u2, *]
  have r4 : w1.2.2 30 4 = some 33 := by rw [hw1]; simp [cb_nw1, cb_ur, cb_um, cb_u2, *]
  have L_56 : ∀ (n : Nat) (i : Nat), i ≤ R → R + 1 ≤ i + n → cb_X κ (cb_Fr w1 C i) 5 264 56 [some (.inr (some 30)), some (.inl (nI R)), some (.inl (nI C)), some (.inl (nI i))] [] := by
    intro n
    induction n with
    | zero =>
      intro i hi hn
      exact absurd hn (by omega)
    | succ n ih_56 =>
      intro i hi hn
      refine cb_iload_n (pc := 56) O dX1_init_56 rfl ?_
      refine cb_iload_n (pc := 57) O dX1_init_57 rfl ?_
      refine cb_icmp_ge (pc := 58) O 85 dX1_init_58 (by decide) (fun c_58 => ?_) (fun c_58 => ?_)
      · skip
        have e : i = R := by
          have := ci_ge c_58 (by omega) (by omega)
          omega
        subst e
        refine cb_aload_n (pc := 85) O dX1_init_85 rfl ?_
        refine cb_iload_n (pc := 86) O dX1_init_86 rfl ?_
        refine cb_if_le (pc := 87) O 94 dX1_init_87 (by decide) (fun c_87 => ?_) (fun c_87 => ?_)
        · skip
          refine cb_iconst (pc := 94) (v := 0) O dX1_init_94 (by decide) ?_
          refine cb_putIc (pc := 95) O fl_X1_40 (Or.inl rfl) rfl rfl dX1_init_95 rfl rfl l30 ?_
          refine cb_aload_n (pc := 98) O dX1_init_98 rfl ?_
          refine cb_getR (pc := 99) O fl_X1_18 rfl rfl dX1_init_99 l30 r4 ?_
          refine cb_iconst (pc := 102) (v := 0) O dX1_init_102 (by decide) ?_
          refine cb_iconst (pc := 103) (v := 1) O dX1_init_103 (by decide) ?_
          refine cb_iast (pc := 104) O 0 rfl dX1_init_104 (by decide) l33 rfl (by decide) ?_
          exact cb_vret (pc := 105) O Rt (Nat.le_of_ble_eq_true rfl) (Nat.le_of_ble_eq_true rfl) dX1_init_105 (by
            have h30n : ∀ x, w1.2.1 x = if x = 31 ∨ x = 32 ∨ x = 33 ∨ x = 34 ∨ x = 35 then (fun _ => 0) else if x = 30 then (fun k => if k = 1 then nI C else if k = 0 then nI i else w.2.1 30 k) else w.2.1 x := by
              intro x
              rw [hw1]
              funext k
              simp only [cb_nw1, cb_ur, cb_um, cb_u2]
              by_cases e0 : x = 30
              · subst e0; simp
              · by_cases e1 : x = 31
                · subst e1; simp
                · by_cases e2 : x = 32
                  · subst e2; simp
                  · by_cases e3 : x = 33
                    · subst e3; simp
                    · by_cases e4 : x = 34
                      · subst e4; simp
                      · by_cases e5 : x = 35
                        · subst e5; simp
                        · simp [e0, e1, e2, e3, e4, e5]
            refine ⟨fun x hx => ⟨?_, ?_, ?_⟩, fun x h1 h2 => ?_, ⟨?_, ?_, ?_⟩, fun k hk => ?_, fun k => ?_, ?_, fun x k q h1 h2 => ?_⟩
            · show w1.1 x = w.1 x
              rw [hw1]
              simp only [cb_nw1, cb_ur, cb_um]
              rw [if_neg (by omega), if_neg (by omega), if_neg (by omega), if_neg (by omega), if_neg (by omega)]
            · funext k
              simp only [cb_um]
              rw [cb_u2n (by omega), cb_u2n (by omega)]
              show (if x = 31 ∧ k / 8 < i ∧ k % 8 < C then 1 else w1.2.1 x k) = w.2.1 x k
              rw [if_neg (by omega), h30n x, if_neg (by omega), if_neg (by omega)]
            · funext k
              show w1.2.2 x k = w.2.2 x k
              rw [hw1]
              simp only [cb_nw1, cb_ur, cb_um]
              rw [cb_u2n (by omega), if_neg (by omega), cb_u2n (by omega), if_neg (by omega), cb_u2n (by omega), if_neg (by omega), cb_u2n (by omega), if_neg (by omega), cb_u2n (by omega), if_neg (by omega)]
            · show w1.1 x = true
              rw [hw1]
              rcases (show x = 30 ∨ x = 31 ∨ x = 32 ∨ x = 33 ∨ x = 34 ∨ x = 35 by omega) with rfl | rfl | rfl | rfl | rfl | rfl <;> simp [cb_nw1, cb_ur, cb_um, *]
            · simp only [cb_um]
              rw [cb_u2n (by omega), cb_u2n (by omega)]
              simp only [cb_Fr]
              rw [if_neg (by omega), h30n]
              rfl
            · simp only [cb_um]
              rw [cb_u2n (by omega), cb_u2n (by omega)]
              simp only [cb_Fr]
              rw [if_neg (by omega), h30n]
              rfl
            · simp only [cb_um]
              rw [cb_u2n (by omega), cb_u2s]
              rw [ci_le, ci_n (by omega), ci_z0] at c_87
              by_cases e : 0 < i
              · rw [if_pos e]
                first | rfl | (exfalso; omega)
              · rw [if_neg e]
                first | rfl | (exfalso; omega)
            · simp only [cb_um]
              rw [cb_u2n (by omega), cb_u2n (by omega)]
              show (if 31 = 31 ∧ k / 8 < i ∧ k % 8 < C then 1 else w1.2.1 31 k) = _
              by_cases e : k / 8 < i ∧ k % 8 < C
              · rw [if_pos ⟨rfl, e⟩, if_pos e]; rfl
              · rw [if_neg (fun h => e h.2), if_neg e, h30n]
                rfl
            · simp only [cb_um]
              rw [cb_u2n (by omega), cb_u2n (by omega)]
              simp only [cb_Fr]
              rw [if_neg (by omega), h30n]
              rfl
            · simp only [cb_um]
              rw [cb_u2s]
            · show w1.2.2 (x + 10) k = some q ↔ _
              rcases (show x = 20 ∨ 21 ≤ x by omega) with rfl | hx
              · rw [cc_Rf20, hw1]
                by_cases e2 : k = 2
                · simp [cb_nw1, cb_ur, cb_um, cb_u2, e2]; exact eq_comm
                · by_cases e3 : k = 3
                  · simp [cb_nw1, cb_ur, cb_um, cb_u2, e3]; exact eq_comm
                  · by_cases e4 : k = 4
                    · simp [cb_nw1, cb_ur, cb_um, cb_u2, e4]; exact eq_comm
                    · by_cases e6 : k = 6
                      · simp [cb_nw1, cb_ur, cb_um, cb_u2, e6]; exact eq_comm
                      · by_cases e7 : k = 7
                        · simp [cb_nw1, cb_ur, cb_um, cb_u2, e7]; exact eq_comm
                        · simp [cb_nw1, cb_ur, cb_um, cb_u2, e2, e3, e4, e6, e7, hno]
              · rw [cc_Rf2x k hx h2, hw1]
                rcases (show x = 21 ∨ x = 22 ∨ x = 23 ∨ x = 24 ∨ x = 25 by omega) with rfl | rfl | rfl | rfl | rfl <;> simp [cb_nw1, cb_ur, cb_um, cb_u2])
        · skip
          refine cb_iconst (pc := 90) (v := 1) O dX1_init_90 (by decide) ?_
          refine cb_goto (pc := 91) O 95 dX1_init_91 (by decide) ?_
          refine cb_putIc (pc := 95) O fl_X1_40 (Or.inl rfl) rfl rfl dX1_init_95 rfl rfl l30 ?_
          refine cb_aload_n (pc := 98) O dX1_init_98 rfl ?_
          refine cb_getR (pc := 99) O fl_X1_18 rfl rfl dX1_init_99 l30 r4 ?_
          refine cb_iconst (pc := 102) (v := 0) O dX1_init_102 (by decide) ?_
          refine cb_iconst (pc := 103) (v := 1) O dX1_init_103 (by decide) ?_
          refine cb_iast (pc := 104) O 0 rfl dX1_init_104 (by decide) l33 rfl (by decide) ?_
          exact cb_vret (pc := 105) O Rt (Nat.le_of_ble_eq_true rfl) (Nat.le_of_ble_eq_true rfl) dX1_init_105 (by
            have h30n : ∀ x, w1.2.1 x = if x = 31 ∨ x = 32 ∨ x = 33 ∨ x = 34 ∨ x = 35 then (fun _ => 0) else if x = 30 then (fun k => if k = 1 then nI C else if k = 0 then nI i else w.2.1 30 k) else w.2.1 x := by
              intro x
              rw [hw1]
              funext k
              simp only [cb_nw1, cb_ur, cb_um, cb_u2]
              by_cases e0 : x = 30
              · subst e0; simp
              · by_cases e1 : x = 31
                · subst e1; simp
                · by_cases e2 : x = 32
                  · subst e2; simp
                  · by_cases e3 : x = 33
                    · subst e3; simp
                    · by_cases e4 : x = 34
                      · subst e4; simp
                      · by_cases e5 : x = 35
                        · subst e5; simp
                        · simp [e0, e1, e2, e3, e4, e5]
            refine ⟨fun x hx => ⟨?_, ?_, ?_⟩, fun x h1 h2 => ?_, ⟨?_, ?_, ?_⟩, fun k hk => ?_, fun k => ?_, ?_, fun x k q h1 h2 => ?_⟩
            · show w1.1 x = w.1 x
              rw [hw1]
              simp only [cb_nw1, cb_ur, cb_um]
              rw [if_neg (by omega), if_neg (by omega), if_neg (by omega), if_neg (by omega), if_neg (by omega)]
            · funext k
              simp only [cb_um]
              rw [cb_u2n (by omega), cb_u2n (by omega)]
              show (if x = 31 ∧ k / 8 < i ∧ k % 8 < C then 1 else w1.2.1 x k) = w.2.1 x k
              rw [if_neg (by omega), h30n x, if_neg (by omega), if_neg (by omega)]
            · funext k
              show w1.2.2 x k = w.2.2 x k
              rw [hw1]
              simp only [cb_nw1, cb_ur, cb_um]
              rw [cb_u2n (by omega), if_neg (by omega), cb_u2n (by omega), if_neg (by omega), cb_u2n (by omega), if_neg (by omega), cb_u2n (by omega), if_neg (by omega), cb_u2n (by omega), if_neg (by omega)]
            · show w1.1 x = true
              rw [hw1]
              rcases (show x = 30 ∨ x = 31 ∨ x = 32 ∨ x = 33 ∨ x = 34 ∨ x = 35 by omega) with rfl | rfl | rfl | rfl | rfl | rfl <;> simp [cb_nw1, cb_ur, cb_um, *]
            · simp only [cb_um]
              rw [cb_u2n (by omega), cb_u2n (by omega)]
              simp only [cb_Fr]
              rw [if_neg (by omega), h30n]
              rfl
            · simp only [cb_um]
              rw [cb_u2n (by omega), cb_u2n (by omega)]
              simp only [cb_Fr]
              rw [if_neg (by omega), h30n]
              rfl
            · simp only [cb_um]
              rw [cb_u2n (by omega), cb_u2s]
              rw [ci_le, ci_n (by omega), ci_z0] at c_87
              by_cases e : 0 < i
              · rw [if_pos e]
                first | rfl | (exfalso; omega)
              · rw [if_neg e]
                first | rfl | (exfalso; omega)
            · simp only [cb_um]
              rw [cb_u2n (by omega), cb_u2n (by omega)]
              show (if 31 = 31 ∧ k / 8 < i ∧ k % 8 < C then 1 else w1.2.1 31 k) = _
              by_cases e : k / 8 < i ∧ k % 8 < C
              · rw [if_pos ⟨rfl, e⟩, if_pos e]; rfl
              · rw [if_neg (fun h => e h.2), if_neg e, h30n]
                rfl
            · simp only [cb_um]
              rw [cb_u2n (by omega), cb_u2n (by omega)]
              simp only [cb_Fr]
              rw [if_neg (by omega), h30n]
              rfl
            · simp only [cb_um]
              rw [cb_u2s]
            · show w1.2.2 (x + 10) k = some q ↔ _
              rcases (show x = 20 ∨ 21 ≤ x by omega) with rfl | hx
              · rw [cc_Rf20, hw1]
                by_cases e2 : k = 2
                · simp [cb_nw1, cb_ur, cb_um, cb_u2, e2]; exact eq_comm
                · by_cases e3 : k = 3
                  · simp [cb_nw1, cb_ur, cb_um, cb_u2, e3]; exact eq_comm
                  · by_cases e4 : k = 4
                    · simp [cb_nw1, cb_ur, cb_um, cb_u2, e4]; exact eq_comm
                    · by_cases e6 : k = 6
                      · simp [cb_nw1, cb_ur, cb_um, cb_u2, e6]; exact eq_comm
                      · by_cases e7 : k = 7
                        · simp [cb_nw1, cb_ur, cb_um, cb_u2, e7]; exact eq_comm
                        · simp [cb_nw1, cb_ur, cb_um, cb_u2, e2, e3, e4, e6, e7, hno]
              · rw [cc_Rf2x k hx h2, hw1]
                rcases (show x = 21 ∨ x = 22 ∨ x = 23 ∨ x = 24 ∨ x = 25 by omega) with rfl | rfl | rfl | rfl | rfl <;> simp [cb_nw1, cb_ur, cb_um, cb_u2])
      · skip
        have hlt : i < R := ci_nge c_58 (by omega) (by omega)
        refine cb_aload_n (pc := 61) O dX1_init_61 rfl ?_
        refine cb_getR (pc := 62) O fl_X1_9 rfl rfl dX1_init_62 l30 r2 ?_
        refine cb_iload_n (pc := 65) O dX1_init_65 rfl ?_
        refine cb_bipush (pc := 66) (v := 8) O dX1_init_66 (by decide) ?_
        refine cb_imul (pc := 68) O dX1_init_68 ?_
        refine cb_topv _ (ci_x8 i) ?_
        refine cb_iload_n (pc := 69) O dX1_init_69 rfl ?_
        refine cb_bipush (pc := 70) (v := 8) O dX1_init_70 (by decide) ?_
        refine cb_imul (pc := 72) O dX1_init_72 ?_
        refine cb_topv _ (ci_x8 i) ?_
        refine cb_iload_n (pc := 73) O dX1_init_73 rfl ?_
        refine cb_iadd (pc := 74) O dX1_init_74 ?_
        refine cb_topv _ (nI_add _ _) ?_
        refine cb_iconst (pc := 75) (v := 1) O dX1_init_75 (by decide) ?_
        refine cb_cSv (pc := 76) O (c_fill4 (cb_Fr w1 C i) 31 64 (8 * i) (8 * i + C) 1 rfl l31 (by decide) (by omega) (by omega)) my_J7_fill_fda19 mt_J7_fill_fda19 ml_X1_34 dX1_init_76 rfl rfl ⟨(Nat.le_of_ble_eq_true rfl), (Nat.le_of_ble_eq_true rfl)⟩ (Nat.le_of_ble_eq_true rfl) rfl ⟨(Nat.le_of_ble_eq_true rfl), (Nat.le_of_ble_eq_true rfl)⟩ (fun _ _ => rfl) (fun w_76 hp_76 => ?_)
        rw [hp_76, cb_FrS _ _ _ hC8]
        refine cb_iinc (pc := 79) O (nI (i + 1)) dX1_init_79 rfl (by decide) (ci_inc i) ?_
        dsimp only [List.set]
        refine cb_goto (pc := 82) O 56 dX1_init_82 (by decide) ?_
        exact ih_56 (i + 1) (by omega) (by omega)
  rw [← cb_Fr0 w1 C]
  exact L_56 (R + 1) 0 (by omega) (by omega)

theorem k_board0 (w : cb_W) (A : ca_A) (z : Int32) (hI : ca_I A) (hC : cc_I w A z) (ht4 : ∀ r, 40 ≤ r → r < 46 → w.1 r = false) (r c : Int32) : cb_Con yX10_board cX10_board 3 (some .int) 3 69 6 274 cb_kpub [.inr (some 0), .inl r, .inl c] w (cb_pi (fun x w' => x = sr_board A r c ∧ cc_I w' (sA_board A r c) z ∧ cb_M1 w w')) := by
  have t30 : ∀ q, 30 ≤ q → q < 40 → w.1 q = false := cc_W9 hC
  have t0 : w.1 0 = true := hC.1.1 0 rfl
  refine cb_con (by decide) (Nat.le_of_ble_eq_true rfl) (fun κ O Rt hnm => ?_)
  show cb_X κ w 0 0 0 [some (.inr (some 0)), some (.inl r), some (.inl c)] []
  refine cb_gcl (fun hcl0 => ?_)
  refine cb_iload_n (pc := 0) O dX10_board_0 rfl ?_
  refine cb_iconst (pc := 1) (v := 1) O dX10_board_1 (by decide) ?_
  refine cb_bipush (pc := 2) (v := 8) O dX10_board_2 (by decide) ?_
  refine cb_cSp (pc := 4) O (c_X10_within _ _ _ _) my_X10_within mt_X10_within ml_X10_81 dX10_board_4 rfl rfl ⟨(Nat.le_of_ble_eq_true rfl), (Nat.le_of_ble_eq_true rfl)⟩ (Nat.le_of_ble_eq_true rfl) rfl ⟨(Nat.le_of_ble_eq_true rfl), (Nat.le_of_ble_eq_true rfl)⟩ ?_
  refine cb_ifp_eq (pc := 7) O 20 dX10_board_7 (by decide) (fun c_7 => ?_) (fun c_7 => ?_)
  · skip
    refine cb_iconst (pc := 20) (v := (-1)) O dX10_board_20 (by decide) ?_
    exact cb_iret (pc := 21) O Rt rfl (Nat.le_of_ble_eq_true rfl) (Nat.le_of_ble_eq_true rfl) dX10_board_21 (by
      have hv : ¬ sv_board r c := by
        intro h
        simp_all
      exact ⟨by rw [sr_board, if_neg hv], by rw [sA_board, if_neg (fun h => hv h.1)]; exact hC, cb_M1.rfl'⟩)
  · skip
    refine cb_iload_n (pc := 10) O dX10_board_10 rfl ?_
    refine cb_iconst (pc := 11) (v := 1) O dX10_board_11 (by decide) ?_
    refine cb_bipush (pc := 12) (v := 8) O dX10_board_12 (by decide) ?_
    refine cb_cSp (pc := 14) O (c_X10_within _ _ _ _) my_X10_within mt_X10_within ml_X10_81 dX10_board_14 rfl rfl ⟨(Nat.le_of_ble_eq_true rfl), (Nat.le_of_ble_eq_true rfl)⟩ (Nat.le_of_ble_eq_true rfl) rfl ⟨(Nat.le_of_ble_eq_true rfl), (Nat.le_of_ble_eq_true rfl)⟩ ?_
    refine cb_ifp_ne (pc := 17) O 22 dX10_board_17 (by decide) (fun c_17 => ?_) (fun c_17 => ?_)
    · skip
      have hv : sv_board r c := ⟨c_7, c_17⟩
      obtain ⟨r, hr1, hr, rfl⟩ := ci_in1 (n := 8) c_7 rfl
      obtain ⟨c, hc1, hc, rfl⟩ := ci_in1 (n := 8) c_17 rfl
      refine cb_aload_n (pc := 22) O dX10_board_22 rfl ?_
      refine cb_getR (pc := 23) O fl_X10_60 rfl rfl dX10_board_23 (hC.1.1 _ rfl) (hC.1.2 _ _ _ rfl) ?_
      refine cb_cVp (pc := 26) O (c_X1_isTold w A z hI hC) my_X1_isTold mi_X1_isTold mx_X1_isTold ml_X10_85 dX10_board_26 rfl ct_1 rfl rfl rfl ⟨(Nat.le_of_ble_eq_true rfl), (Nat.le_of_ble_eq_true rfl)⟩ (Nat.le_of_ble_eq_true rfl) rfl ⟨(Nat.le_of_ble_eq_true rfl), (Nat.le_of_ble_eq_true rfl)⟩ (hC.1.1 _ rfl) ?_
      refine cb_ifp_eq (pc := 29) O 35 dX10_board_29 (by decide) (fun c_29 => ?_) (fun c_29 => ?_)
      · skip
        have hBz : (∀ k, A 10 k = 0) ∧ (∀ k, A 11 k = 0) ∧ (∀ p, A 12 p = 0) := hI.2.2.2.2.2.2.2.1 (by omega)
        refine cb_aload_n (pc := 35) O dX10_board_35 rfl ?_
        refine cb_new (pc := 36) O 30 ct_1 cl_X10_55 in_X1 ini_X1 rfl dX10_board_36 (by decide) (by rw [Rt.2.2]; rfl) rfl (Nat.le_of_ble_eq_true rfl) (Nat.le_of_ble_eq_true rfl) (t30 30 (by decide) (by decide)) ?_
        refine cb_dup (pc := 39) O dX10_board_39 ?_
        refine cb_iload_n (pc := 40) O dX10_board_40 rfl ?_
        refine cb_iload_n (pc := 41) O dX10_board_41 rfl ?_
        refine cb_cIv (pc := 42) O (c_X1_init (cb_nw1 w 30) r c hr hc (by simp [cb_nw1]) (by simp [cb_nw1, t30 31]) (by simp [cb_nw1, t30 32]) (by simp [cb_nw1, t30 33]) (by simp [cb_nw1, t30 34]) (by simp [cb_nw1, t30 35]) (by simp [cb_nw1])) my_X1_init mi_X1_init rfl ml_X10_57 dX10_board_42 rfl rfl ⟨(Nat.le_of_ble_eq_true rfl), (Nat.le_of_ble_eq_true rfl)⟩ (Nat.le_of_ble_eq_true rfl) rfl ⟨(Nat.le_of_ble_eq_true rfl), (Nat.le_of_ble_eq_true rfl)⟩ (fun q h => by rcases cb_kpubE (by rw [← Rt.2.2]; exact h) with rfl | rfl <;> rfl) (fun w_42 hp_42 => ?_)
        refine cb_putRc (pc := 45) O fl_X10_60 (Or.inl rfl) rfl rfl dX10_board_45 (fun _ => rfl) (fun _ => rfl) (by rw [(hp_42.1 0 (by decide)).1]; simp [cb_nw1, t0]) (hp_42.2.1 30 (by decide) (by decide)) ?_
        refine cb_genw (fun w2 hw2 => ?_)
        obtain ⟨b1, b2, b3, b4, b5, b6, b7⟩ := hp_42
        have hAL : cc_AL w w2 20 6 7 := by
          rw [hw2]
          refine ⟨fun q hq => ?_, fun q h1 h2 => ?_, fun q hq => ?_, fun q k hq h0 => ?_, ?_, fun q k x h1 h2 => ?_⟩
          · show w_42.1 q = w.1 q
            rw [(b1 q (by omega)).1]
            simp only [cb_nw1]
            rw [if_neg (by omega)]
          · exact b2 q (by omega) (by omega)
          · show w_42.2.1 q = w.2.1 q
            rw [(b1 q (by omega)).2.1]
            simp only [cb_nw1]
            rw [if_neg (by omega)]
          · show cb_u2 w_42.2.2 0 7 (some 30) q k = w.2.2 q k
            rw [cb_u2n (by omega), (b1 q (by omega)).2.2]
            simp only [cb_nw1]
            rw [if_neg (by omega)]
          · show cb_u2 w_42.2.2 0 7 (some 30) 0 7 = _
            rw [cb_u2s]
          · show cb_u2 w_42.2.2 0 7 (some 30) (q + 10) k = some x ↔ _
            rw [cb_u2n (by omega)]
            exact b7 q k x h1 h2
        refine cb_gcl (fun hcl1 => ?_)
        refine cb_g9 (fun h9 => ?_)
        refine cb_rename 20 6 10 (by decide) hcl1 (fun r h1 h2 => by rcases (show r = 20 ∨ r = 21 ∨ r = 22 ∨ r = 23 ∨ r = 24 ∨ r = 25 by omega) with rfl | rfl | rfl | rfl | rfl | rfl <;> rfl) (hAL.rf (Or.inr ⟨rfl, rfl, rfl⟩) hC ht4) (fun r h1 h2 => hAL.2.1 _ (by omega) (by omega)) (fun r h1 => by rw [hAL.1 r (by omega)]; exact hC.2.2.2.2.2.2.2.2.2.1 r h1) h9 (fun q h => by rcases cb_kpubE (by rw [← Rt.2.2]; exact h) with rfl | rfl <;> decide) rfl ?_
        refine cb_iconst (pc := 48) (v := 1) O dX10_board_48 (by decide) ?_
        exact cb_iret (pc := 49) O Rt rfl (Nat.le_of_ble_eq_true rfl) (Nat.le_of_ble_eq_true rfl) dX10_board_49 (by
          have hM : ∀ r, ¬ (20 ≤ r ∧ r < 26) → (r < 30 ∨ 46 ≤ r) → (cb_rn 20 6 10 w2).2.1 r = w.2.1 r := by
            intro a h1 h2
            show w2.2.1 (cb_gm 20 6 10 a) = w.2.1 a
            unfold cb_gm
            rw [if_neg h1, hAL.2.2.1 a (by omega)]
          have hM2 : ∀ r, 20 ≤ r → r < 26 → (cb_rn 20 6 10 w2).2.1 r = w_42.2.1 (r + 10) := by
            intro a h1 h2
            show w2.2.1 (cb_gm 20 6 10 a) = _
            unfold cb_gm
            rw [if_pos ⟨h1, h2⟩, hw2]
            rfl
          refine ⟨by rw [sr_board, if_pos hv, if_neg c_29], ?_⟩
          rw [sA_board, if_pos ⟨hv, c_29⟩, ci_nz (by omega), ci_nz (by omega)]
          refine hAL.I (Or.inr ⟨rfl, rfl, rfl⟩) hC hI hcl0 ?_ ?_ ?_
          · have hz0 := hBz
            refine ⟨⟨?_, ?_, ?_⟩, fun k hk => ?_, fun k hk => ?_, fun p hp => ?_⟩
            · rw [hM2 20 (by omega) (by omega)]; exact b3.1
            · rw [hM2 20 (by omega) (by omega)]; exact b3.2.1
            · rw [hM2 20 (by omega) (by omega)]
              refine b3.2.2.trans ?_
              rw [if_pos (by omega)]
              rfl
            · rw [hM2 21 (by omega) (by omega)]
              refine (b4 k hk).trans ?_
              congr 1
              have e10 : cb_u2 (cb_u2 (cb_u2 A 0 0 r) 0 1 c) 0 12 1 10 k = 0 := by
                rw [cb_u2n (by omega), cb_u2n (by omega), cb_u2n (by omega)]
                exact hz0.1 k
              have o1 : ca_o (cb_u2 (cb_u2 (cb_u2 A 0 0 r) 0 1 c) 0 12 1) k ↔ (k / 8 < r ∧ k % 8 < c) := by
                unfold ca_o
                rw [cb_u2n (by omega), cb_u2n (by omega), cb_u2s, cb_u2n (by omega), cb_u2s]
              by_cases e : k / 8 < r ∧ k % 8 < c
              · rw [if_pos e, if_pos ⟨o1.mpr e, e10⟩]
              · rw [if_neg e, if_neg (fun h => e (o1.mp h.1))]
            · rw [hM2 22 (by omega) (by omega)]
              refine (b5 k).trans ?_
              rw [cb_u2n (by omega), cb_u2n (by omega), cb_u2n (by omega), hz0.2.1 k]
              rfl
            · rw [cb_u2s] at hp
              have e0 : p = 0 := by omega
              subst e0
              rw [hM2 23 (by omega) (by omega)]
              refine b6.trans ?_
              rw [cb_u2n (by omega), cb_u2n (by omega), cb_u2n (by omega), hz0.2.2 0]
              rfl
          · refine hC.2.2.2.2.2.2.1.cg (fun r k h => by rw [hM r (by omega) (by omega)]) (fun k i h => ?_)
            rw [cb_u2n (by omega), cb_u2n (by omega), cb_u2n (by omega)]
          · intro k i h1 h2
            rw [cb_u2n (by omega), cb_u2n (by omega), cb_u2n (by omega)])
      · skip
        refine cb_bipush (pc := 32) (v := (-3)) O dX10_board_32 (by decide) ?_
        exact cb_iret (pc := 34) O Rt rfl (Nat.le_of_ble_eq_true rfl) (Nat.le_of_ble_eq_true rfl) dX10_board_34 (by
          refine ⟨by rw [sr_board, if_pos hv, if_pos c_29], ?_, cb_M1.rfl'⟩
          rw [sA_board, if_neg (fun h => h.2 c_29)]
          exact hC)
    · skip
      refine cb_iconst (pc := 20) (v := (-1)) O dX10_board_20 (by decide) ?_
      exact cb_iret (pc := 21) O Rt rfl (Nat.le_of_ble_eq_true rfl) (Nat.le_of_ble_eq_true rfl) dX10_board_21 (by
        have hv : ¬ sv_board r c := by
          intro h
          simp_all
        exact ⟨by rw [sr_board, if_neg hv], by rw [sA_board, if_neg (fun h => hv h.1)]; exact hC, cb_M1.rfl'⟩)

theorem cb_Con.mono {y : MethodName} {cc : ByteArray} {maxL : Nat} {ret : Option FieldType} {fr lo mc ms : Nat} {keep : Nat → Bool} {As : List cb_V} {w : cb_W} {post post' : Option Int32 → cb_W → Prop} (hp : ∀ r w', post r w' → post' r w') (h : cb_Con y cc maxL ret fr lo mc ms keep As w post) : cb_Con y cc maxL ret fr lo mc ms keep As w post' := by
  intro g z l ad p e h1 h2 h3 s m args below h4 h5 h6 h7
  obtain ⟨n, o, a1, a2, a3, ⟨⟨r, w', ad', q1, q2, q5, q6⟩, q7⟩, q8⟩ := h g z l ad p e h1 h2 h3 s m args below h4 h5 h6 h7
  exact ⟨n, o, a1, a2, a3, ⟨⟨r, w', ad', q1, hp r w' q2, q5, q6⟩, q7⟩, q8⟩
theorem cb_pub {y : MethodName} {cc : ByteArray} {maxL : Nat} {ret : Option FieldType} {fr lo mc ms : Nat} {keep : Nat → Bool} {As : List cb_V} {w : cb_W} {A A' : ca_A} {z z' : Int32} {v : Int32} (hC : cc_I w A z) (h : cb_Con y cc maxL ret fr lo mc ms keep As (cb_dp w) (cb_pi (fun x w' => x = v ∧ cc_I w' A' z' ∧ cb_M1 (cb_dp w) w'))) : cb_Con y cc maxL ret fr lo mc ms keep As w (cb_pi (fun x w' => x = v ∧ cc_I w' A' z' ∧ cb_M1 w w')) := by
  refine cb_Con.dp hC (cb_Con.mono (fun r w' q => ?_) h)
  cases r with
  | none => exact q
  | some x => exact ⟨q.1, q.2.1, (cb_M1.dp w).trans q.2.2⟩
theorem k_wanted (w : cb_W) (A : ca_A) (z : Int32) (hI : ca_I A) (hC : cc_I w A z) (r c : Int32) : cb_Con yX10_wanted cX10_wanted 3 (some .int) 2 42 2 19 cb_kpub [.inr (some 0), .inl r, .inl c] w (cb_pi (fun x w' => x = sr_wanted r c ∧ cc_I w' (sA_wanted A r c) z ∧ cb_M1 w w')) := cb_pub hC (k_wanted0 (cb_dp w) A z hI (hC.dp hI) (cb_dpL w) r c)
theorem k_board (w : cb_W) (A : ca_A) (z : Int32) (hI : ca_I A) (hC : cc_I w A z) (r c : Int32) : cb_Con yX10_board cX10_board 3 (some .int) 3 69 6 274 cb_kpub [.inr (some 0), .inl r, .inl c] w (cb_pi (fun x w' => x = sr_board A r c ∧ cc_I w' (sA_board A r c) z ∧ cb_M1 w w')) := cb_pub hC (k_board0 (cb_dp w) A z hI (hC.dp hI) (cb_dpL w) r c)
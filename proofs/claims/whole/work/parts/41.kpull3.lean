theorem pt_y {A : ca_A} {t : Int32} (h : t = -1 ∨ ca_s A t) : t = nI ((t.toInt + 1).toNat) - 1 := by
  rcases h with rfl | h
  · rfl
  · obtain ⟨j, hj, rfl, -⟩ := ca_sN h
    rw [ci_n hj, show (((j : Int) + 1).toNat) = j + 1 by omega, nI_p1]
def pr_x (A : ca_A) (t : Int32) : Int32 := if sv_pl A t then (if A 0 26 = 200 then -2 else nI (A 0 26)) else -1
def pr_A (A : ca_A) (z : Int32) (rl : Nat → Nat) (t : Int32) (ib : Nat) : ca_A := if sv_pl A t ∧ ¬ A 0 26 = 200 then plA A z rl t ib else A
def pr_z (A : ca_A) (z : Int32) (rl : Nat → Nat) (t : Int32) : Int32 := if sv_pl A t ∧ ¬ A 0 26 = 200 then (pls A z rl t).2.1 else z
theorem c_X10_pullRoll (w : cb_W) (A : ca_A) (z : Int32) (hI : ca_I A) (hC : cc_I w A z) (t : Int32) (ib : Nat) (rl : Nat → Nat) (hrl : ∀ c, rl c < 10) (hroll : ∀ c, c < 8 → w.2.1 5 c = nI (rl c)) (h17 : ∀ i, A 17 i ≤ 200) : cb_Con yX10_pullRoll cX10_pullRoll 5 (some .int) 4 89 1 5 cb_kpub [.inr (some 0), .inl t, .inl (nI ib)] w (cb_pi (fun x w' => x = pr_x A t ∧ cc_I w' (pr_A A z rl t ib) (pr_z A z rl t) ∧ cb_M1 w w')) := by
  have l := hI.1
  refine cb_con (by decide) (Nat.le_of_ble_eq_true rfl) (fun κ O Rt hnm => ?_)
  show cb_X κ w 0 0 0 [some (.inr (some 0)), some (.inl t), some (.inl (nI ib)), none, none] []
  have J_70 : ∀ (hv : sv_pl A t) (h200 : ¬ A 0 26 = 200) (w9 : cb_W) (hC9 : cc_I w9 (pls A z rl t).1 (pls A z rl t).2.1) (hM9 : cb_M1 w w9), cb_X κ w9 0 0 70 [some (.inr (some 0)), some (.inl t), some (.inl (nI ib)), some (.inl (nI (plc A t))), some (.inl (nI (pls A z rl t).2.2))] [] := by
    intro hv h200 w9 hC9 hM9
    obtain ⟨a9, j9, hpi, hj9⟩ := pls_I (z := z) hI h17 hrl hv.2
    have e26 : (pls A z rl t).1 0 26 = A 0 26 := hpi.1 0 26 (by omega)
    have e8 : (pls A z rl t).1 0 8 = A 0 8 := hpi.1 0 8 (by omega)
    have hI9 := hpi.2.2.1
    have hp2 : A 0 26 < 200 := by omega
    have q26 : w9.2.1 0 10 = nI (A 0 26) := by rw [← e26]; exact hC9.2.2.1.2.1
    have q8 : w9.2.1 0 11 = nI (A 0 8) := by rw [← e8]; exact hC9.2.2.1.2.2.1
    have hdd : w9.1 (400 + A 0 26) = false := hC9.2.2.2.2.2.1.2 _ (by omega) hp2
    have v0 : w9.1 0 = true := hC9.1.1 _ rfl
    have v4 : w9.1 4 = true := hC9.1.1 _ rfl
    have r3 : w9.2.2 0 3 = some 4 := hC9.1.2 _ _ _ rfl
    refine cb_aload_n (pc := 70) O dX10_pullRoll_70 rfl ?_
    refine cb_getR (pc := 71) O fl_X10_31 rfl rfl dX10_pullRoll_71 v0 r3 ?_
    refine cb_aload_n (pc := 74) O dX10_pullRoll_74 rfl ?_
    refine cb_getI (pc := 75) O fl_X10_75 rfl rfl dX10_pullRoll_75 v0 ?_
    refine cb_topv _ q26 ?_
    refine cb_new (pc := 78) O (400 + A 0 26) ct_2 cl_X10_29 in_X2 ini_X2 (sh_e (by omega)) dX10_pullRoll_78 (by omega) (by rw [Rt.2.2]; simp [cb_kpub]; omega) (by simp [cb_fr, cb_nr] <;> omega) (Nat.le_of_ble_eq_true rfl) (Nat.le_of_ble_eq_true rfl) hdd ?_
    refine cb_dup (pc := 81) O dX10_pullRoll_81 ?_
    refine cb_iload_n (pc := 82) O dX10_pullRoll_82 rfl ?_
    refine cb_aload_n (pc := 83) O dX10_pullRoll_83 rfl ?_
    refine cb_getI (pc := 84) O fl_X10_78 rfl rfl dX10_pullRoll_84 (by simp only [cb_nw1]; rw [if_neg (by omega)]; exact v0) ?_
    refine cb_topv (nI (A 0 8)) (by
      show (if (0 : Nat) = 400 + A 0 26 then (fun _ => (0 : Int32)) else w9.2.1 0) 11 = _
      rw [if_neg (by omega)]; exact q8) ?_
    refine cb_iload_n (pc := 87) O dX10_pullRoll_87 rfl ?_
    refine cb_iload_n (pc := 88) O dX10_pullRoll_88 rfl ?_
    refine cb_iload (pc := 89) O dX10_pullRoll_89 rfl ?_
    refine cb_cIv (pc := 91) O (c_X2_init (cb_nw1 w9 (400 + A 0 26)) (400 + A 0 26) (sh_e (by omega)) (by simp [cb_nw1]) _ _ _ _ _) my_X2_init mi_X2_init rfl ml_X10_313 dX10_pullRoll_91 rfl rfl ⟨(Nat.le_of_ble_eq_true rfl), (Nat.le_of_ble_eq_true rfl)⟩ (Nat.le_of_ble_eq_true rfl) rfl ⟨(Nat.le_of_ble_eq_true rfl), (Nat.le_of_ble_eq_true rfl)⟩ (fun _ _ => rfl) (fun w_91 hp_91 => ?_)
    rw [hp_91]
    refine cb_aast (pc := 94) O (A 0 26) (Or.inr ⟨rfl, rfl⟩) rfl (sh_e (by omega)) dX10_pullRoll_94 (by decide) (by simp only [cb_um, cb_nw1]; rw [if_neg (by omega)]; exact v4) (by simp [cb_um, cb_nw1]) rfl (by omega) ?_
    refine cb_aload_n (pc := 95) O dX10_pullRoll_95 rfl ?_
    refine cb_dup (pc := 96) O dX10_pullRoll_96 ?_
    refine cb_getI (pc := 97) O fl_X10_75 rfl rfl dX10_pullRoll_97 (by simp only [cb_um, cb_ur, cb_nw1]; rw [if_neg (by omega)]; exact v0) ?_
    refine cb_topv (nI (A 0 26)) (by
      simp only [cb_um, cb_ur, cb_nw1]
      rw [cb_u2n (by omega), cb_u2n (by omega), cb_u2n (by omega), cb_u2n (by omega), cb_u2n (by omega), if_neg (by omega)]
      exact q26) ?_
    refine cb_iconst (pc := 100) (v := 1) O dX10_pullRoll_100 (by decide) ?_
    refine cb_iadd (pc := 101) O dX10_pullRoll_101 ?_
    refine cb_topv (nI (A 0 26 + 1)) (nI_add _ _) ?_
    refine cb_putIc (pc := 102) O fl_X10_75 (Or.inl rfl) rfl rfl dX10_pullRoll_102 rfl rfl (by simp only [cb_um, cb_ur, cb_nw1]; rw [if_neg (by omega)]; exact v0) ?_
    refine cb_aload_n (pc := 105) O dX10_pullRoll_105 rfl ?_
    refine cb_getI (pc := 106) O fl_X10_75 rfl rfl dX10_pullRoll_106 (by simp only [cb_um, cb_ur, cb_nw1]; rw [if_neg (by omega)]; exact v0) ?_
    refine cb_topv (nI (A 0 26 + 1)) (by simp only [cb_um]; rw [cb_u2s]) ?_
    refine cb_iconst (pc := 109) (v := 1) O dX10_pullRoll_109 (by decide) ?_
    refine cb_isub (pc := 110) O dX10_pullRoll_110 ?_
    refine cb_topv (nI (A 0 26)) (nI_p1 _) ?_
    exact cb_iret (pc := 111) O Rt rfl (Nat.le_of_ble_eq_true rfl) (Nat.le_of_ble_eq_true rfl) dX10_pullRoll_111 (by
      have h9 := hC9.e9 (p := A 0 26) (a := ib) (b := A 0 8) (c := (t.toInt + 1).toNat) (d := plc A t) (e := (pls A z rl t).2.2) (y := t) hI9 e26 hp2 (pt_y hv.2)
      exact ⟨by rw [pr_x, if_pos hv, if_neg h200], by rw [pr_A, pr_z, if_pos ⟨hv, h200⟩, if_pos ⟨hv, h200⟩]; exact h9.1, hM9.trans h9.2⟩)
  have J_25 : ∀ (hv : sv_pl A t), cb_X κ w 0 0 25 [some (.inr (some 0)), some (.inl t), some (.inl (nI ib)), none, none] [] := by
    intro hv
    refine cb_aload_n (pc := 25) O dX10_pullRoll_25 rfl ?_
    refine cb_getI (pc := 26) O fl_X10_75 rfl rfl dX10_pullRoll_26 (hC.1.1 _ rfl) ?_
    refine cb_topv _ hC.2.2.1.2.1 ?_
    refine cb_sipush (pc := 29) (v := 200) O dX10_pullRoll_29 (by decide) ?_
    refine cb_icmp_ne (pc := 32) O 38 dX10_pullRoll_32 (by decide) (fun c_32 => ?_) (fun c_32 => ?_)
    · skip
      have h200 : ¬ A 0 26 = 200 := fun e => c_32 (by rw [e]; rfl)
      refine cb_iconst (pc := 38) (v := 0) O dX10_pullRoll_38 (by decide) ?_
      refine cb_istore_n (pc := 39) O dX10_pullRoll_39 (by decide) ?_
      dsimp only [List.set]
      refine cb_iconst (pc := 40) (v := 0) O dX10_pullRoll_40 (by decide) ?_
      refine cb_istore (pc := 41) O dX10_pullRoll_41 (by decide) ?_
      dsimp only [List.set]
      refine cb_iload_n (pc := 43) O dX10_pullRoll_43 rfl ?_
      refine cb_iconst (pc := 44) (v := (-1)) O dX10_pullRoll_44 (by decide) ?_
      refine cb_icmp_eq (pc := 45) O 70 dX10_pullRoll_45 (by decide) (fun c_45 => ?_) (fun c_45 => ?_)
      · skip
        first
        | (have e1 : pls A z rl t = (A, z, 0) := by rw [pls, if_pos c_45]
           have e2 : plc A t = 0 := by rw [plc, if_pos c_45]
           have hj := J_70 hv h200 w (by rw [e1]; exact hC) cb_M1.rfl'
           rw [e1, e2] at hj
           exact hj)
        | exact hJ
      · skip
        obtain ⟨j, hjt, htj, hj1, hj2⟩ := ca_sN (hv.2.resolve_left c_45)
        have ep : pls A z rl t = pst A z rl (j / 100) (j % 100 + 1 - j / 100) := by
          rw [pls, if_neg c_45, htj, ci_tn hjt]
        have ec : plc A t = fb_ct (ca_pt A) 64 := by
          rw [plc, if_neg c_45]
        refine cb_aload_n (pc := 48) O dX10_pullRoll_48 rfl ?_
        refine cb_getR (pc := 49) O fl_X10_60 rfl rfl dX10_pullRoll_49 (hC.1.1 _ rfl) (hC.1.2 _ _ _ rfl) ?_
        refine cb_cVp (pc := 52) O (c_X1_printingCells w A z hI hC) my_X1_printingCells mi_X1_printingCells mx_X1_printingCells ml_X10_169 dX10_pullRoll_52 rfl ct_1 rfl rfl rfl ⟨(Nat.le_of_ble_eq_true rfl), (Nat.le_of_ble_eq_true rfl)⟩ (Nat.le_of_ble_eq_true rfl) rfl ⟨(Nat.le_of_ble_eq_true rfl), (Nat.le_of_ble_eq_true rfl)⟩ (hC.1.1 _ rfl) ?_
        refine cb_istore_n (pc := 55) O dX10_pullRoll_55 (by decide) ?_
        dsimp only [List.set]
        refine cb_aload_n (pc := 56) O dX10_pullRoll_56 rfl ?_
        refine cb_iload_n (pc := 57) O dX10_pullRoll_57 rfl ?_
        refine cb_cSp (pc := 58) O (c_X10_firstOf _ _) my_X10_firstOf mt_X10_firstOf ml_X10_229 dX10_pullRoll_58 rfl rfl ⟨(Nat.le_of_ble_eq_true rfl), (Nat.le_of_ble_eq_true rfl)⟩ (Nat.le_of_ble_eq_true rfl) rfl ⟨(Nat.le_of_ble_eq_true rfl), (Nat.le_of_ble_eq_true rfl)⟩ ?_
        refine cb_topv (nI (j / 100)) (by rw [htj, ci_d100 hjt]) ?_
        refine cb_iload_n (pc := 61) O dX10_pullRoll_61 rfl ?_
        refine cb_cSp (pc := 62) O (c_X10_lastOf _ _) my_X10_lastOf mt_X10_lastOf ml_X10_232 dX10_pullRoll_62 rfl rfl ⟨(Nat.le_of_ble_eq_true rfl), (Nat.le_of_ble_eq_true rfl)⟩ (Nat.le_of_ble_eq_true rfl) rfl ⟨(Nat.le_of_ble_eq_true rfl), (Nat.le_of_ble_eq_true rfl)⟩ ?_
        refine cb_topv (nI (j % 100)) (by rw [htj, ci_r100 hjt]) ?_
        refine cb_cVi (pc := 65) O (c_X10_pullSheets w A z hI hC (j / 100) (j % 100) hj1 hj2 rl hrl hroll h17) my_X10_pullSheets mi_X10_pullSheets mx_X10_pullSheets ml_X10_310 dX10_pullRoll_65 rfl ct_10 rfl rfl rfl ⟨(Nat.le_of_ble_eq_true rfl), (Nat.le_of_ble_eq_true rfl)⟩ (Nat.le_of_ble_eq_true rfl) rfl ⟨(Nat.le_of_ble_eq_true rfl), (Nat.le_of_ble_eq_true rfl)⟩ (fun _ _ => rfl) (hC.1.1 _ rfl) (fun x_65 w_65 hp_65 => ?_)
        obtain ⟨rfl, hC9, hM9⟩ := hp_65
        rw [← ep] at hC9
        have hJ := J_70 hv h200 w_65 hC9 hM9
        rw [ec, ep] at hJ
        refine cb_istore (pc := 68) O dX10_pullRoll_68 (by decide) ?_
        dsimp only [List.set]
        first
        | (have e1 : pls A z rl t = (A, z, 0) := by rw [pls, if_pos c_45]
           have e2 : plc A t = 0 := by rw [plc, if_pos c_45]
           have hj := J_70 hv h200 w (by rw [e1]; exact hC) cb_M1.rfl'
           rw [e1, e2] at hj
           exact hj)
        | exact hJ
    · skip
      rw [show (200 : Int32) = nI 200 from rfl, nI_eq (by omega) (by omega)] at c_32
      refine cb_bipush (pc := 35) (v := (-2)) O dX10_pullRoll_35 (by decide) ?_
      exact cb_iret (pc := 37) O Rt rfl (Nat.le_of_ble_eq_true rfl) (Nat.le_of_ble_eq_true rfl) dX10_pullRoll_37 (by
        exact ⟨by rw [pr_x, if_pos hv, if_pos c_32], by rw [pr_A, pr_z, if_neg (fun h => h.2 c_32), if_neg (fun h => h.2 c_32)]; exact hC, cb_M1.rfl'⟩)
  refine cb_aload_n (pc := 0) O dX10_pullRoll_0 rfl ?_
  refine cb_getR (pc := 1) O fl_X10_60 rfl rfl dX10_pullRoll_1 (hC.1.1 _ rfl) (hC.1.2 _ _ _ rfl) ?_
  refine cb_cVp (pc := 4) O (c_X1_isTold w A z hI hC) my_X1_isTold mi_X1_isTold mx_X1_isTold ml_X10_85 dX10_pullRoll_4 rfl ct_1 rfl rfl rfl ⟨(Nat.le_of_ble_eq_true rfl), (Nat.le_of_ble_eq_true rfl)⟩ (Nat.le_of_ble_eq_true rfl) rfl ⟨(Nat.le_of_ble_eq_true rfl), (Nat.le_of_ble_eq_true rfl)⟩ (hC.1.1 _ rfl) ?_
  refine cb_ifp_eq (pc := 7) O 23 dX10_pullRoll_7 (by decide) (fun c_7 => ?_) (fun c_7 => ?_)
  · skip
    refine cb_iconst (pc := 23) (v := (-1)) O dX10_pullRoll_23 (by decide) ?_
    exact cb_iret (pc := 24) O Rt rfl (Nat.le_of_ble_eq_true rfl) (Nat.le_of_ble_eq_true rfl) dX10_pullRoll_24 (by
      have hv : ¬ sv_pl A t := fun h => by
        first
        | exact c_7 h.1
        | (rcases h.2 with h2 | h2
           · exact c_12 h2
           · exact c_20 h2)
      exact ⟨by rw [pr_x, if_neg hv], by rw [pr_A, pr_z, if_neg (fun h => hv h.1), if_neg (fun h => hv h.1)]; exact hC, cb_M1.rfl'⟩)
  · skip
    refine cb_iload_n (pc := 10) O dX10_pullRoll_10 rfl ?_
    refine cb_iconst (pc := 11) (v := (-1)) O dX10_pullRoll_11 (by decide) ?_
    refine cb_icmp_eq (pc := 12) O 25 dX10_pullRoll_12 (by decide) (fun c_12 => ?_) (fun c_12 => ?_)
    · skip
      exact J_25 ⟨c_7, by first | exact Or.inl c_12 | exact Or.inr c_20⟩
    · skip
      refine cb_aload_n (pc := 15) O dX10_pullRoll_15 rfl ?_
      refine cb_iload_n (pc := 16) O dX10_pullRoll_16 rfl ?_
      refine cb_cVp (pc := 17) O (c_X10_areSheets w A z hI hC t) my_X10_areSheets mi_X10_areSheets mx_X10_areSheets ml_X10_226 dX10_pullRoll_17 rfl ct_10 rfl rfl rfl ⟨(Nat.le_of_ble_eq_true rfl), (Nat.le_of_ble_eq_true rfl)⟩ (Nat.le_of_ble_eq_true rfl) rfl ⟨(Nat.le_of_ble_eq_true rfl), (Nat.le_of_ble_eq_true rfl)⟩ (hC.1.1 _ rfl) ?_
      refine cb_ifp_ne (pc := 20) O 25 dX10_pullRoll_20 (by decide) (fun c_20 => ?_) (fun c_20 => ?_)
      · skip
        exact J_25 ⟨c_7, by first | exact Or.inl c_12 | exact Or.inr c_20⟩
      · skip
        refine cb_iconst (pc := 23) (v := (-1)) O dX10_pullRoll_23 (by decide) ?_
        exact cb_iret (pc := 24) O Rt rfl (Nat.le_of_ble_eq_true rfl) (Nat.le_of_ble_eq_true rfl) dX10_pullRoll_24 (by
          have hv : ¬ sv_pl A t := fun h => by
            first
            | exact c_7 h.1
            | (rcases h.2 with h2 | h2
               · exact c_12 h2
               · exact c_20 h2)
          exact ⟨by rw [pr_x, if_neg hv], by rw [pr_A, pr_z, if_neg (fun h => hv h.1), if_neg (fun h => hv h.1)]; exact hC, cb_M1.rfl'⟩)

theorem cc_I.r5 {w w' : cb_W} {A : ca_A} {z : Int32} (hC : cc_I w A z) (hI : ca_I A) (h1 : w'.1 = w.1) (h2 : w'.2.2 = w.2.2) (h3 : ∀ r k, r ≠ 5 → w'.2.1 r k = w.2.1 r k) : cc_I w' A z ∧ cb_M1 w w' := by
  obtain ⟨hW, hB, hN, hK, hS, hE, hP, hL, l1, l2, l3⟩ := hC
  exact ⟨⟨by unfold cb_CW; rw [h1, h2]; exact hW, hB.cg (fun r k e => h3 r k (by omega)) (fun _ _ _ => rfl), hN.cg (fun r k e => h3 r k (by omega)) (fun _ _ _ => rfl), hK.cg (fun r k e => h3 r k (by omega)) (fun _ _ _ => rfl), hS.cg hI.1.2.2.2.1 (fun r _ _ => by rw [h1]) (fun r k _ => by rw [h2]) (fun r k g1 g2 => h3 r k (by omega)) (fun _ _ _ => rfl), hE.cg hI.1.2.2.2.2.1 (fun r _ _ => by rw [h1]) (fun k => by rw [h2]) (fun r k g1 g2 => h3 r k (by omega)) (fun _ _ _ => rfl), hP.cg (fun r k e => h3 r k (by omega)) (fun _ _ _ => rfl), hL.cg (fun r k e => h3 r k (by omega)) (fun _ _ _ => rfl), by rw [h1]; exact l1, by rw [h1]; exact l2, by rw [h1, h2]; exact l3⟩, fun r hr => ⟨by rw [h1], funext fun k => h3 r k (by omega), fun _ => by rw [h2]⟩⟩
theorem pull_eq {A : ca_A} {z t i : Int32} (h : 0 ≤ i ∧ i ≤ 9) : sr_pull A t i = pr_x A t ∧ sA_pull A z t i = pr_A A z (fun _ => i.toNatClampNeg) t i.toNatClampNeg ∧ sz_pull A z t i = pr_z A z (fun _ => i.toNatClampNeg) t := by
  refine ⟨?_, ?_, ?_⟩
  · unfold sr_pull pr_x
    exact ci_if ⟨fun x => x.2, fun x => ⟨h, x⟩⟩
  · unfold sA_pull pr_A
    exact ci_if ⟨fun x => ⟨x.1.2, x.2⟩, fun x => ⟨⟨h, x.1⟩, x.2⟩⟩
  · unfold sz_pull pr_z
    exact ci_if ⟨fun x => ⟨x.1.2, x.2⟩, fun x => ⟨⟨h, x.1⟩, x.2⟩⟩
theorem blend_eq {A : ca_A} {z t x : Int32} (h : (0 ≤ x ∧ x ≤ 999) ∧ ¬ x.toNatClampNeg / 100 = x.toNatClampNeg / 10 % 10 ∧ x.toNatClampNeg % 10 < A 0 1) : sr_blend A t x = pr_x A t ∧ sA_blend A z t x = pr_A A z (bl_rl A x.toNatClampNeg) t 10 ∧ sz_blend A z t x = pr_z A z (bl_rl A x.toNatClampNeg) t := by
  refine ⟨?_, ?_, ?_⟩
  · unfold sr_blend pr_x
    exact ci_if ⟨fun x => x.2, fun x => ⟨h, x⟩⟩
  · unfold sA_blend pr_A
    exact ci_if ⟨fun x => ⟨x.1.2, x.2⟩, fun x => ⟨⟨h, x.1⟩, x.2⟩⟩
  · unfold sz_blend pr_z
    exact ci_if ⟨fun x => ⟨x.1.2, x.2⟩, fun x => ⟨⟨h, x.1⟩, x.2⟩⟩
theorem ci_rl {j : Nat} (n : Nat) {k : Int32} (hk : k = nI n) (h : j < 2147483648) (h0 : 0 < n) (h1 : n < 2147483648) : nI j - nI j / k * k = nI (j % n) := by
  subst hk
  exact pk_rem h h0 h1
theorem k_pull (w : cb_W) (A : ca_A) (z : Int32) (hI : ca_I A) (hC : cc_I w A z) (t i : Int32) (h17 : ∀ i, A 17 i ≤ 200) : cb_Con yX10_pull cX10_pull 3 (some .int) 5 113 1 5 cb_kpub [.inr (some 0), .inl t, .inl i] w (cb_pi (fun x w' => x = sr_pull A t i ∧ cc_I w' (sA_pull A z t i) (sz_pull A z t i) ∧ cb_M1 w w')) := by
  refine cb_con (by decide) (Nat.le_of_ble_eq_true rfl) (fun κ O Rt hnm => ?_)
  show cb_X κ w 0 0 0 [some (.inr (some 0)), some (.inl t), some (.inl i)] []
  refine cb_iload_n (pc := 0) O dX10_pull_0 rfl ?_
  refine cb_cSp (pc := 1) O (c_X10_isInk _ _) my_X10_isInk mt_X10_isInk ml_X10_89 dX10_pull_1 rfl rfl ⟨(Nat.le_of_ble_eq_true rfl), (Nat.le_of_ble_eq_true rfl)⟩ (Nat.le_of_ble_eq_true rfl) rfl ⟨(Nat.le_of_ble_eq_true rfl), (Nat.le_of_ble_eq_true rfl)⟩ ?_
  refine cb_ifp_ne (pc := 4) O 9 dX10_pull_4 (by decide) (fun c_4 => ?_) (fun c_4 => ?_)
  · skip
    obtain ⟨e1, e2, e3⟩ := pull_eq (A := A) (z := z) (t := t) c_4
    obtain ⟨i, hi, rfl⟩ := ci_in (n := 9) c_4 rfl
    rw [ci_nz (by omega)] at e2 e3
    refine cb_aload_n (pc := 9) O dX10_pull_9 rfl ?_
    refine cb_getR (pc := 10) O fl_X10_35 rfl rfl dX10_pull_10 (hC.1.1 _ rfl) (hC.1.2 _ _ _ rfl) ?_
    refine cb_iload_n (pc := 13) O dX10_pull_13 rfl ?_
    refine cb_cSv (pc := 14) O (c_fill w 5 8 (nI i) rfl (hC.1.1 _ rfl) (by decide)) my_J7_fill_53178 mt_J7_fill_53178 ml_X10_190 dX10_pull_14 rfl rfl ⟨(Nat.le_of_ble_eq_true rfl), (Nat.le_of_ble_eq_true rfl)⟩ (Nat.le_of_ble_eq_true rfl) rfl ⟨(Nat.le_of_ble_eq_true rfl), (Nat.le_of_ble_eq_true rfl)⟩ (fun _ _ => rfl) (fun w_14 hp_14 => ?_)
    rw [hp_14]
    obtain ⟨hC5, hM5⟩ := cc_I.r5 (w' := cb_fl w 5 0 8 (nI i)) hC hI rfl rfl (fun r k h => if_neg (fun e => h e.1))
    refine cb_aload_n (pc := 17) O dX10_pull_17 rfl ?_
    refine cb_iload_n (pc := 18) O dX10_pull_18 rfl ?_
    refine cb_iload_n (pc := 19) O dX10_pull_19 rfl ?_
    refine cb_cVi (pc := 20) O (c_X10_pullRoll (cb_fl w 5 0 8 (nI i)) A z hI hC5 t i (fun _ => i) (fun _ => by omega) (fun c hc => if_pos ⟨rfl, by omega, hc⟩) h17) my_X10_pullRoll mi_X10_pullRoll mx_X10_pullRoll ml_X10_196 dX10_pull_20 rfl ct_10 rfl rfl rfl ⟨(Nat.le_of_ble_eq_true rfl), (Nat.le_of_ble_eq_true rfl)⟩ (Nat.le_of_ble_eq_true rfl) rfl ⟨(Nat.le_of_ble_eq_true rfl), (Nat.le_of_ble_eq_true rfl)⟩ (fun q h => by rw [← Rt.2.2]; exact h) (hC5.1.1 _ rfl) (fun x_20 w_20 hp_20 => ?_)
    obtain ⟨hx, hC9, hM9⟩ := hp_20
    exact cb_iret (pc := 23) O Rt rfl (Nat.le_of_ble_eq_true rfl) (Nat.le_of_ble_eq_true rfl) dX10_pull_23 (by
      rw [e1, e2, e3]
      exact ⟨hx, hC9, hM5.trans hM9⟩)
  · skip
    refine cb_iconst (pc := 7) (v := (-1)) O dX10_pull_7 (by decide) ?_
    exact cb_iret (pc := 8) O Rt rfl (Nat.le_of_ble_eq_true rfl) (Nat.le_of_ble_eq_true rfl) dX10_pull_8 (by
      have hv : ¬ sv_pull A t i := fun h => c_4 h.1
      exact ⟨by rw [sr_pull, if_neg hv], by rw [sA_pull, sz_pull, if_neg (fun h => hv h.1), if_neg (fun h => hv h.1)]; exact hC, cb_M1.rfl'⟩)

theorem k_blend (w : cb_W) (A : ca_A) (z : Int32) (hI : ca_I A) (hC : cc_I w A z) (t x : Int32) (h17 : ∀ i, A 17 i ≤ 200) : cb_Con yX10_blend cX10_blend 6 (some .int) 5 113 1 5 cb_kpub [.inr (some 0), .inl t, .inl x] w (cb_pi (fun y w' => y = sr_blend A t x ∧ cc_I w' (sA_blend A z t x) (sz_blend A z t x) ∧ cb_M1 w w')) := by
  have l := hI.1
  refine cb_con (by decide) (Nat.le_of_ble_eq_true rfl) (fun κ O Rt hnm => ?_)
  show cb_X κ w 0 0 0 [some (.inr (some 0)), some (.inl t), some (.inl x), none, none, none] []
  refine cb_iload_n (pc := 0) O dX10_blend_0 rfl ?_
  refine cb_iconst (pc := 1) (v := 0) O dX10_blend_1 (by decide) ?_
  refine cb_sipush (pc := 2) (v := 999) O dX10_blend_2 (by decide) ?_
  refine cb_cSp (pc := 5) O (c_X10_within _ _ _ _) my_X10_within mt_X10_within ml_X10_81 dX10_blend_5 rfl rfl ⟨(Nat.le_of_ble_eq_true rfl), (Nat.le_of_ble_eq_true rfl)⟩ (Nat.le_of_ble_eq_true rfl) rfl ⟨(Nat.le_of_ble_eq_true rfl), (Nat.le_of_ble_eq_true rfl)⟩ ?_
  refine cb_ifp_ne (pc := 8) O 13 dX10_blend_8 (by decide) (fun c_8 => ?_) (fun c_8 => ?_)
  · skip
    have hx0 := c_8
    obtain ⟨x, hx, rfl⟩ := ci_in (n := 999) c_8 rfl
    refine cb_iload_n (pc := 13) O dX10_blend_13 rfl ?_
    refine cb_bipush (pc := 14) (v := 100) O dX10_blend_14 (by decide) ?_
    refine cb_idiv (pc := 16) O dX10_blend_16 (by decide) ?_
    refine cb_topv (nI (x / 100)) (ci_d100 (by omega)) ?_
    refine cb_istore_n (pc := 17) O dX10_blend_17 (by decide) ?_
    dsimp only [List.set]
    refine cb_iload_n (pc := 18) O dX10_blend_18 rfl ?_
    refine cb_bipush (pc := 19) (v := 10) O dX10_blend_19 (by decide) ?_
    refine cb_idiv (pc := 21) O dX10_blend_21 (by decide) ?_
    refine cb_topv (nI (x / 10)) (ci_dl 10 rfl (by omega) (by omega) (by omega)) ?_
    refine cb_bipush (pc := 22) (v := 10) O dX10_blend_22 (by decide) ?_
    refine cb_irem (pc := 24) O dX10_blend_24 (by decide) ?_
    refine cb_topv (nI (x / 10 % 10)) (ci_rl 10 rfl (by omega) (by omega) (by omega)) ?_
    refine cb_istore (pc := 25) O dX10_blend_25 (by decide) ?_
    dsimp only [List.set]
    refine cb_iload_n (pc := 27) O dX10_blend_27 rfl ?_
    refine cb_bipush (pc := 28) (v := 10) O dX10_blend_28 (by decide) ?_
    refine cb_irem (pc := 30) O dX10_blend_30 (by decide) ?_
    refine cb_topv (nI (x % 10)) (ci_rl 10 rfl (by omega) (by omega) (by omega)) ?_
    refine cb_istore (pc := 31) O dX10_blend_31 (by decide) ?_
    dsimp only [List.set]
    refine cb_iload_n (pc := 33) O dX10_blend_33 rfl ?_
    refine cb_iload (pc := 34) O dX10_blend_34 rfl ?_
    refine cb_icmp_eq (pc := 36) O 51 dX10_blend_36 (by decide) (fun c_36 => ?_) (fun c_36 => ?_)
    · skip
      rw [nI_eq (by omega) (by omega)] at c_36
      refine cb_iconst (pc := 51) (v := (-1)) O dX10_blend_51 (by decide) ?_
      exact cb_iret (pc := 52) O Rt rfl (Nat.le_of_ble_eq_true rfl) (Nat.le_of_ble_eq_true rfl) dX10_blend_52 (by
        have hv : ¬ sv_blend A t (nI x) := fun h => by
          have hv := h.1
          rw [ci_nz (by omega)] at hv
          first | exact hv.2.1 c_36 | exact c_48 hv.2.2
        exact ⟨by rw [sr_blend, if_neg hv], by rw [sA_blend, sz_blend, if_neg (fun h => hv h.1), if_neg (fun h => hv h.1)]; exact hC, cb_M1.rfl'⟩)
    · skip
      rw [nI_eq (by omega) (by omega)] at c_36
      refine cb_iload (pc := 39) O dX10_blend_39 rfl ?_
      refine cb_aload_n (pc := 41) O dX10_blend_41 rfl ?_
      refine cb_getR (pc := 42) O fl_X10_60 rfl rfl dX10_blend_42 (hC.1.1 _ rfl) (hC.1.2 _ _ _ rfl) ?_
      refine cb_getI (pc := 45) O fl_X10_128 rfl rfl dX10_blend_45 (hC.1.1 _ rfl) ?_
      refine cb_topv (nI (A 0 1)) hC.2.1.1.2.1 ?_
      refine cb_icmp_lt (pc := 48) O 53 dX10_blend_48 (by decide) (fun c_48 => ?_) (fun c_48 => ?_)
      · skip
        rw [nI_ltI (by omega) (by omega)] at c_48
        have hb := ci_nz (n := x) (by omega)
        obtain ⟨e1, e2, e3⟩ := blend_eq (A := A) (z := z) (t := t) (x := nI x) ⟨hx0, by rw [hb]; exact c_36, by rw [hb]; exact c_48⟩
        rw [hb] at e2 e3
        refine cb_aload_n (pc := 53) O dX10_blend_53 rfl ?_
        refine cb_getR (pc := 54) O fl_X10_35 rfl rfl dX10_blend_54 (hC.1.1 _ rfl) (hC.1.2 _ _ _ rfl) ?_
        refine cb_iconst (pc := 57) (v := 0) O dX10_blend_57 (by decide) ?_
        refine cb_iload (pc := 58) O dX10_blend_58 rfl ?_
        refine cb_iload_n (pc := 60) O dX10_blend_60 rfl ?_
        refine cb_cSv (pc := 61) O (c_fill4 w 5 8 0 (x % 10) (nI (x / 100)) rfl (hC.1.1 _ rfl) (by decide) (by omega) (by omega)) my_J7_fill_fda19 mt_J7_fill_fda19 ml_X10_200 dX10_blend_61 rfl rfl ⟨(Nat.le_of_ble_eq_true rfl), (Nat.le_of_ble_eq_true rfl)⟩ (Nat.le_of_ble_eq_true rfl) rfl ⟨(Nat.le_of_ble_eq_true rfl), (Nat.le_of_ble_eq_true rfl)⟩ (fun _ _ => rfl) (fun w_61 hp_61 => ?_)
        rw [hp_61]
        refine cb_aload_n (pc := 64) O dX10_blend_64 rfl ?_
        refine cb_getR (pc := 65) O fl_X10_35 rfl rfl dX10_blend_65 (hC.1.1 _ rfl) (hC.1.2 _ _ _ rfl) ?_
        refine cb_iload (pc := 68) O dX10_blend_68 rfl ?_
        refine cb_aload_n (pc := 70) O dX10_blend_70 rfl ?_
        refine cb_getR (pc := 71) O fl_X10_12 rfl rfl dX10_blend_71 (hC.1.1 _ rfl) (hC.1.2 _ _ _ rfl) ?_
        refine cb_getR (pc := 74) O fl_X10_110 rfl rfl dX10_blend_74 (hC.1.1 _ rfl) (hC.1.2 _ _ _ rfl) ?_
        refine cb_iload_n (pc := 77) O dX10_blend_77 rfl ?_
        refine cb_aald (pc := 78) O (x / 100) rfl (by decide) (by decide) dX10_blend_78 (by decide) (hC.1.1 _ rfl) rfl (by omega) (hC.1.2 11 (x / 100) (120 + x / 100) (by simp [cc_Rf]; omega)) ?_
        refine cb_iload (pc := 79) O dX10_blend_79 rfl ?_
        refine cb_iald (pc := 81) O (x / 10 % 10) (sh_mx (by omega)) dX10_blend_81 (by decide) (hC.1.1 _ (lv_f (by omega))) rfl (by omega) ?_
        refine cb_topv (nI (A 6 (10 * (x / 100) + x / 10 % 10))) (by
          show (if 120 + x / 100 = 5 ∧ _ then _ else w.2.1 (120 + x / 100) (x / 10 % 10)) = _
          rw [if_neg (fun e => by have := e.1; omega)]
          exact hC.2.2.2.1.2.2.2 _ _ (by omega) (by omega)) ?_
        refine cb_iast (pc := 82) O (x % 10) rfl dX10_blend_82 (by decide) (hC.1.1 _ rfl) rfl (by omega) ?_
        refine cb_aload_n (pc := 83) O dX10_blend_83 rfl ?_
        refine cb_getR (pc := 84) O fl_X10_35 rfl rfl dX10_blend_84 (hC.1.1 _ rfl) (hC.1.2 _ _ _ rfl) ?_
        refine cb_iload (pc := 87) O dX10_blend_87 rfl ?_
        refine cb_iconst (pc := 89) (v := 1) O dX10_blend_89 (by decide) ?_
        refine cb_iadd (pc := 90) O dX10_blend_90 ?_
        refine cb_topv (nI (x % 10 + 1)) (nI_add _ _) ?_
        refine cb_bipush (pc := 91) (v := 8) O dX10_blend_91 (by decide) ?_
        refine cb_iload (pc := 93) O dX10_blend_93 rfl ?_
        refine cb_cSv (pc := 95) O (c_fill4 (cb_um (cb_fl w 5 0 (x % 10) (nI (x / 100))) 5 (x % 10) (nI (A 6 (10 * (x / 100) + x / 10 % 10)))) 5 8 (x % 10 + 1) 8 (nI (x / 10 % 10)) rfl (hC.1.1 _ rfl) (by decide) (by omega) (by omega)) my_J7_fill_fda19 mt_J7_fill_fda19 ml_X10_200 dX10_blend_95 rfl rfl ⟨(Nat.le_of_ble_eq_true rfl), (Nat.le_of_ble_eq_true rfl)⟩ (Nat.le_of_ble_eq_true rfl) rfl ⟨(Nat.le_of_ble_eq_true rfl), (Nat.le_of_ble_eq_true rfl)⟩ (fun _ _ => rfl) (fun w_95 hp_95 => ?_)
        rw [hp_95]
        obtain ⟨hC5, hM5⟩ := cc_I.r5 (w' := (cb_fl (cb_um (cb_fl w 5 0 (x % 10) (nI (x / 100))) 5 (x % 10) (nI (A 6 (10 * (x / 100) + x / 10 % 10)))) 5 (x % 10 + 1) 8 (nI (x / 10 % 10)))) hC hI rfl rfl (fun r k h => by
          show (if r = 5 ∧ _ then _ else cb_u2 (cb_fl w 5 0 (x % 10) (nI (x / 100))).2.1 5 (x % 10) _ r k) = _
          rw [if_neg (fun e => h e.1), cb_u2n (Or.inl h)]
          exact if_neg (fun e => h e.1))
        refine cb_aload_n (pc := 98) O dX10_blend_98 rfl ?_
        refine cb_iload_n (pc := 99) O dX10_blend_99 rfl ?_
        refine cb_bipush (pc := 100) (v := 10) O dX10_blend_100 (by decide) ?_
        refine cb_cVi (pc := 102) O (c_X10_pullRoll (cb_fl (cb_um (cb_fl w 5 0 (x % 10) (nI (x / 100))) 5 (x % 10) (nI (A 6 (10 * (x / 100) + x / 10 % 10)))) 5 (x % 10 + 1) 8 (nI (x / 10 % 10))) A z hI hC5 t 10 (bl_rl A x) (fun c => bl_10 hI x c) (fun c hc => by
            show (if 5 = 5 ∧ x % 10 + 1 ≤ c ∧ c < 8 then nI (x / 10 % 10) else cb_u2 (cb_fl w 5 0 (x % 10) (nI (x / 100))).2.1 5 (x % 10) (nI (A 6 (10 * (x / 100) + x / 10 % 10))) 5 c) = nI (bl_rl A x c)
            unfold bl_rl
            rcases Nat.lt_trichotomy c (x % 10) with e | e | e
            · rw [if_neg (by omega), cb_u2n (by omega), if_pos e]
              show (if 5 = 5 ∧ 0 ≤ c ∧ c < x % 10 then nI (x / 100) else _) = _
              rw [if_pos ⟨rfl, by omega, e⟩]
              congr 1
              omega
            · rw [if_neg (by omega), e, cb_u2s, if_neg (by omega), if_neg (by omega)]
            · rw [if_pos ⟨rfl, by omega, hc⟩, if_neg (by omega), if_pos e]) h17) my_X10_pullRoll mi_X10_pullRoll mx_X10_pullRoll ml_X10_196 dX10_blend_102 rfl ct_10 rfl rfl rfl ⟨(Nat.le_of_ble_eq_true rfl), (Nat.le_of_ble_eq_true rfl)⟩ (Nat.le_of_ble_eq_true rfl) rfl ⟨(Nat.le_of_ble_eq_true rfl), (Nat.le_of_ble_eq_true rfl)⟩ (fun q h => by rw [← Rt.2.2]; exact h) (hC5.1.1 _ rfl) (fun x_102 w_102 hp_102 => ?_)
        obtain ⟨hx9, hC9, hM9⟩ := hp_102
        exact cb_iret (pc := 105) O Rt rfl (Nat.le_of_ble_eq_true rfl) (Nat.le_of_ble_eq_true rfl) dX10_blend_105 (by
          rw [e1, e2, e3]
          exact ⟨hx9, hC9, hM5.trans hM9⟩)
      · skip
        rw [nI_ltI (by omega) (by omega)] at c_48
        refine cb_iconst (pc := 51) (v := (-1)) O dX10_blend_51 (by decide) ?_
        exact cb_iret (pc := 52) O Rt rfl (Nat.le_of_ble_eq_true rfl) (Nat.le_of_ble_eq_true rfl) dX10_blend_52 (by
          have hv : ¬ sv_blend A t (nI x) := fun h => by
            have hv := h.1
            rw [ci_nz (by omega)] at hv
            first | exact hv.2.1 c_36 | exact c_48 hv.2.2
          exact ⟨by rw [sr_blend, if_neg hv], by rw [sA_blend, sz_blend, if_neg (fun h => hv h.1), if_neg (fun h => hv h.1)]; exact hC, cb_M1.rfl'⟩)
  · skip
    refine cb_iconst (pc := 11) (v := (-1)) O dX10_blend_11 (by decide) ?_
    exact cb_iret (pc := 12) O Rt rfl (Nat.le_of_ble_eq_true rfl) (Nat.le_of_ble_eq_true rfl) dX10_blend_12 (by
      have hv : ¬ sv_blend A t x := fun h => by
        have hv := h.1
        exact c_8 hv.1
      exact ⟨by rw [sr_blend, if_neg hv], by rw [sA_blend, sz_blend, if_neg (fun h => hv h.1), if_neg (fun h => hv h.1)]; exact hC, cb_M1.rfl'⟩)

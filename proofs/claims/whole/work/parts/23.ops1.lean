theorem c_X10_replace (w : cb_W) (r n j : Nat) (v : Int32) (hs : cb_sh r = (1, n)) (hr : w.1 r = true) (hj : j < n) (hn : n ≤ 10000) : cb_Con yX10_replace cX10_replace 4 (some .int) 0 0 0 0 (fun _ => true) [.inr (some r), .inl (nI j), .inl v] w (cb_pi (fun x w' => x = w.2.1 r j ∧ w' = cb_um w r j v)) := by
  refine cb_con (by decide) (Nat.le_of_ble_eq_true rfl) (fun κ O Rt hnm => ?_)
  show cb_X κ w 0 0 0 [some (.inr (some r)), some (.inl (nI j)), some (.inl v), none] []
  refine cb_aload_n (pc := 0) O dX10_replace_0 rfl ?_
  refine cb_iload_n (pc := 1) O dX10_replace_1 rfl ?_
  refine cb_iald (pc := 2) O _ hs dX10_replace_2 (by omega) hr rfl hj ?_
  refine cb_istore_n (pc := 3) O dX10_replace_3 (by decide) ?_
  dsimp only [List.set]
  refine cb_aload_n (pc := 4) O dX10_replace_4 rfl ?_
  refine cb_iload_n (pc := 5) O dX10_replace_5 rfl ?_
  refine cb_iload_n (pc := 6) O dX10_replace_6 rfl ?_
  refine cb_iast (pc := 7) O _ hs dX10_replace_7 (by omega) hr rfl hj ?_
  refine cb_iload_n (pc := 8) O dX10_replace_8 rfl ?_
  exact cb_iret (pc := 9) O Rt rfl (Nat.le_of_ble_eq_true rfl) (Nat.le_of_ble_eq_true rfl) dX10_replace_9 ⟨rfl, rfl⟩

abbrev sv_table (i c m : Int32) : Prop := (0 ≤ i ∧ i ≤ 9) ∧ (0 ≤ c ∧ c ≤ 15) ∧ (0 ≤ m ∧ m ≤ 15)
def sr_table (A : ca_A) (i c m : Int32) : Int32 := if sv_table i c m then nI (A 3 (16 * i.toNatClampNeg + c.toNatClampNeg)) else -1
def sA_table (A : ca_A) (i c m : Int32) : ca_A := if sv_table i c m then cb_u2 A 3 (16 * i.toNatClampNeg + c.toNatClampNeg) m.toNatClampNeg else A
abbrev sv_drying (i m : Int32) : Prop := (0 ≤ i ∧ i ≤ 9) ∧ (0 ≤ m ∧ m ≤ 999)
def sr_drying (A : ca_A) (i m : Int32) : Int32 := if sv_drying i m then nI (A 4 i.toNatClampNeg) else -1
def sA_drying (A : ca_A) (i m : Int32) : ca_A := if sv_drying i m then cb_u2 A 4 i.toNatClampNeg m.toNatClampNeg else A
abbrev sv_against (i j m : Int32) : Prop := (0 ≤ i ∧ i ≤ 9) ∧ (0 ≤ j ∧ j ≤ 9) ∧ (0 ≤ m ∧ m ≤ 1)
def sr_against (A : ca_A) (i j m : Int32) : Int32 := if sv_against i j m then nI (A 5 (10 * i.toNatClampNeg + j.toNatClampNeg)) else -1
def sA_against (A : ca_A) (i j m : Int32) : ca_A := if sv_against i j m then cb_u2 A 5 (10 * i.toNatClampNeg + j.toNatClampNeg) m.toNatClampNeg else A
abbrev sv_mixed (p q m : Int32) : Prop := (0 ≤ p ∧ p ≤ 9) ∧ (0 ≤ q ∧ q ≤ 9) ∧ p ≠ q ∧ (0 ≤ m ∧ m ≤ 9)
def sr_mixed (A : ca_A) (p q m : Int32) : Int32 := if sv_mixed p q m then nI (A 6 (10 * p.toNatClampNeg + q.toNatClampNeg)) else -1
def sA_mixed (A : ca_A) (p q m : Int32) : ca_A := if sv_mixed p q m then cb_u2 (cb_u2 A 6 (10 * p.toNatClampNeg + q.toNatClampNeg) m.toNatClampNeg) 6 (10 * q.toNatClampNeg + p.toNatClampNeg) m.toNatClampNeg else A
theorem ci_m16 (i c : Nat) : (16 : Int32) * nI i + nI c = nI (16 * i + c) := by rw [show (16 : Int32) = nI 16 from rfl, pk_mul, nI_add]
theorem ci_m10 (i c : Nat) : (10 : Int32) * nI i + nI c = nI (10 * i + c) := by rw [show (10 : Int32) = nI 10 from rfl, pk_mul, nI_add]
theorem k_table (w : cb_W) (A : ca_A) (z : Int32) (hI : ca_I A) (hC : cc_I w A z) (i c m : Int32) : cb_Con yX10_table cX10_table 4 (some .int) 2 42 0 0 (fun _ => true) [.inr (some 0), .inl i, .inl c, .inl m] w (cb_pi (fun x w' => x = sr_table A i c m ∧ cc_I w' (sA_table A i c m) z ∧ cb_M1 w w')) := by
  refine cb_con (by decide) (Nat.le_of_ble_eq_true rfl) (fun κ O Rt hnm => ?_)
  show cb_X κ w 0 0 0 [some (.inr (some 0)), some (.inl i), some (.inl c), some (.inl m)] []
  refine cb_iload_n (pc := 0) O dX10_table_0 rfl ?_
  refine cb_cSp (pc := 1) O (c_X10_isInk _ _) my_X10_isInk mt_X10_isInk ml_X10_89 dX10_table_1 rfl rfl ⟨(Nat.le_of_ble_eq_true rfl), (Nat.le_of_ble_eq_true rfl)⟩ (Nat.le_of_ble_eq_true rfl) rfl ⟨(Nat.le_of_ble_eq_true rfl), (Nat.le_of_ble_eq_true rfl)⟩ ?_
  refine cb_ifp_eq (pc := 4) O 21 dX10_table_4 (by decide) (fun c_4 => ?_) (fun c_4 => ?_)
  · skip
    refine cb_iconst (pc := 21) (v := (-1)) O dX10_table_21 (by decide) ?_
    exact cb_iret (pc := 22) O Rt rfl (Nat.le_of_ble_eq_true rfl) (Nat.le_of_ble_eq_true rfl) dX10_table_22 (by
      have hv : ¬ sv_table i c m := by simp only [sv_table]; simp [*]
      exact ⟨by rw [sr_table, if_neg hv], by rw [sA_table, if_neg hv]; exact hC, cb_M1.rfl'⟩)
  · skip
    refine cb_iload_n (pc := 7) O dX10_table_7 rfl ?_
    refine cb_cSp (pc := 8) O (c_X10_isColour _ _) my_X10_isColour mt_X10_isColour ml_X10_93 dX10_table_8 rfl rfl ⟨(Nat.le_of_ble_eq_true rfl), (Nat.le_of_ble_eq_true rfl)⟩ (Nat.le_of_ble_eq_true rfl) rfl ⟨(Nat.le_of_ble_eq_true rfl), (Nat.le_of_ble_eq_true rfl)⟩ ?_
    refine cb_ifp_eq (pc := 11) O 21 dX10_table_11 (by decide) (fun c_11 => ?_) (fun c_11 => ?_)
    · skip
      refine cb_iconst (pc := 21) (v := (-1)) O dX10_table_21 (by decide) ?_
      exact cb_iret (pc := 22) O Rt rfl (Nat.le_of_ble_eq_true rfl) (Nat.le_of_ble_eq_true rfl) dX10_table_22 (by
        have hv : ¬ sv_table i c m := by simp only [sv_table]; simp [*]
        exact ⟨by rw [sr_table, if_neg hv], by rw [sA_table, if_neg hv]; exact hC, cb_M1.rfl'⟩)
    · skip
      refine cb_iload_n (pc := 14) O dX10_table_14 rfl ?_
      refine cb_cSp (pc := 15) O (c_X10_isColour _ _) my_X10_isColour mt_X10_isColour ml_X10_93 dX10_table_15 rfl rfl ⟨(Nat.le_of_ble_eq_true rfl), (Nat.le_of_ble_eq_true rfl)⟩ (Nat.le_of_ble_eq_true rfl) rfl ⟨(Nat.le_of_ble_eq_true rfl), (Nat.le_of_ble_eq_true rfl)⟩ ?_
      refine cb_ifp_ne (pc := 18) O 23 dX10_table_18 (by decide) (fun c_18 => ?_) (fun c_18 => ?_)
      · skip
        have hv : sv_table i c m := ⟨c_4, c_11, c_18⟩
        obtain ⟨i, hi, rfl⟩ := ci_in (n := 9) c_4 rfl
        obtain ⟨c, hc, rfl⟩ := ci_in (n := 15) c_11 rfl
        obtain ⟨m, hm, rfl⟩ := ci_in (n := 15) c_18 rfl
        refine cb_aload_n (pc := 23) O dX10_table_23 rfl ?_
        refine cb_getR (pc := 24) O fl_X10_12 rfl rfl dX10_table_24 (hC.1.1 _ rfl) (hC.1.2 _ _ _ rfl) ?_
        refine cb_getR (pc := 27) O fl_X10_96 rfl rfl dX10_table_27 (hC.1.1 _ rfl) (hC.1.2 _ _ _ rfl) ?_
        refine cb_iload_n (pc := 30) O dX10_table_30 rfl ?_
        refine cb_aald (pc := 31) O i rfl (by decide) (by decide) dX10_table_31 (by decide) (hC.1.1 _ rfl) rfl (by omega) (hC.1.2 8 i (100 + i) (by simp [cc_Rf]; omega)) ?_
        refine cb_iload_n (pc := 32) O dX10_table_32 rfl ?_
        refine cb_iload_n (pc := 33) O dX10_table_33 rfl ?_
        refine cb_cSi (pc := 34) O (c_X10_replace w (100 + i) 16 c (nI m) (sh_mk (by omega)) (hC.1.1 _ (lv_f (by omega))) (by omega) (by decide)) my_X10_replace mt_X10_replace ml_X10_100 dX10_table_34 rfl rfl ⟨(Nat.le_of_ble_eq_true rfl), (Nat.le_of_ble_eq_true rfl)⟩ (Nat.le_of_ble_eq_true rfl) rfl ⟨(Nat.le_of_ble_eq_true rfl), (Nat.le_of_ble_eq_true rfl)⟩ (fun _ _ => rfl) (fun x_34 w_34 hp_34 => ?_)
        obtain ⟨rfl, rfl⟩ := hp_34
        exact cb_iret (pc := 37) O Rt rfl (Nat.le_of_ble_eq_true rfl) (Nat.le_of_ble_eq_true rfl) dX10_table_37 (by
          refine ⟨?_, ?_, cb_M1.rfl'.um (by omega)⟩
          · rw [sr_table, if_pos hv, ci_nz (by omega), ci_nz (by omega)]
            exact hC.2.2.2.1.1 i c (by omega) (by omega)
          · rw [sA_table, if_pos hv, ci_nz (by omega), ci_nz (by omega), ci_nz (by omega)]
            refine ⟨hC.1, hC.2.1.cg (fun r k h => by first | rfl | (simp only [cb_um, cb_ur]; repeat rw [cb_u2n (by omega)])) (fun k i h => by first | rfl | (repeat rw [cb_u2n (by omega)])), hC.2.2.1.cg (fun r k h => by first | rfl | (simp only [cb_um, cb_ur]; repeat rw [cb_u2n (by omega)])) (fun k i h => by first | rfl | (repeat rw [cb_u2n (by omega)])), ?_, hC.2.2.2.2.1.cg hI.1.2.2.2.1 (fun r h1 h2 => rfl) (fun r k h => by first | rfl | (simp only [cb_um, cb_ur]; repeat rw [cb_u2n (by omega)])) (fun r k h1 h2 => by first | rfl | (simp only [cb_um, cb_ur]; repeat rw [cb_u2n (by omega)])) (fun k i h => by first | rfl | (repeat rw [cb_u2n (by omega)])), hC.2.2.2.2.2.1.cg hI.1.2.2.2.2.1 (fun r h1 h2 => rfl) (fun k => by first | rfl | (simp only [cb_ur]; repeat rw [cb_u2n (by omega)])) (fun r k h1 h2 => by first | rfl | (simp only [cb_um, cb_ur]; repeat rw [cb_u2n (by omega)])) (fun k i h => by first | rfl | (repeat rw [cb_u2n (by omega)])), hC.2.2.2.2.2.2.1.cg (fun r k h => by first | rfl | (simp only [cb_um, cb_ur]; repeat rw [cb_u2n (by omega)])) (fun k i h => by first | rfl | (repeat rw [cb_u2n (by omega)])), hC.2.2.2.2.2.2.2.1.cg (fun r k h => by first | rfl | (simp only [cb_um, cb_ur]; repeat rw [cb_u2n (by omega)])) (fun k i h => by first | rfl | (repeat rw [cb_u2n (by omega)])), hC.2.2.2.2.2.2.2.2.1, hC.2.2.2.2.2.2.2.2.2⟩
            obtain ⟨d1, d2, d3, d4⟩ := hC.2.2.2.1
            refine ⟨fun i2 c2 h1 h2 => ?_, fun i2 h1 => ?_, fun i2 c2 h1 h2 => ?_, fun i2 c2 h1 h2 => ?_⟩
            · by_cases e : i2 = i ∧ c2 = c
              · obtain ⟨rfl, rfl⟩ := e
                simp only [cb_um]
                rw [cb_u2s, cb_u2s]
              · simp only [cb_um]
                rw [cb_u2n (by omega), cb_u2n (by omega)]
                exact d1 i2 c2 h1 h2
            · simp only [cb_um]
              rw [cb_u2n (by omega), cb_u2n (by omega)]
              exact d2 i2 h1
            · simp only [cb_um]
              rw [cb_u2n (by omega), cb_u2n (by omega)]
              exact d3 i2 c2 h1 h2
            · simp only [cb_um]
              rw [cb_u2n (by omega), cb_u2n (by omega)]
              exact d4 i2 c2 h1 h2)
      · skip
        refine cb_iconst (pc := 21) (v := (-1)) O dX10_table_21 (by decide) ?_
        exact cb_iret (pc := 22) O Rt rfl (Nat.le_of_ble_eq_true rfl) (Nat.le_of_ble_eq_true rfl) dX10_table_22 (by
          have hv : ¬ sv_table i c m := by simp only [sv_table]; simp [*]
          exact ⟨by rw [sr_table, if_neg hv], by rw [sA_table, if_neg hv]; exact hC, cb_M1.rfl'⟩)

theorem m_table (w : cb_W) (A : ca_A) (z : Int32) (hI : ca_I A) (hM : cm_I w A z) (i c m : Int32) : cb_Con yX11_table cX11_table 5 (some .int) 2 42 0 0 (fun _ => true) [.inr (some 1000), .inl i, .inl c, .inl m] w (cb_pi (fun x w' => x = sr_table A i c m ∧ cm_I w' (sA_table A i c m) z ∧ cb_C1 w w')) := by
  refine cb_con (by decide) (Nat.le_of_ble_eq_true rfl) (fun κ O Rt hnm => ?_)
  show cb_X κ w 0 0 0 [some (.inr (some 1000)), some (.inl i), some (.inl c), some (.inl m), none] []
  refine cb_iload_n (pc := 0) O dX11_table_0 rfl ?_
  refine cb_cSp (pc := 1) O (c_X11_isInk _ _) my_X11_isInk mt_X11_isInk ml_X11_103 dX11_table_1 rfl rfl ⟨(Nat.le_of_ble_eq_true rfl), (Nat.le_of_ble_eq_true rfl)⟩ (Nat.le_of_ble_eq_true rfl) rfl ⟨(Nat.le_of_ble_eq_true rfl), (Nat.le_of_ble_eq_true rfl)⟩ ?_
  refine cb_ifp_eq (pc := 4) O 21 dX11_table_4 (by decide) (fun c_4 => ?_) (fun c_4 => ?_)
  · skip
    refine cb_iconst (pc := 21) (v := (-1)) O dX11_table_21 (by decide) ?_
    exact cb_iret (pc := 22) O Rt rfl (Nat.le_of_ble_eq_true rfl) (Nat.le_of_ble_eq_true rfl) dX11_table_22 (by
      have hv : ¬ sv_table i c m := by simp only [sv_table]; simp [*]
      exact ⟨by rw [sr_table, if_neg hv], by rw [sA_table, if_neg hv]; exact hM, cb_C1.rfl'⟩)
  · skip
    refine cb_iload_n (pc := 7) O dX11_table_7 rfl ?_
    refine cb_cSp (pc := 8) O (c_X11_isColour _ _) my_X11_isColour mt_X11_isColour ml_X11_107 dX11_table_8 rfl rfl ⟨(Nat.le_of_ble_eq_true rfl), (Nat.le_of_ble_eq_true rfl)⟩ (Nat.le_of_ble_eq_true rfl) rfl ⟨(Nat.le_of_ble_eq_true rfl), (Nat.le_of_ble_eq_true rfl)⟩ ?_
    refine cb_ifp_eq (pc := 11) O 21 dX11_table_11 (by decide) (fun c_11 => ?_) (fun c_11 => ?_)
    · skip
      refine cb_iconst (pc := 21) (v := (-1)) O dX11_table_21 (by decide) ?_
      exact cb_iret (pc := 22) O Rt rfl (Nat.le_of_ble_eq_true rfl) (Nat.le_of_ble_eq_true rfl) dX11_table_22 (by
        have hv : ¬ sv_table i c m := by simp only [sv_table]; simp [*]
        exact ⟨by rw [sr_table, if_neg hv], by rw [sA_table, if_neg hv]; exact hM, cb_C1.rfl'⟩)
    · skip
      refine cb_iload_n (pc := 14) O dX11_table_14 rfl ?_
      refine cb_cSp (pc := 15) O (c_X11_isColour _ _) my_X11_isColour mt_X11_isColour ml_X11_107 dX11_table_15 rfl rfl ⟨(Nat.le_of_ble_eq_true rfl), (Nat.le_of_ble_eq_true rfl)⟩ (Nat.le_of_ble_eq_true rfl) rfl ⟨(Nat.le_of_ble_eq_true rfl), (Nat.le_of_ble_eq_true rfl)⟩ ?_
      refine cb_ifp_ne (pc := 18) O 23 dX11_table_18 (by decide) (fun c_18 => ?_) (fun c_18 => ?_)
      · skip
        have hv : sv_table i c m := ⟨c_4, c_11, c_18⟩
        obtain ⟨i, hi, rfl⟩ := ci_in (n := 9) c_4 rfl
        obtain ⟨c, hc, rfl⟩ := ci_in (n := 15) c_11 rfl
        obtain ⟨m, hm, rfl⟩ := ci_in (n := 15) c_18 rfl
        refine cb_aload_n (pc := 23) O dX11_table_23 rfl ?_
        refine cb_getR (pc := 24) O fl_X11_9 rfl rfl dX11_table_24 (hM.1.1 _ rfl) (hM.1.2 _ _ _ rfl) ?_
        refine cb_bipush (pc := 27) (v := 16) O dX11_table_27 (by decide) ?_
        refine cb_iload_n (pc := 29) O dX11_table_29 rfl ?_
        refine cb_imul (pc := 30) O dX11_table_30 ?_
        refine cb_iload_n (pc := 31) O dX11_table_31 rfl ?_
        refine cb_iadd (pc := 32) O dX11_table_32 ?_
        refine cb_iald (pc := 33) O (16 * i + c) rfl dX11_table_33 (by decide) (hM.1.1 _ rfl) (ci_m16 i c) (by omega) ?_
        refine cb_istore (pc := 34) O dX11_table_34 (by decide) ?_
        dsimp only [List.set]
        refine cb_aload_n (pc := 36) O dX11_table_36 rfl ?_
        refine cb_getR (pc := 37) O fl_X11_9 rfl rfl dX11_table_37 (hM.1.1 _ rfl) (hM.1.2 _ _ _ rfl) ?_
        refine cb_bipush (pc := 40) (v := 16) O dX11_table_40 (by decide) ?_
        refine cb_iload_n (pc := 42) O dX11_table_42 rfl ?_
        refine cb_imul (pc := 43) O dX11_table_43 ?_
        refine cb_iload_n (pc := 44) O dX11_table_44 rfl ?_
        refine cb_iadd (pc := 45) O dX11_table_45 ?_
        refine cb_iload_n (pc := 46) O dX11_table_46 rfl ?_
        refine cb_iast (pc := 47) O (16 * i + c) rfl dX11_table_47 (by decide) (hM.1.1 _ rfl) (ci_m16 i c) (by omega) ?_
        refine cb_iload (pc := 48) O dX11_table_48 rfl ?_
        exact cb_iret (pc := 50) O Rt rfl (Nat.le_of_ble_eq_true rfl) (Nat.le_of_ble_eq_true rfl) dX11_table_50 (by
          refine ⟨?_, ?_, cb_C1.rfl'.um (by omega)⟩
          · rw [sr_table, if_pos hv, ci_nz (by omega), ci_nz (by omega)]
            exact cm_at hM 3 _ (by simp [ca_R]; omega) (by omega)
          · rw [sA_table, if_pos hv, ci_nz (by omega), ci_nz (by omega), ci_nz (by omega)]
            exact hM.um (k := 3) (by omega) _ (fun _ => rfl))
      · skip
        refine cb_iconst (pc := 21) (v := (-1)) O dX11_table_21 (by decide) ?_
        exact cb_iret (pc := 22) O Rt rfl (Nat.le_of_ble_eq_true rfl) (Nat.le_of_ble_eq_true rfl) dX11_table_22 (by
          have hv : ¬ sv_table i c m := by simp only [sv_table]; simp [*]
          exact ⟨by rw [sr_table, if_neg hv], by rw [sA_table, if_neg hv]; exact hM, cb_C1.rfl'⟩)

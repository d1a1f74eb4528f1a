theorem c_X10_replace (w : cb_W) (r n j : Nat) (v : Int32) (hs : cb_sh r = (1, n)) (hr : w.1 r = true) (hj : j < n) (hn : n ≤ 10000) : cb_Con yX10_replace cX10_replace 4 (some .int) 0 0 0 0 (fun _ => true) [.inr (some r), .inl (nI j), .inl v] w (cb_pi (fun x w' => x = w.2.1 r j ∧ w' = cb_um w r j v)) := by
  refine cb_con (by decide) (Nat.le_of_ble_eq_true rfl) (fun κ O Rt hnm => ?_)
  show cb_X κ w 0 0 0 [some (.inr (some r)), some (.inl (nI j)), some (.inl v), none] []
  refine cb_aload_n (pc := 0) O dX10_replace_0 rfl ?_
  refine cb_iload_n (pc := 1) O dX10_replace_1 rfl ?_
  refine cb_iald (pc := 2) O _ hs dX10_replace_2 (by omega) hr rfl hj ?_
  refine cb_istore_n (pc := 3) O dX10_replace_3 (by decide) ?_
  dsimp only [List.set]
  refine cb_aload_n (pc := 4) O dX10_replace_4 rfl ?_
  refine cb_iload_n (pc := 5) O dX10_replace_5 rfl ?_
  refine cb_iload_n (pc := 6) O dX10_replace_6 rfl ?_
  refine cb_iast (pc := 7) O _ hs dX10_replace_7 (by omega) hr rfl hj ?_
  refine cb_iload_n (pc := 8) O dX10_replace_8 rfl ?_
  exact cb_iret (pc := 9) O Rt rfl (Nat.le_of_ble_eq_true rfl) (Nat.le_of_ble_eq_true rfl) dX10_replace_9 ⟨rfl, rfl⟩

abbrev sv_table (i c m : Int32) : Prop := (0 ≤ i ∧ i ≤ 9) ∧ (0 ≤ c ∧ c ≤ 15) ∧ (0 ≤ m ∧ m ≤ 15)
def sr_table (A : ca_A) (i c m : Int32) : Int32 := if sv_table i c m then nI (A 3 (16 * i.toNatClampNeg + c.toNatClampNeg)) else -1
def sA_table (A : ca_A) (i c m : Int32) : ca_A := if sv_table i c m then cb_u2 A 3 (16 * i.toNatClampNeg + c.toNatClampNeg) m.toNatClampNeg else A
abbrev sv_drying (i m : Int32) : Prop := (0 ≤ i ∧ i ≤ 9) ∧ (0 ≤ m ∧ m ≤ 999)
def sr_drying (A : ca_A) (i m : Int32) : Int32 := if sv_drying i m then nI (A 4 i.toNatClampNeg) else -1
def sA_drying (A : ca_A) (i m : Int32) : ca_A := if sv_drying i m then cb_u2 A 4 i.toNatClampNeg m.toNatClampNeg else A
abbrev sv_against (i j m : Int32) : Prop := (0 ≤ i ∧ i ≤ 9) ∧ (0 ≤ j ∧ j ≤ 9) ∧ (0 ≤ m ∧ m ≤ 1)
def sr_against (A : ca_A) (i j m : Int32) : Int32 := if sv_against i j m then nI (A 5 (10 * i.toNatClampNeg + j.toNatClampNeg)) else -1
def sA_against (A : ca_A) (i j m : Int32) : ca_A := if sv_against i j m then cb_u2 A 5 (10 * i.toNatClampNeg + j.toNatClampNeg) m.toNatClampNeg else A
abbrev sv_mixed (p q m : Int32) : Prop := (0 ≤ p ∧ p ≤ 9) ∧ (0 ≤ q ∧ q ≤ 9) ∧ p ≠ q ∧ (0 ≤ m ∧ m ≤ 9)
def sr_mixed (A : ca_A) (p q m : Int32) : Int32 := if sv_mixed p q m then nI (A 6 (10 * p.toNatClampNeg + q.toNatClampNeg)) else -1
def sA_mixed (A : ca_A) (p q m : Int32) : ca_A := if sv_mixed p q m then cb_u2 (cb_u2 A 6 (10 * p.toNatClampNeg + q.toNatClampNeg) m.toNatClampNeg) 6 (10 * q.toNatClampNeg + p.toNatClampNeg) m.toNatClampNeg else A
theorem ci_m16 (i c : Nat) : (16 : Int32) * nI i + nI c = nI (16 * i + c) := by rw [show (16 : Int32) = nI 16 from rfl, pk_mul, nI_add]
theorem ci_m10 (i c : Nat) : (10 : Int32) * nI i + nI c = nI (10 * i + c) := by rw [show (10 : Int32) = nI 10 from rfl, pk_mul, nI_add]
theorem cc_K.tab {M : Nat → Nat → Int32} {A : ca_A} {i c : Nat} (h : cc_K M A) (hi : i < 10) (hc : c < 16) (m : Nat) : cc_K (cb_u2 M (100 + i) c (nI m)) (cb_u2 A 3 (16 * i + c) m) := by
  obtain ⟨d1, d2, d3, d4⟩ := h
  refine ⟨fun i2 c2 h1 h2 => ?_, fun i2 h1 => ?_, fun i2 c2 h1 h2 => ?_, fun i2 c2 h1 h2 => ?_⟩
  · by_cases e : i2 = i ∧ c2 = c
    · obtain ⟨rfl, rfl⟩ := e
      rw [cb_u2s, cb_u2s]
    · rw [cb_u2n (by omega), cb_u2n (by omega)]
      exact d1 i2 c2 h1 h2
  · rw [cb_u2n (by omega), cb_u2n (by omega)]
    exact d2 i2 h1
  · rw [cb_u2n (by omega), cb_u2n (by omega)]
    exact d3 i2 c2 h1 h2
  · rw [cb_u2n (by omega), cb_u2n (by omega)]
    exact d4 i2 c2 h1 h2
theorem cc_K.dry {M : Nat → Nat → Int32} {A : ca_A} {i : Nat} (h : cc_K M A) (hi : i < 10) (m : Nat) : cc_K (cb_u2 M 9 i (nI m)) (cb_u2 A 4 i m) := by
  obtain ⟨d1, d2, d3, d4⟩ := h
  refine ⟨fun i2 c2 h1 h2 => ?_, fun i2 h1 => ?_, fun i2 c2 h1 h2 => ?_, fun i2 c2 h1 h2 => ?_⟩
  · rw [cb_u2n (by omega), cb_u2n (by omega)]
    exact d1 i2 c2 h1 h2
  · by_cases e : i2 = i
    · subst e
      rw [cb_u2s, cb_u2s]
    · rw [cb_u2n (by omega), cb_u2n (by omega)]
      exact d2 i2 h1
  · rw [cb_u2n (by omega), cb_u2n (by omega)]
    exact d3 i2 c2 h1 h2
  · rw [cb_u2n (by omega), cb_u2n (by omega)]
    exact d4 i2 c2 h1 h2
theorem cc_K.cla {M : Nat → Nat → Int32} {A : ca_A} {i c : Nat} (h : cc_K M A) (hi : i < 10) (hc : c < 10) (m : Nat) : cc_K (cb_u2 M (110 + i) c (nI m)) (cb_u2 A 5 (10 * i + c) m) := by
  obtain ⟨d1, d2, d3, d4⟩ := h
  refine ⟨fun i2 c2 h1 h2 => ?_, fun i2 h1 => ?_, fun i2 c2 h1 h2 => ?_, fun i2 c2 h1 h2 => ?_⟩
  · rw [cb_u2n (by omega), cb_u2n (by omega)]
    exact d1 i2 c2 h1 h2
  · rw [cb_u2n (by omega), cb_u2n (by omega)]
    exact d2 i2 h1
  · by_cases e : i2 = i ∧ c2 = c
    · obtain ⟨rfl, rfl⟩ := e
      rw [cb_u2s, cb_u2s]
    · rw [cb_u2n (by omega), cb_u2n (by omega)]
      exact d3 i2 c2 h1 h2
  · rw [cb_u2n (by omega), cb_u2n (by omega)]
    exact d4 i2 c2 h1 h2
theorem cc_K.mix {M : Nat → Nat → Int32} {A : ca_A} {i c : Nat} (h : cc_K M A) (hi : i < 10) (hc : c < 10) (m : Nat) : cc_K (cb_u2 M (120 + i) c (nI m)) (cb_u2 A 6 (10 * i + c) m) := by
  obtain ⟨d1, d2, d3, d4⟩ := h
  refine ⟨fun i2 c2 h1 h2 => ?_, fun i2 h1 => ?_, fun i2 c2 h1 h2 => ?_, fun i2 c2 h1 h2 => ?_⟩
  · rw [cb_u2n (by omega), cb_u2n (by omega)]
    exact d1 i2 c2 h1 h2
  · rw [cb_u2n (by omega), cb_u2n (by omega)]
    exact d2 i2 h1
  · rw [cb_u2n (by omega), cb_u2n (by omega)]
    exact d3 i2 c2 h1 h2
  · by_cases e : i2 = i ∧ c2 = c
    · obtain ⟨rfl, rfl⟩ := e
      rw [cb_u2s, cb_u2s]
    · rw [cb_u2n (by omega), cb_u2n (by omega)]
      exact d4 i2 c2 h1 h2
theorem cb_u2c {α : Type} (M : Nat → Nat → α) (k i j : Nat) (v : α) : cb_u2 (cb_u2 M k i v) k j v = cb_u2 (cb_u2 M k j v) k i v := by
  funext a b
  unfold cb_u2
  by_cases h1 : a = k
  · by_cases h2 : b = i
    · by_cases h3 : b = j <;> simp [h1, h2, h3]
    · by_cases h3 : b = j <;> simp [h1, h2, h3]
  · simp [h1]
theorem k_table (w : cb_W) (A : ca_A) (z : Int32) (hI : ca_I A) (hC : cc_I w A z) (i c m : Int32) : cb_Con yX10_table cX10_table 4 (some .int) 2 42 0 0 (fun _ => true) [.inr (some 0), .inl i, .inl c, .inl m] w (cb_pi (fun x w' => x = sr_table A i c m ∧ cc_I w' (sA_table A i c m) z ∧ cb_M1 w w')) := by
  refine cb_con (by decide) (Nat.le_of_ble_eq_true rfl) (fun κ O Rt hnm => ?_)
  show cb_X κ w 0 0 0 [some (.inr (some 0)), some (.inl i), some (.inl c), some (.inl m)] []
  refine cb_iload_n (pc := 0) O dX10_table_0 rfl ?_
  refine cb_cSp (pc := 1) O (c_X10_isInk _ _) my_X10_isInk mt_X10_isInk ml_X10_89 dX10_table_1 rfl rfl ⟨(Nat.le_of_ble_eq_true rfl), (Nat.le_of_ble_eq_true rfl)⟩ (Nat.le_of_ble_eq_true rfl) rfl ⟨(Nat.le_of_ble_eq_true rfl), (Nat.le_of_ble_eq_true rfl)⟩ ?_
  refine cb_ifp_eq (pc := 4) O 21 dX10_table_4 (by decide) (fun c_4 => ?_) (fun c_4 => ?_)
  · skip
    refine cb_iconst (pc := 21) (v := (-1)) O dX10_table_21 (by decide) ?_
    exact cb_iret (pc := 22) O Rt rfl (Nat.le_of_ble_eq_true rfl) (Nat.le_of_ble_eq_true rfl) dX10_table_22 (by
      have hv : ¬ sv_table i c m := by simp only [sv_table]; simp [*]
      exact ⟨by rw [sr_table, if_neg hv], by rw [sA_table, if_neg hv]; exact hC, cb_M1.rfl'⟩)
  · skip
    refine cb_iload_n (pc := 7) O dX10_table_7 rfl ?_
    refine cb_cSp (pc := 8) O (c_X10_isColour _ _) my_X10_isColour mt_X10_isColour ml_X10_93 dX10_table_8 rfl rfl ⟨(Nat.le_of_ble_eq_true rfl), (Nat.le_of_ble_eq_true rfl)⟩ (Nat.le_of_ble_eq_true rfl) rfl ⟨(Nat.le_of_ble_eq_true rfl), (Nat.le_of_ble_eq_true rfl)⟩ ?_
    refine cb_ifp_eq (pc := 11) O 21 dX10_table_11 (by decide) (fun c_11 => ?_) (fun c_11 => ?_)
    · skip
      refine cb_iconst (pc := 21) (v := (-1)) O dX10_table_21 (by decide) ?_
      exact cb_iret (pc := 22) O Rt rfl (Nat.le_of_ble_eq_true rfl) (Nat.le_of_ble_eq_true rfl) dX10_table_22 (by
        have hv : ¬ sv_table i c m := by simp only [sv_table]; simp [*]
        exact ⟨by rw [sr_table, if_neg hv], by rw [sA_table, if_neg hv]; exact hC, cb_M1.rfl'⟩)
    · skip
      refine cb_iload_n (pc := 14) O dX10_table_14 rfl ?_
      refine cb_cSp (pc := 15) O (c_X10_isColour _ _) my_X10_isColour mt_X10_isColour ml_X10_93 dX10_table_15 rfl rfl ⟨(Nat.le_of_ble_eq_true rfl), (Nat.le_of_ble_eq_true rfl)⟩ (Nat.le_of_ble_eq_true rfl) rfl ⟨(Nat.le_of_ble_eq_true rfl), (Nat.le_of_ble_eq_true rfl)⟩ ?_
      refine cb_ifp_ne (pc := 18) O 23 dX10_table_18 (by decide) (fun c_18 => ?_) (fun c_18 => ?_)
      · skip
        have hv : sv_table i c m := ⟨c_4, c_11, c_18⟩
        obtain ⟨i, hi, rfl⟩ := ci_in (n := 9) c_4 rfl
        obtain ⟨c, hc, rfl⟩ := ci_in (n := 15) c_11 rfl
        obtain ⟨m, hm, rfl⟩ := ci_in (n := 15) c_18 rfl
        refine cb_aload_n (pc := 23) O dX10_table_23 rfl ?_
        refine cb_getR (pc := 24) O fl_X10_12 rfl rfl dX10_table_24 (hC.1.1 _ rfl) (hC.1.2 _ _ _ rfl) ?_
        refine cb_getR (pc := 27) O fl_X10_96 rfl rfl dX10_table_27 (hC.1.1 _ rfl) (hC.1.2 _ _ _ rfl) ?_
        refine cb_iload_n (pc := 30) O dX10_table_30 rfl ?_
        refine cb_aald (pc := 31) O i rfl (by decide) (by decide) dX10_table_31 (by decide) (hC.1.1 _ rfl) rfl (by omega) (hC.1.2 8 i (100 + i) (by simp [cc_Rf]; omega)) ?_
        refine cb_iload_n (pc := 32) O dX10_table_32 rfl ?_
        refine cb_iload_n (pc := 33) O dX10_table_33 rfl ?_
        refine cb_cSi (pc := 34) O (c_X10_replace w (100 + i) 16 c (nI m) (sh_mk (by omega)) (hC.1.1 _ (lv_f (by omega))) (by omega) (by decide)) my_X10_replace mt_X10_replace ml_X10_100 dX10_table_34 rfl rfl ⟨(Nat.le_of_ble_eq_true rfl), (Nat.le_of_ble_eq_true rfl)⟩ (Nat.le_of_ble_eq_true rfl) rfl ⟨(Nat.le_of_ble_eq_true rfl), (Nat.le_of_ble_eq_true rfl)⟩ (fun _ _ => rfl) (fun x_34 w_34 hp_34 => ?_)
        obtain ⟨rfl, rfl⟩ := hp_34
        exact cb_iret (pc := 37) O Rt rfl (Nat.le_of_ble_eq_true rfl) (Nat.le_of_ble_eq_true rfl) dX10_table_37 (by
          refine ⟨?_, ?_, cb_M1.rfl'.um (by omega)⟩
          · rw [sr_table, if_pos hv, ci_nz (by omega), ci_nz (by omega)]
            exact hC.2.2.2.1.1 i c (by omega) (by omega)
          · rw [sA_table, if_pos hv, ci_nz (by omega), ci_nz (by omega), ci_nz (by omega)]
            exact ⟨hC.1, hC.2.1.cg (fun r k h => by first | rfl | (simp only [cb_um, cb_ur]; repeat rw [cb_u2n (by omega)])) (fun k i h => by first | rfl | (repeat rw [cb_u2n (by omega)])), hC.2.2.1.cg (fun r k h => by first | rfl | (simp only [cb_um, cb_ur]; repeat rw [cb_u2n (by omega)])) (fun k i h => by first | rfl | (repeat rw [cb_u2n (by omega)])), hC.2.2.2.1.tab (by omega) (by omega) m, hC.2.2.2.2.1.cg hI.1.2.2.2.1 (fun r h1 h2 => rfl) (fun r k h => by first | rfl | (simp only [cb_um, cb_ur]; repeat rw [cb_u2n (by omega)])) (fun r k h1 h2 => by first | rfl | (simp only [cb_um, cb_ur]; repeat rw [cb_u2n (by omega)])) (fun k i h => by first | rfl | (repeat rw [cb_u2n (by omega)])), hC.2.2.2.2.2.1.cg hI.1.2.2.2.2.1 (fun r h1 h2 => rfl) (fun k => by first | rfl | (simp only [cb_ur]; repeat rw [cb_u2n (by omega)])) (fun r k h1 h2 => by first | rfl | (simp only [cb_um, cb_ur]; repeat rw [cb_u2n (by omega)])) (fun k i h => by first | rfl | (repeat rw [cb_u2n (by omega)])), hC.2.2.2.2.2.2.1.cg (fun r k h => by first | rfl | (simp only [cb_um, cb_ur]; repeat rw [cb_u2n (by omega)])) (fun k i h => by first | rfl | (repeat rw [cb_u2n (by omega)])), hC.2.2.2.2.2.2.2.1.cg (fun r k h => by first | rfl | (simp only [cb_um, cb_ur]; repeat rw [cb_u2n (by omega)])) (fun k i h => by first | rfl | (repeat rw [cb_u2n (by omega)])), hC.2.2.2.2.2.2.2.2.1, hC.2.2.2.2.2.2.2.2.2.1, hC.2.2.2.2.2.2.2.2.2.2⟩)
      · skip
        refine cb_iconst (pc := 21) (v := (-1)) O dX10_table_21 (by decide) ?_
        exact cb_iret (pc := 22) O Rt rfl (Nat.le_of_ble_eq_true rfl) (Nat.le_of_ble_eq_true rfl) dX10_table_22 (by
          have hv : ¬ sv_table i c m := by simp only [sv_table]; simp [*]
          exact ⟨by rw [sr_table, if_neg hv], by rw [sA_table, if_neg hv]; exact hC, cb_M1.rfl'⟩)

theorem m_table (w : cb_W) (A : ca_A) (z : Int32) (hI : ca_I A) (hM : cm_I w A z) (i c m : Int32) : cb_Con yX11_table cX11_table 5 (some .int) 2 42 0 0 (fun _ => true) [.inr (some 1000), .inl i, .inl c, .inl m] w (cb_pi (fun x w' => x = sr_table A i c m ∧ cm_I w' (sA_table A i c m) z ∧ cb_C1 w w')) := by
  refine cb_con (by decide) (Nat.le_of_ble_eq_true rfl) (fun κ O Rt hnm => ?_)
  show cb_X κ w 0 0 0 [some (.inr (some 1000)), some (.inl i), some (.inl c), some (.inl m), none] []
  refine cb_iload_n (pc := 0) O dX11_table_0 rfl ?_
  refine cb_cSp (pc := 1) O (c_X11_isInk _ _) my_X11_isInk mt_X11_isInk ml_X11_103 dX11_table_1 rfl rfl ⟨(Nat.le_of_ble_eq_true rfl), (Nat.le_of_ble_eq_true rfl)⟩ (Nat.le_of_ble_eq_true rfl) rfl ⟨(Nat.le_of_ble_eq_true rfl), (Nat.le_of_ble_eq_true rfl)⟩ ?_
  refine cb_ifp_eq (pc := 4) O 21 dX11_table_4 (by decide) (fun c_4 => ?_) (fun c_4 => ?_)
  · skip
    refine cb_iconst (pc := 21) (v := (-1)) O dX11_table_21 (by decide) ?_
    exact cb_iret (pc := 22) O Rt rfl (Nat.le_of_ble_eq_true rfl) (Nat.le_of_ble_eq_true rfl) dX11_table_22 (by
      have hv : ¬ sv_table i c m := by simp only [sv_table]; simp [*]
      exact ⟨by rw [sr_table, if_neg hv], by rw [sA_table, if_neg hv]; exact hM, cb_C1.rfl'⟩)
  · skip
    refine cb_iload_n (pc := 7) O dX11_table_7 rfl ?_
    refine cb_cSp (pc := 8) O (c_X11_isColour _ _) my_X11_isColour mt_X11_isColour ml_X11_107 dX11_table_8 rfl rfl ⟨(Nat.le_of_ble_eq_true rfl), (Nat.le_of_ble_eq_true rfl)⟩ (Nat.le_of_ble_eq_true rfl) rfl ⟨(Nat.le_of_ble_eq_true rfl), (Nat.le_of_ble_eq_true rfl)⟩ ?_
    refine cb_ifp_eq (pc := 11) O 21 dX11_table_11 (by decide) (fun c_11 => ?_) (fun c_11 => ?_)
    · skip
      refine cb_iconst (pc := 21) (v := (-1)) O dX11_table_21 (by decide) ?_
      exact cb_iret (pc := 22) O Rt rfl (Nat.le_of_ble_eq_true rfl) (Nat.le_of_ble_eq_true rfl) dX11_table_22 (by
        have hv : ¬ sv_table i c m := by simp only [sv_table]; simp [*]
        exact ⟨by rw [sr_table, if_neg hv], by rw [sA_table, if_neg hv]; exact hM, cb_C1.rfl'⟩)
    · skip
      refine cb_iload_n (pc := 14) O dX11_table_14 rfl ?_
      refine cb_cSp (pc := 15) O (c_X11_isColour _ _) my_X11_isColour mt_X11_isColour ml_X11_107 dX11_table_15 rfl rfl ⟨(Nat.le_of_ble_eq_true rfl), (Nat.le_of_ble_eq_true rfl)⟩ (Nat.le_of_ble_eq_true rfl) rfl ⟨(Nat.le_of_ble_eq_true rfl), (Nat.le_of_ble_eq_true rfl)⟩ ?_
      refine cb_ifp_ne (pc := 18) O 23 dX11_table_18 (by decide) (fun c_18 => ?_) (fun c_18 => ?_)
      · skip
        have hv : sv_table i c m := ⟨c_4, c_11, c_18⟩
        obtain ⟨i, hi, rfl⟩ := ci_in (n := 9) c_4 rfl
        obtain ⟨c, hc, rfl⟩ := ci_in (n := 15) c_11 rfl
        obtain ⟨m, hm, rfl⟩ := ci_in (n := 15) c_18 rfl
        refine cb_aload_n (pc := 23) O dX11_table_23 rfl ?_
        refine cb_getR (pc := 24) O fl_X11_9 rfl rfl dX11_table_24 (hM.1.1 _ rfl) (hM.1.2 _ _ _ rfl) ?_
        refine cb_bipush (pc := 27) (v := 16) O dX11_table_27 (by decide) ?_
        refine cb_iload_n (pc := 29) O dX11_table_29 rfl ?_
        refine cb_imul (pc := 30) O dX11_table_30 ?_
        refine cb_iload_n (pc := 31) O dX11_table_31 rfl ?_
        refine cb_iadd (pc := 32) O dX11_table_32 ?_
        refine cb_iald (pc := 33) O (16 * i + c) rfl dX11_table_33 (by decide) (hM.1.1 _ rfl) (ci_m16 i c) (by omega) ?_
        refine cb_istore (pc := 34) O dX11_table_34 (by decide) ?_
        dsimp only [List.set]
        refine cb_aload_n (pc := 36) O dX11_table_36 rfl ?_
        refine cb_getR (pc := 37) O fl_X11_9 rfl rfl dX11_table_37 (hM.1.1 _ rfl) (hM.1.2 _ _ _ rfl) ?_
        refine cb_bipush (pc := 40) (v := 16) O dX11_table_40 (by decide) ?_
        refine cb_iload_n (pc := 42) O dX11_table_42 rfl ?_
        refine cb_imul (pc := 43) O dX11_table_43 ?_
        refine cb_iload_n (pc := 44) O dX11_table_44 rfl ?_
        refine cb_iadd (pc := 45) O dX11_table_45 ?_
        refine cb_iload_n (pc := 46) O dX11_table_46 rfl ?_
        refine cb_iast (pc := 47) O (16 * i + c) rfl dX11_table_47 (by decide) (hM.1.1 _ rfl) (ci_m16 i c) (by omega) ?_
        refine cb_iload (pc := 48) O dX11_table_48 rfl ?_
        exact cb_iret (pc := 50) O Rt rfl (Nat.le_of_ble_eq_true rfl) (Nat.le_of_ble_eq_true rfl) dX11_table_50 (by
          refine ⟨?_, ?_, cb_C1.rfl'.um (by omega)⟩
          · rw [sr_table, if_pos hv, ci_nz (by omega), ci_nz (by omega)]
            exact cm_at hM 3 _ (by simp [ca_R]; omega) (by omega)
          · rw [sA_table, if_pos hv, ci_nz (by omega), ci_nz (by omega), ci_nz (by omega)]
            exact hM.um (k := 3) (by omega) _ (fun _ => rfl))
      · skip
        refine cb_iconst (pc := 21) (v := (-1)) O dX11_table_21 (by decide) ?_
        exact cb_iret (pc := 22) O Rt rfl (Nat.le_of_ble_eq_true rfl) (Nat.le_of_ble_eq_true rfl) dX11_table_22 (by
          have hv : ¬ sv_table i c m := by simp only [sv_table]; simp [*]
          exact ⟨by rw [sr_table, if_neg hv], by rw [sA_table, if_neg hv]; exact hM, cb_C1.rfl'⟩)

theorem k_drying (w : cb_W) (A : ca_A) (z : Int32) (hI : ca_I A) (hC : cc_I w A z) (i m : Int32) : cb_Con yX10_drying cX10_drying 3 (some .int) 2 42 0 0 (fun _ => true) [.inr (some 0), .inl i, .inl m] w (cb_pi (fun x w' => x = sr_drying A i m ∧ cc_I w' (sA_drying A i m) z ∧ cb_M1 w w')) := by
  refine cb_con (by decide) (Nat.le_of_ble_eq_true rfl) (fun κ O Rt hnm => ?_)
  show cb_X κ w 0 0 0 [some (.inr (some 0)), some (.inl i), some (.inl m)] []
  refine cb_iload_n (pc := 0) O dX10_drying_0 rfl ?_
  refine cb_cSp (pc := 1) O (c_X10_isInk _ _) my_X10_isInk mt_X10_isInk ml_X10_89 dX10_drying_1 rfl rfl ⟨(Nat.le_of_ble_eq_true rfl), (Nat.le_of_ble_eq_true rfl)⟩ (Nat.le_of_ble_eq_true rfl) rfl ⟨(Nat.le_of_ble_eq_true rfl), (Nat.le_of_ble_eq_true rfl)⟩ ?_
  refine cb_ifp_eq (pc := 4) O 18 dX10_drying_4 (by decide) (fun c_4 => ?_) (fun c_4 => ?_)
  · skip
    refine cb_iconst (pc := 18) (v := (-1)) O dX10_drying_18 (by decide) ?_
    exact cb_iret (pc := 19) O Rt rfl (Nat.le_of_ble_eq_true rfl) (Nat.le_of_ble_eq_true rfl) dX10_drying_19 (by
      have hv : ¬ sv_drying i m := by simp only [sv_drying]; simp [*]
      exact ⟨by rw [sr_drying, if_neg hv], by rw [sA_drying, if_neg hv]; exact hC, cb_M1.rfl'⟩)
  · skip
    refine cb_iload_n (pc := 7) O dX10_drying_7 rfl ?_
    refine cb_iconst (pc := 8) (v := 0) O dX10_drying_8 (by decide) ?_
    refine cb_sipush (pc := 9) (v := 999) O dX10_drying_9 (by decide) ?_
    refine cb_cSp (pc := 12) O (c_X10_within _ _ _ _) my_X10_within mt_X10_within ml_X10_81 dX10_drying_12 rfl rfl ⟨(Nat.le_of_ble_eq_true rfl), (Nat.le_of_ble_eq_true rfl)⟩ (Nat.le_of_ble_eq_true rfl) rfl ⟨(Nat.le_of_ble_eq_true rfl), (Nat.le_of_ble_eq_true rfl)⟩ ?_
    refine cb_ifp_ne (pc := 15) O 20 dX10_drying_15 (by decide) (fun c_15 => ?_) (fun c_15 => ?_)
    · skip
      have hv : sv_drying i m := ⟨c_4, c_15⟩
      obtain ⟨i, hi, rfl⟩ := ci_in (n := 9) c_4 rfl
      obtain ⟨m, hm, rfl⟩ := ci_in (n := 999) c_15 rfl
      refine cb_aload_n (pc := 20) O dX10_drying_20 rfl ?_
      refine cb_getR (pc := 21) O fl_X10_12 rfl rfl dX10_drying_21 (hC.1.1 _ rfl) (hC.1.2 _ _ _ rfl) ?_
      refine cb_getR (pc := 24) O fl_X10_104 rfl rfl dX10_drying_24 (hC.1.1 _ rfl) (hC.1.2 _ _ _ rfl) ?_
      refine cb_iload_n (pc := 27) O dX10_drying_27 rfl ?_
      refine cb_iload_n (pc := 28) O dX10_drying_28 rfl ?_
      refine cb_cSi (pc := 29) O (c_X10_replace w 9 10 i (nI m) rfl (hC.1.1 _ rfl) (by omega) (by decide)) my_X10_replace mt_X10_replace ml_X10_100 dX10_drying_29 rfl rfl ⟨(Nat.le_of_ble_eq_true rfl), (Nat.le_of_ble_eq_true rfl)⟩ (Nat.le_of_ble_eq_true rfl) rfl ⟨(Nat.le_of_ble_eq_true rfl), (Nat.le_of_ble_eq_true rfl)⟩ (fun _ _ => rfl) (fun x_29 w_29 hp_29 => ?_)
      obtain ⟨rfl, rfl⟩ := hp_29
      exact cb_iret (pc := 32) O Rt rfl (Nat.le_of_ble_eq_true rfl) (Nat.le_of_ble_eq_true rfl) dX10_drying_32 (by
        refine ⟨?_, ?_, cb_M1.rfl'.um (by omega)⟩
        · rw [sr_drying, if_pos hv, ci_nz (by omega)]
          exact hC.2.2.2.1.2.1 i (by omega)
        · rw [sA_drying, if_pos hv, ci_nz (by omega), ci_nz (by omega)]
          exact ⟨hC.1, hC.2.1.cg (fun r k h => by first | rfl | (simp only [cb_um, cb_ur]; repeat rw [cb_u2n (by omega)])) (fun k i h => by first | rfl | (repeat rw [cb_u2n (by omega)])), hC.2.2.1.cg (fun r k h => by first | rfl | (simp only [cb_um, cb_ur]; repeat rw [cb_u2n (by omega)])) (fun k i h => by first | rfl | (repeat rw [cb_u2n (by omega)])), hC.2.2.2.1.dry (by omega) m, hC.2.2.2.2.1.cg hI.1.2.2.2.1 (fun r h1 h2 => rfl) (fun r k h => by first | rfl | (simp only [cb_um, cb_ur]; repeat rw [cb_u2n (by omega)])) (fun r k h1 h2 => by first | rfl | (simp only [cb_um, cb_ur]; repeat rw [cb_u2n (by omega)])) (fun k i h => by first | rfl | (repeat rw [cb_u2n (by omega)])), hC.2.2.2.2.2.1.cg hI.1.2.2.2.2.1 (fun r h1 h2 => rfl) (fun k => by first | rfl | (simp only [cb_ur]; repeat rw [cb_u2n (by omega)])) (fun r k h1 h2 => by first | rfl | (simp only [cb_um, cb_ur]; repeat rw [cb_u2n (by omega)])) (fun k i h => by first | rfl | (repeat rw [cb_u2n (by omega)])), hC.2.2.2.2.2.2.1.cg (fun r k h => by first | rfl | (simp only [cb_um, cb_ur]; repeat rw [cb_u2n (by omega)])) (fun k i h => by first | rfl | (repeat rw [cb_u2n (by omega)])), hC.2.2.2.2.2.2.2.1.cg (fun r k h => by first | rfl | (simp only [cb_um, cb_ur]; repeat rw [cb_u2n (by omega)])) (fun k i h => by first | rfl | (repeat rw [cb_u2n (by omega)])), hC.2.2.2.2.2.2.2.2.1, hC.2.2.2.2.2.2.2.2.2.1, hC.2.2.2.2.2.2.2.2.2.2⟩)
    · skip
      refine cb_iconst (pc := 18) (v := (-1)) O dX10_drying_18 (by decide) ?_
      exact cb_iret (pc := 19) O Rt rfl (Nat.le_of_ble_eq_true rfl) (Nat.le_of_ble_eq_true rfl) dX10_drying_19 (by
        have hv : ¬ sv_drying i m := by simp only [sv_drying]; simp [*]
        exact ⟨by rw [sr_drying, if_neg hv], by rw [sA_drying, if_neg hv]; exact hC, cb_M1.rfl'⟩)

theorem m_drying (w : cb_W) (A : ca_A) (z : Int32) (hI : ca_I A) (hM : cm_I w A z) (i m : Int32) : cb_Con yX11_drying cX11_drying 4 (some .int) 2 42 0 0 (fun _ => true) [.inr (some 1000), .inl i, .inl m] w (cb_pi (fun x w' => x = sr_drying A i m ∧ cm_I w' (sA_drying A i m) z ∧ cb_C1 w w')) := by
  refine cb_con (by decide) (Nat.le_of_ble_eq_true rfl) (fun κ O Rt hnm => ?_)
  show cb_X κ w 0 0 0 [some (.inr (some 1000)), some (.inl i), some (.inl m), none] []
  refine cb_iload_n (pc := 0) O dX11_drying_0 rfl ?_
  refine cb_cSp (pc := 1) O (c_X11_isInk _ _) my_X11_isInk mt_X11_isInk ml_X11_103 dX11_drying_1 rfl rfl ⟨(Nat.le_of_ble_eq_true rfl), (Nat.le_of_ble_eq_true rfl)⟩ (Nat.le_of_ble_eq_true rfl) rfl ⟨(Nat.le_of_ble_eq_true rfl), (Nat.le_of_ble_eq_true rfl)⟩ ?_
  refine cb_ifp_eq (pc := 4) O 18 dX11_drying_4 (by decide) (fun c_4 => ?_) (fun c_4 => ?_)
  · skip
    refine cb_iconst (pc := 18) (v := (-1)) O dX11_drying_18 (by decide) ?_
    exact cb_iret (pc := 19) O Rt rfl (Nat.le_of_ble_eq_true rfl) (Nat.le_of_ble_eq_true rfl) dX11_drying_19 (by
      have hv : ¬ sv_drying i m := by simp only [sv_drying]; simp [*]
      exact ⟨by rw [sr_drying, if_neg hv], by rw [sA_drying, if_neg hv]; exact hM, cb_C1.rfl'⟩)
  · skip
    refine cb_iload_n (pc := 7) O dX11_drying_7 rfl ?_
    refine cb_iconst (pc := 8) (v := 0) O dX11_drying_8 (by decide) ?_
    refine cb_sipush (pc := 9) (v := 999) O dX11_drying_9 (by decide) ?_
    refine cb_cSp (pc := 12) O (c_X11_within _ _ _ _) my_X11_within mt_X11_within ml_X11_90 dX11_drying_12 rfl rfl ⟨(Nat.le_of_ble_eq_true rfl), (Nat.le_of_ble_eq_true rfl)⟩ (Nat.le_of_ble_eq_true rfl) rfl ⟨(Nat.le_of_ble_eq_true rfl), (Nat.le_of_ble_eq_true rfl)⟩ ?_
    refine cb_ifp_ne (pc := 15) O 20 dX11_drying_15 (by decide) (fun c_15 => ?_) (fun c_15 => ?_)
    · skip
      have hv : sv_drying i m := ⟨c_4, c_15⟩
      obtain ⟨i, hi, rfl⟩ := ci_in (n := 9) c_4 rfl
      obtain ⟨m, hm, rfl⟩ := ci_in (n := 999) c_15 rfl
      refine cb_aload_n (pc := 20) O dX11_drying_20 rfl ?_
      refine cb_getR (pc := 21) O fl_X11_13 rfl rfl dX11_drying_21 (hM.1.1 _ rfl) (hM.1.2 _ _ _ rfl) ?_
      refine cb_iload_n (pc := 24) O dX11_drying_24 rfl ?_
      refine cb_iald (pc := 25) O i rfl dX11_drying_25 (by decide) (hM.1.1 _ rfl) rfl (by omega) ?_
      refine cb_istore_n (pc := 26) O dX11_drying_26 (by decide) ?_
      dsimp only [List.set]
      refine cb_aload_n (pc := 27) O dX11_drying_27 rfl ?_
      refine cb_getR (pc := 28) O fl_X11_13 rfl rfl dX11_drying_28 (hM.1.1 _ rfl) (hM.1.2 _ _ _ rfl) ?_
      refine cb_iload_n (pc := 31) O dX11_drying_31 rfl ?_
      refine cb_iload_n (pc := 32) O dX11_drying_32 rfl ?_
      refine cb_iast (pc := 33) O i rfl dX11_drying_33 (by decide) (hM.1.1 _ rfl) rfl (by omega) ?_
      refine cb_iload_n (pc := 34) O dX11_drying_34 rfl ?_
      exact cb_iret (pc := 35) O Rt rfl (Nat.le_of_ble_eq_true rfl) (Nat.le_of_ble_eq_true rfl) dX11_drying_35 (by
        refine ⟨?_, ?_, cb_C1.rfl'.um (by omega)⟩
        · rw [sr_drying, if_pos hv, ci_nz (by omega)]
          exact cm_at hM 4 _ (by simp [ca_R]; omega) (by omega)
        · rw [sA_drying, if_pos hv, ci_nz (by omega), ci_nz (by omega)]
          exact hM.um (k := 4) (by omega) _ (fun _ => rfl))
    · skip
      refine cb_iconst (pc := 18) (v := (-1)) O dX11_drying_18 (by decide) ?_
      exact cb_iret (pc := 19) O Rt rfl (Nat.le_of_ble_eq_true rfl) (Nat.le_of_ble_eq_true rfl) dX11_drying_19 (by
        have hv : ¬ sv_drying i m := by simp only [sv_drying]; simp [*]
        exact ⟨by rw [sr_drying, if_neg hv], by rw [sA_drying, if_neg hv]; exact hM, cb_C1.rfl'⟩)

theorem k_against (w : cb_W) (A : ca_A) (z : Int32) (hI : ca_I A) (hC : cc_I w A z) (i j m : Int32) : cb_Con yX10_against cX10_against 4 (some .int) 2 42 0 0 (fun _ => true) [.inr (some 0), .inl i, .inl j, .inl m] w (cb_pi (fun x w' => x = sr_against A i j m ∧ cc_I w' (sA_against A i j m) z ∧ cb_M1 w w')) := by
  refine cb_con (by decide) (Nat.le_of_ble_eq_true rfl) (fun κ O Rt hnm => ?_)
  show cb_X κ w 0 0 0 [some (.inr (some 0)), some (.inl i), some (.inl j), some (.inl m)] []
  refine cb_iload_n (pc := 0) O dX10_against_0 rfl ?_
  refine cb_cSp (pc := 1) O (c_X10_isInk _ _) my_X10_isInk mt_X10_isInk ml_X10_89 dX10_against_1 rfl rfl ⟨(Nat.le_of_ble_eq_true rfl), (Nat.le_of_ble_eq_true rfl)⟩ (Nat.le_of_ble_eq_true rfl) rfl ⟨(Nat.le_of_ble_eq_true rfl), (Nat.le_of_ble_eq_true rfl)⟩ ?_
  refine cb_ifp_eq (pc := 4) O 23 dX10_against_4 (by decide) (fun c_4 => ?_) (fun c_4 => ?_)
  · skip
    refine cb_iconst (pc := 23) (v := (-1)) O dX10_against_23 (by decide) ?_
    exact cb_iret (pc := 24) O Rt rfl (Nat.le_of_ble_eq_true rfl) (Nat.le_of_ble_eq_true rfl) dX10_against_24 (by
      have hv : ¬ sv_against i j m := by simp only [sv_against]; simp [*]
      exact ⟨by rw [sr_against, if_neg hv], by rw [sA_against, if_neg hv]; exact hC, cb_M1.rfl'⟩)
  · skip
    refine cb_iload_n (pc := 7) O dX10_against_7 rfl ?_
    refine cb_cSp (pc := 8) O (c_X10_isInk _ _) my_X10_isInk mt_X10_isInk ml_X10_89 dX10_against_8 rfl rfl ⟨(Nat.le_of_ble_eq_true rfl), (Nat.le_of_ble_eq_true rfl)⟩ (Nat.le_of_ble_eq_true rfl) rfl ⟨(Nat.le_of_ble_eq_true rfl), (Nat.le_of_ble_eq_true rfl)⟩ ?_
    refine cb_ifp_eq (pc := 11) O 23 dX10_against_11 (by decide) (fun c_11 => ?_) (fun c_11 => ?_)
    · skip
      refine cb_iconst (pc := 23) (v := (-1)) O dX10_against_23 (by decide) ?_
      exact cb_iret (pc := 24) O Rt rfl (Nat.le_of_ble_eq_true rfl) (Nat.le_of_ble_eq_true rfl) dX10_against_24 (by
        have hv : ¬ sv_against i j m := by simp only [sv_against]; simp [*]
        exact ⟨by rw [sr_against, if_neg hv], by rw [sA_against, if_neg hv]; exact hC, cb_M1.rfl'⟩)
    · skip
      refine cb_iload_n (pc := 14) O dX10_against_14 rfl ?_
      refine cb_iconst (pc := 15) (v := 0) O dX10_against_15 (by decide) ?_
      refine cb_iconst (pc := 16) (v := 1) O dX10_against_16 (by decide) ?_
      refine cb_cSp (pc := 17) O (c_X10_within _ _ _ _) my_X10_within mt_X10_within ml_X10_81 dX10_against_17 rfl rfl ⟨(Nat.le_of_ble_eq_true rfl), (Nat.le_of_ble_eq_true rfl)⟩ (Nat.le_of_ble_eq_true rfl) rfl ⟨(Nat.le_of_ble_eq_true rfl), (Nat.le_of_ble_eq_true rfl)⟩ ?_
      refine cb_ifp_ne (pc := 20) O 25 dX10_against_20 (by decide) (fun c_20 => ?_) (fun c_20 => ?_)
      · skip
        have hv : sv_against i j m := ⟨c_4, c_11, c_20⟩
        obtain ⟨i, hi, rfl⟩ := ci_in (n := 9) c_4 rfl
        obtain ⟨j, hj, rfl⟩ := ci_in (n := 9) c_11 rfl
        obtain ⟨m, hm, rfl⟩ := ci_in (n := 1) c_20 rfl
        refine cb_aload_n (pc := 25) O dX10_against_25 rfl ?_
        refine cb_getR (pc := 26) O fl_X10_12 rfl rfl dX10_against_26 (hC.1.1 _ rfl) (hC.1.2 _ _ _ rfl) ?_
        refine cb_getR (pc := 29) O fl_X10_107 rfl rfl dX10_against_29 (hC.1.1 _ rfl) (hC.1.2 _ _ _ rfl) ?_
        refine cb_iload_n (pc := 32) O dX10_against_32 rfl ?_
        refine cb_aald (pc := 33) O i rfl (by decide) (by decide) dX10_against_33 (by decide) (hC.1.1 _ rfl) rfl (by omega) (hC.1.2 10 i (110 + i) (by simp [cc_Rf]; omega)) ?_
        refine cb_iload_n (pc := 34) O dX10_against_34 rfl ?_
        refine cb_iload_n (pc := 35) O dX10_against_35 rfl ?_
        refine cb_cSi (pc := 36) O (c_X10_replace w (110 + i) 10 j (nI m) (sh_cl (by omega)) (hC.1.1 _ (lv_f (by omega))) (by omega) (by decide)) my_X10_replace mt_X10_replace ml_X10_100 dX10_against_36 rfl rfl ⟨(Nat.le_of_ble_eq_true rfl), (Nat.le_of_ble_eq_true rfl)⟩ (Nat.le_of_ble_eq_true rfl) rfl ⟨(Nat.le_of_ble_eq_true rfl), (Nat.le_of_ble_eq_true rfl)⟩ (fun _ _ => rfl) (fun x_36 w_36 hp_36 => ?_)
        obtain ⟨rfl, rfl⟩ := hp_36
        exact cb_iret (pc := 39) O Rt rfl (Nat.le_of_ble_eq_true rfl) (Nat.le_of_ble_eq_true rfl) dX10_against_39 (by
          refine ⟨?_, ?_, cb_M1.rfl'.um (by omega)⟩
          · rw [sr_against, if_pos hv, ci_nz (by omega), ci_nz (by omega)]
            exact hC.2.2.2.1.2.2.1 i j (by omega) (by omega)
          · rw [sA_against, if_pos hv, ci_nz (by omega), ci_nz (by omega), ci_nz (by omega)]
            exact ⟨hC.1, hC.2.1.cg (fun r k h => by first | rfl | (simp only [cb_um, cb_ur]; repeat rw [cb_u2n (by omega)])) (fun k i h => by first | rfl | (repeat rw [cb_u2n (by omega)])), hC.2.2.1.cg (fun r k h => by first | rfl | (simp only [cb_um, cb_ur]; repeat rw [cb_u2n (by omega)])) (fun k i h => by first | rfl | (repeat rw [cb_u2n (by omega)])), hC.2.2.2.1.cla (by omega) (by omega) m, hC.2.2.2.2.1.cg hI.1.2.2.2.1 (fun r h1 h2 => rfl) (fun r k h => by first | rfl | (simp only [cb_um, cb_ur]; repeat rw [cb_u2n (by omega)])) (fun r k h1 h2 => by first | rfl | (simp only [cb_um, cb_ur]; repeat rw [cb_u2n (by omega)])) (fun k i h => by first | rfl | (repeat rw [cb_u2n (by omega)])), hC.2.2.2.2.2.1.cg hI.1.2.2.2.2.1 (fun r h1 h2 => rfl) (fun k => by first | rfl | (simp only [cb_ur]; repeat rw [cb_u2n (by omega)])) (fun r k h1 h2 => by first | rfl | (simp only [cb_um, cb_ur]; repeat rw [cb_u2n (by omega)])) (fun k i h => by first | rfl | (repeat rw [cb_u2n (by omega)])), hC.2.2.2.2.2.2.1.cg (fun r k h => by first | rfl | (simp only [cb_um, cb_ur]; repeat rw [cb_u2n (by omega)])) (fun k i h => by first | rfl | (repeat rw [cb_u2n (by omega)])), hC.2.2.2.2.2.2.2.1.cg (fun r k h => by first | rfl | (simp only [cb_um, cb_ur]; repeat rw [cb_u2n (by omega)])) (fun k i h => by first | rfl | (repeat rw [cb_u2n (by omega)])), hC.2.2.2.2.2.2.2.2.1, hC.2.2.2.2.2.2.2.2.2.1, hC.2.2.2.2.2.2.2.2.2.2⟩)
      · skip
        refine cb_iconst (pc := 23) (v := (-1)) O dX10_against_23 (by decide) ?_
        exact cb_iret (pc := 24) O Rt rfl (Nat.le_of_ble_eq_true rfl) (Nat.le_of_ble_eq_true rfl) dX10_against_24 (by
          have hv : ¬ sv_against i j m := by simp only [sv_against]; simp [*]
          exact ⟨by rw [sr_against, if_neg hv], by rw [sA_against, if_neg hv]; exact hC, cb_M1.rfl'⟩)

theorem m_against (w : cb_W) (A : ca_A) (z : Int32) (hI : ca_I A) (hM : cm_I w A z) (i j m : Int32) : cb_Con yX11_against cX11_against 5 (some .int) 2 42 0 0 (fun _ => true) [.inr (some 1000), .inl i, .inl j, .inl m] w (cb_pi (fun x w' => x = sr_against A i j m ∧ cm_I w' (sA_against A i j m) z ∧ cb_C1 w w')) := by
  refine cb_con (by decide) (Nat.le_of_ble_eq_true rfl) (fun κ O Rt hnm => ?_)
  show cb_X κ w 0 0 0 [some (.inr (some 1000)), some (.inl i), some (.inl j), some (.inl m), none] []
  refine cb_iload_n (pc := 0) O dX11_against_0 rfl ?_
  refine cb_cSp (pc := 1) O (c_X11_isInk _ _) my_X11_isInk mt_X11_isInk ml_X11_103 dX11_against_1 rfl rfl ⟨(Nat.le_of_ble_eq_true rfl), (Nat.le_of_ble_eq_true rfl)⟩ (Nat.le_of_ble_eq_true rfl) rfl ⟨(Nat.le_of_ble_eq_true rfl), (Nat.le_of_ble_eq_true rfl)⟩ ?_
  refine cb_ifp_eq (pc := 4) O 23 dX11_against_4 (by decide) (fun c_4 => ?_) (fun c_4 => ?_)
  · skip
    refine cb_iconst (pc := 23) (v := (-1)) O dX11_against_23 (by decide) ?_
    exact cb_iret (pc := 24) O Rt rfl (Nat.le_of_ble_eq_true rfl) (Nat.le_of_ble_eq_true rfl) dX11_against_24 (by
      have hv : ¬ sv_against i j m := by simp only [sv_against]; simp [*]
      exact ⟨by rw [sr_against, if_neg hv], by rw [sA_against, if_neg hv]; exact hM, cb_C1.rfl'⟩)
  · skip
    refine cb_iload_n (pc := 7) O dX11_against_7 rfl ?_
    refine cb_cSp (pc := 8) O (c_X11_isInk _ _) my_X11_isInk mt_X11_isInk ml_X11_103 dX11_against_8 rfl rfl ⟨(Nat.le_of_ble_eq_true rfl), (Nat.le_of_ble_eq_true rfl)⟩ (Nat.le_of_ble_eq_true rfl) rfl ⟨(Nat.le_of_ble_eq_true rfl), (Nat.le_of_ble_eq_true rfl)⟩ ?_
    refine cb_ifp_eq (pc := 11) O 23 dX11_against_11 (by decide) (fun c_11 => ?_) (fun c_11 => ?_)
    · skip
      refine cb_iconst (pc := 23) (v := (-1)) O dX11_against_23 (by decide) ?_
      exact cb_iret (pc := 24) O Rt rfl (Nat.le_of_ble_eq_true rfl) (Nat.le_of_ble_eq_true rfl) dX11_against_24 (by
        have hv : ¬ sv_against i j m := by simp only [sv_against]; simp [*]
        exact ⟨by rw [sr_against, if_neg hv], by rw [sA_against, if_neg hv]; exact hM, cb_C1.rfl'⟩)
    · skip
      refine cb_iload_n (pc := 14) O dX11_against_14 rfl ?_
      refine cb_iconst (pc := 15) (v := 0) O dX11_against_15 (by decide) ?_
      refine cb_iconst (pc := 16) (v := 1) O dX11_against_16 (by decide) ?_
      refine cb_cSp (pc := 17) O (c_X11_within _ _ _ _) my_X11_within mt_X11_within ml_X11_90 dX11_against_17 rfl rfl ⟨(Nat.le_of_ble_eq_true rfl), (Nat.le_of_ble_eq_true rfl)⟩ (Nat.le_of_ble_eq_true rfl) rfl ⟨(Nat.le_of_ble_eq_true rfl), (Nat.le_of_ble_eq_true rfl)⟩ ?_
      refine cb_ifp_ne (pc := 20) O 25 dX11_against_20 (by decide) (fun c_20 => ?_) (fun c_20 => ?_)
      · skip
        have hv : sv_against i j m := ⟨c_4, c_11, c_20⟩
        obtain ⟨i, hi, rfl⟩ := ci_in (n := 9) c_4 rfl
        obtain ⟨j, hj, rfl⟩ := ci_in (n := 9) c_11 rfl
        obtain ⟨m, hm, rfl⟩ := ci_in (n := 1) c_20 rfl
        refine cb_aload_n (pc := 25) O dX11_against_25 rfl ?_
        refine cb_getR (pc := 26) O fl_X11_16 rfl rfl dX11_against_26 (hM.1.1 _ rfl) (hM.1.2 _ _ _ rfl) ?_
        refine cb_bipush (pc := 29) (v := 10) O dX11_against_29 (by decide) ?_
        refine cb_iload_n (pc := 31) O dX11_against_31 rfl ?_
        refine cb_imul (pc := 32) O dX11_against_32 ?_
        refine cb_iload_n (pc := 33) O dX11_against_33 rfl ?_
        refine cb_iadd (pc := 34) O dX11_against_34 ?_
        refine cb_zald (pc := 35) O (10 * i + j) rfl dX11_against_35 (by decide) (hM.1.1 _ rfl) (ci_m10 i j) (by omega) ?_
        refine cb_istore (pc := 36) O dX11_against_36 (by decide) ?_
        dsimp only [List.set]
        refine cb_aload_n (pc := 38) O dX11_against_38 rfl ?_
        refine cb_getR (pc := 39) O fl_X11_16 rfl rfl dX11_against_39 (hM.1.1 _ rfl) (hM.1.2 _ _ _ rfl) ?_
        refine cb_bipush (pc := 42) (v := 10) O dX11_against_42 (by decide) ?_
        refine cb_iload_n (pc := 44) O dX11_against_44 rfl ?_
        refine cb_imul (pc := 45) O dX11_against_45 ?_
        refine cb_iload_n (pc := 46) O dX11_against_46 rfl ?_
        refine cb_iadd (pc := 47) O dX11_against_47 ?_
        refine cb_iload_n (pc := 48) O dX11_against_48 rfl ?_
        refine cb_iconst (pc := 49) (v := 1) O dX11_against_49 (by decide) ?_
        refine cb_icmp_ne (pc := 50) O 57 dX11_against_50 (by decide) (fun c_50 => ?_) (fun c_50 => ?_)
        · skip
          refine cb_iconst (pc := 57) (v := 0) O dX11_against_57 (by decide) ?_
          refine cb_zast (pc := 58) O (10 * i + j) rfl dX11_against_58 (by decide) (hM.1.1 _ rfl) (ci_m10 i j) (by omega) (by decide) ?_
          refine cb_iload (pc := 59) O dX11_against_59 rfl ?_
          refine cb_if_eq (pc := 61) O 68 dX11_against_61 (by decide) (fun c_61 => ?_) (fun c_61 => ?_)
          · skip
            refine cb_iconst (pc := 68) (v := 0) O dX11_against_68 (by decide) ?_
            exact cb_iret (pc := 69) O Rt rfl (Nat.le_of_ble_eq_true rfl) (Nat.le_of_ble_eq_true rfl) dX11_against_69 (by
              have hM5 : w.2.1 1005 (10 * i + j) = nI (A 5 (10 * i + j)) := cm_at hM 5 _ (by simp [ca_R]; omega) (by omega)
              have h51 := hI.2.2.1.2.2.1 (10 * i + j)
              rw [hM5] at c_61
              refine ⟨?_, ?_, cb_C1.rfl'.um (by omega)⟩
              · rw [sr_against, if_pos hv, ci_nz (by omega), ci_nz (by omega)]
                rcases (show A 5 (10 * i + j) = 0 ∨ A 5 (10 * i + j) = 1 by omega) with e | e <;> rw [e] at c_61 ⊢ <;> first | rfl | exact absurd rfl c_61 | exact absurd c_61 (by decide)
              · rw [sA_against, if_pos hv, ci_nz (by omega), ci_nz (by omega), ci_nz (by omega)]
                exact hM.um (k := 5) (by omega) _ (fun _ => by
                  rcases (show m = 0 ∨ m = 1 by omega) with e | e <;> subst e <;> first | rfl | exact absurd rfl c_50 | exact absurd c_50 (by decide)))
          · skip
            refine cb_iconst (pc := 64) (v := 1) O dX11_against_64 (by decide) ?_
            refine cb_goto (pc := 65) O 69 dX11_against_65 (by decide) ?_
            exact cb_iret (pc := 69) O Rt rfl (Nat.le_of_ble_eq_true rfl) (Nat.le_of_ble_eq_true rfl) dX11_against_69 (by
              have hM5 : w.2.1 1005 (10 * i + j) = nI (A 5 (10 * i + j)) := cm_at hM 5 _ (by simp [ca_R]; omega) (by omega)
              have h51 := hI.2.2.1.2.2.1 (10 * i + j)
              rw [hM5] at c_61
              refine ⟨?_, ?_, cb_C1.rfl'.um (by omega)⟩
              · rw [sr_against, if_pos hv, ci_nz (by omega), ci_nz (by omega)]
                rcases (show A 5 (10 * i + j) = 0 ∨ A 5 (10 * i + j) = 1 by omega) with e | e <;> rw [e] at c_61 ⊢ <;> first | rfl | exact absurd rfl c_61 | exact absurd c_61 (by decide)
              · rw [sA_against, if_pos hv, ci_nz (by omega), ci_nz (by omega), ci_nz (by omega)]
                exact hM.um (k := 5) (by omega) _ (fun _ => by
                  rcases (show m = 0 ∨ m = 1 by omega) with e | e <;> subst e <;> first | rfl | exact absurd rfl c_50 | exact absurd c_50 (by decide)))
        · skip
          refine cb_iconst (pc := 53) (v := 1) O dX11_against_53 (by decide) ?_
          refine cb_goto (pc := 54) O 58 dX11_against_54 (by decide) ?_
          refine cb_zast (pc := 58) O (10 * i + j) rfl dX11_against_58 (by decide) (hM.1.1 _ rfl) (ci_m10 i j) (by omega) (by decide) ?_
          refine cb_iload (pc := 59) O dX11_against_59 rfl ?_
          refine cb_if_eq (pc := 61) O 68 dX11_against_61 (by decide) (fun c_61 => ?_) (fun c_61 => ?_)
          · skip
            refine cb_iconst (pc := 68) (v := 0) O dX11_against_68 (by decide) ?_
            exact cb_iret (pc := 69) O Rt rfl (Nat.le_of_ble_eq_true rfl) (Nat.le_of_ble_eq_true rfl) dX11_against_69 (by
              have hM5 : w.2.1 1005 (10 * i + j) = nI (A 5 (10 * i + j)) := cm_at hM 5 _ (by simp [ca_R]; omega) (by omega)
              have h51 := hI.2.2.1.2.2.1 (10 * i + j)
              rw [hM5] at c_61
              refine ⟨?_, ?_, cb_C1.rfl'.um (by omega)⟩
              · rw [sr_against, if_pos hv, ci_nz (by omega), ci_nz (by omega)]
                rcases (show A 5 (10 * i + j) = 0 ∨ A 5 (10 * i + j) = 1 by omega) with e | e <;> rw [e] at c_61 ⊢ <;> first | rfl | exact absurd rfl c_61 | exact absurd c_61 (by decide)
              · rw [sA_against, if_pos hv, ci_nz (by omega), ci_nz (by omega), ci_nz (by omega)]
                exact hM.um (k := 5) (by omega) _ (fun _ => by
                  rcases (show m = 0 ∨ m = 1 by omega) with e | e <;> subst e <;> first | rfl | exact absurd rfl c_50 | exact absurd c_50 (by decide)))
          · skip
            refine cb_iconst (pc := 64) (v := 1) O dX11_against_64 (by decide) ?_
            refine cb_goto (pc := 65) O 69 dX11_against_65 (by decide) ?_
            exact cb_iret (pc := 69) O Rt rfl (Nat.le_of_ble_eq_true rfl) (Nat.le_of_ble_eq_true rfl) dX11_against_69 (by
              have hM5 : w.2.1 1005 (10 * i + j) = nI (A 5 (10 * i + j)) := cm_at hM 5 _ (by simp [ca_R]; omega) (by omega)
              have h51 := hI.2.2.1.2.2.1 (10 * i + j)
              rw [hM5] at c_61
              refine ⟨?_, ?_, cb_C1.rfl'.um (by omega)⟩
              · rw [sr_against, if_pos hv, ci_nz (by omega), ci_nz (by omega)]
                rcases (show A 5 (10 * i + j) = 0 ∨ A 5 (10 * i + j) = 1 by omega) with e | e <;> rw [e] at c_61 ⊢ <;> first | rfl | exact absurd rfl c_61 | exact absurd c_61 (by decide)
              · rw [sA_against, if_pos hv, ci_nz (by omega), ci_nz (by omega), ci_nz (by omega)]
                exact hM.um (k := 5) (by omega) _ (fun _ => by
                  rcases (show m = 0 ∨ m = 1 by omega) with e | e <;> subst e <;> first | rfl | exact absurd rfl c_50 | exact absurd c_50 (by decide)))
      · skip
        refine cb_iconst (pc := 23) (v := (-1)) O dX11_against_23 (by decide) ?_
        exact cb_iret (pc := 24) O Rt rfl (Nat.le_of_ble_eq_true rfl) (Nat.le_of_ble_eq_true rfl) dX11_against_24 (by
          have hv : ¬ sv_against i j m := by simp only [sv_against]; simp [*]
          exact ⟨by rw [sr_against, if_neg hv], by rw [sA_against, if_neg hv]; exact hM, cb_C1.rfl'⟩)

theorem k_mixed (w : cb_W) (A : ca_A) (z : Int32) (hI : ca_I A) (hC : cc_I w A z) (p q m : Int32) : cb_Con yX10_mixed cX10_mixed 4 (some .int) 2 42 0 0 (fun _ => true) [.inr (some 0), .inl p, .inl q, .inl m] w (cb_pi (fun x w' => x = sr_mixed A p q m ∧ cc_I w' (sA_mixed A p q m) z ∧ cb_M1 w w')) := by
  refine cb_con (by decide) (Nat.le_of_ble_eq_true rfl) (fun κ O Rt hnm => ?_)
  show cb_X κ w 0 0 0 [some (.inr (some 0)), some (.inl p), some (.inl q), some (.inl m)] []
  refine cb_iload_n (pc := 0) O dX10_mixed_0 rfl ?_
  refine cb_cSp (pc := 1) O (c_X10_isInk _ _) my_X10_isInk mt_X10_isInk ml_X10_89 dX10_mixed_1 rfl rfl ⟨(Nat.le_of_ble_eq_true rfl), (Nat.le_of_ble_eq_true rfl)⟩ (Nat.le_of_ble_eq_true rfl) rfl ⟨(Nat.le_of_ble_eq_true rfl), (Nat.le_of_ble_eq_true rfl)⟩ ?_
  refine cb_ifp_eq (pc := 4) O 26 dX10_mixed_4 (by decide) (fun c_4 => ?_) (fun c_4 => ?_)
  · skip
    refine cb_iconst (pc := 26) (v := (-1)) O dX10_mixed_26 (by decide) ?_
    exact cb_iret (pc := 27) O Rt rfl (Nat.le_of_ble_eq_true rfl) (Nat.le_of_ble_eq_true rfl) dX10_mixed_27 (by
      have hv : ¬ sv_mixed p q m := by simp only [sv_mixed]; simp [*]
      exact ⟨by rw [sr_mixed, if_neg hv], by rw [sA_mixed, if_neg hv]; exact hC, cb_M1.rfl'⟩)
  · skip
    refine cb_iload_n (pc := 7) O dX10_mixed_7 rfl ?_
    refine cb_cSp (pc := 8) O (c_X10_isInk _ _) my_X10_isInk mt_X10_isInk ml_X10_89 dX10_mixed_8 rfl rfl ⟨(Nat.le_of_ble_eq_true rfl), (Nat.le_of_ble_eq_true rfl)⟩ (Nat.le_of_ble_eq_true rfl) rfl ⟨(Nat.le_of_ble_eq_true rfl), (Nat.le_of_ble_eq_true rfl)⟩ ?_
    refine cb_ifp_eq (pc := 11) O 26 dX10_mixed_11 (by decide) (fun c_11 => ?_) (fun c_11 => ?_)
    · skip
      refine cb_iconst (pc := 26) (v := (-1)) O dX10_mixed_26 (by decide) ?_
      exact cb_iret (pc := 27) O Rt rfl (Nat.le_of_ble_eq_true rfl) (Nat.le_of_ble_eq_true rfl) dX10_mixed_27 (by
        have hv : ¬ sv_mixed p q m := by simp only [sv_mixed]; simp [*]
        exact ⟨by rw [sr_mixed, if_neg hv], by rw [sA_mixed, if_neg hv]; exact hC, cb_M1.rfl'⟩)
    · skip
      refine cb_iload_n (pc := 14) O dX10_mixed_14 rfl ?_
      refine cb_iload_n (pc := 15) O dX10_mixed_15 rfl ?_
      refine cb_icmp_eq (pc := 16) O 26 dX10_mixed_16 (by decide) (fun c_16 => ?_) (fun c_16 => ?_)
      · skip
        refine cb_iconst (pc := 26) (v := (-1)) O dX10_mixed_26 (by decide) ?_
        exact cb_iret (pc := 27) O Rt rfl (Nat.le_of_ble_eq_true rfl) (Nat.le_of_ble_eq_true rfl) dX10_mixed_27 (by
          have hv : ¬ sv_mixed p q m := by simp only [sv_mixed]; simp [*]
          exact ⟨by rw [sr_mixed, if_neg hv], by rw [sA_mixed, if_neg hv]; exact hC, cb_M1.rfl'⟩)
      · skip
        refine cb_iload_n (pc := 19) O dX10_mixed_19 rfl ?_
        refine cb_cSp (pc := 20) O (c_X10_isInk _ _) my_X10_isInk mt_X10_isInk ml_X10_89 dX10_mixed_20 rfl rfl ⟨(Nat.le_of_ble_eq_true rfl), (Nat.le_of_ble_eq_true rfl)⟩ (Nat.le_of_ble_eq_true rfl) rfl ⟨(Nat.le_of_ble_eq_true rfl), (Nat.le_of_ble_eq_true rfl)⟩ ?_
        refine cb_ifp_ne (pc := 23) O 28 dX10_mixed_23 (by decide) (fun c_23 => ?_) (fun c_23 => ?_)
        · skip
          have hv : sv_mixed p q m := ⟨c_4, c_11, c_16, c_23⟩
          obtain ⟨p, hp, rfl⟩ := ci_in (n := 9) c_4 rfl
          obtain ⟨q, hq, rfl⟩ := ci_in (n := 9) c_11 rfl
          obtain ⟨m, hm, rfl⟩ := ci_in (n := 9) c_23 rfl
          have hpq : p ≠ q := fun e => c_16 (by rw [e])
          refine cb_aload_n (pc := 28) O dX10_mixed_28 rfl ?_
          refine cb_getR (pc := 29) O fl_X10_12 rfl rfl dX10_mixed_29 (hC.1.1 _ rfl) (hC.1.2 _ _ _ rfl) ?_
          refine cb_getR (pc := 32) O fl_X10_110 rfl rfl dX10_mixed_32 (hC.1.1 _ rfl) (hC.1.2 _ _ _ rfl) ?_
          refine cb_iload_n (pc := 35) O dX10_mixed_35 rfl ?_
          refine cb_aald (pc := 36) O q rfl (by decide) (by decide) dX10_mixed_36 (by decide) (hC.1.1 _ rfl) rfl (by omega) (hC.1.2 11 q (120 + q) (by simp [cc_Rf]; omega)) ?_
          refine cb_iload_n (pc := 37) O dX10_mixed_37 rfl ?_
          refine cb_iload_n (pc := 38) O dX10_mixed_38 rfl ?_
          refine cb_iast (pc := 39) O p (sh_mx (by omega)) dX10_mixed_39 (by decide) (hC.1.1 _ (lv_f (by omega))) rfl (by omega) ?_
          refine cb_aload_n (pc := 40) O dX10_mixed_40 rfl ?_
          refine cb_getR (pc := 41) O fl_X10_12 rfl rfl dX10_mixed_41 (hC.1.1 _ rfl) (hC.1.2 _ _ _ rfl) ?_
          refine cb_getR (pc := 44) O fl_X10_110 rfl rfl dX10_mixed_44 (hC.1.1 _ rfl) (hC.1.2 _ _ _ rfl) ?_
          refine cb_iload_n (pc := 47) O dX10_mixed_47 rfl ?_
          refine cb_aald (pc := 48) O p rfl (by decide) (by decide) dX10_mixed_48 (by decide) (hC.1.1 _ rfl) rfl (by omega) (hC.1.2 11 p (120 + p) (by simp [cc_Rf]; omega)) ?_
          refine cb_iload_n (pc := 49) O dX10_mixed_49 rfl ?_
          refine cb_iload_n (pc := 50) O dX10_mixed_50 rfl ?_
          refine cb_cSi (pc := 51) O (c_X10_replace (cb_um w (120 + q) p (nI m)) (120 + p) 10 q (nI m) (sh_mx (by omega)) (hC.1.1 _ (lv_f (by omega))) (by omega) (by decide)) my_X10_replace mt_X10_replace ml_X10_100 dX10_mixed_51 rfl rfl ⟨(Nat.le_of_ble_eq_true rfl), (Nat.le_of_ble_eq_true rfl)⟩ (Nat.le_of_ble_eq_true rfl) rfl ⟨(Nat.le_of_ble_eq_true rfl), (Nat.le_of_ble_eq_true rfl)⟩ (fun _ _ => rfl) (fun x_51 w_51 hp_51 => ?_)
          obtain ⟨rfl, rfl⟩ := hp_51
          exact cb_iret (pc := 54) O Rt rfl (Nat.le_of_ble_eq_true rfl) (Nat.le_of_ble_eq_true rfl) dX10_mixed_54 (by
            refine ⟨?_, ?_, (cb_M1.rfl'.um (by omega)).um (by omega)⟩
            · rw [sr_mixed, if_pos hv, ci_nz (by omega), ci_nz (by omega)]
              simp only [cb_um]
              rw [cb_u2n (by omega)]
              exact hC.2.2.2.1.2.2.2 p q (by omega) (by omega)
            · rw [sA_mixed, if_pos hv, ci_nz (by omega), ci_nz (by omega), ci_nz (by omega), cb_u2c]
              exact ⟨hC.1, hC.2.1.cg (fun r k h => by first | rfl | (simp only [cb_um, cb_ur]; repeat rw [cb_u2n (by omega)])) (fun k i h => by first | rfl | (repeat rw [cb_u2n (by omega)])), hC.2.2.1.cg (fun r k h => by first | rfl | (simp only [cb_um, cb_ur]; repeat rw [cb_u2n (by omega)])) (fun k i h => by first | rfl | (repeat rw [cb_u2n (by omega)])), (hC.2.2.2.1.mix (i := q) (c := p) (by omega) (by omega) m).mix (i := p) (c := q) (by omega) (by omega) m, hC.2.2.2.2.1.cg hI.1.2.2.2.1 (fun r h1 h2 => rfl) (fun r k h => by first | rfl | (simp only [cb_um, cb_ur]; repeat rw [cb_u2n (by omega)])) (fun r k h1 h2 => by first | rfl | (simp only [cb_um, cb_ur]; repeat rw [cb_u2n (by omega)])) (fun k i h => by first | rfl | (repeat rw [cb_u2n (by omega)])), hC.2.2.2.2.2.1.cg hI.1.2.2.2.2.1 (fun r h1 h2 => rfl) (fun k => by first | rfl | (simp only [cb_ur]; repeat rw [cb_u2n (by omega)])) (fun r k h1 h2 => by first | rfl | (simp only [cb_um, cb_ur]; repeat rw [cb_u2n (by omega)])) (fun k i h => by first | rfl | (repeat rw [cb_u2n (by omega)])), hC.2.2.2.2.2.2.1.cg (fun r k h => by first | rfl | (simp only [cb_um, cb_ur]; repeat rw [cb_u2n (by omega)])) (fun k i h => by first | rfl | (repeat rw [cb_u2n (by omega)])), hC.2.2.2.2.2.2.2.1.cg (fun r k h => by first | rfl | (simp only [cb_um, cb_ur]; repeat rw [cb_u2n (by omega)])) (fun k i h => by first | rfl | (repeat rw [cb_u2n (by omega)])), hC.2.2.2.2.2.2.2.2.1, hC.2.2.2.2.2.2.2.2.2.1, hC.2.2.2.2.2.2.2.2.2.2⟩)
        · skip
          refine cb_iconst (pc := 26) (v := (-1)) O dX10_mixed_26 (by decide) ?_
          exact cb_iret (pc := 27) O Rt rfl (Nat.le_of_ble_eq_true rfl) (Nat.le_of_ble_eq_true rfl) dX10_mixed_27 (by
            have hv : ¬ sv_mixed p q m := by simp only [sv_mixed]; simp [*]
            exact ⟨by rw [sr_mixed, if_neg hv], by rw [sA_mixed, if_neg hv]; exact hC, cb_M1.rfl'⟩)

theorem m_mixed (w : cb_W) (A : ca_A) (z : Int32) (hI : ca_I A) (hM : cm_I w A z) (p q m : Int32) : cb_Con yX11_mixed cX11_mixed 5 (some .int) 2 42 0 0 (fun _ => true) [.inr (some 1000), .inl p, .inl q, .inl m] w (cb_pi (fun x w' => x = sr_mixed A p q m ∧ cm_I w' (sA_mixed A p q m) z ∧ cb_C1 w w')) := by
  refine cb_con (by decide) (Nat.le_of_ble_eq_true rfl) (fun κ O Rt hnm => ?_)
  show cb_X κ w 0 0 0 [some (.inr (some 1000)), some (.inl p), some (.inl q), some (.inl m), none] []
  refine cb_iload_n (pc := 0) O dX11_mixed_0 rfl ?_
  refine cb_cSp (pc := 1) O (c_X11_isInk _ _) my_X11_isInk mt_X11_isInk ml_X11_103 dX11_mixed_1 rfl rfl ⟨(Nat.le_of_ble_eq_true rfl), (Nat.le_of_ble_eq_true rfl)⟩ (Nat.le_of_ble_eq_true rfl) rfl ⟨(Nat.le_of_ble_eq_true rfl), (Nat.le_of_ble_eq_true rfl)⟩ ?_
  refine cb_ifp_eq (pc := 4) O 26 dX11_mixed_4 (by decide) (fun c_4 => ?_) (fun c_4 => ?_)
  · skip
    refine cb_iconst (pc := 26) (v := (-1)) O dX11_mixed_26 (by decide) ?_
    exact cb_iret (pc := 27) O Rt rfl (Nat.le_of_ble_eq_true rfl) (Nat.le_of_ble_eq_true rfl) dX11_mixed_27 (by
      have hv : ¬ sv_mixed p q m := by simp only [sv_mixed]; simp [*]
      exact ⟨by rw [sr_mixed, if_neg hv], by rw [sA_mixed, if_neg hv]; exact hM, cb_C1.rfl'⟩)
  · skip
    refine cb_iload_n (pc := 7) O dX11_mixed_7 rfl ?_
    refine cb_cSp (pc := 8) O (c_X11_isInk _ _) my_X11_isInk mt_X11_isInk ml_X11_103 dX11_mixed_8 rfl rfl ⟨(Nat.le_of_ble_eq_true rfl), (Nat.le_of_ble_eq_true rfl)⟩ (Nat.le_of_ble_eq_true rfl) rfl ⟨(Nat.le_of_ble_eq_true rfl), (Nat.le_of_ble_eq_true rfl)⟩ ?_
    refine cb_ifp_eq (pc := 11) O 26 dX11_mixed_11 (by decide) (fun c_11 => ?_) (fun c_11 => ?_)
    · skip
      refine cb_iconst (pc := 26) (v := (-1)) O dX11_mixed_26 (by decide) ?_
      exact cb_iret (pc := 27) O Rt rfl (Nat.le_of_ble_eq_true rfl) (Nat.le_of_ble_eq_true rfl) dX11_mixed_27 (by
        have hv : ¬ sv_mixed p q m := by simp only [sv_mixed]; simp [*]
        exact ⟨by rw [sr_mixed, if_neg hv], by rw [sA_mixed, if_neg hv]; exact hM, cb_C1.rfl'⟩)
    · skip
      refine cb_iload_n (pc := 14) O dX11_mixed_14 rfl ?_
      refine cb_iload_n (pc := 15) O dX11_mixed_15 rfl ?_
      refine cb_icmp_eq (pc := 16) O 26 dX11_mixed_16 (by decide) (fun c_16 => ?_) (fun c_16 => ?_)
      · skip
        refine cb_iconst (pc := 26) (v := (-1)) O dX11_mixed_26 (by decide) ?_
        exact cb_iret (pc := 27) O Rt rfl (Nat.le_of_ble_eq_true rfl) (Nat.le_of_ble_eq_true rfl) dX11_mixed_27 (by
          have hv : ¬ sv_mixed p q m := by simp only [sv_mixed]; simp [*]
          exact ⟨by rw [sr_mixed, if_neg hv], by rw [sA_mixed, if_neg hv]; exact hM, cb_C1.rfl'⟩)
      · skip
        refine cb_iload_n (pc := 19) O dX11_mixed_19 rfl ?_
        refine cb_cSp (pc := 20) O (c_X11_isInk _ _) my_X11_isInk mt_X11_isInk ml_X11_103 dX11_mixed_20 rfl rfl ⟨(Nat.le_of_ble_eq_true rfl), (Nat.le_of_ble_eq_true rfl)⟩ (Nat.le_of_ble_eq_true rfl) rfl ⟨(Nat.le_of_ble_eq_true rfl), (Nat.le_of_ble_eq_true rfl)⟩ ?_
        refine cb_ifp_ne (pc := 23) O 28 dX11_mixed_23 (by decide) (fun c_23 => ?_) (fun c_23 => ?_)
        · skip
          have hv : sv_mixed p q m := ⟨c_4, c_11, c_16, c_23⟩
          obtain ⟨p, hp, rfl⟩ := ci_in (n := 9) c_4 rfl
          obtain ⟨q, hq, rfl⟩ := ci_in (n := 9) c_11 rfl
          obtain ⟨m, hm, rfl⟩ := ci_in (n := 9) c_23 rfl
          have hpq : p ≠ q := fun e => c_16 (by rw [e])
          refine cb_aload_n (pc := 28) O dX11_mixed_28 rfl ?_
          refine cb_getR (pc := 29) O fl_X11_20 rfl rfl dX11_mixed_29 (hM.1.1 _ rfl) (hM.1.2 _ _ _ rfl) ?_
          refine cb_bipush (pc := 32) (v := 10) O dX11_mixed_32 (by decide) ?_
          refine cb_iload_n (pc := 34) O dX11_mixed_34 rfl ?_
          refine cb_imul (pc := 35) O dX11_mixed_35 ?_
          refine cb_iload_n (pc := 36) O dX11_mixed_36 rfl ?_
          refine cb_iadd (pc := 37) O dX11_mixed_37 ?_
          refine cb_iald (pc := 38) O (10 * p + q) rfl dX11_mixed_38 (by decide) (hM.1.1 _ rfl) (ci_m10 p q) (by omega) ?_
          refine cb_istore (pc := 39) O dX11_mixed_39 (by decide) ?_
          dsimp only [List.set]
          refine cb_aload_n (pc := 41) O dX11_mixed_41 rfl ?_
          refine cb_getR (pc := 42) O fl_X11_20 rfl rfl dX11_mixed_42 (hM.1.1 _ rfl) (hM.1.2 _ _ _ rfl) ?_
          refine cb_bipush (pc := 45) (v := 10) O dX11_mixed_45 (by decide) ?_
          refine cb_iload_n (pc := 47) O dX11_mixed_47 rfl ?_
          refine cb_imul (pc := 48) O dX11_mixed_48 ?_
          refine cb_iload_n (pc := 49) O dX11_mixed_49 rfl ?_
          refine cb_iadd (pc := 50) O dX11_mixed_50 ?_
          refine cb_iload_n (pc := 51) O dX11_mixed_51 rfl ?_
          refine cb_iast (pc := 52) O (10 * p + q) rfl dX11_mixed_52 (by decide) (hM.1.1 _ rfl) (ci_m10 p q) (by omega) ?_
          refine cb_aload_n (pc := 53) O dX11_mixed_53 rfl ?_
          refine cb_getR (pc := 54) O fl_X11_20 rfl rfl dX11_mixed_54 (hM.1.1 _ rfl) (hM.1.2 _ _ _ rfl) ?_
          refine cb_bipush (pc := 57) (v := 10) O dX11_mixed_57 (by decide) ?_
          refine cb_iload_n (pc := 59) O dX11_mixed_59 rfl ?_
          refine cb_imul (pc := 60) O dX11_mixed_60 ?_
          refine cb_iload_n (pc := 61) O dX11_mixed_61 rfl ?_
          refine cb_iadd (pc := 62) O dX11_mixed_62 ?_
          refine cb_iload_n (pc := 63) O dX11_mixed_63 rfl ?_
          refine cb_iast (pc := 64) O (10 * q + p) rfl dX11_mixed_64 (by decide) (hM.1.1 _ rfl) (ci_m10 q p) (by omega) ?_
          refine cb_iload (pc := 65) O dX11_mixed_65 rfl ?_
          exact cb_iret (pc := 67) O Rt rfl (Nat.le_of_ble_eq_true rfl) (Nat.le_of_ble_eq_true rfl) dX11_mixed_67 (by
            refine ⟨?_, ?_, (cb_C1.rfl'.um (by omega)).um (by omega)⟩
            · rw [sr_mixed, if_pos hv, ci_nz (by omega), ci_nz (by omega)]
              exact cm_at hM 6 _ (by simp [ca_R]; omega) (by omega)
            · rw [sA_mixed, if_pos hv, ci_nz (by omega), ci_nz (by omega), ci_nz (by omega)]
              exact (hM.um (k := 6) (by omega) _ (fun _ => rfl)).um (k := 6) (by omega) _ (fun _ => rfl))
        · skip
          refine cb_iconst (pc := 26) (v := (-1)) O dX11_mixed_26 (by decide) ?_
          exact cb_iret (pc := 27) O Rt rfl (Nat.le_of_ble_eq_true rfl) (Nat.le_of_ble_eq_true rfl) dX11_mixed_27 (by
            have hv : ¬ sv_mixed p q m := by simp only [sv_mixed]; simp [*]
            exact ⟨by rw [sr_mixed, if_neg hv], by rw [sA_mixed, if_neg hv]; exact hM, cb_C1.rfl'⟩)

abbrev sv_lots (a v : Int32) : Prop := a = 0 ∧ 0 ≤ v ∧ v ≤ 999
def sr_lots (a v : Int32) : Int32 := if sv_lots a v ∨ a = 1 then 1 else -1
def sA_lots (A : ca_A) (a v : Int32) : ca_A := if sv_lots a v then cb_u2 A 0 6 v.toNatClampNeg else A
def sz_lots (z a v : Int32) : Int32 := if a = 1 then v else z
abbrev sv_minutes (A : ca_A) (n : Int32) : Prop := (1 ≤ n ∧ n ≤ 1000) ∧ A 0 8 + n.toNatClampNeg ≤ 99999
def sr_minutes (A : ca_A) (n : Int32) : Int32 := if sv_minutes A n then nI (A 0 8 + n.toNatClampNeg) else -1
def sA_minutes (A : ca_A) (n : Int32) : ca_A := if sv_minutes A n then cb_u2 A 0 8 (A 0 8 + n.toNatClampNeg) else A
theorem cc_N.sl {M : Nat → Nat → Int32} {A : ca_A} {z : Int32} (h : cc_N M A z) (m : Nat) : cc_N (cb_u2 M 2 1 (nI m)) (cb_u2 A 0 6 m) z := by
  obtain ⟨b0, b1, b2, b3, b4⟩ := h
  exact ⟨b0, b1, b2, b3, rfl⟩
theorem cc_N.zz {M : Nat → Nat → Int32} {A : ca_A} {z v : Int32} (h : cc_N M A z) : cc_N (cb_u2 M 2 0 v) A v := by
  obtain ⟨b0, b1, b2, b3, b4⟩ := h
  exact ⟨b0, b1, b2, rfl, b4⟩
theorem cc_N.mi {M : Nat → Nat → Int32} {A : ca_A} {z : Int32} (h : cc_N M A z) (m : Nat) : cc_N (cb_u2 M 0 11 (nI m)) (cb_u2 A 0 8 m) z := by
  obtain ⟨b0, b1, b2, b3, b4⟩ := h
  exact ⟨b0, b1, rfl, b3, b4⟩
theorem cm_I.zz {w : cb_W} {A : ca_A} {z v : Int32} (h : cm_I w A z) : cm_I (cb_um w 1000 7 v) A v := by
  obtain ⟨h1, h2, h3⟩ := h
  refine ⟨h1, fun k i hk => ?_, rfl⟩
  show cb_u2 w.2.1 1000 7 v (1000 + k) i = _
  have e9 : 1000 + k ≠ 1000 ∨ i ≠ 7 := by
    rcases Nat.eq_zero_or_pos k with e | e
    · subst e
      right
      intro e2
      subst e2
      revert hk
      decide
    · omega
  rw [cb_u2n e9]
  exact h2 k i hk
theorem k_lots (w : cb_W) (A : ca_A) (z : Int32) (hI : ca_I A) (hC : cc_I w A z) (a v : Int32) : cb_Con yX10_lots cX10_lots 3 (some .int) 1 22 0 0 (fun _ => true) [.inr (some 0), .inl a, .inl v] w (cb_pi (fun x w' => x = sr_lots a v ∧ cc_I w' (sA_lots A a v) (sz_lots z a v) ∧ cb_M1 w w')) := by
  refine cb_con (by decide) (Nat.le_of_ble_eq_true rfl) (fun κ O Rt hnm => ?_)
  show cb_X κ w 0 0 0 [some (.inr (some 0)), some (.inl a), some (.inl v)] []
  refine cb_iload_n (pc := 0) O dX10_lots_0 rfl ?_
  refine cb_if_ne (pc := 1) O 25 dX10_lots_1 (by decide) (fun c_1 => ?_) (fun c_1 => ?_)
  · skip
    refine cb_iload_n (pc := 25) O dX10_lots_25 rfl ?_
    refine cb_iconst (pc := 26) (v := 1) O dX10_lots_26 (by decide) ?_
    refine cb_icmp_ne (pc := 27) O 40 dX10_lots_27 (by decide) (fun c_27 => ?_) (fun c_27 => ?_)
    · skip
      refine cb_iconst (pc := 40) (v := (-1)) O dX10_lots_40 (by decide) ?_
      exact cb_iret (pc := 41) O Rt rfl (Nat.le_of_ble_eq_true rfl) (Nat.le_of_ble_eq_true rfl) dX10_lots_41 (by
        have h0 : ¬ sv_lots a v := by simp only [sv_lots]; intro h; simp_all
        have h1 : ¬ a = 1 := by intro h; simp_all
        exact ⟨by rw [sr_lots, if_neg (by intro h; rcases h with h | h; exact h0 h; exact h1 h)], by rw [sA_lots, if_neg h0, sz_lots, if_neg h1]; exact hC, cb_M1.rfl'⟩)
    · skip
      have hv : ¬ sv_lots a v := fun h => by rw [h.1] at c_27; exact absurd c_27 (by decide)
      refine cb_aload_n (pc := 30) O dX10_lots_30 rfl ?_
      refine cb_getR (pc := 31) O fl_X10_19 rfl rfl dX10_lots_31 (hC.1.1 _ rfl) (hC.1.2 _ _ _ rfl) ?_
      refine cb_iload_n (pc := 34) O dX10_lots_34 rfl ?_
      refine cb_putIc (pc := 35) O fl_X10_116 (Or.inl rfl) rfl rfl dX10_lots_35 rfl rfl (hC.1.1 _ rfl) ?_
      refine cb_iconst (pc := 38) (v := 1) O dX10_lots_38 (by decide) ?_
      exact cb_iret (pc := 39) O Rt rfl (Nat.le_of_ble_eq_true rfl) (Nat.le_of_ble_eq_true rfl) dX10_lots_39 (by
        refine ⟨by rw [sr_lots, if_pos (Or.inr c_27)], ?_, cb_M1.rfl'.um (by omega)⟩
        rw [sA_lots, if_neg hv, sz_lots, if_pos c_27]
        exact ⟨hC.1, hC.2.1.cg (fun r k h => by first | rfl | (simp only [cb_um, cb_ur]; repeat rw [cb_u2n (by omega)])) (fun k i h => by first | rfl | (repeat rw [cb_u2n (by omega)])), hC.2.2.1.zz, hC.2.2.2.1.cg (fun r k h => by first | rfl | (simp only [cb_um, cb_ur]; repeat rw [cb_u2n (by omega)])) (fun k i h => by first | rfl | (repeat rw [cb_u2n (by omega)])), hC.2.2.2.2.1.cg hI.1.2.2.2.1 (fun r h1 h2 => rfl) (fun r k h => by first | rfl | (simp only [cb_um, cb_ur]; repeat rw [cb_u2n (by omega)])) (fun r k h1 h2 => by first | rfl | (simp only [cb_um, cb_ur]; repeat rw [cb_u2n (by omega)])) (fun k i h => by first | rfl | (repeat rw [cb_u2n (by omega)])), hC.2.2.2.2.2.1.cg hI.1.2.2.2.2.1 (fun r h1 h2 => rfl) (fun k => by first | rfl | (simp only [cb_ur]; repeat rw [cb_u2n (by omega)])) (fun r k h1 h2 => by first | rfl | (simp only [cb_um, cb_ur]; repeat rw [cb_u2n (by omega)])) (fun k i h => by first | rfl | (repeat rw [cb_u2n (by omega)])), hC.2.2.2.2.2.2.1.cg (fun r k h => by first | rfl | (simp only [cb_um, cb_ur]; repeat rw [cb_u2n (by omega)])) (fun k i h => by first | rfl | (repeat rw [cb_u2n (by omega)])), hC.2.2.2.2.2.2.2.1.cg (fun r k h => by first | rfl | (simp only [cb_um, cb_ur]; repeat rw [cb_u2n (by omega)])) (fun k i h => by first | rfl | (repeat rw [cb_u2n (by omega)])), hC.2.2.2.2.2.2.2.2.1, hC.2.2.2.2.2.2.2.2.2.1, hC.2.2.2.2.2.2.2.2.2.2⟩)
  · skip
    refine cb_iload_n (pc := 4) O dX10_lots_4 rfl ?_
    refine cb_iconst (pc := 5) (v := 0) O dX10_lots_5 (by decide) ?_
    refine cb_sipush (pc := 6) (v := 999) O dX10_lots_6 (by decide) ?_
    refine cb_cSp (pc := 9) O (c_X10_within _ _ _ _) my_X10_within mt_X10_within ml_X10_81 dX10_lots_9 rfl rfl ⟨(Nat.le_of_ble_eq_true rfl), (Nat.le_of_ble_eq_true rfl)⟩ (Nat.le_of_ble_eq_true rfl) rfl ⟨(Nat.le_of_ble_eq_true rfl), (Nat.le_of_ble_eq_true rfl)⟩ ?_
    refine cb_ifp_eq (pc := 12) O 25 dX10_lots_12 (by decide) (fun c_12 => ?_) (fun c_12 => ?_)
    · skip
      refine cb_iload_n (pc := 25) O dX10_lots_25 rfl ?_
      refine cb_iconst (pc := 26) (v := 1) O dX10_lots_26 (by decide) ?_
      refine cb_icmp_ne (pc := 27) O 40 dX10_lots_27 (by decide) (fun c_27 => ?_) (fun c_27 => ?_)
      · skip
        refine cb_iconst (pc := 40) (v := (-1)) O dX10_lots_40 (by decide) ?_
        exact cb_iret (pc := 41) O Rt rfl (Nat.le_of_ble_eq_true rfl) (Nat.le_of_ble_eq_true rfl) dX10_lots_41 (by
          have h0 : ¬ sv_lots a v := by simp only [sv_lots]; intro h; simp_all
          have h1 : ¬ a = 1 := by intro h; simp_all
          exact ⟨by rw [sr_lots, if_neg (by intro h; rcases h with h | h; exact h0 h; exact h1 h)], by rw [sA_lots, if_neg h0, sz_lots, if_neg h1]; exact hC, cb_M1.rfl'⟩)
      · skip
        have hv : ¬ sv_lots a v := fun h => by rw [h.1] at c_27; exact absurd c_27 (by decide)
        refine cb_aload_n (pc := 30) O dX10_lots_30 rfl ?_
        refine cb_getR (pc := 31) O fl_X10_19 rfl rfl dX10_lots_31 (hC.1.1 _ rfl) (hC.1.2 _ _ _ rfl) ?_
        refine cb_iload_n (pc := 34) O dX10_lots_34 rfl ?_
        refine cb_putIc (pc := 35) O fl_X10_116 (Or.inl rfl) rfl rfl dX10_lots_35 rfl rfl (hC.1.1 _ rfl) ?_
        refine cb_iconst (pc := 38) (v := 1) O dX10_lots_38 (by decide) ?_
        exact cb_iret (pc := 39) O Rt rfl (Nat.le_of_ble_eq_true rfl) (Nat.le_of_ble_eq_true rfl) dX10_lots_39 (by
          refine ⟨by rw [sr_lots, if_pos (Or.inr c_27)], ?_, cb_M1.rfl'.um (by omega)⟩
          rw [sA_lots, if_neg hv, sz_lots, if_pos c_27]
          exact ⟨hC.1, hC.2.1.cg (fun r k h => by first | rfl | (simp only [cb_um, cb_ur]; repeat rw [cb_u2n (by omega)])) (fun k i h => by first | rfl | (repeat rw [cb_u2n (by omega)])), hC.2.2.1.zz, hC.2.2.2.1.cg (fun r k h => by first | rfl | (simp only [cb_um, cb_ur]; repeat rw [cb_u2n (by omega)])) (fun k i h => by first | rfl | (repeat rw [cb_u2n (by omega)])), hC.2.2.2.2.1.cg hI.1.2.2.2.1 (fun r h1 h2 => rfl) (fun r k h => by first | rfl | (simp only [cb_um, cb_ur]; repeat rw [cb_u2n (by omega)])) (fun r k h1 h2 => by first | rfl | (simp only [cb_um, cb_ur]; repeat rw [cb_u2n (by omega)])) (fun k i h => by first | rfl | (repeat rw [cb_u2n (by omega)])), hC.2.2.2.2.2.1.cg hI.1.2.2.2.2.1 (fun r h1 h2 => rfl) (fun k => by first | rfl | (simp only [cb_ur]; repeat rw [cb_u2n (by omega)])) (fun r k h1 h2 => by first | rfl | (simp only [cb_um, cb_ur]; repeat rw [cb_u2n (by omega)])) (fun k i h => by first | rfl | (repeat rw [cb_u2n (by omega)])), hC.2.2.2.2.2.2.1.cg (fun r k h => by first | rfl | (simp only [cb_um, cb_ur]; repeat rw [cb_u2n (by omega)])) (fun k i h => by first | rfl | (repeat rw [cb_u2n (by omega)])), hC.2.2.2.2.2.2.2.1.cg (fun r k h => by first | rfl | (simp only [cb_um, cb_ur]; repeat rw [cb_u2n (by omega)])) (fun k i h => by first | rfl | (repeat rw [cb_u2n (by omega)])), hC.2.2.2.2.2.2.2.2.1, hC.2.2.2.2.2.2.2.2.2.1, hC.2.2.2.2.2.2.2.2.2.2⟩)
    · skip
      have hv : sv_lots a v := ⟨c_1, c_12⟩
      obtain ⟨v, hv2, rfl⟩ := ci_in (n := 999) c_12 rfl
      have ha1 : ¬ a = 1 := by rw [c_1]; decide
      refine cb_aload_n (pc := 15) O dX10_lots_15 rfl ?_
      refine cb_getR (pc := 16) O fl_X10_19 rfl rfl dX10_lots_16 (hC.1.1 _ rfl) (hC.1.2 _ _ _ rfl) ?_
      refine cb_iload_n (pc := 19) O dX10_lots_19 rfl ?_
      refine cb_putIc (pc := 20) O fl_X10_113 (Or.inl rfl) rfl rfl dX10_lots_20 rfl rfl (hC.1.1 _ rfl) ?_
      refine cb_iconst (pc := 23) (v := 1) O dX10_lots_23 (by decide) ?_
      exact cb_iret (pc := 24) O Rt rfl (Nat.le_of_ble_eq_true rfl) (Nat.le_of_ble_eq_true rfl) dX10_lots_24 (by
        refine ⟨by rw [sr_lots, if_pos (Or.inl hv)], ?_, cb_M1.rfl'.um (by omega)⟩
        rw [sA_lots, if_pos hv, sz_lots, if_neg ha1, ci_nz (by omega)]
        exact ⟨hC.1, hC.2.1.cg (fun r k h => by first | rfl | (simp only [cb_um, cb_ur]; repeat rw [cb_u2n (by omega)])) (fun k i h => by first | rfl | (repeat rw [cb_u2n (by omega)])), hC.2.2.1.sl v, hC.2.2.2.1.cg (fun r k h => by first | rfl | (simp only [cb_um, cb_ur]; repeat rw [cb_u2n (by omega)])) (fun k i h => by first | rfl | (repeat rw [cb_u2n (by omega)])), hC.2.2.2.2.1.cg hI.1.2.2.2.1 (fun r h1 h2 => rfl) (fun r k h => by first | rfl | (simp only [cb_um, cb_ur]; repeat rw [cb_u2n (by omega)])) (fun r k h1 h2 => by first | rfl | (simp only [cb_um, cb_ur]; repeat rw [cb_u2n (by omega)])) (fun k i h => by first | rfl | (repeat rw [cb_u2n (by omega)])), hC.2.2.2.2.2.1.cg hI.1.2.2.2.2.1 (fun r h1 h2 => rfl) (fun k => by first | rfl | (simp only [cb_ur]; repeat rw [cb_u2n (by omega)])) (fun r k h1 h2 => by first | rfl | (simp only [cb_um, cb_ur]; repeat rw [cb_u2n (by omega)])) (fun k i h => by first | rfl | (repeat rw [cb_u2n (by omega)])), hC.2.2.2.2.2.2.1.cg (fun r k h => by first | rfl | (simp only [cb_um, cb_ur]; repeat rw [cb_u2n (by omega)])) (fun k i h => by first | rfl | (repeat rw [cb_u2n (by omega)])), hC.2.2.2.2.2.2.2.1.cg (fun r k h => by first | rfl | (simp only [cb_um, cb_ur]; repeat rw [cb_u2n (by omega)])) (fun k i h => by first | rfl | (repeat rw [cb_u2n (by omega)])), hC.2.2.2.2.2.2.2.2.1, hC.2.2.2.2.2.2.2.2.2.1, hC.2.2.2.2.2.2.2.2.2.2⟩)

theorem m_lots (w : cb_W) (A : ca_A) (z : Int32) (hI : ca_I A) (hM : cm_I w A z) (a v : Int32) : cb_Con yX11_lots cX11_lots 3 (some .int) 1 22 0 0 (fun _ => true) [.inr (some 1000), .inl a, .inl v] w (cb_pi (fun x w' => x = sr_lots a v ∧ cm_I w' (sA_lots A a v) (sz_lots z a v) ∧ cb_C1 w w')) := by
  refine cb_con (by decide) (Nat.le_of_ble_eq_true rfl) (fun κ O Rt hnm => ?_)
  show cb_X κ w 0 0 0 [some (.inr (some 1000)), some (.inl a), some (.inl v)] []
  refine cb_iload_n (pc := 0) O dX11_lots_0 rfl ?_
  refine cb_iconst (pc := 1) (v := 0) O dX11_lots_1 (by decide) ?_
  refine cb_iconst (pc := 2) (v := 1) O dX11_lots_2 (by decide) ?_
  refine cb_cSp (pc := 3) O (c_X11_within _ _ _ _) my_X11_within mt_X11_within ml_X11_90 dX11_lots_3 rfl rfl ⟨(Nat.le_of_ble_eq_true rfl), (Nat.le_of_ble_eq_true rfl)⟩ (Nat.le_of_ble_eq_true rfl) rfl ⟨(Nat.le_of_ble_eq_true rfl), (Nat.le_of_ble_eq_true rfl)⟩ ?_
  refine cb_ifp_eq (pc := 6) O 24 dX11_lots_6 (by decide) (fun c_6 => ?_) (fun c_6 => ?_)
  · skip
    refine cb_iconst (pc := 24) (v := (-1)) O dX11_lots_24 (by decide) ?_
    exact cb_iret (pc := 25) O Rt rfl (Nat.le_of_ble_eq_true rfl) (Nat.le_of_ble_eq_true rfl) dX11_lots_25 (by
      have h0 : ¬ sv_lots a v := by simp only [sv_lots]; intro h; simp_all
      have h1 : ¬ a = 1 := by intro h; simp_all
      exact ⟨by rw [sr_lots, if_neg (by intro h; rcases h with h | h; exact h0 h; exact h1 h)], by rw [sA_lots, if_neg h0, sz_lots, if_neg h1]; exact hM, cb_C1.rfl'⟩)
  · skip
    refine cb_iload_n (pc := 9) O dX11_lots_9 rfl ?_
    refine cb_if_ne (pc := 10) O 26 dX11_lots_10 (by decide) (fun c_10 => ?_) (fun c_10 => ?_)
    · skip
      refine cb_iload_n (pc := 26) O dX11_lots_26 rfl ?_
      refine cb_if_ne (pc := 27) O 38 dX11_lots_27 (by decide) (fun c_27 => ?_) (fun c_27 => ?_)
      · skip
        have ha1 : a = 1 := by
          simp only [ci_le, ci_eq] at *
          have e0 : (0 : Int32).toInt = 0 := rfl
          have e1 : (1 : Int32).toInt = 1 := rfl
          omega
        have hv : ¬ sv_lots a v := fun h => by rw [h.1] at ha1; exact absurd ha1 (by decide)
        refine cb_aload_n (pc := 38) O dX11_lots_38 rfl ?_
        refine cb_iload_n (pc := 39) O dX11_lots_39 rfl ?_
        refine cb_putIc (pc := 40) O fl_X11_113 (Or.inl rfl) rfl rfl dX11_lots_40 rfl rfl (hM.1.1 _ rfl) ?_
        refine cb_iconst (pc := 43) (v := 1) O dX11_lots_43 (by decide) ?_
        exact cb_iret (pc := 44) O Rt rfl (Nat.le_of_ble_eq_true rfl) (Nat.le_of_ble_eq_true rfl) dX11_lots_44 (by
          first
          | (refine ⟨by rw [sr_lots, if_pos (Or.inl hv)], ?_, cb_C1.rfl'.um (by omega)⟩
             rw [sA_lots, if_pos hv, sz_lots, if_neg ha1, ci_nz (by omega)]
             exact hM.um (k := 0) (by omega) _ (fun _ => rfl))
          | (refine ⟨by rw [sr_lots, if_pos (Or.inr ha1)], ?_, cb_C1.rfl'.um (by omega)⟩
             rw [sA_lots, if_neg hv, sz_lots, if_pos ha1]
             exact hM.zz))
      · skip
        have hv : sv_lots a v := ⟨c_27, by first | exact c_21 | exact absurd c_27 c_10⟩
        obtain ⟨v, hv2, rfl⟩ := ci_in (n := 999) hv.2 rfl
        have ha1 : ¬ a = 1 := by rw [c_27]; decide
        refine cb_aload_n (pc := 30) O dX11_lots_30 rfl ?_
        refine cb_iload_n (pc := 31) O dX11_lots_31 rfl ?_
        refine cb_putIc (pc := 32) O fl_X11_110 (Or.inl rfl) rfl rfl dX11_lots_32 rfl rfl (hM.1.1 _ rfl) ?_
        refine cb_goto (pc := 35) O 43 dX11_lots_35 (by decide) ?_
        refine cb_iconst (pc := 43) (v := 1) O dX11_lots_43 (by decide) ?_
        exact cb_iret (pc := 44) O Rt rfl (Nat.le_of_ble_eq_true rfl) (Nat.le_of_ble_eq_true rfl) dX11_lots_44 (by
          first
          | (refine ⟨by rw [sr_lots, if_pos (Or.inl hv)], ?_, cb_C1.rfl'.um (by omega)⟩
             rw [sA_lots, if_pos hv, sz_lots, if_neg ha1, ci_nz (by omega)]
             exact hM.um (k := 0) (by omega) _ (fun _ => rfl))
          | (refine ⟨by rw [sr_lots, if_pos (Or.inr ha1)], ?_, cb_C1.rfl'.um (by omega)⟩
             rw [sA_lots, if_neg hv, sz_lots, if_pos ha1]
             exact hM.zz))
    · skip
      refine cb_iload_n (pc := 13) O dX11_lots_13 rfl ?_
      refine cb_iconst (pc := 14) (v := 0) O dX11_lots_14 (by decide) ?_
      refine cb_sipush (pc := 15) (v := 999) O dX11_lots_15 (by decide) ?_
      refine cb_cSp (pc := 18) O (c_X11_within _ _ _ _) my_X11_within mt_X11_within ml_X11_90 dX11_lots_18 rfl rfl ⟨(Nat.le_of_ble_eq_true rfl), (Nat.le_of_ble_eq_true rfl)⟩ (Nat.le_of_ble_eq_true rfl) rfl ⟨(Nat.le_of_ble_eq_true rfl), (Nat.le_of_ble_eq_true rfl)⟩ ?_
      refine cb_ifp_ne (pc := 21) O 26 dX11_lots_21 (by decide) (fun c_21 => ?_) (fun c_21 => ?_)
      · skip
        refine cb_iload_n (pc := 26) O dX11_lots_26 rfl ?_
        refine cb_if_ne (pc := 27) O 38 dX11_lots_27 (by decide) (fun c_27 => ?_) (fun c_27 => ?_)
        · skip
          have ha1 : a = 1 := by
            simp only [ci_le, ci_eq] at *
            have e0 : (0 : Int32).toInt = 0 := rfl
            have e1 : (1 : Int32).toInt = 1 := rfl
            omega
          have hv : ¬ sv_lots a v := fun h => by rw [h.1] at ha1; exact absurd ha1 (by decide)
          refine cb_aload_n (pc := 38) O dX11_lots_38 rfl ?_
          refine cb_iload_n (pc := 39) O dX11_lots_39 rfl ?_
          refine cb_putIc (pc := 40) O fl_X11_113 (Or.inl rfl) rfl rfl dX11_lots_40 rfl rfl (hM.1.1 _ rfl) ?_
          refine cb_iconst (pc := 43) (v := 1) O dX11_lots_43 (by decide) ?_
          exact cb_iret (pc := 44) O Rt rfl (Nat.le_of_ble_eq_true rfl) (Nat.le_of_ble_eq_true rfl) dX11_lots_44 (by
            first
            | (refine ⟨by rw [sr_lots, if_pos (Or.inl hv)], ?_, cb_C1.rfl'.um (by omega)⟩
               rw [sA_lots, if_pos hv, sz_lots, if_neg ha1, ci_nz (by omega)]
               exact hM.um (k := 0) (by omega) _ (fun _ => rfl))
            | (refine ⟨by rw [sr_lots, if_pos (Or.inr ha1)], ?_, cb_C1.rfl'.um (by omega)⟩
               rw [sA_lots, if_neg hv, sz_lots, if_pos ha1]
               exact hM.zz))
        · skip
          have hv : sv_lots a v := ⟨c_27, by first | exact c_21 | exact absurd c_27 c_10⟩
          obtain ⟨v, hv2, rfl⟩ := ci_in (n := 999) hv.2 rfl
          have ha1 : ¬ a = 1 := by rw [c_27]; decide
          refine cb_aload_n (pc := 30) O dX11_lots_30 rfl ?_
          refine cb_iload_n (pc := 31) O dX11_lots_31 rfl ?_
          refine cb_putIc (pc := 32) O fl_X11_110 (Or.inl rfl) rfl rfl dX11_lots_32 rfl rfl (hM.1.1 _ rfl) ?_
          refine cb_goto (pc := 35) O 43 dX11_lots_35 (by decide) ?_
          refine cb_iconst (pc := 43) (v := 1) O dX11_lots_43 (by decide) ?_
          exact cb_iret (pc := 44) O Rt rfl (Nat.le_of_ble_eq_true rfl) (Nat.le_of_ble_eq_true rfl) dX11_lots_44 (by
            first
            | (refine ⟨by rw [sr_lots, if_pos (Or.inl hv)], ?_, cb_C1.rfl'.um (by omega)⟩
               rw [sA_lots, if_pos hv, sz_lots, if_neg ha1, ci_nz (by omega)]
               exact hM.um (k := 0) (by omega) _ (fun _ => rfl))
            | (refine ⟨by rw [sr_lots, if_pos (Or.inr ha1)], ?_, cb_C1.rfl'.um (by omega)⟩
               rw [sA_lots, if_neg hv, sz_lots, if_pos ha1]
               exact hM.zz))
      · skip
        refine cb_iconst (pc := 24) (v := (-1)) O dX11_lots_24 (by decide) ?_
        exact cb_iret (pc := 25) O Rt rfl (Nat.le_of_ble_eq_true rfl) (Nat.le_of_ble_eq_true rfl) dX11_lots_25 (by
          have h0 : ¬ sv_lots a v := by simp only [sv_lots]; intro h; simp_all
          have h1 : ¬ a = 1 := by intro h; simp_all
          exact ⟨by rw [sr_lots, if_neg (by intro h; rcases h with h | h; exact h0 h; exact h1 h)], by rw [sA_lots, if_neg h0, sz_lots, if_neg h1]; exact hM, cb_C1.rfl'⟩)

theorem k_minutes (w : cb_W) (A : ca_A) (z : Int32) (hI : ca_I A) (hC : cc_I w A z) (n : Int32) : cb_Con yX10_minutes cX10_minutes 2 (some .int) 1 22 0 0 (fun _ => true) [.inr (some 0), .inl n] w (cb_pi (fun x w' => x = sr_minutes A n ∧ cc_I w' (sA_minutes A n) z ∧ cb_M1 w w')) := by
  have hmin : w.2.1 0 11 = nI (A 0 8) := hC.2.2.1.2.2.1
  refine cb_con (by decide) (Nat.le_of_ble_eq_true rfl) (fun κ O Rt hnm => ?_)
  show cb_X κ w 0 0 0 [some (.inr (some 0)), some (.inl n)] []
  refine cb_iload_n (pc := 0) O dX10_minutes_0 rfl ?_
  refine cb_iconst (pc := 1) (v := 1) O dX10_minutes_1 (by decide) ?_
  refine cb_sipush (pc := 2) (v := 1000) O dX10_minutes_2 (by decide) ?_
  refine cb_cSp (pc := 5) O (c_X10_within _ _ _ _) my_X10_within mt_X10_within ml_X10_81 dX10_minutes_5 rfl rfl ⟨(Nat.le_of_ble_eq_true rfl), (Nat.le_of_ble_eq_true rfl)⟩ (Nat.le_of_ble_eq_true rfl) rfl ⟨(Nat.le_of_ble_eq_true rfl), (Nat.le_of_ble_eq_true rfl)⟩ ?_
  refine cb_ifp_eq (pc := 8) O 22 dX10_minutes_8 (by decide) (fun c_8 => ?_) (fun c_8 => ?_)
  · skip
    refine cb_iconst (pc := 22) (v := (-1)) O dX10_minutes_22 (by decide) ?_
    exact cb_iret (pc := 23) O Rt rfl (Nat.le_of_ble_eq_true rfl) (Nat.le_of_ble_eq_true rfl) dX10_minutes_23 (by
      have h0 : ¬ sv_minutes A n := by
        first
        | exact fun h => c_8 h.1
        | (intro h
           apply c_19
           have h2 := h.2
           obtain ⟨n, hn, rfl⟩ := ci_in (x := n) (b := 1000) (n := 1000) ⟨by have := c_8.1; simp only [ci_le] at *; have e0 : (0 : Int32).toInt = 0 := rfl; have e1 : (1 : Int32).toInt = 1 := rfl; omega, c_8.2⟩ rfl
           rw [ci_nz (by omega)] at h2
           rw [hmin, nI_add, show (99999 : Int32) = nI 99999 from rfl]
           exact nI_le (by omega) (by decide))
      exact ⟨by rw [sr_minutes, if_neg h0], by rw [sA_minutes, if_neg h0]; exact hC, cb_M1.rfl'⟩)
  · skip
    refine cb_aload_n (pc := 11) O dX10_minutes_11 rfl ?_
    refine cb_getI (pc := 12) O fl_X10_78 rfl rfl dX10_minutes_12 (hC.1.1 _ rfl) ?_
    refine cb_iload_n (pc := 15) O dX10_minutes_15 rfl ?_
    refine cb_iadd (pc := 16) O dX10_minutes_16 ?_
    refine cb_ldc (pc := 17) O dX10_minutes_17 kc_X10_119 ?_
    refine cb_icmp_le (pc := 19) O 24 dX10_minutes_19 (by decide) (fun c_19 => ?_) (fun c_19 => ?_)
    · skip
      obtain ⟨n, hn, rfl⟩ := ci_in (x := n) (b := 1000) (n := 1000) ⟨by have := c_8.1; simp only [ci_le] at *; have e0 : (0 : Int32).toInt = 0 := rfl; have e1 : (1 : Int32).toInt = 1 := rfl; omega, c_8.2⟩ rfl
      have hv : sv_minutes A (nI n) := ⟨c_8, by
        rw [ci_nz (by omega)]
        rw [hmin, nI_add, show (99999 : Int32) = nI 99999 from rfl, nI_leI (by have := hI.1.2.2.2.2.2.1; omega) (by decide)] at c_19
        exact c_19⟩
      refine cb_aload_n (pc := 24) O dX10_minutes_24 rfl ?_
      refine cb_dup (pc := 25) O dX10_minutes_25 ?_
      refine cb_getI (pc := 26) O fl_X10_78 rfl rfl dX10_minutes_26 (hC.1.1 _ rfl) ?_
      refine cb_iload_n (pc := 29) O dX10_minutes_29 rfl ?_
      refine cb_iadd (pc := 30) O dX10_minutes_30 ?_
      refine cb_putIc (pc := 31) O fl_X10_78 (Or.inl rfl) rfl rfl dX10_minutes_31 rfl rfl (hC.1.1 _ rfl) ?_
      refine cb_aload_n (pc := 34) O dX10_minutes_34 rfl ?_
      refine cb_getI (pc := 35) O fl_X10_78 rfl rfl dX10_minutes_35 (hC.1.1 _ rfl) ?_
      exact cb_iret (pc := 38) O Rt rfl (Nat.le_of_ble_eq_true rfl) (Nat.le_of_ble_eq_true rfl) dX10_minutes_38 (by
        rw [hmin, nI_add]
        refine ⟨by rw [sr_minutes, if_pos hv, ci_nz (by omega)]; rfl, ?_, cb_M1.rfl'.um (by omega)⟩
        rw [sA_minutes, if_pos hv, ci_nz (by omega)]
        exact ⟨hC.1, hC.2.1.cg (fun r k h => by first | rfl | (simp only [cb_um, cb_ur]; repeat rw [cb_u2n (by omega)])) (fun k i h => by first | rfl | (repeat rw [cb_u2n (by omega)])), hC.2.2.1.mi _, hC.2.2.2.1.cg (fun r k h => by first | rfl | (simp only [cb_um, cb_ur]; repeat rw [cb_u2n (by omega)])) (fun k i h => by first | rfl | (repeat rw [cb_u2n (by omega)])), hC.2.2.2.2.1.cg hI.1.2.2.2.1 (fun r h1 h2 => rfl) (fun r k h => by first | rfl | (simp only [cb_um, cb_ur]; repeat rw [cb_u2n (by omega)])) (fun r k h1 h2 => by first | rfl | (simp only [cb_um, cb_ur]; repeat rw [cb_u2n (by omega)])) (fun k i h => by first | rfl | (repeat rw [cb_u2n (by omega)])), hC.2.2.2.2.2.1.cg hI.1.2.2.2.2.1 (fun r h1 h2 => rfl) (fun k => by first | rfl | (simp only [cb_ur]; repeat rw [cb_u2n (by omega)])) (fun r k h1 h2 => by first | rfl | (simp only [cb_um, cb_ur]; repeat rw [cb_u2n (by omega)])) (fun k i h => by first | rfl | (repeat rw [cb_u2n (by omega)])), hC.2.2.2.2.2.2.1.cg (fun r k h => by first | rfl | (simp only [cb_um, cb_ur]; repeat rw [cb_u2n (by omega)])) (fun k i h => by first | rfl | (repeat rw [cb_u2n (by omega)])), hC.2.2.2.2.2.2.2.1.cg (fun r k h => by first | rfl | (simp only [cb_um, cb_ur]; repeat rw [cb_u2n (by omega)])) (fun k i h => by first | rfl | (repeat rw [cb_u2n (by omega)])), hC.2.2.2.2.2.2.2.2.1, hC.2.2.2.2.2.2.2.2.2.1, hC.2.2.2.2.2.2.2.2.2.2⟩)
    · skip
      refine cb_iconst (pc := 22) (v := (-1)) O dX10_minutes_22 (by decide) ?_
      exact cb_iret (pc := 23) O Rt rfl (Nat.le_of_ble_eq_true rfl) (Nat.le_of_ble_eq_true rfl) dX10_minutes_23 (by
        have h0 : ¬ sv_minutes A n := by
          first
          | exact fun h => c_8 h.1
          | (intro h
             apply c_19
             have h2 := h.2
             obtain ⟨n, hn, rfl⟩ := ci_in (x := n) (b := 1000) (n := 1000) ⟨by have := c_8.1; simp only [ci_le] at *; have e0 : (0 : Int32).toInt = 0 := rfl; have e1 : (1 : Int32).toInt = 1 := rfl; omega, c_8.2⟩ rfl
             rw [ci_nz (by omega)] at h2
             rw [hmin, nI_add, show (99999 : Int32) = nI 99999 from rfl]
             exact nI_le (by omega) (by decide))
        exact ⟨by rw [sr_minutes, if_neg h0], by rw [sA_minutes, if_neg h0]; exact hC, cb_M1.rfl'⟩)

theorem m_minutes (w : cb_W) (A : ca_A) (z : Int32) (hI : ca_I A) (hM : cm_I w A z) (n : Int32) : cb_Con yX11_minutes cX11_minutes 2 (some .int) 1 22 0 0 (fun _ => true) [.inr (some 1000), .inl n] w (cb_pi (fun x w' => x = sr_minutes A n ∧ cm_I w' (sA_minutes A n) z ∧ cb_C1 w w')) := by
  have hmin : w.2.1 1000 8 = nI (A 0 8) := cm_at hM 0 8 rfl (by omega)
  refine cb_con (by decide) (Nat.le_of_ble_eq_true rfl) (fun κ O Rt hnm => ?_)
  show cb_X κ w 0 0 0 [some (.inr (some 1000)), some (.inl n)] []
  refine cb_iload_n (pc := 0) O dX11_minutes_0 rfl ?_
  refine cb_iconst (pc := 1) (v := 1) O dX11_minutes_1 (by decide) ?_
  refine cb_sipush (pc := 2) (v := 1000) O dX11_minutes_2 (by decide) ?_
  refine cb_cSp (pc := 5) O (c_X11_within _ _ _ _) my_X11_within mt_X11_within ml_X11_90 dX11_minutes_5 rfl rfl ⟨(Nat.le_of_ble_eq_true rfl), (Nat.le_of_ble_eq_true rfl)⟩ (Nat.le_of_ble_eq_true rfl) rfl ⟨(Nat.le_of_ble_eq_true rfl), (Nat.le_of_ble_eq_true rfl)⟩ ?_
  refine cb_ifp_eq (pc := 8) O 22 dX11_minutes_8 (by decide) (fun c_8 => ?_) (fun c_8 => ?_)
  · skip
    refine cb_iconst (pc := 22) (v := (-1)) O dX11_minutes_22 (by decide) ?_
    exact cb_iret (pc := 23) O Rt rfl (Nat.le_of_ble_eq_true rfl) (Nat.le_of_ble_eq_true rfl) dX11_minutes_23 (by
      have h0 : ¬ sv_minutes A n := by
        first
        | exact fun h => c_8 h.1
        | (intro h
           apply c_19
           have h2 := h.2
           obtain ⟨n, hn, rfl⟩ := ci_in (x := n) (b := 1000) (n := 1000) ⟨by have := c_8.1; simp only [ci_le] at *; have e0 : (0 : Int32).toInt = 0 := rfl; have e1 : (1 : Int32).toInt = 1 := rfl; omega, c_8.2⟩ rfl
           rw [ci_nz (by omega)] at h2
           rw [hmin, nI_add, show (99999 : Int32) = nI 99999 from rfl]
           exact nI_le (by omega) (by decide))
      exact ⟨by rw [sr_minutes, if_neg h0], by rw [sA_minutes, if_neg h0]; exact hM, cb_C1.rfl'⟩)
  · skip
    refine cb_aload_n (pc := 11) O dX11_minutes_11 rfl ?_
    refine cb_getI (pc := 12) O fl_X11_116 rfl rfl dX11_minutes_12 (hM.1.1 _ rfl) ?_
    refine cb_iload_n (pc := 15) O dX11_minutes_15 rfl ?_
    refine cb_iadd (pc := 16) O dX11_minutes_16 ?_
    refine cb_ldc (pc := 17) O dX11_minutes_17 kc_X11_119 ?_
    refine cb_icmp_le (pc := 19) O 24 dX11_minutes_19 (by decide) (fun c_19 => ?_) (fun c_19 => ?_)
    · skip
      obtain ⟨n, hn, rfl⟩ := ci_in (x := n) (b := 1000) (n := 1000) ⟨by have := c_8.1; simp only [ci_le] at *; have e0 : (0 : Int32).toInt = 0 := rfl; have e1 : (1 : Int32).toInt = 1 := rfl; omega, c_8.2⟩ rfl
      have hv : sv_minutes A (nI n) := ⟨c_8, by
        rw [ci_nz (by omega)]
        rw [hmin, nI_add, show (99999 : Int32) = nI 99999 from rfl, nI_leI (by have := hI.1.2.2.2.2.2.1; omega) (by decide)] at c_19
        exact c_19⟩
      refine cb_aload_n (pc := 24) O dX11_minutes_24 rfl ?_
      refine cb_dup (pc := 25) O dX11_minutes_25 ?_
      refine cb_getI (pc := 26) O fl_X11_116 rfl rfl dX11_minutes_26 (hM.1.1 _ rfl) ?_
      refine cb_iload_n (pc := 29) O dX11_minutes_29 rfl ?_
      refine cb_iadd (pc := 30) O dX11_minutes_30 ?_
      refine cb_putIc (pc := 31) O fl_X11_116 (Or.inl rfl) rfl rfl dX11_minutes_31 rfl rfl (hM.1.1 _ rfl) ?_
      refine cb_aload_n (pc := 34) O dX11_minutes_34 rfl ?_
      refine cb_getI (pc := 35) O fl_X11_116 rfl rfl dX11_minutes_35 (hM.1.1 _ rfl) ?_
      exact cb_iret (pc := 38) O Rt rfl (Nat.le_of_ble_eq_true rfl) (Nat.le_of_ble_eq_true rfl) dX11_minutes_38 (by
        rw [hmin, nI_add]
        refine ⟨by rw [sr_minutes, if_pos hv, ci_nz (by omega)]; rfl, ?_, cb_C1.rfl'.um (by omega)⟩
        rw [sA_minutes, if_pos hv, ci_nz (by omega)]
        exact hM.um (k := 0) (by omega) _ (fun _ => rfl))
    · skip
      refine cb_iconst (pc := 22) (v := (-1)) O dX11_minutes_22 (by decide) ?_
      exact cb_iret (pc := 23) O Rt rfl (Nat.le_of_ble_eq_true rfl) (Nat.le_of_ble_eq_true rfl) dX11_minutes_23 (by
        have h0 : ¬ sv_minutes A n := by
          first
          | exact fun h => c_8 h.1
          | (intro h
             apply c_19
             have h2 := h.2
             obtain ⟨n, hn, rfl⟩ := ci_in (x := n) (b := 1000) (n := 1000) ⟨by have := c_8.1; simp only [ci_le] at *; have e0 : (0 : Int32).toInt = 0 := rfl; have e1 : (1 : Int32).toInt = 1 := rfl; omega, c_8.2⟩ rfl
             rw [ci_nz (by omega)] at h2
             rw [hmin, nI_add, show (99999 : Int32) = nI 99999 from rfl]
             exact nI_le (by omega) (by decide))
        exact ⟨by rw [sr_minutes, if_neg h0], by rw [sA_minutes, if_neg h0]; exact hM, cb_C1.rfl'⟩)

abbrev ci_x (x : Int32) (n : Nat) : Prop := 0 ≤ x.toInt ∧ x.toInt < (n : Int)
abbrev ca_c (A : ca_A) (k : Int32) : Prop := 0 ≤ k.toInt ∧ ca_o A k.toInt.toNat
abbrev ca_w (A : ca_A) (k : Int32) : Prop := 0 ≤ k.toInt ∧ k.toInt.toNat / 4 < A 0 28 ∧ k.toInt.toNat % 4 < A 0 29
theorem ci_z0 : (0 : Int32).toInt = 0 := rfl
theorem ci_z1 : (1 : Int32).toInt = 1 := rfl
theorem ci_0le {x : Int32} : 0 ≤ x ↔ 0 ≤ x.toInt := by rw [ci_le, ci_z0]
theorem ci_lt0 {x : Int32} : x < 0 ↔ x.toInt < 0 := by rw [ci_lt, ci_z0]
theorem ci_m1 {n : Nat} (h : n < 2147483648) : (nI n - 1).toInt = (n : Int) - 1 := by
  have h1 := ci_n h
  rw [fb_subI (by rw [h1, ci_z1]; omega) (by rw [h1, ci_z1]; omega), h1, ci_z1]
theorem ci_wi {v : Int32} {n : Nat} (h : n < 2147483648) : (0 ≤ v ∧ v ≤ nI n - 1) ↔ ci_x v n := by
  rw [ci_0le, ci_le, ci_m1 h]
  unfold ci_x
  omega
theorem ci_xn {v : Int32} {n : Nat} (h : ci_x v n) (hn : n ≤ 2147483648) : ∃ j : Nat, j < n ∧ v = nI j := by
  obtain ⟨h1, h2⟩ := h
  refine ⟨v.toInt.toNat, by omega, ?_⟩
  rw [ci_eq, ci_n (by omega)]
  omega
theorem ci_nx {j n : Nat} (h : j < n) (hn : j < 2147483648) : ci_x (nI j) n := by
  unfold ci_x
  rw [ci_n hn]
  omega
theorem ci_tn {j : Nat} (h : j < 2147483648) : (nI j).toInt.toNat = j := by
  rw [ci_n h]
  omega
theorem ci_if {P Q : Prop} [Decidable P] [Decidable Q] {α : Type} {a b : α} (h : P ↔ Q) : (if P then a else b) = (if Q then a else b) := by
  by_cases hp : P
  · rw [if_pos hp, if_pos (h.mp hp)]
  · rw [if_neg hp, if_neg (fun q => hp (h.mpr q))]
theorem ca_cn {A : ca_A} {j : Nat} (h : j < 2147483648) : ca_c A (nI j) ↔ ca_o A j := by
  unfold ca_c
  rw [ci_tn h, ci_n h]
  exact ⟨fun q => q.2, fun q => ⟨by omega, q⟩⟩
theorem ca_wn {A : ca_A} {j : Nat} (h : j < 2147483648) : ca_w A (nI j) ↔ (j / 4 < A 0 28 ∧ j % 4 < A 0 29) := by
  unfold ca_w
  rw [ci_tn h, ci_n h]
  exact ⟨fun q => q.2, fun q => ⟨by omega, q⟩⟩
theorem ci_d8 {j : Nat} (h : j < 2147483648) : nI j / 8 = nI (j / 8) := by
  rw [show (8 : Int32) = nI 8 from rfl]
  exact pk_div h (by decide) (by decide)
theorem ci_r8 {j : Nat} (h : j < 2147483648) : nI j - nI j / 8 * 8 = nI (j % 8) := by
  rw [show (8 : Int32) = nI 8 from rfl]
  exact pk_rem h (by decide) (by decide)
theorem ci_d4 {j : Nat} (h : j < 2147483648) : nI j / 4 = nI (j / 4) := by
  rw [show (4 : Int32) = nI 4 from rfl]
  exact pk_div h (by decide) (by decide)
theorem ci_r4 {j : Nat} (h : j < 2147483648) : nI j - nI j / 4 * 4 = nI (j % 4) := by
  rw [show (4 : Int32) = nI 4 from rfl]
  exact pk_rem h (by decide) (by decide)
theorem ci_d100 {j : Nat} (h : j < 2147483648) : nI j / 100 = nI (j / 100) := by
  rw [show (100 : Int32) = nI 100 from rfl]
  exact pk_div h (by decide) (by decide)
theorem ci_r100 {j : Nat} (h : j < 2147483648) : nI j - nI j / 100 * 100 = nI (j % 100) := by
  rw [show (100 : Int32) = nI 100 from rfl]
  exact pk_rem h (by decide) (by decide)
theorem ci_m64 (i c : Nat) : (64 : Int32) * nI i + nI c = nI (64 * i + c) := by rw [show (64 : Int32) = nI 64 from rfl, pk_mul, nI_add]
theorem ci_nge {a b : Nat} (h : ¬ nI b ≤ nI a) (ha : a < 2147483648) (hb : b < 2147483648) : a < b := by rw [nI_leI hb ha] at h; omega
theorem ci_ge {a b : Nat} (h : nI b ≤ nI a) (ha : a < 2147483648) (hb : b < 2147483648) : b ≤ a := by rw [nI_leI hb ha] at h; omega
theorem c_X1_isAt (w : cb_W) (A : ca_A) (z : Int32) (hI : ca_I A) (hC : cc_I w A z) (r c : Int32) : cb_Pu yX1_isAt cX1_isAt 3 (some .boolean) 1 22 [.inr (some 20), .inl r, .inl c] w (if ci_x r (A 0 0) ∧ ci_x c (A 0 1) then 1 else 0) := by
  have h0 : w.2.1 20 0 = nI (A 0 0) := hC.2.1.1.1
  have h1 : w.2.1 20 1 = nI (A 0 1) := hC.2.1.1.2.1
  have l0 : A 0 0 < 2147483648 := by have := hI.1; omega
  have l1 : A 0 1 < 2147483648 := by have := hI.1; omega
  refine cb_con (by decide) (Nat.le_of_ble_eq_true rfl) (fun κ O Rt hnm => ?_)
  show cb_X κ w 0 0 0 [some (.inr (some 20)), some (.inl r), some (.inl c)] []
  refine cb_iload_n (pc := 0) O dX1_isAt_0 rfl ?_
  refine cb_iconst (pc := 1) (v := 0) O dX1_isAt_1 (by decide) ?_
  refine cb_aload_n (pc := 2) O dX1_isAt_2 rfl ?_
  refine cb_getI (pc := 3) O fl_X1_27 rfl rfl dX1_isAt_3 (hC.1.1 _ rfl) ?_
  refine cb_iconst (pc := 6) (v := 1) O dX1_isAt_6 (by decide) ?_
  refine cb_isub (pc := 7) O dX1_isAt_7 ?_
  refine cb_cSp (pc := 8) O (c_X10_within _ _ _ _) my_X10_within mt_X10_within ml_X1_43 dX1_isAt_8 rfl rfl ⟨(Nat.le_of_ble_eq_true rfl), (Nat.le_of_ble_eq_true rfl)⟩ (Nat.le_of_ble_eq_true rfl) rfl ⟨(Nat.le_of_ble_eq_true rfl), (Nat.le_of_ble_eq_true rfl)⟩ ?_
  refine cb_ifp_eq (pc := 11) O 32 dX1_isAt_11 (by decide) (fun c_11 => ?_) (fun c_11 => ?_)
  · skip
    rw [h0, ci_wi l0] at c_11
    refine cb_iconst (pc := 32) (v := 0) O dX1_isAt_32 (by decide) ?_
    exact cb_iret (pc := 33) O Rt rfl (Nat.le_of_ble_eq_true rfl) (Nat.le_of_ble_eq_true rfl) dX1_isAt_33 ⟨by simp [*], rfl⟩
  · skip
    rw [h0, ci_wi l0] at c_11
    refine cb_iload_n (pc := 14) O dX1_isAt_14 rfl ?_
    refine cb_iconst (pc := 15) (v := 0) O dX1_isAt_15 (by decide) ?_
    refine cb_aload_n (pc := 16) O dX1_isAt_16 rfl ?_
    refine cb_getI (pc := 17) O fl_X1_31 rfl rfl dX1_isAt_17 (hC.1.1 _ rfl) ?_
    refine cb_iconst (pc := 20) (v := 1) O dX1_isAt_20 (by decide) ?_
    refine cb_isub (pc := 21) O dX1_isAt_21 ?_
    refine cb_cSp (pc := 22) O (c_X10_within _ _ _ _) my_X10_within mt_X10_within ml_X1_43 dX1_isAt_22 rfl rfl ⟨(Nat.le_of_ble_eq_true rfl), (Nat.le_of_ble_eq_true rfl)⟩ (Nat.le_of_ble_eq_true rfl) rfl ⟨(Nat.le_of_ble_eq_true rfl), (Nat.le_of_ble_eq_true rfl)⟩ ?_
    refine cb_ifp_eq (pc := 25) O 32 dX1_isAt_25 (by decide) (fun c_25 => ?_) (fun c_25 => ?_)
    · skip
      rw [h1, ci_wi l1] at c_25
      refine cb_iconst (pc := 32) (v := 0) O dX1_isAt_32 (by decide) ?_
      exact cb_iret (pc := 33) O Rt rfl (Nat.le_of_ble_eq_true rfl) (Nat.le_of_ble_eq_true rfl) dX1_isAt_33 ⟨by simp [*], rfl⟩
    · skip
      rw [h1, ci_wi l1] at c_25
      refine cb_iconst (pc := 28) (v := 1) O dX1_isAt_28 (by decide) ?_
      refine cb_goto (pc := 29) O 33 dX1_isAt_29 (by decide) ?_
      exact cb_iret (pc := 33) O Rt rfl (Nat.le_of_ble_eq_true rfl) (Nat.le_of_ble_eq_true rfl) dX1_isAt_33 ⟨by simp [*], rfl⟩

theorem c_X6_isAt (w : cb_W) (A : ca_A) (z : Int32) (hI : ca_I A) (hC : cc_I w A z) (r c : Int32) : cb_Pu yX6_isAt cX6_isAt 3 (some .boolean) 1 22 [.inr (some 26), .inl r, .inl c] w (if ci_x r (A 0 28) ∧ ci_x c (A 0 29) then 1 else 0) := by
  have h0 : w.2.1 26 0 = nI (A 0 28) := hC.2.2.2.2.2.2.1.1
  have h1 : w.2.1 26 1 = nI (A 0 29) := hC.2.2.2.2.2.2.1.2.1
  have l0 : A 0 28 < 2147483648 := by have := hI.1; omega
  have l1 : A 0 29 < 2147483648 := by have := hI.1; omega
  refine cb_con (by decide) (Nat.le_of_ble_eq_true rfl) (fun κ O Rt hnm => ?_)
  show cb_X κ w 0 0 0 [some (.inr (some 26)), some (.inl r), some (.inl c)] []
  refine cb_iload_n (pc := 0) O dX6_isAt_0 rfl ?_
  refine cb_iconst (pc := 1) (v := 0) O dX6_isAt_1 (by decide) ?_
  refine cb_aload_n (pc := 2) O dX6_isAt_2 rfl ?_
  refine cb_getI (pc := 3) O fl_X6_15 rfl rfl dX6_isAt_3 (hC.1.1 _ rfl) ?_
  refine cb_iconst (pc := 6) (v := 1) O dX6_isAt_6 (by decide) ?_
  refine cb_isub (pc := 7) O dX6_isAt_7 ?_
  refine cb_cSp (pc := 8) O (c_X10_within _ _ _ _) my_X10_within mt_X10_within ml_X6_22 dX6_isAt_8 rfl rfl ⟨(Nat.le_of_ble_eq_true rfl), (Nat.le_of_ble_eq_true rfl)⟩ (Nat.le_of_ble_eq_true rfl) rfl ⟨(Nat.le_of_ble_eq_true rfl), (Nat.le_of_ble_eq_true rfl)⟩ ?_
  refine cb_ifp_eq (pc := 11) O 32 dX6_isAt_11 (by decide) (fun c_11 => ?_) (fun c_11 => ?_)
  · skip
    rw [h0, ci_wi l0] at c_11
    refine cb_iconst (pc := 32) (v := 0) O dX6_isAt_32 (by decide) ?_
    exact cb_iret (pc := 33) O Rt rfl (Nat.le_of_ble_eq_true rfl) (Nat.le_of_ble_eq_true rfl) dX6_isAt_33 ⟨by simp [*], rfl⟩
  · skip
    rw [h0, ci_wi l0] at c_11
    refine cb_iload_n (pc := 14) O dX6_isAt_14 rfl ?_
    refine cb_iconst (pc := 15) (v := 0) O dX6_isAt_15 (by decide) ?_
    refine cb_aload_n (pc := 16) O dX6_isAt_16 rfl ?_
    refine cb_getI (pc := 17) O fl_X6_19 rfl rfl dX6_isAt_17 (hC.1.1 _ rfl) ?_
    refine cb_iconst (pc := 20) (v := 1) O dX6_isAt_20 (by decide) ?_
    refine cb_isub (pc := 21) O dX6_isAt_21 ?_
    refine cb_cSp (pc := 22) O (c_X10_within _ _ _ _) my_X10_within mt_X10_within ml_X6_22 dX6_isAt_22 rfl rfl ⟨(Nat.le_of_ble_eq_true rfl), (Nat.le_of_ble_eq_true rfl)⟩ (Nat.le_of_ble_eq_true rfl) rfl ⟨(Nat.le_of_ble_eq_true rfl), (Nat.le_of_ble_eq_true rfl)⟩ ?_
    refine cb_ifp_eq (pc := 25) O 32 dX6_isAt_25 (by decide) (fun c_25 => ?_) (fun c_25 => ?_)
    · skip
      rw [h1, ci_wi l1] at c_25
      refine cb_iconst (pc := 32) (v := 0) O dX6_isAt_32 (by decide) ?_
      exact cb_iret (pc := 33) O Rt rfl (Nat.le_of_ble_eq_true rfl) (Nat.le_of_ble_eq_true rfl) dX6_isAt_33 ⟨by simp [*], rfl⟩
    · skip
      rw [h1, ci_wi l1] at c_25
      refine cb_iconst (pc := 28) (v := 1) O dX6_isAt_28 (by decide) ?_
      refine cb_goto (pc := 29) O 33 dX6_isAt_29 (by decide) ?_
      exact cb_iret (pc := 33) O Rt rfl (Nat.le_of_ble_eq_true rfl) (Nat.le_of_ble_eq_true rfl) dX6_isAt_33 ⟨by simp [*], rfl⟩

theorem c_X1_hasCell (w : cb_W) (A : ca_A) (z : Int32) (hI : ca_I A) (hC : cc_I w A z) (k : Int32) : cb_Pu yX1_hasCell cX1_hasCell 2 (some .boolean) 2 44 [.inr (some 20), .inl k] w (if ca_c A k then 1 else 0) := by
  refine cb_con (by decide) (Nat.le_of_ble_eq_true rfl) (fun κ O Rt hnm => ?_)
  show cb_X κ w 0 0 0 [some (.inr (some 20)), some (.inl k)] []
  refine cb_iload_n (pc := 0) O dX1_hasCell_0 rfl ?_
  refine cb_if_lt (pc := 1) O 23 dX1_hasCell_1 (by decide) (fun c_1 => ?_) (fun c_1 => ?_)
  · skip
    refine cb_iconst (pc := 23) (v := 0) O dX1_hasCell_23 (by decide) ?_
    exact cb_iret (pc := 24) O Rt rfl (Nat.le_of_ble_eq_true rfl) (Nat.le_of_ble_eq_true rfl) dX1_hasCell_24 (by
      refine ⟨?_, rfl⟩
      first
      | (rw [if_neg (fun h => by have := h.1; rw [ci_lt0] at c_1; omega)])
      | (obtain ⟨k, hk, rfl⟩ := nI_of c_1
         rw [ci_r8 hk, ci_d8 hk] at c_16
         rw [ci_if (ca_cn hk)]
         unfold ci_x at c_16
         rw [ci_n (by omega), ci_n (by omega)] at c_16
         first | (rw [if_pos ⟨by omega, by omega⟩]) | (rw [if_neg (fun h => c_16 ⟨⟨by omega, by have := h.1; omega⟩, by omega, by have := h.2; omega⟩)])))
  · skip
    refine cb_aload_n (pc := 4) O dX1_hasCell_4 rfl ?_
    refine cb_iload_n (pc := 5) O dX1_hasCell_5 rfl ?_
    refine cb_bipush (pc := 6) (v := 8) O dX1_hasCell_6 (by decide) ?_
    refine cb_idiv (pc := 8) O dX1_hasCell_8 (by decide) ?_
    refine cb_iload_n (pc := 9) O dX1_hasCell_9 rfl ?_
    refine cb_bipush (pc := 10) (v := 8) O dX1_hasCell_10 (by decide) ?_
    refine cb_irem (pc := 12) O dX1_hasCell_12 (by decide) ?_
    refine cb_cVp (pc := 13) O (c_X1_isAt w A z hI hC _ _) my_X1_isAt mi_X1_isAt mx_X1_isAt ml_X1_47 dX1_hasCell_13 rfl ct_1 rfl rfl rfl ⟨(Nat.le_of_ble_eq_true rfl), (Nat.le_of_ble_eq_true rfl)⟩ (Nat.le_of_ble_eq_true rfl) rfl ⟨(Nat.le_of_ble_eq_true rfl), (Nat.le_of_ble_eq_true rfl)⟩ (hC.1.1 _ rfl) ?_
    refine cb_ifp_eq (pc := 16) O 23 dX1_hasCell_16 (by decide) (fun c_16 => ?_) (fun c_16 => ?_)
    · skip
      refine cb_iconst (pc := 23) (v := 0) O dX1_hasCell_23 (by decide) ?_
      exact cb_iret (pc := 24) O Rt rfl (Nat.le_of_ble_eq_true rfl) (Nat.le_of_ble_eq_true rfl) dX1_hasCell_24 (by
        refine ⟨?_, rfl⟩
        first
        | (rw [if_neg (fun h => by have := h.1; rw [ci_lt0] at c_1; omega)])
        | (obtain ⟨k, hk, rfl⟩ := nI_of c_1
           rw [ci_r8 hk, ci_d8 hk] at c_16
           rw [ci_if (ca_cn hk)]
           unfold ci_x at c_16
           rw [ci_n (by omega), ci_n (by omega)] at c_16
           first | (rw [if_pos ⟨by omega, by omega⟩]) | (rw [if_neg (fun h => c_16 ⟨⟨by omega, by have := h.1; omega⟩, by omega, by have := h.2; omega⟩)])))
    · skip
      refine cb_iconst (pc := 19) (v := 1) O dX1_hasCell_19 (by decide) ?_
      refine cb_goto (pc := 20) O 24 dX1_hasCell_20 (by decide) ?_
      exact cb_iret (pc := 24) O Rt rfl (Nat.le_of_ble_eq_true rfl) (Nat.le_of_ble_eq_true rfl) dX1_hasCell_24 (by
        refine ⟨?_, rfl⟩
        first
        | (rw [if_neg (fun h => by have := h.1; rw [ci_lt0] at c_1; omega)])
        | (obtain ⟨k, hk, rfl⟩ := nI_of c_1
           rw [ci_r8 hk, ci_d8 hk] at c_16
           rw [ci_if (ca_cn hk)]
           unfold ci_x at c_16
           rw [ci_n (by omega), ci_n (by omega)] at c_16
           first | (rw [if_pos ⟨by omega, by omega⟩]) | (rw [if_neg (fun h => c_16 ⟨⟨by omega, by have := h.1; omega⟩, by omega, by have := h.2; omega⟩)])))

theorem c_X6_hasCell (w : cb_W) (A : ca_A) (z : Int32) (hI : ca_I A) (hC : cc_I w A z) (k : Int32) : cb_Pu yX6_hasCell cX6_hasCell 2 (some .boolean) 2 44 [.inr (some 26), .inl k] w (if ca_w A k then 1 else 0) := by
  refine cb_con (by decide) (Nat.le_of_ble_eq_true rfl) (fun κ O Rt hnm => ?_)
  show cb_X κ w 0 0 0 [some (.inr (some 26)), some (.inl k)] []
  refine cb_iload_n (pc := 0) O dX6_hasCell_0 rfl ?_
  refine cb_if_lt (pc := 1) O 21 dX6_hasCell_1 (by decide) (fun c_1 => ?_) (fun c_1 => ?_)
  · skip
    refine cb_iconst (pc := 21) (v := 0) O dX6_hasCell_21 (by decide) ?_
    exact cb_iret (pc := 22) O Rt rfl (Nat.le_of_ble_eq_true rfl) (Nat.le_of_ble_eq_true rfl) dX6_hasCell_22 (by
      refine ⟨?_, rfl⟩
      first
      | (rw [if_neg (fun h => by have := h.1; rw [ci_lt0] at c_1; omega)])
      | (obtain ⟨k, hk, rfl⟩ := nI_of c_1
         rw [ci_r4 hk, ci_d4 hk] at c_14
         rw [ci_if (ca_wn hk)]
         unfold ci_x at c_14
         rw [ci_n (by omega), ci_n (by omega)] at c_14
         first | (rw [if_pos ⟨by omega, by omega⟩]) | (rw [if_neg (fun h => c_14 ⟨⟨by omega, by have := h.1; omega⟩, by omega, by have := h.2; omega⟩)])))
  · skip
    refine cb_aload_n (pc := 4) O dX6_hasCell_4 rfl ?_
    refine cb_iload_n (pc := 5) O dX6_hasCell_5 rfl ?_
    refine cb_iconst (pc := 6) (v := 4) O dX6_hasCell_6 (by decide) ?_
    refine cb_idiv (pc := 7) O dX6_hasCell_7 (by decide) ?_
    refine cb_iload_n (pc := 8) O dX6_hasCell_8 rfl ?_
    refine cb_iconst (pc := 9) (v := 4) O dX6_hasCell_9 (by decide) ?_
    refine cb_irem (pc := 10) O dX6_hasCell_10 (by decide) ?_
    refine cb_cVp (pc := 11) O (c_X6_isAt w A z hI hC _ _) my_X6_isAt mi_X6_isAt mx_X6_isAt ml_X6_26 dX6_hasCell_11 rfl ct_6 rfl rfl rfl ⟨(Nat.le_of_ble_eq_true rfl), (Nat.le_of_ble_eq_true rfl)⟩ (Nat.le_of_ble_eq_true rfl) rfl ⟨(Nat.le_of_ble_eq_true rfl), (Nat.le_of_ble_eq_true rfl)⟩ (hC.1.1 _ rfl) ?_
    refine cb_ifp_eq (pc := 14) O 21 dX6_hasCell_14 (by decide) (fun c_14 => ?_) (fun c_14 => ?_)
    · skip
      refine cb_iconst (pc := 21) (v := 0) O dX6_hasCell_21 (by decide) ?_
      exact cb_iret (pc := 22) O Rt rfl (Nat.le_of_ble_eq_true rfl) (Nat.le_of_ble_eq_true rfl) dX6_hasCell_22 (by
        refine ⟨?_, rfl⟩
        first
        | (rw [if_neg (fun h => by have := h.1; rw [ci_lt0] at c_1; omega)])
        | (obtain ⟨k, hk, rfl⟩ := nI_of c_1
           rw [ci_r4 hk, ci_d4 hk] at c_14
           rw [ci_if (ca_wn hk)]
           unfold ci_x at c_14
           rw [ci_n (by omega), ci_n (by omega)] at c_14
           first | (rw [if_pos ⟨by omega, by omega⟩]) | (rw [if_neg (fun h => c_14 ⟨⟨by omega, by have := h.1; omega⟩, by omega, by have := h.2; omega⟩)])))
    · skip
      refine cb_iconst (pc := 17) (v := 1) O dX6_hasCell_17 (by decide) ?_
      refine cb_goto (pc := 18) O 22 dX6_hasCell_18 (by decide) ?_
      exact cb_iret (pc := 22) O Rt rfl (Nat.le_of_ble_eq_true rfl) (Nat.le_of_ble_eq_true rfl) dX6_hasCell_22 (by
        refine ⟨?_, rfl⟩
        first
        | (rw [if_neg (fun h => by have := h.1; rw [ci_lt0] at c_1; omega)])
        | (obtain ⟨k, hk, rfl⟩ := nI_of c_1
           rw [ci_r4 hk, ci_d4 hk] at c_14
           rw [ci_if (ca_wn hk)]
           unfold ci_x at c_14
           rw [ci_n (by omega), ci_n (by omega)] at c_14
           first | (rw [if_pos ⟨by omega, by omega⟩]) | (rw [if_neg (fun h => c_14 ⟨⟨by omega, by have := h.1; omega⟩, by omega, by have := h.2; omega⟩)])))

theorem c_X11_isCell (w : cb_W) (A : ca_A) (z : Int32) (hI : ca_I A) (hM : cm_I w A z) (k : Int32) : cb_Pu yX11_isCell cX11_isCell 2 (some .boolean) 0 0 [.inr (some 1000), .inl k] w (if ca_c A k then 1 else 0) := by
  have h0 : w.2.1 1000 0 = nI (A 0 0) := cm_at hM 0 0 rfl (by omega)
  have h1 : w.2.1 1000 1 = nI (A 0 1) := cm_at hM 0 1 rfl (by omega)
  have l0 : A 0 0 < 2147483648 := by have := hI.1; omega
  have l1 : A 0 1 < 2147483648 := by have := hI.1; omega
  refine cb_con (by decide) (Nat.le_of_ble_eq_true rfl) (fun κ O Rt hnm => ?_)
  show cb_X κ w 0 0 0 [some (.inr (some 1000)), some (.inl k)] []
  refine cb_iload_n (pc := 0) O dX11_isCell_0 rfl ?_
  refine cb_if_lt (pc := 1) O 30 dX11_isCell_1 (by decide) (fun c_1 => ?_) (fun c_1 => ?_)
  · skip
    refine cb_iconst (pc := 30) (v := 0) O dX11_isCell_30 (by decide) ?_
    exact cb_iret (pc := 31) O Rt rfl (Nat.le_of_ble_eq_true rfl) (Nat.le_of_ble_eq_true rfl) dX11_isCell_31 (by
      refine ⟨?_, rfl⟩
      first
      | (rw [if_neg (fun h => by have := h.1; rw [ci_lt0] at c_1; omega)])
      | (rw [ci_if (ca_cn hk)]
         first | (rw [if_pos ⟨by omega, by omega⟩]) | (rw [if_neg (fun h => by have h2 := h.1; have h3 := h.2; omega)])))
  · skip
    obtain ⟨k, hk, rfl⟩ := nI_of c_1
    refine cb_iload_n (pc := 4) O dX11_isCell_4 rfl ?_
    refine cb_bipush (pc := 5) (v := 8) O dX11_isCell_5 (by decide) ?_
    refine cb_idiv (pc := 7) O dX11_isCell_7 (by decide) ?_
    refine cb_aload_n (pc := 8) O dX11_isCell_8 rfl ?_
    refine cb_getI (pc := 9) O fl_X11_94 rfl rfl dX11_isCell_9 (hM.1.1 _ rfl) ?_
    refine cb_icmp_ge (pc := 12) O 30 dX11_isCell_12 (by decide) (fun c_12 => ?_) (fun c_12 => ?_)
    · skip
      rw [h0, ci_d8 hk, nI_leI l0 (by omega)] at c_12
      refine cb_iconst (pc := 30) (v := 0) O dX11_isCell_30 (by decide) ?_
      exact cb_iret (pc := 31) O Rt rfl (Nat.le_of_ble_eq_true rfl) (Nat.le_of_ble_eq_true rfl) dX11_isCell_31 (by
        refine ⟨?_, rfl⟩
        first
        | (rw [if_neg (fun h => by have := h.1; rw [ci_lt0] at c_1; omega)])
        | (rw [ci_if (ca_cn hk)]
           first | (rw [if_pos ⟨by omega, by omega⟩]) | (rw [if_neg (fun h => by have h2 := h.1; have h3 := h.2; omega)])))
    · skip
      rw [h0, ci_d8 hk, nI_leI l0 (by omega)] at c_12
      refine cb_iload_n (pc := 15) O dX11_isCell_15 rfl ?_
      refine cb_bipush (pc := 16) (v := 8) O dX11_isCell_16 (by decide) ?_
      refine cb_irem (pc := 18) O dX11_isCell_18 (by decide) ?_
      refine cb_aload_n (pc := 19) O dX11_isCell_19 rfl ?_
      refine cb_getI (pc := 20) O fl_X11_97 rfl rfl dX11_isCell_20 (hM.1.1 _ rfl) ?_
      refine cb_icmp_ge (pc := 23) O 30 dX11_isCell_23 (by decide) (fun c_23 => ?_) (fun c_23 => ?_)
      · skip
        rw [h1, ci_r8 hk, nI_leI l1 (by omega)] at c_23
        refine cb_iconst (pc := 30) (v := 0) O dX11_isCell_30 (by decide) ?_
        exact cb_iret (pc := 31) O Rt rfl (Nat.le_of_ble_eq_true rfl) (Nat.le_of_ble_eq_true rfl) dX11_isCell_31 (by
          refine ⟨?_, rfl⟩
          first
          | (rw [if_neg (fun h => by have := h.1; rw [ci_lt0] at c_1; omega)])
          | (rw [ci_if (ca_cn hk)]
             first | (rw [if_pos ⟨by omega, by omega⟩]) | (rw [if_neg (fun h => by have h2 := h.1; have h3 := h.2; omega)])))
      · skip
        rw [h1, ci_r8 hk, nI_leI l1 (by omega)] at c_23
        refine cb_iconst (pc := 26) (v := 1) O dX11_isCell_26 (by decide) ?_
        refine cb_goto (pc := 27) O 31 dX11_isCell_27 (by decide) ?_
        exact cb_iret (pc := 31) O Rt rfl (Nat.le_of_ble_eq_true rfl) (Nat.le_of_ble_eq_true rfl) dX11_isCell_31 (by
          refine ⟨?_, rfl⟩
          first
          | (rw [if_neg (fun h => by have := h.1; rw [ci_lt0] at c_1; omega)])
          | (rw [ci_if (ca_cn hk)]
             first | (rw [if_pos ⟨by omega, by omega⟩]) | (rw [if_neg (fun h => by have h2 := h.1; have h3 := h.2; omega)])))

theorem c_X11_isWanted (w : cb_W) (A : ca_A) (z : Int32) (hI : ca_I A) (hM : cm_I w A z) (k : Int32) : cb_Pu yX11_isWanted cX11_isWanted 2 (some .boolean) 0 0 [.inr (some 1000), .inl k] w (if ca_w A k then 1 else 0) := by
  have h0 : w.2.1 1000 28 = nI (A 0 28) := cm_at hM 0 28 rfl (by omega)
  have h1 : w.2.1 1000 29 = nI (A 0 29) := cm_at hM 0 29 rfl (by omega)
  have l0 : A 0 28 < 2147483648 := by have := hI.1; omega
  have l1 : A 0 29 < 2147483648 := by have := hI.1; omega
  refine cb_con (by decide) (Nat.le_of_ble_eq_true rfl) (fun κ O Rt hnm => ?_)
  show cb_X κ w 0 0 0 [some (.inr (some 1000)), some (.inl k)] []
  refine cb_iload_n (pc := 0) O dX11_isWanted_0 rfl ?_
  refine cb_if_lt (pc := 1) O 28 dX11_isWanted_1 (by decide) (fun c_1 => ?_) (fun c_1 => ?_)
  · skip
    refine cb_iconst (pc := 28) (v := 0) O dX11_isWanted_28 (by decide) ?_
    exact cb_iret (pc := 29) O Rt rfl (Nat.le_of_ble_eq_true rfl) (Nat.le_of_ble_eq_true rfl) dX11_isWanted_29 (by
      refine ⟨?_, rfl⟩
      first
      | (rw [if_neg (fun h => by have := h.1; rw [ci_lt0] at c_1; omega)])
      | (rw [ci_if (ca_wn hk)]
         first | (rw [if_pos ⟨by omega, by omega⟩]) | (rw [if_neg (fun h => by have h2 := h.1; have h3 := h.2; omega)])))
  · skip
    obtain ⟨k, hk, rfl⟩ := nI_of c_1
    refine cb_iload_n (pc := 4) O dX11_isWanted_4 rfl ?_
    refine cb_iconst (pc := 5) (v := 4) O dX11_isWanted_5 (by decide) ?_
    refine cb_idiv (pc := 6) O dX11_isWanted_6 (by decide) ?_
    refine cb_aload_n (pc := 7) O dX11_isWanted_7 rfl ?_
    refine cb_getI (pc := 8) O fl_X11_179 rfl rfl dX11_isWanted_8 (hM.1.1 _ rfl) ?_
    refine cb_icmp_ge (pc := 11) O 28 dX11_isWanted_11 (by decide) (fun c_11 => ?_) (fun c_11 => ?_)
    · skip
      rw [h0, ci_d4 hk, nI_leI l0 (by omega)] at c_11
      refine cb_iconst (pc := 28) (v := 0) O dX11_isWanted_28 (by decide) ?_
      exact cb_iret (pc := 29) O Rt rfl (Nat.le_of_ble_eq_true rfl) (Nat.le_of_ble_eq_true rfl) dX11_isWanted_29 (by
        refine ⟨?_, rfl⟩
        first
        | (rw [if_neg (fun h => by have := h.1; rw [ci_lt0] at c_1; omega)])
        | (rw [ci_if (ca_wn hk)]
           first | (rw [if_pos ⟨by omega, by omega⟩]) | (rw [if_neg (fun h => by have h2 := h.1; have h3 := h.2; omega)])))
    · skip
      rw [h0, ci_d4 hk, nI_leI l0 (by omega)] at c_11
      refine cb_iload_n (pc := 14) O dX11_isWanted_14 rfl ?_
      refine cb_iconst (pc := 15) (v := 4) O dX11_isWanted_15 (by decide) ?_
      refine cb_irem (pc := 16) O dX11_isWanted_16 (by decide) ?_
      refine cb_aload_n (pc := 17) O dX11_isWanted_17 rfl ?_
      refine cb_getI (pc := 18) O fl_X11_182 rfl rfl dX11_isWanted_18 (hM.1.1 _ rfl) ?_
      refine cb_icmp_ge (pc := 21) O 28 dX11_isWanted_21 (by decide) (fun c_21 => ?_) (fun c_21 => ?_)
      · skip
        rw [h1, ci_r4 hk, nI_leI l1 (by omega)] at c_21
        refine cb_iconst (pc := 28) (v := 0) O dX11_isWanted_28 (by decide) ?_
        exact cb_iret (pc := 29) O Rt rfl (Nat.le_of_ble_eq_true rfl) (Nat.le_of_ble_eq_true rfl) dX11_isWanted_29 (by
          refine ⟨?_, rfl⟩
          first
          | (rw [if_neg (fun h => by have := h.1; rw [ci_lt0] at c_1; omega)])
          | (rw [ci_if (ca_wn hk)]
             first | (rw [if_pos ⟨by omega, by omega⟩]) | (rw [if_neg (fun h => by have h2 := h.1; have h3 := h.2; omega)])))
      · skip
        rw [h1, ci_r4 hk, nI_leI l1 (by omega)] at c_21
        refine cb_iconst (pc := 24) (v := 1) O dX11_isWanted_24 (by decide) ?_
        refine cb_goto (pc := 25) O 29 dX11_isWanted_25 (by decide) ?_
        exact cb_iret (pc := 29) O Rt rfl (Nat.le_of_ble_eq_true rfl) (Nat.le_of_ble_eq_true rfl) dX11_isWanted_29 (by
          refine ⟨?_, rfl⟩
          first
          | (rw [if_neg (fun h => by have := h.1; rw [ci_lt0] at c_1; omega)])
          | (rw [ci_if (ca_wn hk)]
             first | (rw [if_pos ⟨by omega, by omega⟩]) | (rw [if_neg (fun h => by have h2 := h.1; have h3 := h.2; omega)])))

theorem c_X1_hasPiece (w : cb_W) (A : ca_A) (z : Int32) (hI : ca_I A) (hC : cc_I w A z) (p : Int32) : cb_Pu yX1_hasPiece cX1_hasPiece 2 (some .boolean) 1 22 [.inr (some 20), .inl p] w (if ci_x p (A 0 12) then 1 else 0) := by
  refine cb_con (by decide) (Nat.le_of_ble_eq_true rfl) (fun κ O Rt hnm => ?_)
  show cb_X κ w 0 0 0 [some (.inr (some 20)), some (.inl p)] []
  refine cb_iload_n (pc := 0) O dX1_hasPiece_0 rfl ?_
  refine cb_iconst (pc := 1) (v := 0) O dX1_hasPiece_1 (by decide) ?_
  refine cb_aload_n (pc := 2) O dX1_hasPiece_2 rfl ?_
  refine cb_getI (pc := 3) O fl_X1_40 rfl rfl dX1_hasPiece_3 (hC.1.1 _ rfl) ?_
  refine cb_iconst (pc := 6) (v := 1) O dX1_hasPiece_6 (by decide) ?_
  refine cb_isub (pc := 7) O dX1_hasPiece_7 ?_
  refine cb_cSp (pc := 8) O (c_X10_within _ _ _ _) my_X10_within mt_X10_within ml_X1_43 dX1_hasPiece_8 rfl rfl ⟨(Nat.le_of_ble_eq_true rfl), (Nat.le_of_ble_eq_true rfl)⟩ (Nat.le_of_ble_eq_true rfl) rfl ⟨(Nat.le_of_ble_eq_true rfl), (Nat.le_of_ble_eq_true rfl)⟩ ?_
  exact cb_iret (pc := 11) O Rt (by split <;> rfl) (Nat.le_of_ble_eq_true rfl) (Nat.le_of_ble_eq_true rfl) dX1_hasPiece_11 ⟨by
    rw [hC.2.1.1.2.2]
    exact ci_if (ci_wi (by have := hI.1; omega)), rfl⟩

theorem c_X10_isSheet (w : cb_W) (A : ca_A) (z : Int32) (hI : ca_I A) (hC : cc_I w A z) (p : Int32) : cb_Pu yX10_isSheet cX10_isSheet 2 (some .boolean) 1 22 [.inr (some 0), .inl p] w (if ci_x p (A 0 20) then 1 else 0) := by
  refine cb_con (by decide) (Nat.le_of_ble_eq_true rfl) (fun κ O Rt hnm => ?_)
  show cb_X κ w 0 0 0 [some (.inr (some 0)), some (.inl p)] []
  refine cb_iload_n (pc := 0) O dX10_isSheet_0 rfl ?_
  refine cb_iconst (pc := 1) (v := 0) O dX10_isSheet_1 (by decide) ?_
  refine cb_aload_n (pc := 2) O dX10_isSheet_2 rfl ?_
  refine cb_getI (pc := 3) O fl_X10_71 rfl rfl dX10_isSheet_3 (hC.1.1 _ rfl) ?_
  refine cb_iconst (pc := 6) (v := 1) O dX10_isSheet_6 (by decide) ?_
  refine cb_isub (pc := 7) O dX10_isSheet_7 ?_
  refine cb_cSp (pc := 8) O (c_X10_within _ _ _ _) my_X10_within mt_X10_within ml_X10_81 dX10_isSheet_8 rfl rfl ⟨(Nat.le_of_ble_eq_true rfl), (Nat.le_of_ble_eq_true rfl)⟩ (Nat.le_of_ble_eq_true rfl) rfl ⟨(Nat.le_of_ble_eq_true rfl), (Nat.le_of_ble_eq_true rfl)⟩ ?_
  exact cb_iret (pc := 11) O Rt (by split <;> rfl) (Nat.le_of_ble_eq_true rfl) (Nat.le_of_ble_eq_true rfl) dX10_isSheet_11 ⟨by
    rw [hC.2.2.1.1]
    exact ci_if (ci_wi (by have := hI.1; omega)), rfl⟩

theorem c_X11_isPiece (w : cb_W) (A : ca_A) (z : Int32) (hI : ca_I A) (hM : cm_I w A z) (p : Int32) : cb_Pu yX11_isPiece cX11_isPiece 2 (some .boolean) 0 0 [.inr (some 1000), .inl p] w (if ci_x p (A 0 12) then 1 else 0) := by
  have h0 : w.2.1 1000 12 = nI (A 0 12) := cm_at hM 0 12 rfl (by omega)
  have l0 : A 0 12 < 2147483648 := by have := hI.1; omega
  refine cb_con (by decide) (Nat.le_of_ble_eq_true rfl) (fun κ O Rt hnm => ?_)
  show cb_X κ w 0 0 0 [some (.inr (some 1000)), some (.inl p)] []
  refine cb_iload_n (pc := 0) O dX11_isPiece_0 rfl ?_
  refine cb_if_lt (pc := 1) O 16 dX11_isPiece_1 (by decide) (fun c_1 => ?_) (fun c_1 => ?_)
  · skip
    refine cb_iconst (pc := 16) (v := 0) O dX11_isPiece_16 (by decide) ?_
    exact cb_iret (pc := 17) O Rt rfl (Nat.le_of_ble_eq_true rfl) (Nat.le_of_ble_eq_true rfl) dX11_isPiece_17 (by
      refine ⟨?_, rfl⟩
      simp only [ci_x]
      simp only [h0, ci_lt0, ci_le, ci_n l0] at *
      split <;> first | rfl | (exfalso; omega))
  · skip
    refine cb_iload_n (pc := 4) O dX11_isPiece_4 rfl ?_
    refine cb_aload_n (pc := 5) O dX11_isPiece_5 rfl ?_
    refine cb_getI (pc := 6) O fl_X11_100 rfl rfl dX11_isPiece_6 (hM.1.1 _ rfl) ?_
    refine cb_icmp_ge (pc := 9) O 16 dX11_isPiece_9 (by decide) (fun c_9 => ?_) (fun c_9 => ?_)
    · skip
      refine cb_iconst (pc := 16) (v := 0) O dX11_isPiece_16 (by decide) ?_
      exact cb_iret (pc := 17) O Rt rfl (Nat.le_of_ble_eq_true rfl) (Nat.le_of_ble_eq_true rfl) dX11_isPiece_17 (by
        refine ⟨?_, rfl⟩
        simp only [ci_x]
        simp only [h0, ci_lt0, ci_le, ci_n l0] at *
        split <;> first | rfl | (exfalso; omega))
    · skip
      refine cb_iconst (pc := 12) (v := 1) O dX11_isPiece_12 (by decide) ?_
      refine cb_goto (pc := 13) O 17 dX11_isPiece_13 (by decide) ?_
      exact cb_iret (pc := 17) O Rt rfl (Nat.le_of_ble_eq_true rfl) (Nat.le_of_ble_eq_true rfl) dX11_isPiece_17 (by
        refine ⟨?_, rfl⟩
        simp only [ci_x]
        simp only [h0, ci_lt0, ci_le, ci_n l0] at *
        split <;> first | rfl | (exfalso; omega))

theorem c_X11_isSheet (w : cb_W) (A : ca_A) (z : Int32) (hI : ca_I A) (hM : cm_I w A z) (p : Int32) : cb_Pu yX11_isSheet cX11_isSheet 2 (some .boolean) 0 0 [.inr (some 1000), .inl p] w (if ci_x p (A 0 20) then 1 else 0) := by
  have h0 : w.2.1 1000 20 = nI (A 0 20) := cm_at hM 0 20 rfl (by omega)
  have l0 : A 0 20 < 2147483648 := by have := hI.1; omega
  refine cb_con (by decide) (Nat.le_of_ble_eq_true rfl) (fun κ O Rt hnm => ?_)
  show cb_X κ w 0 0 0 [some (.inr (some 1000)), some (.inl p)] []
  refine cb_iload_n (pc := 0) O dX11_isSheet_0 rfl ?_
  refine cb_if_lt (pc := 1) O 16 dX11_isSheet_1 (by decide) (fun c_1 => ?_) (fun c_1 => ?_)
  · skip
    refine cb_iconst (pc := 16) (v := 0) O dX11_isSheet_16 (by decide) ?_
    exact cb_iret (pc := 17) O Rt rfl (Nat.le_of_ble_eq_true rfl) (Nat.le_of_ble_eq_true rfl) dX11_isSheet_17 (by
      refine ⟨?_, rfl⟩
      simp only [ci_x]
      simp only [h0, ci_lt0, ci_le, ci_n l0] at *
      split <;> first | rfl | (exfalso; omega))
  · skip
    refine cb_iload_n (pc := 4) O dX11_isSheet_4 rfl ?_
    refine cb_aload_n (pc := 5) O dX11_isSheet_5 rfl ?_
    refine cb_getI (pc := 6) O fl_X11_155 rfl rfl dX11_isSheet_6 (hM.1.1 _ rfl) ?_
    refine cb_icmp_ge (pc := 9) O 16 dX11_isSheet_9 (by decide) (fun c_9 => ?_) (fun c_9 => ?_)
    · skip
      refine cb_iconst (pc := 16) (v := 0) O dX11_isSheet_16 (by decide) ?_
      exact cb_iret (pc := 17) O Rt rfl (Nat.le_of_ble_eq_true rfl) (Nat.le_of_ble_eq_true rfl) dX11_isSheet_17 (by
        refine ⟨?_, rfl⟩
        simp only [ci_x]
        simp only [h0, ci_lt0, ci_le, ci_n l0] at *
        split <;> first | rfl | (exfalso; omega))
    · skip
      refine cb_iconst (pc := 12) (v := 1) O dX11_isSheet_12 (by decide) ?_
      refine cb_goto (pc := 13) O 17 dX11_isSheet_13 (by decide) ?_
      exact cb_iret (pc := 17) O Rt rfl (Nat.le_of_ble_eq_true rfl) (Nat.le_of_ble_eq_true rfl) dX11_isSheet_17 (by
        refine ⟨?_, rfl⟩
        simp only [ci_x]
        simp only [h0, ci_lt0, ci_le, ci_n l0] at *
        split <;> first | rfl | (exfalso; omega))

abbrev ca_s (A : ca_A) (t : Int32) : Prop := 0 ≤ t.toInt ∧ t.toInt.toNat / 100 ≤ t.toInt.toNat % 100 ∧ t.toInt.toNat % 100 < A 0 20
theorem ca_sn {A : ca_A} {j : Nat} (h : j < 2147483648) : ca_s A (nI j) ↔ (j / 100 ≤ j % 100 ∧ j % 100 < A 0 20) := by
  unfold ca_s
  rw [ci_tn h, ci_n h]
  exact ⟨fun q => q.2, fun q => ⟨by omega, q⟩⟩
theorem c_X10_areSheets (w : cb_W) (A : ca_A) (z : Int32) (hI : ca_I A) (hC : cc_I w A z) (t : Int32) : cb_Pu yX10_areSheets cX10_areSheets 2 (some .boolean) 2 43 [.inr (some 0), .inl t] w (if ca_s A t then 1 else 0) := by
  refine cb_con (by decide) (Nat.le_of_ble_eq_true rfl) (fun κ O Rt hnm => ?_)
  show cb_X κ w 0 0 0 [some (.inr (some 0)), some (.inl t)] []
  refine cb_iload_n (pc := 0) O dX10_areSheets_0 rfl ?_
  refine cb_if_lt (pc := 1) O 30 dX10_areSheets_1 (by decide) (fun c_1 => ?_) (fun c_1 => ?_)
  · skip
    refine cb_iconst (pc := 30) (v := 0) O dX10_areSheets_30 (by decide) ?_
    exact cb_iret (pc := 31) O Rt rfl (Nat.le_of_ble_eq_true rfl) (Nat.le_of_ble_eq_true rfl) dX10_areSheets_31 (by
      refine ⟨?_, rfl⟩
      first
      | (rw [if_neg (fun h => by have := h.1; rw [ci_lt0] at c_1; omega)])
      | (rw [ci_if (ca_sn hk)]
         first | (rw [if_pos ⟨by omega, by omega⟩]) | (rw [if_neg (fun h => by have h2 := h.1; have h3 := h.2; omega)])))
  · skip
    obtain ⟨t, hk, rfl⟩ := nI_of c_1
    refine cb_iload_n (pc := 4) O dX10_areSheets_4 rfl ?_
    refine cb_cSp (pc := 5) O (c_X10_firstOf _ _) my_X10_firstOf mt_X10_firstOf ml_X10_229 dX10_areSheets_5 rfl rfl ⟨(Nat.le_of_ble_eq_true rfl), (Nat.le_of_ble_eq_true rfl)⟩ (Nat.le_of_ble_eq_true rfl) rfl ⟨(Nat.le_of_ble_eq_true rfl), (Nat.le_of_ble_eq_true rfl)⟩ ?_
    refine cb_iload_n (pc := 8) O dX10_areSheets_8 rfl ?_
    refine cb_cSp (pc := 9) O (c_X10_lastOf _ _) my_X10_lastOf mt_X10_lastOf ml_X10_232 dX10_areSheets_9 rfl rfl ⟨(Nat.le_of_ble_eq_true rfl), (Nat.le_of_ble_eq_true rfl)⟩ (Nat.le_of_ble_eq_true rfl) rfl ⟨(Nat.le_of_ble_eq_true rfl), (Nat.le_of_ble_eq_true rfl)⟩ ?_
    refine cb_icmp_gt (pc := 12) O 30 dX10_areSheets_12 (by decide) (fun c_12 => ?_) (fun c_12 => ?_)
    · skip
      rw [ci_r100 hk, ci_d100 hk, nI_ltI (by omega) (by omega)] at c_12
      refine cb_iconst (pc := 30) (v := 0) O dX10_areSheets_30 (by decide) ?_
      exact cb_iret (pc := 31) O Rt rfl (Nat.le_of_ble_eq_true rfl) (Nat.le_of_ble_eq_true rfl) dX10_areSheets_31 (by
        refine ⟨?_, rfl⟩
        first
        | (rw [if_neg (fun h => by have := h.1; rw [ci_lt0] at c_1; omega)])
        | (rw [ci_if (ca_sn hk)]
           first | (rw [if_pos ⟨by omega, by omega⟩]) | (rw [if_neg (fun h => by have h2 := h.1; have h3 := h.2; omega)])))
    · skip
      rw [ci_r100 hk, ci_d100 hk, nI_ltI (by omega) (by omega)] at c_12
      refine cb_aload_n (pc := 15) O dX10_areSheets_15 rfl ?_
      refine cb_iload_n (pc := 16) O dX10_areSheets_16 rfl ?_
      refine cb_cSp (pc := 17) O (c_X10_lastOf _ _) my_X10_lastOf mt_X10_lastOf ml_X10_232 dX10_areSheets_17 rfl rfl ⟨(Nat.le_of_ble_eq_true rfl), (Nat.le_of_ble_eq_true rfl)⟩ (Nat.le_of_ble_eq_true rfl) rfl ⟨(Nat.le_of_ble_eq_true rfl), (Nat.le_of_ble_eq_true rfl)⟩ ?_
      refine cb_cVp (pc := 20) O (c_X10_isSheet w A z hI hC _) my_X10_isSheet mi_X10_isSheet mx_X10_isSheet ml_X10_203 dX10_areSheets_20 rfl ct_10 rfl rfl rfl ⟨(Nat.le_of_ble_eq_true rfl), (Nat.le_of_ble_eq_true rfl)⟩ (Nat.le_of_ble_eq_true rfl) rfl ⟨(Nat.le_of_ble_eq_true rfl), (Nat.le_of_ble_eq_true rfl)⟩ (hC.1.1 _ rfl) ?_
      refine cb_ifp_eq (pc := 23) O 30 dX10_areSheets_23 (by decide) (fun c_23 => ?_) (fun c_23 => ?_)
      · skip
        rw [ci_r100 hk] at c_23
        unfold ci_x at c_23
        rw [ci_n (by omega)] at c_23
        refine cb_iconst (pc := 30) (v := 0) O dX10_areSheets_30 (by decide) ?_
        exact cb_iret (pc := 31) O Rt rfl (Nat.le_of_ble_eq_true rfl) (Nat.le_of_ble_eq_true rfl) dX10_areSheets_31 (by
          refine ⟨?_, rfl⟩
          first
          | (rw [if_neg (fun h => by have := h.1; rw [ci_lt0] at c_1; omega)])
          | (rw [ci_if (ca_sn hk)]
             first | (rw [if_pos ⟨by omega, by omega⟩]) | (rw [if_neg (fun h => by have h2 := h.1; have h3 := h.2; omega)])))
      · skip
        rw [ci_r100 hk] at c_23
        unfold ci_x at c_23
        rw [ci_n (by omega)] at c_23
        refine cb_iconst (pc := 26) (v := 1) O dX10_areSheets_26 (by decide) ?_
        refine cb_goto (pc := 27) O 31 dX10_areSheets_27 (by decide) ?_
        exact cb_iret (pc := 31) O Rt rfl (Nat.le_of_ble_eq_true rfl) (Nat.le_of_ble_eq_true rfl) dX10_areSheets_31 (by
          refine ⟨?_, rfl⟩
          first
          | (rw [if_neg (fun h => by have := h.1; rw [ci_lt0] at c_1; omega)])
          | (rw [ci_if (ca_sn hk)]
             first | (rw [if_pos ⟨by omega, by omega⟩]) | (rw [if_neg (fun h => by have h2 := h.1; have h3 := h.2; omega)])))

theorem c_X11_areSheets (w : cb_W) (A : ca_A) (z : Int32) (hI : ca_I A) (hM : cm_I w A z) (t : Int32) : cb_Pu yX11_areSheets cX11_areSheets 2 (some .boolean) 0 0 [.inr (some 1000), .inl t] w (if ca_s A t then 1 else 0) := by
  have h0 : w.2.1 1000 20 = nI (A 0 20) := cm_at hM 0 20 rfl (by omega)
  have l0 : A 0 20 < 2147483648 := by have := hI.1; omega
  refine cb_con (by decide) (Nat.le_of_ble_eq_true rfl) (fun κ O Rt hnm => ?_)
  show cb_X κ w 0 0 0 [some (.inr (some 1000)), some (.inl t)] []
  refine cb_iload_n (pc := 0) O dX11_areSheets_0 rfl ?_
  refine cb_if_lt (pc := 1) O 30 dX11_areSheets_1 (by decide) (fun c_1 => ?_) (fun c_1 => ?_)
  · skip
    refine cb_iconst (pc := 30) (v := 0) O dX11_areSheets_30 (by decide) ?_
    exact cb_iret (pc := 31) O Rt rfl (Nat.le_of_ble_eq_true rfl) (Nat.le_of_ble_eq_true rfl) dX11_areSheets_31 (by
      refine ⟨?_, rfl⟩
      first
      | (rw [if_neg (fun h => by have := h.1; rw [ci_lt0] at c_1; omega)])
      | (rw [ci_if (ca_sn hk)]
         first | (rw [if_pos ⟨by omega, by omega⟩]) | (rw [if_neg (fun h => by have h2 := h.1; have h3 := h.2; omega)])))
  · skip
    obtain ⟨t, hk, rfl⟩ := nI_of c_1
    refine cb_iload_n (pc := 4) O dX11_areSheets_4 rfl ?_
    refine cb_bipush (pc := 5) (v := 100) O dX11_areSheets_5 (by decide) ?_
    refine cb_idiv (pc := 7) O dX11_areSheets_7 (by decide) ?_
    refine cb_iload_n (pc := 8) O dX11_areSheets_8 rfl ?_
    refine cb_bipush (pc := 9) (v := 100) O dX11_areSheets_9 (by decide) ?_
    refine cb_irem (pc := 11) O dX11_areSheets_11 (by decide) ?_
    refine cb_icmp_gt (pc := 12) O 30 dX11_areSheets_12 (by decide) (fun c_12 => ?_) (fun c_12 => ?_)
    · skip
      rw [ci_r100 hk, ci_d100 hk, nI_ltI (by omega) (by omega)] at c_12
      refine cb_iconst (pc := 30) (v := 0) O dX11_areSheets_30 (by decide) ?_
      exact cb_iret (pc := 31) O Rt rfl (Nat.le_of_ble_eq_true rfl) (Nat.le_of_ble_eq_true rfl) dX11_areSheets_31 (by
        refine ⟨?_, rfl⟩
        first
        | (rw [if_neg (fun h => by have := h.1; rw [ci_lt0] at c_1; omega)])
        | (rw [ci_if (ca_sn hk)]
           first | (rw [if_pos ⟨by omega, by omega⟩]) | (rw [if_neg (fun h => by have h2 := h.1; have h3 := h.2; omega)])))
    · skip
      rw [ci_r100 hk, ci_d100 hk, nI_ltI (by omega) (by omega)] at c_12
      refine cb_iload_n (pc := 15) O dX11_areSheets_15 rfl ?_
      refine cb_bipush (pc := 16) (v := 100) O dX11_areSheets_16 (by decide) ?_
      refine cb_irem (pc := 18) O dX11_areSheets_18 (by decide) ?_
      refine cb_aload_n (pc := 19) O dX11_areSheets_19 rfl ?_
      refine cb_getI (pc := 20) O fl_X11_155 rfl rfl dX11_areSheets_20 (hM.1.1 _ rfl) ?_
      refine cb_icmp_ge (pc := 23) O 30 dX11_areSheets_23 (by decide) (fun c_23 => ?_) (fun c_23 => ?_)
      · skip
        rw [h0, ci_r100 hk, nI_leI l0 (by omega)] at c_23
        refine cb_iconst (pc := 30) (v := 0) O dX11_areSheets_30 (by decide) ?_
        exact cb_iret (pc := 31) O Rt rfl (Nat.le_of_ble_eq_true rfl) (Nat.le_of_ble_eq_true rfl) dX11_areSheets_31 (by
          refine ⟨?_, rfl⟩
          first
          | (rw [if_neg (fun h => by have := h.1; rw [ci_lt0] at c_1; omega)])
          | (rw [ci_if (ca_sn hk)]
             first | (rw [if_pos ⟨by omega, by omega⟩]) | (rw [if_neg (fun h => by have h2 := h.1; have h3 := h.2; omega)])))
      · skip
        rw [h0, ci_r100 hk, nI_leI l0 (by omega)] at c_23
        refine cb_iconst (pc := 26) (v := 1) O dX11_areSheets_26 (by decide) ?_
        refine cb_goto (pc := 27) O 31 dX11_areSheets_27 (by decide) ?_
        exact cb_iret (pc := 31) O Rt rfl (Nat.le_of_ble_eq_true rfl) (Nat.le_of_ble_eq_true rfl) dX11_areSheets_31 (by
          refine ⟨?_, rfl⟩
          first
          | (rw [if_neg (fun h => by have := h.1; rw [ci_lt0] at c_1; omega)])
          | (rw [ci_if (ca_sn hk)]
             first | (rw [if_pos ⟨by omega, by omega⟩]) | (rw [if_neg (fun h => by have h2 := h.1; have h3 := h.2; omega)])))

theorem c_X1_isTold (w : cb_W) (A : ca_A) (z : Int32) (hI : ca_I A) (hC : cc_I w A z)  : cb_Pu yX1_isTold cX1_isTold 1 (some .boolean) 0 0 [.inr (some 20)] w (if 0 < A 0 0 then 1 else 0) := by
  refine cb_con (by decide) (Nat.le_of_ble_eq_true rfl) (fun κ O Rt hnm => ?_)
  show cb_X κ w 0 0 0 [some (.inr (some 20))] []
  refine cb_aload_n (pc := 0) O dX1_isTold_0 rfl ?_
  refine cb_getI (pc := 1) O fl_X1_27 rfl rfl dX1_isTold_1 (hC.1.1 _ rfl) ?_
  refine cb_if_le (pc := 4) O 11 dX1_isTold_4 (by decide) (fun c_4 => ?_) (fun c_4 => ?_)
  · skip
    refine cb_iconst (pc := 11) (v := 0) O dX1_isTold_11 (by decide) ?_
    exact cb_iret (pc := 12) O Rt rfl (Nat.le_of_ble_eq_true rfl) (Nat.le_of_ble_eq_true rfl) dX1_isTold_12 (by
      refine ⟨?_, rfl⟩
      have l0 : A 0 0 < 2147483648 := by have := hI.1; omega
      rw [hC.2.1.1.1, ci_le, ci_n l0, ci_z0] at c_4
      split <;> first | rfl | (exfalso; omega))
  · skip
    refine cb_iconst (pc := 7) (v := 1) O dX1_isTold_7 (by decide) ?_
    refine cb_goto (pc := 8) O 12 dX1_isTold_8 (by decide) ?_
    exact cb_iret (pc := 12) O Rt rfl (Nat.le_of_ble_eq_true rfl) (Nat.le_of_ble_eq_true rfl) dX1_isTold_12 (by
      refine ⟨?_, rfl⟩
      have l0 : A 0 0 < 2147483648 := by have := hI.1; omega
      rw [hC.2.1.1.1, ci_le, ci_n l0, ci_z0] at c_4
      split <;> first | rfl | (exfalso; omega))

theorem c_X6_isTold (w : cb_W) (A : ca_A) (z : Int32) (hI : ca_I A) (hC : cc_I w A z)  : cb_Pu yX6_isTold cX6_isTold 1 (some .boolean) 0 0 [.inr (some 26)] w (if 0 < A 0 28 then 1 else 0) := by
  refine cb_con (by decide) (Nat.le_of_ble_eq_true rfl) (fun κ O Rt hnm => ?_)
  show cb_X κ w 0 0 0 [some (.inr (some 26))] []
  refine cb_aload_n (pc := 0) O dX6_isTold_0 rfl ?_
  refine cb_getI (pc := 1) O fl_X6_15 rfl rfl dX6_isTold_1 (hC.1.1 _ rfl) ?_
  refine cb_if_le (pc := 4) O 11 dX6_isTold_4 (by decide) (fun c_4 => ?_) (fun c_4 => ?_)
  · skip
    refine cb_iconst (pc := 11) (v := 0) O dX6_isTold_11 (by decide) ?_
    exact cb_iret (pc := 12) O Rt rfl (Nat.le_of_ble_eq_true rfl) (Nat.le_of_ble_eq_true rfl) dX6_isTold_12 (by
      refine ⟨?_, rfl⟩
      have l0 : A 0 28 < 2147483648 := by have := hI.1; omega
      rw [hC.2.2.2.2.2.2.1.1, ci_le, ci_n l0, ci_z0] at c_4
      split <;> first | rfl | (exfalso; omega))
  · skip
    refine cb_iconst (pc := 7) (v := 1) O dX6_isTold_7 (by decide) ?_
    refine cb_goto (pc := 8) O 12 dX6_isTold_8 (by decide) ?_
    exact cb_iret (pc := 12) O Rt rfl (Nat.le_of_ble_eq_true rfl) (Nat.le_of_ble_eq_true rfl) dX6_isTold_12 (by
      refine ⟨?_, rfl⟩
      have l0 : A 0 28 < 2147483648 := by have := hI.1; omega
      rw [hC.2.2.2.2.2.2.1.1, ci_le, ci_n l0, ci_z0] at c_4
      split <;> first | rfl | (exfalso; omega))

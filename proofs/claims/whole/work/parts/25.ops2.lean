def sr_order (A : ca_A) (k : Int32) : Int32 := if ci_x k (A 0 33 - 1) then nI (A 33 k.toInt.toNat) else -1
def sr_place (A : ca_A) (k : Int32) : Int32 := if ci_x k 16 then (if A 0 33 = 0 then -1 else nI (A 35 k.toInt.toNat) - 1) else -1
def sr_cell (A : ca_A) (k a : Int32) : Int32 := if ca_c A k then (if a = 0 then nI (if A 10 k.toInt.toNat = 0 then 1 else 0) else if a = 1 then nI (A 11 k.toInt.toNat) else -1) else -1
def sr_colour (A : ca_A) (s k : Int32) : Int32 := if ci_x s (A 0 20) ∧ ca_c A k then nI (A 15 (64 * s.toInt.toNat + k.toInt.toNat)) else -1
def sr_led (A : ca_A) (s k a : Int32) : Int32 := if ci_x s (A 0 20) ∧ ca_c A k then (if a = 0 then nI (A 16 (64 * s.toInt.toNat + k.toInt.toNat)) - 1 else if a = 1 then nI (A 17 (64 * s.toInt.toNat + k.toInt.toNat)) else if a = 2 then nI (A 19 (64 * s.toInt.toNat + k.toInt.toNat)) else -1) else -1
def sr_good (A : ca_A) (s : Int32) : Int32 := if ci_x s (A 0 20) then nI (1 - A 20 s.toInt.toNat) else -1
def sr_book (A : ca_A) (p a : Int32) : Int32 := if ci_x p (A 0 26) then (if a = 0 then nI (A 22 p.toInt.toNat) else if a = 1 then nI (A 23 p.toInt.toNat) else if a = 2 then nI (A 24 p.toInt.toNat) - 1 else if a = 3 then nI (A 25 p.toInt.toNat) else if a = 4 then nI (A 26 p.toInt.toNat) else -1) else -1
theorem ci_ne {a : Int32} {N : Int} (m : Nat) (h : a.toInt < 0 ∨ N < a.toInt) (hm : (m : Int) ≤ N) (hn : (m : Int) < 2147483648) : ¬ a = nI m := by
  rw [ci_eq, ci_n (by omega)]
  omega
theorem cc_S.g {w : cb_W} {A : ca_A} {s : Nat} (h : cc_S w A) (hs : s < A 0 20) : (w.1 (200 + 6 * s) = true ∧ w.1 (201 + 6 * s) = true ∧ w.1 (202 + 6 * s) = true ∧ w.1 (203 + 6 * s) = true ∧ w.1 (204 + 6 * s) = true ∧ w.1 (205 + 6 * s) = true) ∧ w.2.2 3 s = some (200 + 6 * s) ∧ (w.2.2 (200 + 6 * s) 0 = some (201 + 6 * s) ∧ w.2.2 (200 + 6 * s) 1 = some (202 + 6 * s) ∧ w.2.2 (200 + 6 * s) 2 = some (203 + 6 * s) ∧ w.2.2 (200 + 6 * s) 3 = some (204 + 6 * s) ∧ w.2.2 (200 + 6 * s) 4 = some (205 + 6 * s)) := by
  obtain ⟨x1, x2, x3, -⟩ := h.1 s hs
  have e : ∀ j, 200 + 6 * s + j = (200 + j) + 6 * s := fun j => by omega
  have e2 : ∀ j, 201 + 6 * s + j = (201 + j) + 6 * s := fun j => by omega
  refine ⟨⟨x1 0 (by omega), ?_, ?_, ?_, ?_, ?_⟩, x2, x3 0 (by omega), ?_, ?_, ?_, ?_⟩
  · have := x1 1 (by omega); rw [e] at this; exact this
  · have := x1 2 (by omega); rw [e] at this; exact this
  · have := x1 3 (by omega); rw [e] at this; exact this
  · have := x1 4 (by omega); rw [e] at this; exact this
  · have := x1 5 (by omega); rw [e] at this; exact this
  · have := x3 1 (by omega); rw [e2] at this; exact this
  · have := x3 2 (by omega); rw [e2] at this; exact this
  · have := x3 3 (by omega); rw [e2] at this; exact this
  · have := x3 4 (by omega); rw [e2] at this; exact this
theorem ca_c64 {A : ca_A} {k : Int32} (hI : ca_I A) (h : ca_c A k) : ∃ j : Nat, j < 64 ∧ k = nI j ∧ ca_o A j := by
  obtain ⟨h1, h2⟩ := h
  have h3 := hI.1.1
  have h4 := hI.1.2.1
  have h5 := h2.1
  refine ⟨k.toInt.toNat, by omega, ?_, h2⟩
  rw [ci_eq, ci_n (by omega)]
  omega
theorem ca_w16 {A : ca_A} {k : Int32} (hI : ca_I A) (h : ca_w A k) : ∃ j : Nat, j < 16 ∧ k = nI j ∧ (j / 4 < A 0 28 ∧ j % 4 < A 0 29) := by
  obtain ⟨h1, h2⟩ := h
  have h3 := hI.1.2.2.2.2.2.2.2.1
  have h5 := h2.1
  refine ⟨k.toInt.toNat, by omega, ?_, h2⟩
  rw [ci_eq, ci_n (by omega)]
  omega
theorem k_order (w : cb_W) (A : ca_A) (z : Int32) (hI : ca_I A) (hC : cc_I w A z) (k : Int32) : cb_Con yX10_order cX10_order 2 (some .int) 1 22 0 0 (fun _ => true) [.inr (some 0), .inl k] w (cb_pi (fun x w' => x = sr_order A k ∧ w' = w)) := by
  have h0 := hC.2.2.2.2.2.2.2.1
  have l0 : A 0 33 - 1 < 2147483648 := by have := hI.1; omega
  have l5 : A 0 33 - 1 ≤ 5 := by have := hI.1; omega
  refine cb_con (by decide) (Nat.le_of_ble_eq_true rfl) (fun κ O Rt hnm => ?_)
  show cb_X κ w 0 0 0 [some (.inr (some 0)), some (.inl k)] []
  refine cb_iload_n (pc := 0) O dX10_order_0 rfl ?_
  refine cb_iconst (pc := 1) (v := 0) O dX10_order_1 (by decide) ?_
  refine cb_aload_n (pc := 2) O dX10_order_2 rfl ?_
  refine cb_getR (pc := 3) O fl_X10_51 rfl rfl dX10_order_3 (hC.1.1 _ rfl) (hC.1.2 _ _ _ rfl) ?_
  refine cb_getR (pc := 6) O fl_X10_256 rfl rfl dX10_order_6 (hC.1.1 _ rfl) (hC.1.2 _ _ _ rfl) ?_
  refine cb_getI (pc := 9) O fl_X10_268 rfl rfl dX10_order_9 (hC.1.1 _ rfl) ?_
  refine cb_iconst (pc := 12) (v := 1) O dX10_order_12 (by decide) ?_
  refine cb_isub (pc := 13) O dX10_order_13 ?_
  refine cb_cSp (pc := 14) O (c_X10_within _ _ _ _) my_X10_within mt_X10_within ml_X10_81 dX10_order_14 rfl rfl ⟨(Nat.le_of_ble_eq_true rfl), (Nat.le_of_ble_eq_true rfl)⟩ (Nat.le_of_ble_eq_true rfl) rfl ⟨(Nat.le_of_ble_eq_true rfl), (Nat.le_of_ble_eq_true rfl)⟩ ?_
  refine cb_ifp_eq (pc := 17) O 35 dX10_order_17 (by decide) (fun c_17 => ?_) (fun c_17 => ?_)
  · skip
    rw [h0.1, ci_wi l0] at c_17
    refine cb_iconst (pc := 35) (v := (-1)) O dX10_order_35 (by decide) ?_
    exact cb_iret (pc := 36) O Rt rfl (Nat.le_of_ble_eq_true rfl) (Nat.le_of_ble_eq_true rfl) dX10_order_36 (by
      refine ⟨?_, rfl⟩
      first
      | (rw [sr_order, if_neg c_17])
      | (rw [sr_order, if_pos hx, ci_tn (by omega)]
         exact h0.2.1 k hk))
  · skip
    rw [h0.1, ci_wi l0] at c_17
    have hx := c_17
    obtain ⟨k, hk, rfl⟩ := ci_xn c_17 (by omega)
    refine cb_aload_n (pc := 20) O dX10_order_20 rfl ?_
    refine cb_getR (pc := 21) O fl_X10_51 rfl rfl dX10_order_21 (hC.1.1 _ rfl) (hC.1.2 _ _ _ rfl) ?_
    refine cb_getR (pc := 24) O fl_X10_256 rfl rfl dX10_order_24 (hC.1.1 _ rfl) (hC.1.2 _ _ _ rfl) ?_
    refine cb_getR (pc := 27) O fl_X10_273 rfl rfl dX10_order_27 (hC.1.1 _ rfl) (hC.1.2 _ _ _ rfl) ?_
    refine cb_iload_n (pc := 30) O dX10_order_30 rfl ?_
    refine cb_iald (pc := 31) O _ rfl dX10_order_31 (by decide) (hC.1.1 _ rfl) rfl (by omega) ?_
    refine cb_goto (pc := 32) O 36 dX10_order_32 (by decide) ?_
    exact cb_iret (pc := 36) O Rt rfl (Nat.le_of_ble_eq_true rfl) (Nat.le_of_ble_eq_true rfl) dX10_order_36 (by
      refine ⟨?_, rfl⟩
      first
      | (rw [sr_order, if_neg c_17])
      | (rw [sr_order, if_pos hx, ci_tn (by omega)]
         exact h0.2.1 k hk))

theorem m_order (w : cb_W) (A : ca_A) (z : Int32) (hI : ca_I A) (hM : cm_I w A z) (k : Int32) : cb_Con yX11_order cX11_order 2 (some .int) 0 0 0 0 (fun _ => true) [.inr (some 1000), .inl k] w (cb_pi (fun x w' => x = sr_order A k ∧ w' = w)) := by
  have h0 : w.2.1 1000 33 = nI (A 0 33) - 1 := hM.2.1 0 33 rfl
  have l0 : A 0 33 < 2147483648 := by have := hI.1; omega
  have l5 : A 0 33 - 1 ≤ 5 := by have := hI.1; omega
  refine cb_con (by decide) (Nat.le_of_ble_eq_true rfl) (fun κ O Rt hnm => ?_)
  show cb_X κ w 0 0 0 [some (.inr (some 1000)), some (.inl k)] []
  refine cb_iload_n (pc := 0) O dX11_order_0 rfl ?_
  refine cb_if_lt (pc := 1) O 21 dX11_order_1 (by decide) (fun c_1 => ?_) (fun c_1 => ?_)
  · skip
    refine cb_iconst (pc := 21) (v := (-1)) O dX11_order_21 (by decide) ?_
    exact cb_iret (pc := 22) O Rt rfl (Nat.le_of_ble_eq_true rfl) (Nat.le_of_ble_eq_true rfl) dX11_order_22 (by
      refine ⟨?_, rfl⟩
      first
      | (rw [sr_order, if_neg (fun h => by rw [ci_lt0] at c_1; have h1 := h.1; omega)])
      | (rw [sr_order, if_neg (fun h => by rw [ci_lt0] at c_1; have h1 := h.1; have h2 := h.2; omega)])
      | (rw [sr_order, if_pos hx, ci_tn (by omega)]
         exact cm_at hM 33 k (by simp [ca_R]; omega) (by omega)))
  · skip
    refine cb_iload_n (pc := 4) O dX11_order_4 rfl ?_
    refine cb_aload_n (pc := 5) O dX11_order_5 rfl ?_
    refine cb_getI (pc := 6) O fl_X11_80 rfl rfl dX11_order_6 (hM.1.1 _ rfl) ?_
    refine cb_icmp_ge (pc := 9) O 21 dX11_order_9 (by decide) (fun c_9 => ?_) (fun c_9 => ?_)
    · skip
      rw [h0, ci_le, ci_m1 l0] at c_9
      refine cb_iconst (pc := 21) (v := (-1)) O dX11_order_21 (by decide) ?_
      exact cb_iret (pc := 22) O Rt rfl (Nat.le_of_ble_eq_true rfl) (Nat.le_of_ble_eq_true rfl) dX11_order_22 (by
        refine ⟨?_, rfl⟩
        first
        | (rw [sr_order, if_neg (fun h => by rw [ci_lt0] at c_1; have h1 := h.1; omega)])
        | (rw [sr_order, if_neg (fun h => by rw [ci_lt0] at c_1; have h1 := h.1; have h2 := h.2; omega)])
        | (rw [sr_order, if_pos hx, ci_tn (by omega)]
           exact cm_at hM 33 k (by simp [ca_R]; omega) (by omega)))
    · skip
      rw [h0, ci_le, ci_m1 l0] at c_9
      rw [ci_lt0] at c_1
      have hx : ci_x k (A 0 33 - 1) := ⟨by omega, by omega⟩
      obtain ⟨k, hk, rfl⟩ := ci_xn hx (by omega)
      refine cb_aload_n (pc := 12) O dX11_order_12 rfl ?_
      refine cb_getR (pc := 13) O fl_X11_77 rfl rfl dX11_order_13 (hM.1.1 _ rfl) (hM.1.2 _ _ _ rfl) ?_
      refine cb_iload_n (pc := 16) O dX11_order_16 rfl ?_
      refine cb_iald (pc := 17) O _ rfl dX11_order_17 (by decide) (hM.1.1 _ rfl) rfl (by omega) ?_
      refine cb_goto (pc := 18) O 22 dX11_order_18 (by decide) ?_
      exact cb_iret (pc := 22) O Rt rfl (Nat.le_of_ble_eq_true rfl) (Nat.le_of_ble_eq_true rfl) dX11_order_22 (by
        refine ⟨?_, rfl⟩
        first
        | (rw [sr_order, if_neg (fun h => by rw [ci_lt0] at c_1; have h1 := h.1; omega)])
        | (rw [sr_order, if_neg (fun h => by rw [ci_lt0] at c_1; have h1 := h.1; have h2 := h.2; omega)])
        | (rw [sr_order, if_pos hx, ci_tn (by omega)]
           exact cm_at hM 33 k (by simp [ca_R]; omega) (by omega)))

theorem k_place (w : cb_W) (A : ca_A) (z : Int32) (hI : ca_I A) (hC : cc_I w A z) (k : Int32) : cb_Con yX10_place cX10_place 2 (some .int) 1 22 0 0 (fun _ => true) [.inr (some 0), .inl k] w (cb_pi (fun x w' => x = sr_place A k ∧ w' = w)) := by
  have h0 := hC.2.2.2.2.2.2.2.1
  refine cb_con (by decide) (Nat.le_of_ble_eq_true rfl) (fun κ O Rt hnm => ?_)
  show cb_X κ w 0 0 0 [some (.inr (some 0)), some (.inl k)] []
  refine cb_iload_n (pc := 0) O dX10_place_0 rfl ?_
  refine cb_iconst (pc := 1) (v := 0) O dX10_place_1 (by decide) ?_
  refine cb_bipush (pc := 2) (v := 15) O dX10_place_2 (by decide) ?_
  refine cb_cSp (pc := 4) O (c_X10_within _ _ _ _) my_X10_within mt_X10_within ml_X10_81 dX10_place_4 rfl rfl ⟨(Nat.le_of_ble_eq_true rfl), (Nat.le_of_ble_eq_true rfl)⟩ (Nat.le_of_ble_eq_true rfl) rfl ⟨(Nat.le_of_ble_eq_true rfl), (Nat.le_of_ble_eq_true rfl)⟩ ?_
  refine cb_ifp_eq (pc := 7) O 22 dX10_place_7 (by decide) (fun c_7 => ?_) (fun c_7 => ?_)
  · skip
    refine cb_iconst (pc := 22) (v := (-1)) O dX10_place_22 (by decide) ?_
    exact cb_iret (pc := 23) O Rt rfl (Nat.le_of_ble_eq_true rfl) (Nat.le_of_ble_eq_true rfl) dX10_place_23 (by
      refine ⟨?_, rfl⟩
      first
      | (rw [sr_place, if_neg (fun h => c_7 ⟨by rw [ci_0le]; exact h.1, by rw [ci_le]; have := h.2; have e : (15 : Int32).toInt = 15 := rfl; omega⟩)])
      | (rw [sr_place, if_pos (ci_nx (by omega) (by omega)), ci_tn (by omega)]
         exact h0.2.2 k (by omega)))
  · skip
    obtain ⟨k, hk, rfl⟩ := ci_in (n := 15) c_7 rfl
    refine cb_aload_n (pc := 10) O dX10_place_10 rfl ?_
    refine cb_getR (pc := 11) O fl_X10_51 rfl rfl dX10_place_11 (hC.1.1 _ rfl) (hC.1.2 _ _ _ rfl) ?_
    refine cb_getR (pc := 14) O fl_X10_275 rfl rfl dX10_place_14 (hC.1.1 _ rfl) (hC.1.2 _ _ _ rfl) ?_
    refine cb_iload_n (pc := 17) O dX10_place_17 rfl ?_
    refine cb_iald (pc := 18) O _ rfl dX10_place_18 (by decide) (hC.1.1 _ rfl) rfl (by omega) ?_
    refine cb_goto (pc := 19) O 23 dX10_place_19 (by decide) ?_
    exact cb_iret (pc := 23) O Rt rfl (Nat.le_of_ble_eq_true rfl) (Nat.le_of_ble_eq_true rfl) dX10_place_23 (by
      refine ⟨?_, rfl⟩
      first
      | (rw [sr_place, if_neg (fun h => c_7 ⟨by rw [ci_0le]; exact h.1, by rw [ci_le]; have := h.2; have e : (15 : Int32).toInt = 15 := rfl; omega⟩)])
      | (rw [sr_place, if_pos (ci_nx (by omega) (by omega)), ci_tn (by omega)]
         exact h0.2.2 k (by omega)))

theorem m_place (w : cb_W) (A : ca_A) (z : Int32) (hI : ca_I A) (hM : cm_I w A z) (k : Int32) : cb_Con yX11_place cX11_place 2 (some .int) 0 0 0 0 (fun _ => true) [.inr (some 1000), .inl k] w (cb_pi (fun x w' => x = sr_place A k ∧ w' = w)) := by
  have h0 : w.2.1 1000 33 = nI (A 0 33) - 1 := hM.2.1 0 33 rfl
  have l0 : A 0 33 < 2147483648 := by have := hI.1; omega
  have e16 : (16 : Int32).toInt = 16 := rfl
  refine cb_con (by decide) (Nat.le_of_ble_eq_true rfl) (fun κ O Rt hnm => ?_)
  show cb_X κ w 0 0 0 [some (.inr (some 1000)), some (.inl k)] []
  refine cb_iload_n (pc := 0) O dX11_place_0 rfl ?_
  refine cb_if_lt (pc := 1) O 26 dX11_place_1 (by decide) (fun c_1 => ?_) (fun c_1 => ?_)
  · skip
    rw [ci_lt0] at c_1
    refine cb_iconst (pc := 26) (v := (-1)) O dX11_place_26 (by decide) ?_
    exact cb_iret (pc := 27) O Rt rfl (Nat.le_of_ble_eq_true rfl) (Nat.le_of_ble_eq_true rfl) dX11_place_27 (by
      refine ⟨?_, rfl⟩
      first
      | (rw [sr_place, if_neg (fun h => by have h1 := h.1; have h2 := h.2; omega)])
      | (rw [sr_place, if_pos hx, if_pos (by omega)])
      | (rw [sr_place, if_pos hx, if_neg (by omega), ci_tn (by omega)]
         exact hM.2.1 35 k (by simp [ca_R]; omega)))
  · skip
    rw [ci_lt0] at c_1
    refine cb_iload_n (pc := 4) O dX11_place_4 rfl ?_
    refine cb_bipush (pc := 5) (v := 16) O dX11_place_5 (by decide) ?_
    refine cb_icmp_ge (pc := 7) O 26 dX11_place_7 (by decide) (fun c_7 => ?_) (fun c_7 => ?_)
    · skip
      rw [ci_le, e16] at c_7
      refine cb_iconst (pc := 26) (v := (-1)) O dX11_place_26 (by decide) ?_
      exact cb_iret (pc := 27) O Rt rfl (Nat.le_of_ble_eq_true rfl) (Nat.le_of_ble_eq_true rfl) dX11_place_27 (by
        refine ⟨?_, rfl⟩
        first
        | (rw [sr_place, if_neg (fun h => by have h1 := h.1; have h2 := h.2; omega)])
        | (rw [sr_place, if_pos hx, if_pos (by omega)])
        | (rw [sr_place, if_pos hx, if_neg (by omega), ci_tn (by omega)]
           exact hM.2.1 35 k (by simp [ca_R]; omega)))
    · skip
      rw [ci_le, e16] at c_7
      have hx : ci_x k 16 := ⟨by omega, by omega⟩
      refine cb_aload_n (pc := 10) O dX11_place_10 rfl ?_
      refine cb_getI (pc := 11) O fl_X11_80 rfl rfl dX11_place_11 (hM.1.1 _ rfl) ?_
      refine cb_if_lt (pc := 14) O 26 dX11_place_14 (by decide) (fun c_14 => ?_) (fun c_14 => ?_)
      · skip
        rw [h0, ci_lt0, ci_m1 l0] at c_14
        refine cb_iconst (pc := 26) (v := (-1)) O dX11_place_26 (by decide) ?_
        exact cb_iret (pc := 27) O Rt rfl (Nat.le_of_ble_eq_true rfl) (Nat.le_of_ble_eq_true rfl) dX11_place_27 (by
          refine ⟨?_, rfl⟩
          first
          | (rw [sr_place, if_neg (fun h => by have h1 := h.1; have h2 := h.2; omega)])
          | (rw [sr_place, if_pos hx, if_pos (by omega)])
          | (rw [sr_place, if_pos hx, if_neg (by omega), ci_tn (by omega)]
             exact hM.2.1 35 k (by simp [ca_R]; omega)))
      · skip
        rw [h0, ci_lt0, ci_m1 l0] at c_14
        obtain ⟨k, hk, rfl⟩ := ci_xn hx (by omega)
        refine cb_aload_n (pc := 17) O dX11_place_17 rfl ?_
        refine cb_getR (pc := 18) O fl_X11_84 rfl rfl dX11_place_18 (hM.1.1 _ rfl) (hM.1.2 _ _ _ rfl) ?_
        refine cb_iload_n (pc := 21) O dX11_place_21 rfl ?_
        refine cb_iald (pc := 22) O _ rfl dX11_place_22 (by decide) (hM.1.1 _ rfl) rfl (by omega) ?_
        refine cb_goto (pc := 23) O 27 dX11_place_23 (by decide) ?_
        exact cb_iret (pc := 27) O Rt rfl (Nat.le_of_ble_eq_true rfl) (Nat.le_of_ble_eq_true rfl) dX11_place_27 (by
          refine ⟨?_, rfl⟩
          first
          | (rw [sr_place, if_neg (fun h => by have h1 := h.1; have h2 := h.2; omega)])
          | (rw [sr_place, if_pos hx, if_pos (by omega)])
          | (rw [sr_place, if_pos hx, if_neg (by omega), ci_tn (by omega)]
             exact hM.2.1 35 k (by simp [ca_R]; omega)))

theorem k_cell (w : cb_W) (A : ca_A) (z : Int32) (hI : ca_I A) (hC : cc_I w A z) (k a : Int32) : cb_Con yX10_cell cX10_cell 3 (some .int) 3 65 0 0 (fun _ => true) [.inr (some 0), .inl k, .inl a] w (cb_pi (fun x w' => x = sr_cell A k a ∧ w' = w)) := by
  refine cb_con (by decide) (Nat.le_of_ble_eq_true rfl) (fun κ O Rt hnm => ?_)
  show cb_X κ w 0 0 0 [some (.inr (some 0)), some (.inl k), some (.inl a)] []
  refine cb_aload_n (pc := 0) O dX10_cell_0 rfl ?_
  refine cb_getR (pc := 1) O fl_X10_60 rfl rfl dX10_cell_1 (hC.1.1 _ rfl) (hC.1.2 _ _ _ rfl) ?_
  refine cb_iload_n (pc := 4) O dX10_cell_4 rfl ?_
  refine cb_cVp (pc := 5) O (c_X1_hasCell w A z hI hC _) my_X1_hasCell mi_X1_hasCell mx_X1_hasCell ml_X10_160 dX10_cell_5 rfl ct_1 rfl rfl rfl ⟨(Nat.le_of_ble_eq_true rfl), (Nat.le_of_ble_eq_true rfl)⟩ (Nat.le_of_ble_eq_true rfl) rfl ⟨(Nat.le_of_ble_eq_true rfl), (Nat.le_of_ble_eq_true rfl)⟩ (hC.1.1 _ rfl) ?_
  refine cb_ifp_ne (pc := 8) O 13 dX10_cell_8 (by decide) (fun c_8 => ?_) (fun c_8 => ?_)
  · skip
    have hx := c_8
    obtain ⟨k, hk, rfl, ho⟩ := ca_c64 hI c_8
    refine cb_iload_n (pc := 13) O dX10_cell_13 rfl ?_
    rcases (show a = 0 ∨ a = 1 ∨ (¬ a = 0 ∧ ¬ a = 1) by
        by_cases h : a = 0
        · exact Or.inl h
        · by_cases h2 : a = 1
          · exact Or.inr (Or.inl h2)
          · exact Or.inr (Or.inr ⟨h, h2⟩)) with h0 | h0 | h0
    · skip
      refine cb_lookup (pc := 14) O 40 dX10_cell_14 (by decide) (by subst h0; rfl) (by decide) ?_
      refine cb_aload_n (pc := 40) O dX10_cell_40 rfl ?_
      refine cb_getR (pc := 41) O fl_X10_60 rfl rfl dX10_cell_41 (hC.1.1 _ rfl) (hC.1.2 _ _ _ rfl) ?_
      refine cb_getR (pc := 44) O fl_X10_163 rfl rfl dX10_cell_44 (hC.1.1 _ rfl) (hC.1.2 _ _ _ rfl) ?_
      refine cb_iload_n (pc := 47) O dX10_cell_47 rfl ?_
      refine cb_iald (pc := 48) O k rfl dX10_cell_48 (by decide) (hC.1.1 _ rfl) rfl (by omega) ?_
      exact cb_iret (pc := 49) O Rt rfl (Nat.le_of_ble_eq_true rfl) (Nat.le_of_ble_eq_true rfl) dX10_cell_49 (by
        refine ⟨?_, rfl⟩
        rw [sr_cell, if_pos hx, if_pos h0, ci_tn (by omega)]
        refine (hC.2.1.2.1 k hk).trans ?_
        by_cases e : A 10 k = 0
        · rw [if_pos ⟨ho, e⟩, if_pos e]
        · rw [if_neg (fun q => e q.2), if_neg e])
    · skip
      refine cb_lookup (pc := 14) O 50 dX10_cell_14 (by decide) (by subst h0; rfl) (by decide) ?_
      refine cb_aload_n (pc := 50) O dX10_cell_50 rfl ?_
      refine cb_getR (pc := 51) O fl_X10_60 rfl rfl dX10_cell_51 (hC.1.1 _ rfl) (hC.1.2 _ _ _ rfl) ?_
      refine cb_getR (pc := 54) O fl_X10_166 rfl rfl dX10_cell_54 (hC.1.1 _ rfl) (hC.1.2 _ _ _ rfl) ?_
      refine cb_iload_n (pc := 57) O dX10_cell_57 rfl ?_
      refine cb_iald (pc := 58) O k rfl dX10_cell_58 (by decide) (hC.1.1 _ rfl) rfl (by omega) ?_
      exact cb_iret (pc := 59) O Rt rfl (Nat.le_of_ble_eq_true rfl) (Nat.le_of_ble_eq_true rfl) dX10_cell_59 (by
        refine ⟨?_, rfl⟩
        rw [sr_cell, if_pos hx, if_neg (by rw [h0]; decide), if_pos h0, ci_tn (by omega)]
        exact hC.2.1.2.2.1 k hk)
    · skip
      refine cb_lookup (pc := 14) O 60 dX10_cell_14 (by decide) (by show Op.lookupswitch.offset [(0, 26), (1, 36)] 46 a.toInt = 46; rw [lv_osw (k := 0) (a := 0) h0.1 rfl, lv_osw (k := 1) (a := 1) h0.2 rfl]; rfl) (by decide) ?_
      refine cb_iconst (pc := 60) (v := (-1)) O dX10_cell_60 (by decide) ?_
      exact cb_iret (pc := 61) O Rt rfl (Nat.le_of_ble_eq_true rfl) (Nat.le_of_ble_eq_true rfl) dX10_cell_61 ⟨by rw [sr_cell, if_pos hx, if_neg h0.1, if_neg h0.2], rfl⟩
  · skip
    refine cb_iconst (pc := 11) (v := (-1)) O dX10_cell_11 (by decide) ?_
    exact cb_iret (pc := 12) O Rt rfl (Nat.le_of_ble_eq_true rfl) (Nat.le_of_ble_eq_true rfl) dX10_cell_12 ⟨by rw [sr_cell, if_neg c_8], rfl⟩

theorem m_cell (w : cb_W) (A : ca_A) (z : Int32) (hI : ca_I A) (hM : cm_I w A z) (k a : Int32) : cb_Con yX11_cell cX11_cell 3 (some .int) 1 22 0 0 (fun _ => true) [.inr (some 1000), .inl k, .inl a] w (cb_pi (fun x w' => x = sr_cell A k a ∧ w' = w)) := by
  refine cb_con (by decide) (Nat.le_of_ble_eq_true rfl) (fun κ O Rt hnm => ?_)
  show cb_X κ w 0 0 0 [some (.inr (some 1000)), some (.inl k), some (.inl a)] []
  refine cb_aload_n (pc := 0) O dX11_cell_0 rfl ?_
  refine cb_iload_n (pc := 1) O dX11_cell_1 rfl ?_
  refine cb_cVp (pc := 2) O (c_X11_isCell w A z hI hM _) my_X11_isCell mi_X11_isCell mx_X11_isCell ml_X11_142 dX11_cell_2 rfl ct_11 rfl rfl rfl ⟨(Nat.le_of_ble_eq_true rfl), (Nat.le_of_ble_eq_true rfl)⟩ (Nat.le_of_ble_eq_true rfl) rfl ⟨(Nat.le_of_ble_eq_true rfl), (Nat.le_of_ble_eq_true rfl)⟩ (hM.1.1 _ rfl) ?_
  refine cb_ifp_eq (pc := 5) O 17 dX11_cell_5 (by decide) (fun c_5 => ?_) (fun c_5 => ?_)
  · skip
    refine cb_iconst (pc := 17) (v := (-1)) O dX11_cell_17 (by decide) ?_
    exact cb_iret (pc := 18) O Rt rfl (Nat.le_of_ble_eq_true rfl) (Nat.le_of_ble_eq_true rfl) dX11_cell_18 (by
      refine ⟨?_, rfl⟩
      first
      | rw [sr_cell, if_neg c_5]
      | (rw [sr_cell, if_pos c_5, if_neg (fun h => c_14 (by rw [h]; decide)), if_neg (fun h => c_14 (by rw [h]; decide))]))
  · skip
    refine cb_iload_n (pc := 8) O dX11_cell_8 rfl ?_
    refine cb_iconst (pc := 9) (v := 0) O dX11_cell_9 (by decide) ?_
    refine cb_iconst (pc := 10) (v := 1) O dX11_cell_10 (by decide) ?_
    refine cb_cSp (pc := 11) O (c_X11_within _ _ _ _) my_X11_within mt_X11_within ml_X11_90 dX11_cell_11 rfl rfl ⟨(Nat.le_of_ble_eq_true rfl), (Nat.le_of_ble_eq_true rfl)⟩ (Nat.le_of_ble_eq_true rfl) rfl ⟨(Nat.le_of_ble_eq_true rfl), (Nat.le_of_ble_eq_true rfl)⟩ ?_
    refine cb_ifp_ne (pc := 14) O 19 dX11_cell_14 (by decide) (fun c_14 => ?_) (fun c_14 => ?_)
    · skip
      have hx := c_5
      obtain ⟨k, hk, rfl, ho⟩ := ca_c64 hI c_5
      refine cb_iload_n (pc := 19) O dX11_cell_19 rfl ?_
      refine cb_if_ne (pc := 20) O 40 dX11_cell_20 (by decide) (fun c_20 => ?_) (fun c_20 => ?_)
      · skip
        have h1 : a = 1 := by
          have e1 := c_14.1
          have e2 := c_14.2
          rw [ci_0le] at e1
          rw [ci_le, ci_z1] at e2
          rw [ci_eq, ci_z0] at c_20
          rw [ci_eq, ci_z1]
          omega
        refine cb_aload_n (pc := 40) O dX11_cell_40 rfl ?_
        refine cb_getR (pc := 41) O fl_X11_26 rfl rfl dX11_cell_41 (hM.1.1 _ rfl) (hM.1.2 _ _ _ rfl) ?_
        refine cb_iload_n (pc := 44) O dX11_cell_44 rfl ?_
        refine cb_iald (pc := 45) O k rfl dX11_cell_45 (by decide) (hM.1.1 _ rfl) rfl (by omega) ?_
        exact cb_iret (pc := 46) O Rt rfl (Nat.le_of_ble_eq_true rfl) (Nat.le_of_ble_eq_true rfl) dX11_cell_46 (by
          refine ⟨?_, rfl⟩
          first
          | (rw [sr_cell, if_pos hx, if_neg c_20, if_pos h1, ci_tn (by omega)]
             exact cm_at hM 11 k (by simp [ca_R]; omega) (by omega))
          | (have h5 : w.2.1 1010 k = nI (A 10 k) := cm_at hM 10 k (by simp [ca_R]; omega) (by omega)
             have h6 := hI.2.2.2.1.1 k
             rw [h5] at c_29
             rw [sr_cell, if_pos hx, if_pos c_20, ci_tn (by omega)]
             rcases (show A 10 k = 0 ∨ A 10 k = 1 by omega) with e | e <;> rw [e] at c_29 ⊢ <;> first | rfl | exact absurd rfl c_29 | exact absurd c_29 (by decide)))
      · skip
        refine cb_aload_n (pc := 23) O dX11_cell_23 rfl ?_
        refine cb_getR (pc := 24) O fl_X11_23 rfl rfl dX11_cell_24 (hM.1.1 _ rfl) (hM.1.2 _ _ _ rfl) ?_
        refine cb_iload_n (pc := 27) O dX11_cell_27 rfl ?_
        refine cb_zald (pc := 28) O k rfl dX11_cell_28 (by decide) (hM.1.1 _ rfl) rfl (by omega) ?_
        refine cb_if_eq (pc := 29) O 36 dX11_cell_29 (by decide) (fun c_29 => ?_) (fun c_29 => ?_)
        · skip
          refine cb_iconst (pc := 36) (v := 1) O dX11_cell_36 (by decide) ?_
          refine cb_goto (pc := 37) O 46 dX11_cell_37 (by decide) ?_
          exact cb_iret (pc := 46) O Rt rfl (Nat.le_of_ble_eq_true rfl) (Nat.le_of_ble_eq_true rfl) dX11_cell_46 (by
            refine ⟨?_, rfl⟩
            first
            | (rw [sr_cell, if_pos hx, if_neg c_20, if_pos h1, ci_tn (by omega)]
               exact cm_at hM 11 k (by simp [ca_R]; omega) (by omega))
            | (have h5 : w.2.1 1010 k = nI (A 10 k) := cm_at hM 10 k (by simp [ca_R]; omega) (by omega)
               have h6 := hI.2.2.2.1.1 k
               rw [h5] at c_29
               rw [sr_cell, if_pos hx, if_pos c_20, ci_tn (by omega)]
               rcases (show A 10 k = 0 ∨ A 10 k = 1 by omega) with e | e <;> rw [e] at c_29 ⊢ <;> first | rfl | exact absurd rfl c_29 | exact absurd c_29 (by decide)))
        · skip
          refine cb_iconst (pc := 32) (v := 0) O dX11_cell_32 (by decide) ?_
          refine cb_goto (pc := 33) O 46 dX11_cell_33 (by decide) ?_
          exact cb_iret (pc := 46) O Rt rfl (Nat.le_of_ble_eq_true rfl) (Nat.le_of_ble_eq_true rfl) dX11_cell_46 (by
            refine ⟨?_, rfl⟩
            first
            | (rw [sr_cell, if_pos hx, if_neg c_20, if_pos h1, ci_tn (by omega)]
               exact cm_at hM 11 k (by simp [ca_R]; omega) (by omega))
            | (have h5 : w.2.1 1010 k = nI (A 10 k) := cm_at hM 10 k (by simp [ca_R]; omega) (by omega)
               have h6 := hI.2.2.2.1.1 k
               rw [h5] at c_29
               rw [sr_cell, if_pos hx, if_pos c_20, ci_tn (by omega)]
               rcases (show A 10 k = 0 ∨ A 10 k = 1 by omega) with e | e <;> rw [e] at c_29 ⊢ <;> first | rfl | exact absurd rfl c_29 | exact absurd c_29 (by decide)))
    · skip
      refine cb_iconst (pc := 17) (v := (-1)) O dX11_cell_17 (by decide) ?_
      exact cb_iret (pc := 18) O Rt rfl (Nat.le_of_ble_eq_true rfl) (Nat.le_of_ble_eq_true rfl) dX11_cell_18 (by
        refine ⟨?_, rfl⟩
        first
        | rw [sr_cell, if_neg c_5]
        | (rw [sr_cell, if_pos c_5, if_neg (fun h => c_14 (by rw [h]; decide)), if_neg (fun h => c_14 (by rw [h]; decide))]))

theorem k_colour (w : cb_W) (A : ca_A) (z : Int32) (hI : ca_I A) (hC : cc_I w A z) (s k : Int32) : cb_Con yX10_colour cX10_colour 3 (some .int) 3 65 0 0 (fun _ => true) [.inr (some 0), .inl s, .inl k] w (cb_pi (fun x w' => x = sr_colour A s k ∧ w' = w)) := by
  refine cb_con (by decide) (Nat.le_of_ble_eq_true rfl) (fun κ O Rt hnm => ?_)
  show cb_X κ w 0 0 0 [some (.inr (some 0)), some (.inl s), some (.inl k)] []
  refine cb_aload_n (pc := 0) O dX10_colour_0 rfl ?_
  refine cb_iload_n (pc := 1) O dX10_colour_1 rfl ?_
  refine cb_cVp (pc := 2) O (c_X10_isSheet w A z hI hC _) my_X10_isSheet mi_X10_isSheet mx_X10_isSheet ml_X10_203 dX10_colour_2 rfl ct_10 rfl rfl rfl ⟨(Nat.le_of_ble_eq_true rfl), (Nat.le_of_ble_eq_true rfl)⟩ (Nat.le_of_ble_eq_true rfl) rfl ⟨(Nat.le_of_ble_eq_true rfl), (Nat.le_of_ble_eq_true rfl)⟩ (hC.1.1 _ rfl) ?_
  refine cb_ifp_eq (pc := 5) O 19 dX10_colour_5 (by decide) (fun c_5 => ?_) (fun c_5 => ?_)
  · skip
    refine cb_iconst (pc := 19) (v := (-1)) O dX10_colour_19 (by decide) ?_
    exact cb_iret (pc := 20) O Rt rfl (Nat.le_of_ble_eq_true rfl) (Nat.le_of_ble_eq_true rfl) dX10_colour_20 (by
      refine ⟨?_, rfl⟩
      first | rw [sr_colour, if_neg (fun h => c_5 h.1)] | rw [sr_colour, if_neg (fun h => c_16 h.2)])
  · skip
    refine cb_aload_n (pc := 8) O dX10_colour_8 rfl ?_
    refine cb_getR (pc := 9) O fl_X10_60 rfl rfl dX10_colour_9 (hC.1.1 _ rfl) (hC.1.2 _ _ _ rfl) ?_
    refine cb_iload_n (pc := 12) O dX10_colour_12 rfl ?_
    refine cb_cVp (pc := 13) O (c_X1_hasCell w A z hI hC _) my_X1_hasCell mi_X1_hasCell mx_X1_hasCell ml_X10_160 dX10_colour_13 rfl ct_1 rfl rfl rfl ⟨(Nat.le_of_ble_eq_true rfl), (Nat.le_of_ble_eq_true rfl)⟩ (Nat.le_of_ble_eq_true rfl) rfl ⟨(Nat.le_of_ble_eq_true rfl), (Nat.le_of_ble_eq_true rfl)⟩ (hC.1.1 _ rfl) ?_
    refine cb_ifp_ne (pc := 16) O 21 dX10_colour_16 (by decide) (fun c_16 => ?_) (fun c_16 => ?_)
    · skip
      have hx := c_5
      have hy := c_16
      obtain ⟨k, hk, rfl, ho⟩ := ca_c64 hI c_16
      have l20 := hI.1.2.2.2.1
      obtain ⟨s, hs, rfl⟩ := ci_xn c_5 (by omega)
      obtain ⟨⟨v0, v1, v2, v3, v4, v5⟩, g2, r0, r1, r2, r3, r4⟩ := hC.2.2.2.2.1.g hs
      obtain ⟨-, -, -, g4, g5⟩ := hC.2.2.2.2.1.1 s hs
      refine cb_aload_n (pc := 21) O dX10_colour_21 rfl ?_
      refine cb_getR (pc := 22) O fl_X10_25 rfl rfl dX10_colour_22 (hC.1.1 _ rfl) (hC.1.2 _ _ _ rfl) ?_
      refine cb_iload_n (pc := 25) O dX10_colour_25 rfl ?_
      refine cb_aald (pc := 26) O s rfl (by decide) (by decide) dX10_colour_26 (by decide) (hC.1.1 _ rfl) rfl (by omega) g2 ?_
      refine cb_getR (pc := 27) O fl_X10_206 rfl (sh_s0 (by omega)) dX10_colour_27 v0 r0 ?_
      refine cb_iload_n (pc := 30) O dX10_colour_30 rfl ?_
      refine cb_iald (pc := 31) O k (sh_sj (s := s) (j := 0) (by omega) (by omega) (by omega)) dX10_colour_31 (by decide) v1 rfl (by omega) ?_
      exact cb_iret (pc := 32) O Rt rfl (Nat.le_of_ble_eq_true rfl) (Nat.le_of_ble_eq_true rfl) dX10_colour_32 (by
        refine ⟨?_, rfl⟩
        rw [sr_colour, if_pos ⟨hx, hy⟩, ci_tn (by omega), ci_tn (by omega)]
        exact (g5 k hk).1)
    · skip
      refine cb_iconst (pc := 19) (v := (-1)) O dX10_colour_19 (by decide) ?_
      exact cb_iret (pc := 20) O Rt rfl (Nat.le_of_ble_eq_true rfl) (Nat.le_of_ble_eq_true rfl) dX10_colour_20 (by
        refine ⟨?_, rfl⟩
        first | rw [sr_colour, if_neg (fun h => c_5 h.1)] | rw [sr_colour, if_neg (fun h => c_16 h.2)])

theorem m_colour (w : cb_W) (A : ca_A) (z : Int32) (hI : ca_I A) (hM : cm_I w A z) (s k : Int32) : cb_Con yX11_colour cX11_colour 3 (some .int) 1 21 0 0 (fun _ => true) [.inr (some 1000), .inl s, .inl k] w (cb_pi (fun x w' => x = sr_colour A s k ∧ w' = w)) := by
  refine cb_con (by decide) (Nat.le_of_ble_eq_true rfl) (fun κ O Rt hnm => ?_)
  show cb_X κ w 0 0 0 [some (.inr (some 1000)), some (.inl s), some (.inl k)] []
  refine cb_aload_n (pc := 0) O dX11_colour_0 rfl ?_
  refine cb_iload_n (pc := 1) O dX11_colour_1 rfl ?_
  refine cb_cVp (pc := 2) O (c_X11_isSheet w A z hI hM _) my_X11_isSheet mi_X11_isSheet mx_X11_isSheet ml_X11_176 dX11_colour_2 rfl ct_11 rfl rfl rfl ⟨(Nat.le_of_ble_eq_true rfl), (Nat.le_of_ble_eq_true rfl)⟩ (Nat.le_of_ble_eq_true rfl) rfl ⟨(Nat.le_of_ble_eq_true rfl), (Nat.le_of_ble_eq_true rfl)⟩ (hM.1.1 _ rfl) ?_
  refine cb_ifp_eq (pc := 5) O 30 dX11_colour_5 (by decide) (fun c_5 => ?_) (fun c_5 => ?_)
  · skip
    refine cb_iconst (pc := 30) (v := (-1)) O dX11_colour_30 (by decide) ?_
    exact cb_iret (pc := 31) O Rt rfl (Nat.le_of_ble_eq_true rfl) (Nat.le_of_ble_eq_true rfl) dX11_colour_31 (by
      refine ⟨?_, rfl⟩
      first | rw [sr_colour, if_neg (fun h => c_5 h.1)] | rw [sr_colour, if_neg (fun h => c_13 h.2)] | (rw [sr_colour, if_pos ⟨hx, hy⟩, ci_tn (by omega), ci_tn (by omega)]; exact cm_at hM 15 _ (by simp [ca_R]; omega) (by omega)))
  · skip
    refine cb_aload_n (pc := 8) O dX11_colour_8 rfl ?_
    refine cb_iload_n (pc := 9) O dX11_colour_9 rfl ?_
    refine cb_cVp (pc := 10) O (c_X11_isCell w A z hI hM _) my_X11_isCell mi_X11_isCell mx_X11_isCell ml_X11_142 dX11_colour_10 rfl ct_11 rfl rfl rfl ⟨(Nat.le_of_ble_eq_true rfl), (Nat.le_of_ble_eq_true rfl)⟩ (Nat.le_of_ble_eq_true rfl) rfl ⟨(Nat.le_of_ble_eq_true rfl), (Nat.le_of_ble_eq_true rfl)⟩ (hM.1.1 _ rfl) ?_
    refine cb_ifp_eq (pc := 13) O 30 dX11_colour_13 (by decide) (fun c_13 => ?_) (fun c_13 => ?_)
    · skip
      refine cb_iconst (pc := 30) (v := (-1)) O dX11_colour_30 (by decide) ?_
      exact cb_iret (pc := 31) O Rt rfl (Nat.le_of_ble_eq_true rfl) (Nat.le_of_ble_eq_true rfl) dX11_colour_31 (by
        refine ⟨?_, rfl⟩
        first | rw [sr_colour, if_neg (fun h => c_5 h.1)] | rw [sr_colour, if_neg (fun h => c_13 h.2)] | (rw [sr_colour, if_pos ⟨hx, hy⟩, ci_tn (by omega), ci_tn (by omega)]; exact cm_at hM 15 _ (by simp [ca_R]; omega) (by omega)))
    · skip
      have hx := c_5
      have hy := c_13
      obtain ⟨k, hk, rfl, ho⟩ := ca_c64 hI c_13
      have l20 := hI.1.2.2.2.1
      obtain ⟨s, hs, rfl⟩ := ci_xn c_5 (by omega)
      refine cb_aload_n (pc := 16) O dX11_colour_16 rfl ?_
      refine cb_getR (pc := 17) O fl_X11_35 rfl rfl dX11_colour_17 (hM.1.1 _ rfl) (hM.1.2 _ _ _ rfl) ?_
      refine cb_bipush (pc := 20) (v := 64) O dX11_colour_20 (by decide) ?_
      refine cb_iload_n (pc := 22) O dX11_colour_22 rfl ?_
      refine cb_imul (pc := 23) O dX11_colour_23 ?_
      refine cb_iload_n (pc := 24) O dX11_colour_24 rfl ?_
      refine cb_iadd (pc := 25) O dX11_colour_25 ?_
      refine cb_iald (pc := 26) O (64 * s + k) rfl dX11_colour_26 (by decide) (hM.1.1 _ rfl) (ci_m64 s k) (by omega) ?_
      refine cb_goto (pc := 27) O 31 dX11_colour_27 (by decide) ?_
      exact cb_iret (pc := 31) O Rt rfl (Nat.le_of_ble_eq_true rfl) (Nat.le_of_ble_eq_true rfl) dX11_colour_31 (by
        refine ⟨?_, rfl⟩
        first | rw [sr_colour, if_neg (fun h => c_5 h.1)] | rw [sr_colour, if_neg (fun h => c_13 h.2)] | (rw [sr_colour, if_pos ⟨hx, hy⟩, ci_tn (by omega), ci_tn (by omega)]; exact cm_at hM 15 _ (by simp [ca_R]; omega) (by omega)))

theorem k_led (w : cb_W) (A : ca_A) (z : Int32) (hI : ca_I A) (hC : cc_I w A z) (s k a : Int32) : cb_Con yX10_led cX10_led 4 (some .int) 3 65 0 0 (fun _ => true) [.inr (some 0), .inl s, .inl k, .inl a] w (cb_pi (fun x w' => x = sr_led A s k a ∧ w' = w)) := by
  refine cb_con (by decide) (Nat.le_of_ble_eq_true rfl) (fun κ O Rt hnm => ?_)
  show cb_X κ w 0 0 0 [some (.inr (some 0)), some (.inl s), some (.inl k), some (.inl a)] []
  refine cb_aload_n (pc := 0) O dX10_led_0 rfl ?_
  refine cb_iload_n (pc := 1) O dX10_led_1 rfl ?_
  refine cb_cVp (pc := 2) O (c_X10_isSheet w A z hI hC _) my_X10_isSheet mi_X10_isSheet mx_X10_isSheet ml_X10_203 dX10_led_2 rfl ct_10 rfl rfl rfl ⟨(Nat.le_of_ble_eq_true rfl), (Nat.le_of_ble_eq_true rfl)⟩ (Nat.le_of_ble_eq_true rfl) rfl ⟨(Nat.le_of_ble_eq_true rfl), (Nat.le_of_ble_eq_true rfl)⟩ (hC.1.1 _ rfl) ?_
  refine cb_ifp_eq (pc := 5) O 19 dX10_led_5 (by decide) (fun c_5 => ?_) (fun c_5 => ?_)
  · skip
    refine cb_iconst (pc := 19) (v := (-1)) O dX10_led_19 (by decide) ?_
    exact cb_iret (pc := 20) O Rt rfl (Nat.le_of_ble_eq_true rfl) (Nat.le_of_ble_eq_true rfl) dX10_led_20 (by
      refine ⟨?_, rfl⟩
      first | rw [sr_led, if_neg (fun h => c_5 h.1)] | rw [sr_led, if_neg (fun h => c_16 h.2)])
  · skip
    refine cb_aload_n (pc := 8) O dX10_led_8 rfl ?_
    refine cb_getR (pc := 9) O fl_X10_60 rfl rfl dX10_led_9 (hC.1.1 _ rfl) (hC.1.2 _ _ _ rfl) ?_
    refine cb_iload_n (pc := 12) O dX10_led_12 rfl ?_
    refine cb_cVp (pc := 13) O (c_X1_hasCell w A z hI hC _) my_X1_hasCell mi_X1_hasCell mx_X1_hasCell ml_X10_160 dX10_led_13 rfl ct_1 rfl rfl rfl ⟨(Nat.le_of_ble_eq_true rfl), (Nat.le_of_ble_eq_true rfl)⟩ (Nat.le_of_ble_eq_true rfl) rfl ⟨(Nat.le_of_ble_eq_true rfl), (Nat.le_of_ble_eq_true rfl)⟩ (hC.1.1 _ rfl) ?_
    refine cb_ifp_ne (pc := 16) O 21 dX10_led_16 (by decide) (fun c_16 => ?_) (fun c_16 => ?_)
    · skip
      have hx := c_5
      have hy := c_16
      obtain ⟨k, hk, rfl, ho⟩ := ca_c64 hI c_16
      have l20 := hI.1.2.2.2.1
      obtain ⟨s, hs, rfl⟩ := ci_xn c_5 (by omega)
      obtain ⟨⟨v0, v1, v2, v3, v4, v5⟩, g2, r0, r1, r2, r3, r4⟩ := hC.2.2.2.2.1.g hs
      obtain ⟨-, -, -, g4, g5⟩ := hC.2.2.2.2.1.1 s hs
      refine cb_iload_n (pc := 21) O dX10_led_21 rfl ?_
      rcases (show a = nI 0 ∨ a = nI 1 ∨ a = nI 2 ∨ (a.toInt < 0 ∨ 2 < a.toInt) by
          simp only [ci_eq, ci_n (show 0 < 2147483648 by decide), ci_n (show 1 < 2147483648 by decide), ci_n (show 2 < 2147483648 by decide)]
          omega) with h0 | h0 | h0 | h0
      · skip
        refine cb_tabIn (pc := 22) O 48 dX10_led_22 (by rw [h0]; decide) (by rw [h0]; decide) (by rw [h0]; rfl) (by decide) ?_
        refine cb_aload_n (pc := 48) O dX10_led_48 rfl ?_
        refine cb_getR (pc := 49) O fl_X10_25 rfl rfl dX10_led_49 (hC.1.1 _ rfl) (hC.1.2 _ _ _ rfl) ?_
        refine cb_iload_n (pc := 52) O dX10_led_52 rfl ?_
        refine cb_aald (pc := 53) O s rfl (by decide) (by decide) dX10_led_53 (by decide) (hC.1.1 _ rfl) rfl (by omega) g2 ?_
        refine cb_getR (pc := 54) O fl_X10_209 rfl (sh_s0 (by omega)) dX10_led_54 v0 r2 ?_
        refine cb_iload_n (pc := 57) O dX10_led_57 rfl ?_
        refine cb_iald (pc := 58) O k (sh_sj (s := s) (j := 2) (by omega) (by omega) (by omega)) dX10_led_58 (by decide) v3 rfl (by omega) ?_
        exact cb_iret (pc := 59) O Rt rfl (Nat.le_of_ble_eq_true rfl) (Nat.le_of_ble_eq_true rfl) dX10_led_59 (by
          refine ⟨?_, rfl⟩
          rw [sr_led, if_pos ⟨hx, hy⟩, ci_tn (by omega), ci_tn (by omega), if_pos (by rw [h0]; rfl)]
          exact (g5 k hk).2.2.1)
      · skip
        refine cb_tabIn (pc := 22) O 60 dX10_led_22 (by rw [h0]; decide) (by rw [h0]; decide) (by rw [h0]; rfl) (by decide) ?_
        refine cb_aload_n (pc := 60) O dX10_led_60 rfl ?_
        refine cb_getR (pc := 61) O fl_X10_25 rfl rfl dX10_led_61 (hC.1.1 _ rfl) (hC.1.2 _ _ _ rfl) ?_
        refine cb_iload_n (pc := 64) O dX10_led_64 rfl ?_
        refine cb_aald (pc := 65) O s rfl (by decide) (by decide) dX10_led_65 (by decide) (hC.1.1 _ rfl) rfl (by omega) g2 ?_
        refine cb_getR (pc := 66) O fl_X10_212 rfl (sh_s0 (by omega)) dX10_led_66 v0 r3 ?_
        refine cb_iload_n (pc := 69) O dX10_led_69 rfl ?_
        refine cb_iald (pc := 70) O k (sh_sj (s := s) (j := 3) (by omega) (by omega) (by omega)) dX10_led_70 (by decide) v4 rfl (by omega) ?_
        exact cb_iret (pc := 71) O Rt rfl (Nat.le_of_ble_eq_true rfl) (Nat.le_of_ble_eq_true rfl) dX10_led_71 (by
          refine ⟨?_, rfl⟩
          rw [sr_led, if_pos ⟨hx, hy⟩, ci_tn (by omega), ci_tn (by omega), if_neg (by rw [h0]; decide), if_pos (by rw [h0]; rfl)]
          exact (g5 k hk).2.2.2.1)
      · skip
        refine cb_tabIn (pc := 22) O 72 dX10_led_22 (by rw [h0]; decide) (by rw [h0]; decide) (by rw [h0]; rfl) (by decide) ?_
        refine cb_aload_n (pc := 72) O dX10_led_72 rfl ?_
        refine cb_getR (pc := 73) O fl_X10_25 rfl rfl dX10_led_73 (hC.1.1 _ rfl) (hC.1.2 _ _ _ rfl) ?_
        refine cb_iload_n (pc := 76) O dX10_led_76 rfl ?_
        refine cb_aald (pc := 77) O s rfl (by decide) (by decide) dX10_led_77 (by decide) (hC.1.1 _ rfl) rfl (by omega) g2 ?_
        refine cb_getR (pc := 78) O fl_X10_215 rfl (sh_s0 (by omega)) dX10_led_78 v0 r4 ?_
        refine cb_iload_n (pc := 81) O dX10_led_81 rfl ?_
        refine cb_iald (pc := 82) O k (sh_sj (s := s) (j := 4) (by omega) (by omega) (by omega)) dX10_led_82 (by decide) v5 rfl (by omega) ?_
        exact cb_iret (pc := 83) O Rt rfl (Nat.le_of_ble_eq_true rfl) (Nat.le_of_ble_eq_true rfl) dX10_led_83 (by
          refine ⟨?_, rfl⟩
          rw [sr_led, if_pos ⟨hx, hy⟩, ci_tn (by omega), ci_tn (by omega), if_neg (by rw [h0]; decide), if_neg (by rw [h0]; decide), if_pos (by rw [h0]; rfl)]
          exact (g5 k hk).2.2.2.2)
      · skip
        refine cb_tabOut (pc := 22) O 84 dX10_led_22 h0 (by decide) ?_
        refine cb_iconst (pc := 84) (v := (-1)) O dX10_led_84 (by decide) ?_
        exact cb_iret (pc := 85) O Rt rfl (Nat.le_of_ble_eq_true rfl) (Nat.le_of_ble_eq_true rfl) dX10_led_85 (by
          refine ⟨?_, rfl⟩
          rw [sr_led, if_pos ⟨hx, hy⟩, if_neg (show ¬ a = 0 from ci_ne 0 h0 (by omega) (by omega)), if_neg (show ¬ a = 1 from ci_ne 1 h0 (by omega) (by omega)), if_neg (show ¬ a = 2 from ci_ne 2 h0 (by omega) (by omega))])
    · skip
      refine cb_iconst (pc := 19) (v := (-1)) O dX10_led_19 (by decide) ?_
      exact cb_iret (pc := 20) O Rt rfl (Nat.le_of_ble_eq_true rfl) (Nat.le_of_ble_eq_true rfl) dX10_led_20 (by
        refine ⟨?_, rfl⟩
        first | rw [sr_led, if_neg (fun h => c_5 h.1)] | rw [sr_led, if_neg (fun h => c_16 h.2)])

theorem m_led (w : cb_W) (A : ca_A) (z : Int32) (hI : ca_I A) (hM : cm_I w A z) (s k a : Int32) : cb_Con yX11_led cX11_led 5 (some .int) 1 22 0 0 (fun _ => true) [.inr (some 1000), .inl s, .inl k, .inl a] w (cb_pi (fun x w' => x = sr_led A s k a ∧ w' = w)) := by
  refine cb_con (by decide) (Nat.le_of_ble_eq_true rfl) (fun κ O Rt hnm => ?_)
  show cb_X κ w 0 0 0 [some (.inr (some 1000)), some (.inl s), some (.inl k), some (.inl a), none] []
  refine cb_aload_n (pc := 0) O dX11_led_0 rfl ?_
  refine cb_iload_n (pc := 1) O dX11_led_1 rfl ?_
  refine cb_cVp (pc := 2) O (c_X11_isSheet w A z hI hM _) my_X11_isSheet mi_X11_isSheet mx_X11_isSheet ml_X11_176 dX11_led_2 rfl ct_11 rfl rfl rfl ⟨(Nat.le_of_ble_eq_true rfl), (Nat.le_of_ble_eq_true rfl)⟩ (Nat.le_of_ble_eq_true rfl) rfl ⟨(Nat.le_of_ble_eq_true rfl), (Nat.le_of_ble_eq_true rfl)⟩ (hM.1.1 _ rfl) ?_
  refine cb_ifp_eq (pc := 5) O 25 dX11_led_5 (by decide) (fun c_5 => ?_) (fun c_5 => ?_)
  · skip
    refine cb_iconst (pc := 25) (v := (-1)) O dX11_led_25 (by decide) ?_
    exact cb_iret (pc := 26) O Rt rfl (Nat.le_of_ble_eq_true rfl) (Nat.le_of_ble_eq_true rfl) dX11_led_26 (by
      refine ⟨?_, rfl⟩
      first | rw [sr_led, if_neg (fun h => c_5 h.1)] | rw [sr_led, if_neg (fun h => c_13 h.2)] | (rw [sr_led, if_pos ⟨c_5, c_13⟩, if_neg (fun h => c_22 (by rw [h]; decide)), if_neg (fun h => c_22 (by rw [h]; decide)), if_neg (fun h => c_22 (by rw [h]; decide))]))
  · skip
    refine cb_aload_n (pc := 8) O dX11_led_8 rfl ?_
    refine cb_iload_n (pc := 9) O dX11_led_9 rfl ?_
    refine cb_cVp (pc := 10) O (c_X11_isCell w A z hI hM _) my_X11_isCell mi_X11_isCell mx_X11_isCell ml_X11_142 dX11_led_10 rfl ct_11 rfl rfl rfl ⟨(Nat.le_of_ble_eq_true rfl), (Nat.le_of_ble_eq_true rfl)⟩ (Nat.le_of_ble_eq_true rfl) rfl ⟨(Nat.le_of_ble_eq_true rfl), (Nat.le_of_ble_eq_true rfl)⟩ (hM.1.1 _ rfl) ?_
    refine cb_ifp_eq (pc := 13) O 25 dX11_led_13 (by decide) (fun c_13 => ?_) (fun c_13 => ?_)
    · skip
      refine cb_iconst (pc := 25) (v := (-1)) O dX11_led_25 (by decide) ?_
      exact cb_iret (pc := 26) O Rt rfl (Nat.le_of_ble_eq_true rfl) (Nat.le_of_ble_eq_true rfl) dX11_led_26 (by
        refine ⟨?_, rfl⟩
        first | rw [sr_led, if_neg (fun h => c_5 h.1)] | rw [sr_led, if_neg (fun h => c_13 h.2)] | (rw [sr_led, if_pos ⟨c_5, c_13⟩, if_neg (fun h => c_22 (by rw [h]; decide)), if_neg (fun h => c_22 (by rw [h]; decide)), if_neg (fun h => c_22 (by rw [h]; decide))]))
    · skip
      refine cb_iload_n (pc := 16) O dX11_led_16 rfl ?_
      refine cb_iconst (pc := 17) (v := 0) O dX11_led_17 (by decide) ?_
      refine cb_iconst (pc := 18) (v := 2) O dX11_led_18 (by decide) ?_
      refine cb_cSp (pc := 19) O (c_X11_within _ _ _ _) my_X11_within mt_X11_within ml_X11_90 dX11_led_19 rfl rfl ⟨(Nat.le_of_ble_eq_true rfl), (Nat.le_of_ble_eq_true rfl)⟩ (Nat.le_of_ble_eq_true rfl) rfl ⟨(Nat.le_of_ble_eq_true rfl), (Nat.le_of_ble_eq_true rfl)⟩ ?_
      refine cb_ifp_ne (pc := 22) O 27 dX11_led_22 (by decide) (fun c_22 => ?_) (fun c_22 => ?_)
      · skip
        have hx := c_5
        have hy := c_13
        obtain ⟨k, hk, rfl, ho⟩ := ca_c64 hI c_13
        have l20 := hI.1.2.2.2.1
        obtain ⟨s, hs, rfl⟩ := ci_xn c_5 (by omega)
        refine cb_bipush (pc := 27) (v := 64) O dX11_led_27 (by decide) ?_
        refine cb_iload_n (pc := 29) O dX11_led_29 rfl ?_
        refine cb_imul (pc := 30) O dX11_led_30 ?_
        refine cb_iload_n (pc := 31) O dX11_led_31 rfl ?_
        refine cb_iadd (pc := 32) O dX11_led_32 ?_
        refine cb_istore (pc := 33) O dX11_led_33 (by decide) ?_
        dsimp only [List.set]
        refine cb_iload_n (pc := 35) O dX11_led_35 rfl ?_
        refine cb_if_ne (pc := 36) O 49 dX11_led_36 (by decide) (fun c_36 => ?_) (fun c_36 => ?_)
        · skip
          refine cb_iload_n (pc := 49) O dX11_led_49 rfl ?_
          refine cb_iconst (pc := 50) (v := 1) O dX11_led_50 (by decide) ?_
          refine cb_icmp_ne (pc := 51) O 64 dX11_led_51 (by decide) (fun c_51 => ?_) (fun c_51 => ?_)
          · skip
            have h2 : a = 2 := by
              have e1 := c_22.1
              have e2 := c_22.2
              rw [ci_0le] at e1
              rw [ci_le, show (2 : Int32).toInt = 2 from rfl] at e2
              rw [ci_eq, ci_z0] at c_36
              rw [ci_eq, ci_z1] at c_51
              rw [ci_eq, show (2 : Int32).toInt = 2 from rfl]
              omega
            refine cb_aload_n (pc := 64) O dX11_led_64 rfl ?_
            refine cb_getR (pc := 65) O fl_X11_47 rfl rfl dX11_led_65 (hM.1.1 _ rfl) (hM.1.2 _ _ _ rfl) ?_
            refine cb_iload (pc := 68) O dX11_led_68 rfl ?_
            refine cb_iald (pc := 70) O (64 * s + k) rfl dX11_led_70 (by decide) (hM.1.1 _ rfl) (ci_m64 s k) (by omega) ?_
            exact cb_iret (pc := 71) O Rt rfl (Nat.le_of_ble_eq_true rfl) (Nat.le_of_ble_eq_true rfl) dX11_led_71 (by
              refine ⟨?_, rfl⟩
              rw [sr_led, if_pos ⟨hx, hy⟩, ci_tn (by omega), ci_tn (by omega)]
              first
              | (rw [if_pos c_36]; exact hM.2.1 16 _ (by simp [ca_R]; omega))
              | (rw [if_neg c_36, if_pos c_51]; exact cm_at hM 17 _ (by simp [ca_R]; omega) (by omega))
              | (rw [if_neg c_36, if_neg c_51, if_pos h2]; exact cm_at hM 19 _ (by simp [ca_R]; omega) (by omega)))
          · skip
            refine cb_aload_n (pc := 54) O dX11_led_54 rfl ?_
            refine cb_getR (pc := 55) O fl_X11_41 rfl rfl dX11_led_55 (hM.1.1 _ rfl) (hM.1.2 _ _ _ rfl) ?_
            refine cb_iload (pc := 58) O dX11_led_58 rfl ?_
            refine cb_iald (pc := 60) O (64 * s + k) rfl dX11_led_60 (by decide) (hM.1.1 _ rfl) (ci_m64 s k) (by omega) ?_
            refine cb_goto (pc := 61) O 71 dX11_led_61 (by decide) ?_
            exact cb_iret (pc := 71) O Rt rfl (Nat.le_of_ble_eq_true rfl) (Nat.le_of_ble_eq_true rfl) dX11_led_71 (by
              refine ⟨?_, rfl⟩
              rw [sr_led, if_pos ⟨hx, hy⟩, ci_tn (by omega), ci_tn (by omega)]
              first
              | (rw [if_pos c_36]; exact hM.2.1 16 _ (by simp [ca_R]; omega))
              | (rw [if_neg c_36, if_pos c_51]; exact cm_at hM 17 _ (by simp [ca_R]; omega) (by omega))
              | (rw [if_neg c_36, if_neg c_51, if_pos h2]; exact cm_at hM 19 _ (by simp [ca_R]; omega) (by omega)))
        · skip
          refine cb_aload_n (pc := 39) O dX11_led_39 rfl ?_
          refine cb_getR (pc := 40) O fl_X11_38 rfl rfl dX11_led_40 (hM.1.1 _ rfl) (hM.1.2 _ _ _ rfl) ?_
          refine cb_iload (pc := 43) O dX11_led_43 rfl ?_
          refine cb_iald (pc := 45) O (64 * s + k) rfl dX11_led_45 (by decide) (hM.1.1 _ rfl) (ci_m64 s k) (by omega) ?_
          refine cb_goto (pc := 46) O 71 dX11_led_46 (by decide) ?_
          exact cb_iret (pc := 71) O Rt rfl (Nat.le_of_ble_eq_true rfl) (Nat.le_of_ble_eq_true rfl) dX11_led_71 (by
            refine ⟨?_, rfl⟩
            rw [sr_led, if_pos ⟨hx, hy⟩, ci_tn (by omega), ci_tn (by omega)]
            first
            | (rw [if_pos c_36]; exact hM.2.1 16 _ (by simp [ca_R]; omega))
            | (rw [if_neg c_36, if_pos c_51]; exact cm_at hM 17 _ (by simp [ca_R]; omega) (by omega))
            | (rw [if_neg c_36, if_neg c_51, if_pos h2]; exact cm_at hM 19 _ (by simp [ca_R]; omega) (by omega)))
      · skip
        refine cb_iconst (pc := 25) (v := (-1)) O dX11_led_25 (by decide) ?_
        exact cb_iret (pc := 26) O Rt rfl (Nat.le_of_ble_eq_true rfl) (Nat.le_of_ble_eq_true rfl) dX11_led_26 (by
          refine ⟨?_, rfl⟩
          first | rw [sr_led, if_neg (fun h => c_5 h.1)] | rw [sr_led, if_neg (fun h => c_13 h.2)] | (rw [sr_led, if_pos ⟨c_5, c_13⟩, if_neg (fun h => c_22 (by rw [h]; decide)), if_neg (fun h => c_22 (by rw [h]; decide)), if_neg (fun h => c_22 (by rw [h]; decide))]))

theorem k_good (w : cb_W) (A : ca_A) (z : Int32) (hI : ca_I A) (hC : cc_I w A z) (s : Int32) : cb_Con yX10_good cX10_good 2 (some .int) 2 43 0 0 (fun _ => true) [.inr (some 0), .inl s] w (cb_pi (fun x w' => x = sr_good A s ∧ w' = w)) := by
  refine cb_con (by decide) (Nat.le_of_ble_eq_true rfl) (fun κ O Rt hnm => ?_)
  show cb_X κ w 0 0 0 [some (.inr (some 0)), some (.inl s)] []
  refine cb_aload_n (pc := 0) O dX10_good_0 rfl ?_
  refine cb_iload_n (pc := 1) O dX10_good_1 rfl ?_
  refine cb_cVp (pc := 2) O (c_X10_isSheet w A z hI hC _) my_X10_isSheet mi_X10_isSheet mx_X10_isSheet ml_X10_203 dX10_good_2 rfl ct_10 rfl rfl rfl ⟨(Nat.le_of_ble_eq_true rfl), (Nat.le_of_ble_eq_true rfl)⟩ (Nat.le_of_ble_eq_true rfl) rfl ⟨(Nat.le_of_ble_eq_true rfl), (Nat.le_of_ble_eq_true rfl)⟩ (hC.1.1 _ rfl) ?_
  refine cb_ifp_eq (pc := 5) O 23 dX10_good_5 (by decide) (fun c_5 => ?_) (fun c_5 => ?_)
  · skip
    refine cb_iconst (pc := 23) (v := (-1)) O dX10_good_23 (by decide) ?_
    exact cb_iret (pc := 24) O Rt rfl (Nat.le_of_ble_eq_true rfl) (Nat.le_of_ble_eq_true rfl) dX10_good_24 (by
      refine ⟨?_, rfl⟩
      first
      | rw [sr_good, if_neg c_5]
      | (rw [sr_good, if_pos hx, ci_tn (by omega), g4]
         have h6 := hI.2.2.2.2.1.2.2.2.2 s
         rcases (show A 20 s = 0 ∨ A 20 s = 1 by omega) with e | e <;> rw [e] <;> rfl))
  · skip
    have hx := c_5
    have l20 := hI.1.2.2.2.1
    obtain ⟨s, hs, rfl⟩ := ci_xn c_5 (by omega)
    obtain ⟨⟨v0, v1, v2, v3, v4, v5⟩, g2, r0, r1, r2, r3, r4⟩ := hC.2.2.2.2.1.g hs
    obtain ⟨-, -, -, g4, g5⟩ := hC.2.2.2.2.1.1 s hs
    refine cb_aload_n (pc := 8) O dX10_good_8 rfl ?_
    refine cb_getR (pc := 9) O fl_X10_25 rfl rfl dX10_good_9 (hC.1.1 _ rfl) (hC.1.2 _ _ _ rfl) ?_
    refine cb_iload_n (pc := 12) O dX10_good_12 rfl ?_
    refine cb_aald (pc := 13) O s rfl (by decide) (by decide) dX10_good_13 (by decide) (hC.1.1 _ rfl) rfl (by omega) g2 ?_
    refine cb_getI (pc := 14) O fl_X10_218 rfl (sh_s0 (by omega)) dX10_good_14 v0 ?_
    refine cb_cSp (pc := 17) O (c_X10_answer _ _) my_X10_answer mt_X10_answer ml_X10_185 dX10_good_17 rfl rfl ⟨(Nat.le_of_ble_eq_true rfl), (Nat.le_of_ble_eq_true rfl)⟩ (Nat.le_of_ble_eq_true rfl) rfl ⟨(Nat.le_of_ble_eq_true rfl), (Nat.le_of_ble_eq_true rfl)⟩ ?_
    refine cb_goto (pc := 20) O 24 dX10_good_20 (by decide) ?_
    exact cb_iret (pc := 24) O Rt rfl (Nat.le_of_ble_eq_true rfl) (Nat.le_of_ble_eq_true rfl) dX10_good_24 (by
      refine ⟨?_, rfl⟩
      first
      | rw [sr_good, if_neg c_5]
      | (rw [sr_good, if_pos hx, ci_tn (by omega), g4]
         have h6 := hI.2.2.2.2.1.2.2.2.2 s
         rcases (show A 20 s = 0 ∨ A 20 s = 1 by omega) with e | e <;> rw [e] <;> rfl))

theorem m_good (w : cb_W) (A : ca_A) (z : Int32) (hI : ca_I A) (hM : cm_I w A z) (s : Int32) : cb_Con yX11_good cX11_good 2 (some .int) 1 21 0 0 (fun _ => true) [.inr (some 1000), .inl s] w (cb_pi (fun x w' => x = sr_good A s ∧ w' = w)) := by
  refine cb_con (by decide) (Nat.le_of_ble_eq_true rfl) (fun κ O Rt hnm => ?_)
  show cb_X κ w 0 0 0 [some (.inr (some 1000)), some (.inl s)] []
  refine cb_aload_n (pc := 0) O dX11_good_0 rfl ?_
  refine cb_iload_n (pc := 1) O dX11_good_1 rfl ?_
  refine cb_cVp (pc := 2) O (c_X11_isSheet w A z hI hM _) my_X11_isSheet mi_X11_isSheet mx_X11_isSheet ml_X11_176 dX11_good_2 rfl ct_11 rfl rfl rfl ⟨(Nat.le_of_ble_eq_true rfl), (Nat.le_of_ble_eq_true rfl)⟩ (Nat.le_of_ble_eq_true rfl) rfl ⟨(Nat.le_of_ble_eq_true rfl), (Nat.le_of_ble_eq_true rfl)⟩ (hM.1.1 _ rfl) ?_
  refine cb_ifp_ne (pc := 5) O 12 dX11_good_5 (by decide) (fun c_5 => ?_) (fun c_5 => ?_)
  · skip
    have hx := c_5
    have l20 := hI.1.2.2.2.1
    obtain ⟨s, hs, rfl⟩ := ci_xn c_5 (by omega)
    refine cb_aload_n (pc := 12) O dX11_good_12 rfl ?_
    refine cb_getR (pc := 13) O fl_X11_50 rfl rfl dX11_good_13 (hM.1.1 _ rfl) (hM.1.2 _ _ _ rfl) ?_
    refine cb_iload_n (pc := 16) O dX11_good_16 rfl ?_
    refine cb_zald (pc := 17) O s rfl dX11_good_17 (by decide) (hM.1.1 _ rfl) rfl (by omega) ?_
    refine cb_if_eq (pc := 18) O 25 dX11_good_18 (by decide) (fun c_18 => ?_) (fun c_18 => ?_)
    · skip
      refine cb_iconst (pc := 25) (v := 1) O dX11_good_25 (by decide) ?_
      exact cb_iret (pc := 26) O Rt rfl (Nat.le_of_ble_eq_true rfl) (Nat.le_of_ble_eq_true rfl) dX11_good_26 (by
        refine ⟨?_, rfl⟩
        first
        | rw [sr_good, if_neg c_5]
        | (have h5 : w.2.1 1020 s = nI (A 20 s) := cm_at hM 20 s (by simp [ca_R]; omega) (by omega)
           have h6 := hI.2.2.2.2.1.2.2.2.2 s
           rw [h5] at c_18
           rw [sr_good, if_pos hx, ci_tn (by omega)]
           rcases (show A 20 s = 0 ∨ A 20 s = 1 by omega) with e | e <;> rw [e] at c_18 ⊢ <;> first | rfl | exact absurd rfl c_18 | exact absurd c_18 (by decide)))
    · skip
      refine cb_iconst (pc := 21) (v := 0) O dX11_good_21 (by decide) ?_
      refine cb_goto (pc := 22) O 26 dX11_good_22 (by decide) ?_
      exact cb_iret (pc := 26) O Rt rfl (Nat.le_of_ble_eq_true rfl) (Nat.le_of_ble_eq_true rfl) dX11_good_26 (by
        refine ⟨?_, rfl⟩
        first
        | rw [sr_good, if_neg c_5]
        | (have h5 : w.2.1 1020 s = nI (A 20 s) := cm_at hM 20 s (by simp [ca_R]; omega) (by omega)
           have h6 := hI.2.2.2.2.1.2.2.2.2 s
           rw [h5] at c_18
           rw [sr_good, if_pos hx, ci_tn (by omega)]
           rcases (show A 20 s = 0 ∨ A 20 s = 1 by omega) with e | e <;> rw [e] at c_18 ⊢ <;> first | rfl | exact absurd rfl c_18 | exact absurd c_18 (by decide)))
  · skip
    refine cb_iconst (pc := 8) (v := (-1)) O dX11_good_8 (by decide) ?_
    refine cb_goto (pc := 9) O 26 dX11_good_9 (by decide) ?_
    exact cb_iret (pc := 26) O Rt rfl (Nat.le_of_ble_eq_true rfl) (Nat.le_of_ble_eq_true rfl) dX11_good_26 (by
      refine ⟨?_, rfl⟩
      first
      | rw [sr_good, if_neg c_5]
      | (have h5 : w.2.1 1020 s = nI (A 20 s) := cm_at hM 20 s (by simp [ca_R]; omega) (by omega)
         have h6 := hI.2.2.2.2.1.2.2.2.2 s
         rw [h5] at c_18
         rw [sr_good, if_pos hx, ci_tn (by omega)]
         rcases (show A 20 s = 0 ∨ A 20 s = 1 by omega) with e | e <;> rw [e] at c_18 ⊢ <;> first | rfl | exact absurd rfl c_18 | exact absurd c_18 (by decide)))

theorem c_X2_fact (w : cb_W) (r : Nat) (hs : cb_sh r = (0, 2)) (hr : w.1 r = true) (a : Int32) : cb_Pu yX2_fact cX2_fact 2 (some .int) 0 0 [.inr (some r), .inl a] w (if a = 0 then w.2.1 r 0 else if a = 1 then w.2.1 r 1 else if a = 2 then w.2.1 r 2 else if a = 3 then w.2.1 r 3 else if a = 4 then w.2.1 r 4 else -1) := by
  refine cb_con (by decide) (Nat.le_of_ble_eq_true rfl) (fun κ O Rt hnm => ?_)
  show cb_X κ w 0 0 0 [some (.inr (some r)), some (.inl a)] []
  refine cb_iload_n (pc := 0) O dX2_fact_0 rfl ?_
  rcases (show a = nI 0 ∨ a = nI 1 ∨ a = nI 2 ∨ a = nI 3 ∨ a = nI 4 ∨ (a.toInt < 0 ∨ 4 < a.toInt) by
      simp only [ci_eq, ci_n (show 0 < 2147483648 by decide), ci_n (show 1 < 2147483648 by decide), ci_n (show 2 < 2147483648 by decide), ci_n (show 3 < 2147483648 by decide), ci_n (show 4 < 2147483648 by decide)]
      omega) with h0 | h0 | h0 | h0 | h0 | h0
  · skip
    refine cb_tabIn (pc := 1) O 36 dX2_fact_1 (by rw [h0]; decide) (by rw [h0]; decide) (by rw [h0]; rfl) (by decide) ?_
    refine cb_aload_n (pc := 36) O dX2_fact_36 rfl ?_
    refine cb_getI (pc := 37) O fl_X2_9 rfl hs dX2_fact_37 hr ?_
    exact cb_iret (pc := 40) O Rt rfl (Nat.le_of_ble_eq_true rfl) (Nat.le_of_ble_eq_true rfl) dX2_fact_40 (by
      refine ⟨?_, rfl⟩
      first
      | (rw [h0]; rfl)
      | rw [if_neg (show ¬ a = 0 from ci_ne 0 h0 (by omega) (by omega)), if_neg (show ¬ a = 1 from ci_ne 1 h0 (by omega) (by omega)), if_neg (show ¬ a = 2 from ci_ne 2 h0 (by omega) (by omega)), if_neg (show ¬ a = 3 from ci_ne 3 h0 (by omega) (by omega)), if_neg (show ¬ a = 4 from ci_ne 4 h0 (by omega) (by omega))])
  · skip
    refine cb_tabIn (pc := 1) O 41 dX2_fact_1 (by rw [h0]; decide) (by rw [h0]; decide) (by rw [h0]; rfl) (by decide) ?_
    refine cb_aload_n (pc := 41) O dX2_fact_41 rfl ?_
    refine cb_getI (pc := 42) O fl_X2_15 rfl hs dX2_fact_42 hr ?_
    exact cb_iret (pc := 45) O Rt rfl (Nat.le_of_ble_eq_true rfl) (Nat.le_of_ble_eq_true rfl) dX2_fact_45 (by
      refine ⟨?_, rfl⟩
      first
      | (rw [h0]; rfl)
      | rw [if_neg (show ¬ a = 0 from ci_ne 0 h0 (by omega) (by omega)), if_neg (show ¬ a = 1 from ci_ne 1 h0 (by omega) (by omega)), if_neg (show ¬ a = 2 from ci_ne 2 h0 (by omega) (by omega)), if_neg (show ¬ a = 3 from ci_ne 3 h0 (by omega) (by omega)), if_neg (show ¬ a = 4 from ci_ne 4 h0 (by omega) (by omega))])
  · skip
    refine cb_tabIn (pc := 1) O 46 dX2_fact_1 (by rw [h0]; decide) (by rw [h0]; decide) (by rw [h0]; rfl) (by decide) ?_
    refine cb_aload_n (pc := 46) O dX2_fact_46 rfl ?_
    refine cb_getI (pc := 47) O fl_X2_18 rfl hs dX2_fact_47 hr ?_
    exact cb_iret (pc := 50) O Rt rfl (Nat.le_of_ble_eq_true rfl) (Nat.le_of_ble_eq_true rfl) dX2_fact_50 (by
      refine ⟨?_, rfl⟩
      first
      | (rw [h0]; rfl)
      | rw [if_neg (show ¬ a = 0 from ci_ne 0 h0 (by omega) (by omega)), if_neg (show ¬ a = 1 from ci_ne 1 h0 (by omega) (by omega)), if_neg (show ¬ a = 2 from ci_ne 2 h0 (by omega) (by omega)), if_neg (show ¬ a = 3 from ci_ne 3 h0 (by omega) (by omega)), if_neg (show ¬ a = 4 from ci_ne 4 h0 (by omega) (by omega))])
  · skip
    refine cb_tabIn (pc := 1) O 51 dX2_fact_1 (by rw [h0]; decide) (by rw [h0]; decide) (by rw [h0]; rfl) (by decide) ?_
    refine cb_aload_n (pc := 51) O dX2_fact_51 rfl ?_
    refine cb_getI (pc := 52) O fl_X2_21 rfl hs dX2_fact_52 hr ?_
    exact cb_iret (pc := 55) O Rt rfl (Nat.le_of_ble_eq_true rfl) (Nat.le_of_ble_eq_true rfl) dX2_fact_55 (by
      refine ⟨?_, rfl⟩
      first
      | (rw [h0]; rfl)
      | rw [if_neg (show ¬ a = 0 from ci_ne 0 h0 (by omega) (by omega)), if_neg (show ¬ a = 1 from ci_ne 1 h0 (by omega) (by omega)), if_neg (show ¬ a = 2 from ci_ne 2 h0 (by omega) (by omega)), if_neg (show ¬ a = 3 from ci_ne 3 h0 (by omega) (by omega)), if_neg (show ¬ a = 4 from ci_ne 4 h0 (by omega) (by omega))])
  · skip
    refine cb_tabIn (pc := 1) O 56 dX2_fact_1 (by rw [h0]; decide) (by rw [h0]; decide) (by rw [h0]; rfl) (by decide) ?_
    refine cb_aload_n (pc := 56) O dX2_fact_56 rfl ?_
    refine cb_getI (pc := 57) O fl_X2_24 rfl hs dX2_fact_57 hr ?_
    exact cb_iret (pc := 60) O Rt rfl (Nat.le_of_ble_eq_true rfl) (Nat.le_of_ble_eq_true rfl) dX2_fact_60 (by
      refine ⟨?_, rfl⟩
      first
      | (rw [h0]; rfl)
      | rw [if_neg (show ¬ a = 0 from ci_ne 0 h0 (by omega) (by omega)), if_neg (show ¬ a = 1 from ci_ne 1 h0 (by omega) (by omega)), if_neg (show ¬ a = 2 from ci_ne 2 h0 (by omega) (by omega)), if_neg (show ¬ a = 3 from ci_ne 3 h0 (by omega) (by omega)), if_neg (show ¬ a = 4 from ci_ne 4 h0 (by omega) (by omega))])
  · skip
    refine cb_tabOut (pc := 1) O 61 dX2_fact_1 h0 (by decide) ?_
    refine cb_iconst (pc := 61) (v := (-1)) O dX2_fact_61 (by decide) ?_
    exact cb_iret (pc := 62) O Rt rfl (Nat.le_of_ble_eq_true rfl) (Nat.le_of_ble_eq_true rfl) dX2_fact_62 (by
      refine ⟨?_, rfl⟩
      first
      | (rw [h0]; rfl)
      | rw [if_neg (show ¬ a = 0 from ci_ne 0 h0 (by omega) (by omega)), if_neg (show ¬ a = 1 from ci_ne 1 h0 (by omega) (by omega)), if_neg (show ¬ a = 2 from ci_ne 2 h0 (by omega) (by omega)), if_neg (show ¬ a = 3 from ci_ne 3 h0 (by omega) (by omega)), if_neg (show ¬ a = 4 from ci_ne 4 h0 (by omega) (by omega))])

theorem k_book (w : cb_W) (A : ca_A) (z : Int32) (hI : ca_I A) (hC : cc_I w A z) (p a : Int32) : cb_Con yX10_book cX10_book 3 (some .int) 1 22 0 0 (fun _ => true) [.inr (some 0), .inl p, .inl a] w (cb_pi (fun x w' => x = sr_book A p a ∧ w' = w)) := by
  have l0 : A 0 26 < 2147483648 := by have := hI.1; omega
  refine cb_con (by decide) (Nat.le_of_ble_eq_true rfl) (fun κ O Rt hnm => ?_)
  show cb_X κ w 0 0 0 [some (.inr (some 0)), some (.inl p), some (.inl a)] []
  refine cb_iload_n (pc := 0) O dX10_book_0 rfl ?_
  refine cb_iconst (pc := 1) (v := 0) O dX10_book_1 (by decide) ?_
  refine cb_aload_n (pc := 2) O dX10_book_2 rfl ?_
  refine cb_getI (pc := 3) O fl_X10_75 rfl rfl dX10_book_3 (hC.1.1 _ rfl) ?_
  refine cb_iconst (pc := 6) (v := 1) O dX10_book_6 (by decide) ?_
  refine cb_isub (pc := 7) O dX10_book_7 ?_
  refine cb_cSp (pc := 8) O (c_X10_within _ _ _ _) my_X10_within mt_X10_within ml_X10_81 dX10_book_8 rfl rfl ⟨(Nat.le_of_ble_eq_true rfl), (Nat.le_of_ble_eq_true rfl)⟩ (Nat.le_of_ble_eq_true rfl) rfl ⟨(Nat.le_of_ble_eq_true rfl), (Nat.le_of_ble_eq_true rfl)⟩ ?_
  refine cb_ifp_eq (pc := 11) O 27 dX10_book_11 (by decide) (fun c_11 => ?_) (fun c_11 => ?_)
  · skip
    rw [hC.2.2.1.2.1, ci_wi l0] at c_11
    refine cb_iconst (pc := 27) (v := (-1)) O dX10_book_27 (by decide) ?_
    exact cb_iret (pc := 28) O Rt rfl (Nat.le_of_ble_eq_true rfl) (Nat.le_of_ble_eq_true rfl) dX10_book_28 (by
      refine ⟨?_, rfl⟩
      first
      | rw [sr_book, if_neg c_11]
      | (rw [sr_book, if_pos hx, ci_tn (by omega), g3, g4, g5, g6, g7]))
  · skip
    rw [hC.2.2.1.2.1, ci_wi l0] at c_11
    have hx := c_11
    have l20 := hI.1.2.2.2.2.1
    obtain ⟨p, hs, rfl⟩ := ci_xn c_11 (by omega)
    obtain ⟨g1, g2, g3, g4, g5, g6, g7⟩ := hC.2.2.2.2.2.1.1 p hs
    refine cb_aload_n (pc := 14) O dX10_book_14 rfl ?_
    refine cb_getR (pc := 15) O fl_X10_31 rfl rfl dX10_book_15 (hC.1.1 _ rfl) (hC.1.2 _ _ _ rfl) ?_
    refine cb_iload_n (pc := 18) O dX10_book_18 rfl ?_
    refine cb_aald (pc := 19) O p rfl (by decide) (by decide) dX10_book_19 (by decide) (hC.1.1 _ rfl) rfl (by omega) g2 ?_
    refine cb_iload_n (pc := 20) O dX10_book_20 rfl ?_
    refine cb_cVp (pc := 21) O (c_X2_fact w (400 + p) (sh_e (by omega)) g1 a) my_X2_fact mi_X2_fact mx_X2_fact ml_X10_222 dX10_book_21 rfl ct_2 rfl (sh_e (by omega)) rfl ⟨(Nat.le_of_ble_eq_true rfl), (Nat.le_of_ble_eq_true rfl)⟩ (Nat.le_of_ble_eq_true rfl) rfl ⟨(Nat.le_of_ble_eq_true rfl), (Nat.le_of_ble_eq_true rfl)⟩ g1 ?_
    refine cb_goto (pc := 24) O 28 dX10_book_24 (by decide) ?_
    exact cb_iret (pc := 28) O Rt rfl (Nat.le_of_ble_eq_true rfl) (Nat.le_of_ble_eq_true rfl) dX10_book_28 (by
      refine ⟨?_, rfl⟩
      first
      | rw [sr_book, if_neg c_11]
      | (rw [sr_book, if_pos hx, ci_tn (by omega), g3, g4, g5, g6, g7]))

theorem m_book (w : cb_W) (A : ca_A) (z : Int32) (hI : ca_I A) (hM : cm_I w A z) (p a : Int32) : cb_Con yX11_book cX11_book 3 (some .int) 0 0 0 0 (fun _ => true) [.inr (some 1000), .inl p, .inl a] w (cb_pi (fun x w' => x = sr_book A p a ∧ w' = w)) := by
  have h9 : w.2.1 1000 26 = nI (A 0 26) := cm_at hM 0 26 rfl (by omega)
  have l0 : A 0 26 < 2147483648 := by have := hI.1; omega
  have l20 := hI.1.2.2.2.2.1
  refine cb_con (by decide) (Nat.le_of_ble_eq_true rfl) (fun κ O Rt hnm => ?_)
  show cb_X κ w 0 0 0 [some (.inr (some 1000)), some (.inl p), some (.inl a)] []
  refine cb_iload_n (pc := 0) O dX11_book_0 rfl ?_
  refine cb_if_lt (pc := 1) O 12 dX11_book_1 (by decide) (fun c_1 => ?_) (fun c_1 => ?_)
  · skip
    refine cb_iconst (pc := 12) (v := (-1)) O dX11_book_12 (by decide) ?_
    exact cb_iret (pc := 13) O Rt rfl (Nat.le_of_ble_eq_true rfl) (Nat.le_of_ble_eq_true rfl) dX11_book_13 (by
      refine ⟨?_, rfl⟩
      rw [ci_lt0] at c_1
      rw [sr_book, if_neg (fun h => by have h1 := h.1; have h2 := h.2; omega)])
  · skip
    refine cb_iload_n (pc := 4) O dX11_book_4 rfl ?_
    refine cb_aload_n (pc := 5) O dX11_book_5 rfl ?_
    refine cb_getI (pc := 6) O fl_X11_159 rfl rfl dX11_book_6 (hM.1.1 _ rfl) ?_
    refine cb_icmp_lt (pc := 9) O 14 dX11_book_9 (by decide) (fun c_9 => ?_) (fun c_9 => ?_)
    · skip
      rw [h9, ci_lt, ci_n l0] at c_9
      rw [ci_lt0] at c_1
      have hx : ci_x p (A 0 26) := ⟨by omega, by omega⟩
      obtain ⟨p, hs, rfl⟩ := ci_xn hx (by omega)
      refine cb_iload_n (pc := 14) O dX11_book_14 rfl ?_
      rcases (show a = nI 0 ∨ a = nI 1 ∨ a = nI 2 ∨ a = nI 3 ∨ a = nI 4 ∨ (a.toInt < 0 ∨ 4 < a.toInt) by
          simp only [ci_eq, ci_n (show 0 < 2147483648 by decide), ci_n (show 1 < 2147483648 by decide), ci_n (show 2 < 2147483648 by decide), ci_n (show 3 < 2147483648 by decide), ci_n (show 4 < 2147483648 by decide)]
          omega) with h0 | h0 | h0 | h0 | h0 | h0
      · skip
        refine cb_tabIn (pc := 15) O 48 dX11_book_15 (by rw [h0]; decide) (by rw [h0]; decide) (by rw [h0]; rfl) (by decide) ?_
        refine cb_aload_n (pc := 48) O dX11_book_48 rfl ?_
        refine cb_getR (pc := 49) O fl_X11_53 rfl rfl dX11_book_49 (hM.1.1 _ rfl) (hM.1.2 _ _ _ rfl) ?_
        refine cb_iload_n (pc := 52) O dX11_book_52 rfl ?_
        refine cb_iald (pc := 53) O p rfl dX11_book_53 (by decide) (hM.1.1 _ rfl) rfl (by omega) ?_
        exact cb_iret (pc := 54) O Rt rfl (Nat.le_of_ble_eq_true rfl) (Nat.le_of_ble_eq_true rfl) dX11_book_54 (by
          refine ⟨?_, rfl⟩
          rw [sr_book, if_pos hx, ci_tn (by omega), h0]
          exact cm_at hM 22 p (by simp [ca_R]; omega) (by omega))
      · skip
        refine cb_tabIn (pc := 15) O 55 dX11_book_15 (by rw [h0]; decide) (by rw [h0]; decide) (by rw [h0]; rfl) (by decide) ?_
        refine cb_aload_n (pc := 55) O dX11_book_55 rfl ?_
        refine cb_getR (pc := 56) O fl_X11_56 rfl rfl dX11_book_56 (hM.1.1 _ rfl) (hM.1.2 _ _ _ rfl) ?_
        refine cb_iload_n (pc := 59) O dX11_book_59 rfl ?_
        refine cb_iald (pc := 60) O p rfl dX11_book_60 (by decide) (hM.1.1 _ rfl) rfl (by omega) ?_
        exact cb_iret (pc := 61) O Rt rfl (Nat.le_of_ble_eq_true rfl) (Nat.le_of_ble_eq_true rfl) dX11_book_61 (by
          refine ⟨?_, rfl⟩
          rw [sr_book, if_pos hx, ci_tn (by omega), h0]
          exact cm_at hM 23 p (by simp [ca_R]; omega) (by omega))
      · skip
        refine cb_tabIn (pc := 15) O 62 dX11_book_15 (by rw [h0]; decide) (by rw [h0]; decide) (by rw [h0]; rfl) (by decide) ?_
        refine cb_aload_n (pc := 62) O dX11_book_62 rfl ?_
        refine cb_getR (pc := 63) O fl_X11_59 rfl rfl dX11_book_63 (hM.1.1 _ rfl) (hM.1.2 _ _ _ rfl) ?_
        refine cb_iload_n (pc := 66) O dX11_book_66 rfl ?_
        refine cb_iald (pc := 67) O p rfl dX11_book_67 (by decide) (hM.1.1 _ rfl) rfl (by omega) ?_
        exact cb_iret (pc := 68) O Rt rfl (Nat.le_of_ble_eq_true rfl) (Nat.le_of_ble_eq_true rfl) dX11_book_68 (by
          refine ⟨?_, rfl⟩
          rw [sr_book, if_pos hx, ci_tn (by omega), h0]
          exact hM.2.1 24 p (by simp [ca_R]; omega))
      · skip
        refine cb_tabIn (pc := 15) O 69 dX11_book_15 (by rw [h0]; decide) (by rw [h0]; decide) (by rw [h0]; rfl) (by decide) ?_
        refine cb_aload_n (pc := 69) O dX11_book_69 rfl ?_
        refine cb_getR (pc := 70) O fl_X11_62 rfl rfl dX11_book_70 (hM.1.1 _ rfl) (hM.1.2 _ _ _ rfl) ?_
        refine cb_iload_n (pc := 73) O dX11_book_73 rfl ?_
        refine cb_iald (pc := 74) O p rfl dX11_book_74 (by decide) (hM.1.1 _ rfl) rfl (by omega) ?_
        exact cb_iret (pc := 75) O Rt rfl (Nat.le_of_ble_eq_true rfl) (Nat.le_of_ble_eq_true rfl) dX11_book_75 (by
          refine ⟨?_, rfl⟩
          rw [sr_book, if_pos hx, ci_tn (by omega), h0]
          exact cm_at hM 25 p (by simp [ca_R]; omega) (by omega))
      · skip
        refine cb_tabIn (pc := 15) O 76 dX11_book_15 (by rw [h0]; decide) (by rw [h0]; decide) (by rw [h0]; rfl) (by decide) ?_
        refine cb_aload_n (pc := 76) O dX11_book_76 rfl ?_
        refine cb_getR (pc := 77) O fl_X11_65 rfl rfl dX11_book_77 (hM.1.1 _ rfl) (hM.1.2 _ _ _ rfl) ?_
        refine cb_iload_n (pc := 80) O dX11_book_80 rfl ?_
        refine cb_iald (pc := 81) O p rfl dX11_book_81 (by decide) (hM.1.1 _ rfl) rfl (by omega) ?_
        exact cb_iret (pc := 82) O Rt rfl (Nat.le_of_ble_eq_true rfl) (Nat.le_of_ble_eq_true rfl) dX11_book_82 (by
          refine ⟨?_, rfl⟩
          rw [sr_book, if_pos hx, ci_tn (by omega), h0]
          exact cm_at hM 26 p (by simp [ca_R]; omega) (by omega))
      · skip
        refine cb_tabOut (pc := 15) O 83 dX11_book_15 h0 (by decide) ?_
        refine cb_iconst (pc := 83) (v := (-1)) O dX11_book_83 (by decide) ?_
        exact cb_iret (pc := 84) O Rt rfl (Nat.le_of_ble_eq_true rfl) (Nat.le_of_ble_eq_true rfl) dX11_book_84 (by
          refine ⟨?_, rfl⟩
          rw [sr_book, if_pos hx, if_neg (show ¬ a = 0 from ci_ne 0 h0 (by omega) (by omega)), if_neg (show ¬ a = 1 from ci_ne 1 h0 (by omega) (by omega)), if_neg (show ¬ a = 2 from ci_ne 2 h0 (by omega) (by omega)), if_neg (show ¬ a = 3 from ci_ne 3 h0 (by omega) (by omega)), if_neg (show ¬ a = 4 from ci_ne 4 h0 (by omega) (by omega))])
    · skip
      rw [h9, ci_lt, ci_n l0] at c_9
      refine cb_iconst (pc := 12) (v := (-1)) O dX11_book_12 (by decide) ?_
      exact cb_iret (pc := 13) O Rt rfl (Nat.le_of_ble_eq_true rfl) (Nat.le_of_ble_eq_true rfl) dX11_book_13 (by
        refine ⟨?_, rfl⟩
        rw [ci_lt0] at c_1
        rw [sr_book, if_neg (fun h => by have h1 := h.1; have h2 := h.2; omega)])

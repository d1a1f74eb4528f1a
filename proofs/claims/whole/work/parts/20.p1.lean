theorem c_X10_within (w : cb_W) (v a b : Int32) : cb_Pu yX10_within cX10_within 3 (some .boolean) 0 0 [.inl v, .inl a, .inl b] w (if a ≤ v ∧ v ≤ b then 1 else 0) := by
  refine cb_con (by decide) (Nat.le_of_ble_eq_true rfl) (fun κ O Rt hnm => ?_)
  show cb_X κ w 0 0 0 [some (.inl v), some (.inl a), some (.inl b)] []
  refine cb_iload_n (pc := 0) O dX10_within_0 rfl ?_
  refine cb_iload_n (pc := 1) O dX10_within_1 rfl ?_
  refine cb_icmp_lt (pc := 2) O 14 dX10_within_2 (by decide) (fun c_2 => ?_) (fun c_2 => ?_)
  · skip
    refine cb_iconst (pc := 14) (v := 0) O dX10_within_14 (by decide) ?_
    exact cb_iret (pc := 15) O Rt rfl (Nat.le_of_ble_eq_true rfl) (Nat.le_of_ble_eq_true rfl) dX10_within_15 ⟨by
        split <;> first | rfl | (exfalso; simp only [ci_lt, ci_le, ci_eq] at *; omega), rfl⟩
  · skip
    refine cb_iload_n (pc := 5) O dX10_within_5 rfl ?_
    refine cb_iload_n (pc := 6) O dX10_within_6 rfl ?_
    refine cb_icmp_gt (pc := 7) O 14 dX10_within_7 (by decide) (fun c_7 => ?_) (fun c_7 => ?_)
    · skip
      refine cb_iconst (pc := 14) (v := 0) O dX10_within_14 (by decide) ?_
      exact cb_iret (pc := 15) O Rt rfl (Nat.le_of_ble_eq_true rfl) (Nat.le_of_ble_eq_true rfl) dX10_within_15 ⟨by
          split <;> first | rfl | (exfalso; simp only [ci_lt, ci_le, ci_eq] at *; omega), rfl⟩
    · skip
      refine cb_iconst (pc := 10) (v := 1) O dX10_within_10 (by decide) ?_
      refine cb_goto (pc := 11) O 15 dX10_within_11 (by decide) ?_
      exact cb_iret (pc := 15) O Rt rfl (Nat.le_of_ble_eq_true rfl) (Nat.le_of_ble_eq_true rfl) dX10_within_15 ⟨by
          split <;> first | rfl | (exfalso; simp only [ci_lt, ci_le, ci_eq] at *; omega), rfl⟩

theorem c_X10_isInk (w : cb_W) (v : Int32) : cb_Pu yX10_isInk cX10_isInk 1 (some .boolean) 1 22 [.inl v] w (if 0 ≤ v ∧ v ≤ 9 then 1 else 0) := by
  refine cb_con (by decide) (Nat.le_of_ble_eq_true rfl) (fun κ O Rt hnm => ?_)
  show cb_X κ w 0 0 0 [some (.inl v)] []
  refine cb_iload_n (pc := 0) O dX10_isInk_0 rfl ?_
  refine cb_iconst (pc := 1) (v := 0) O dX10_isInk_1 (by decide) ?_
  refine cb_bipush (pc := 2) (v := 9) O dX10_isInk_2 (by decide) ?_
  refine cb_cSp (pc := 4) O (c_X10_within _ _ _ _) my_X10_within mt_X10_within ml_X10_81 dX10_isInk_4 rfl rfl ⟨(Nat.le_of_ble_eq_true rfl), (Nat.le_of_ble_eq_true rfl)⟩ (Nat.le_of_ble_eq_true rfl) rfl ⟨(Nat.le_of_ble_eq_true rfl), (Nat.le_of_ble_eq_true rfl)⟩ ?_
  exact cb_iret (pc := 7) O Rt (by split <;> rfl) (Nat.le_of_ble_eq_true rfl) (Nat.le_of_ble_eq_true rfl) dX10_isInk_7 ⟨rfl, rfl⟩

theorem c_X10_isColour (w : cb_W) (v : Int32) : cb_Pu yX10_isColour cX10_isColour 1 (some .boolean) 1 22 [.inl v] w (if 0 ≤ v ∧ v ≤ 15 then 1 else 0) := by
  refine cb_con (by decide) (Nat.le_of_ble_eq_true rfl) (fun κ O Rt hnm => ?_)
  show cb_X κ w 0 0 0 [some (.inl v)] []
  refine cb_iload_n (pc := 0) O dX10_isColour_0 rfl ?_
  refine cb_iconst (pc := 1) (v := 0) O dX10_isColour_1 (by decide) ?_
  refine cb_bipush (pc := 2) (v := 15) O dX10_isColour_2 (by decide) ?_
  refine cb_cSp (pc := 4) O (c_X10_within _ _ _ _) my_X10_within mt_X10_within ml_X10_81 dX10_isColour_4 rfl rfl ⟨(Nat.le_of_ble_eq_true rfl), (Nat.le_of_ble_eq_true rfl)⟩ (Nat.le_of_ble_eq_true rfl) rfl ⟨(Nat.le_of_ble_eq_true rfl), (Nat.le_of_ble_eq_true rfl)⟩ ?_
  exact cb_iret (pc := 7) O Rt (by split <;> rfl) (Nat.le_of_ble_eq_true rfl) (Nat.le_of_ble_eq_true rfl) dX10_isColour_7 ⟨rfl, rfl⟩

theorem c_X10_isInkSet (w : cb_W) (v : Int32) : cb_Pu yX10_isInkSet cX10_isInkSet 1 (some .boolean) 1 22 [.inl v] w (if 0 ≤ v ∧ v ≤ 1023 then 1 else 0) := by
  refine cb_con (by decide) (Nat.le_of_ble_eq_true rfl) (fun κ O Rt hnm => ?_)
  show cb_X κ w 0 0 0 [some (.inl v)] []
  refine cb_iload_n (pc := 0) O dX10_isInkSet_0 rfl ?_
  refine cb_iconst (pc := 1) (v := 0) O dX10_isInkSet_1 (by decide) ?_
  refine cb_sipush (pc := 2) (v := 1023) O dX10_isInkSet_2 (by decide) ?_
  refine cb_cSp (pc := 5) O (c_X10_within _ _ _ _) my_X10_within mt_X10_within ml_X10_81 dX10_isInkSet_5 rfl rfl ⟨(Nat.le_of_ble_eq_true rfl), (Nat.le_of_ble_eq_true rfl)⟩ (Nat.le_of_ble_eq_true rfl) rfl ⟨(Nat.le_of_ble_eq_true rfl), (Nat.le_of_ble_eq_true rfl)⟩ ?_
  exact cb_iret (pc := 8) O Rt (by split <;> rfl) (Nat.le_of_ble_eq_true rfl) (Nat.le_of_ble_eq_true rfl) dX10_isInkSet_8 ⟨rfl, rfl⟩

theorem c_X11_within (w : cb_W) (v a b : Int32) : cb_Pu yX11_within cX11_within 3 (some .boolean) 0 0 [.inl v, .inl a, .inl b] w (if a ≤ v ∧ v ≤ b then 1 else 0) := by
  refine cb_con (by decide) (Nat.le_of_ble_eq_true rfl) (fun κ O Rt hnm => ?_)
  show cb_X κ w 0 0 0 [some (.inl v), some (.inl a), some (.inl b)] []
  refine cb_iload_n (pc := 0) O dX11_within_0 rfl ?_
  refine cb_iload_n (pc := 1) O dX11_within_1 rfl ?_
  refine cb_icmp_lt (pc := 2) O 14 dX11_within_2 (by decide) (fun c_2 => ?_) (fun c_2 => ?_)
  · skip
    refine cb_iconst (pc := 14) (v := 0) O dX11_within_14 (by decide) ?_
    exact cb_iret (pc := 15) O Rt rfl (Nat.le_of_ble_eq_true rfl) (Nat.le_of_ble_eq_true rfl) dX11_within_15 ⟨by
        split <;> first | rfl | (exfalso; simp only [ci_lt, ci_le, ci_eq] at *; omega), rfl⟩
  · skip
    refine cb_iload_n (pc := 5) O dX11_within_5 rfl ?_
    refine cb_iload_n (pc := 6) O dX11_within_6 rfl ?_
    refine cb_icmp_gt (pc := 7) O 14 dX11_within_7 (by decide) (fun c_7 => ?_) (fun c_7 => ?_)
    · skip
      refine cb_iconst (pc := 14) (v := 0) O dX11_within_14 (by decide) ?_
      exact cb_iret (pc := 15) O Rt rfl (Nat.le_of_ble_eq_true rfl) (Nat.le_of_ble_eq_true rfl) dX11_within_15 ⟨by
          split <;> first | rfl | (exfalso; simp only [ci_lt, ci_le, ci_eq] at *; omega), rfl⟩
    · skip
      refine cb_iconst (pc := 10) (v := 1) O dX11_within_10 (by decide) ?_
      refine cb_goto (pc := 11) O 15 dX11_within_11 (by decide) ?_
      exact cb_iret (pc := 15) O Rt rfl (Nat.le_of_ble_eq_true rfl) (Nat.le_of_ble_eq_true rfl) dX11_within_15 ⟨by
          split <;> first | rfl | (exfalso; simp only [ci_lt, ci_le, ci_eq] at *; omega), rfl⟩

theorem c_X11_isInk (w : cb_W) (v : Int32) : cb_Pu yX11_isInk cX11_isInk 1 (some .boolean) 1 22 [.inl v] w (if 0 ≤ v ∧ v ≤ 9 then 1 else 0) := by
  refine cb_con (by decide) (Nat.le_of_ble_eq_true rfl) (fun κ O Rt hnm => ?_)
  show cb_X κ w 0 0 0 [some (.inl v)] []
  refine cb_iload_n (pc := 0) O dX11_isInk_0 rfl ?_
  refine cb_iconst (pc := 1) (v := 0) O dX11_isInk_1 (by decide) ?_
  refine cb_bipush (pc := 2) (v := 9) O dX11_isInk_2 (by decide) ?_
  refine cb_cSp (pc := 4) O (c_X11_within _ _ _ _) my_X11_within mt_X11_within ml_X11_90 dX11_isInk_4 rfl rfl ⟨(Nat.le_of_ble_eq_true rfl), (Nat.le_of_ble_eq_true rfl)⟩ (Nat.le_of_ble_eq_true rfl) rfl ⟨(Nat.le_of_ble_eq_true rfl), (Nat.le_of_ble_eq_true rfl)⟩ ?_
  exact cb_iret (pc := 7) O Rt (by split <;> rfl) (Nat.le_of_ble_eq_true rfl) (Nat.le_of_ble_eq_true rfl) dX11_isInk_7 ⟨rfl, rfl⟩

theorem c_X11_isColour (w : cb_W) (v : Int32) : cb_Pu yX11_isColour cX11_isColour 1 (some .boolean) 1 22 [.inl v] w (if 0 ≤ v ∧ v ≤ 15 then 1 else 0) := by
  refine cb_con (by decide) (Nat.le_of_ble_eq_true rfl) (fun κ O Rt hnm => ?_)
  show cb_X κ w 0 0 0 [some (.inl v)] []
  refine cb_iload_n (pc := 0) O dX11_isColour_0 rfl ?_
  refine cb_iconst (pc := 1) (v := 0) O dX11_isColour_1 (by decide) ?_
  refine cb_bipush (pc := 2) (v := 15) O dX11_isColour_2 (by decide) ?_
  refine cb_cSp (pc := 4) O (c_X11_within _ _ _ _) my_X11_within mt_X11_within ml_X11_90 dX11_isColour_4 rfl rfl ⟨(Nat.le_of_ble_eq_true rfl), (Nat.le_of_ble_eq_true rfl)⟩ (Nat.le_of_ble_eq_true rfl) rfl ⟨(Nat.le_of_ble_eq_true rfl), (Nat.le_of_ble_eq_true rfl)⟩ ?_
  exact cb_iret (pc := 7) O Rt (by split <;> rfl) (Nat.le_of_ble_eq_true rfl) (Nat.le_of_ble_eq_true rfl) dX11_isColour_7 ⟨rfl, rfl⟩

theorem c_X10_answer (w : cb_W) (v : Int32) : cb_Pu yX10_answer cX10_answer 1 (some .int) 0 0 [.inl v] w (if v = 0 then 0 else 1) := by
  refine cb_con (by decide) (Nat.le_of_ble_eq_true rfl) (fun κ O Rt hnm => ?_)
  show cb_X κ w 0 0 0 [some (.inl v)] []
  refine cb_iload_n (pc := 0) O dX10_answer_0 rfl ?_
  refine cb_if_eq (pc := 1) O 8 dX10_answer_1 (by decide) (fun c_1 => ?_) (fun c_1 => ?_)
  · skip
    refine cb_iconst (pc := 8) (v := 0) O dX10_answer_8 (by decide) ?_
    exact cb_iret (pc := 9) O Rt rfl (Nat.le_of_ble_eq_true rfl) (Nat.le_of_ble_eq_true rfl) dX10_answer_9 ⟨by simp [*], rfl⟩
  · skip
    refine cb_iconst (pc := 4) (v := 1) O dX10_answer_4 (by decide) ?_
    refine cb_goto (pc := 5) O 9 dX10_answer_5 (by decide) ?_
    exact cb_iret (pc := 9) O Rt rfl (Nat.le_of_ble_eq_true rfl) (Nat.le_of_ble_eq_true rfl) dX10_answer_9 ⟨by simp [*], rfl⟩

theorem c_X10_withoutPaper (w : cb_W) (v : Int32) : cb_Pu yX10_withoutPaper cX10_withoutPaper 1 (some .int) 0 0 [.inl v] w (v &&& (-2)) := by
  refine cb_con (by decide) (Nat.le_of_ble_eq_true rfl) (fun κ O Rt hnm => ?_)
  show cb_X κ w 0 0 0 [some (.inl v)] []
  refine cb_iload_n (pc := 0) O dX10_withoutPaper_0 rfl ?_
  refine cb_bipush (pc := 1) (v := (-2)) O dX10_withoutPaper_1 (by decide) ?_
  refine cb_iand (pc := 3) O dX10_withoutPaper_3 ?_
  exact cb_iret (pc := 4) O Rt rfl (Nat.le_of_ble_eq_true rfl) (Nat.le_of_ble_eq_true rfl) dX10_withoutPaper_4 ⟨rfl, rfl⟩

theorem c_X10_firstOf (w : cb_W) (v : Int32) : cb_Pu yX10_firstOf cX10_firstOf 1 (some .int) 0 0 [.inl v] w (v / 100) := by
  refine cb_con (by decide) (Nat.le_of_ble_eq_true rfl) (fun κ O Rt hnm => ?_)
  show cb_X κ w 0 0 0 [some (.inl v)] []
  refine cb_iload_n (pc := 0) O dX10_firstOf_0 rfl ?_
  refine cb_bipush (pc := 1) (v := 100) O dX10_firstOf_1 (by decide) ?_
  refine cb_idiv (pc := 3) O dX10_firstOf_3 (by decide) ?_
  exact cb_iret (pc := 4) O Rt rfl (Nat.le_of_ble_eq_true rfl) (Nat.le_of_ble_eq_true rfl) dX10_firstOf_4 ⟨rfl, rfl⟩

theorem c_X10_lastOf (w : cb_W) (v : Int32) : cb_Pu yX10_lastOf cX10_lastOf 1 (some .int) 0 0 [.inl v] w (v - v / 100 * 100) := by
  refine cb_con (by decide) (Nat.le_of_ble_eq_true rfl) (fun κ O Rt hnm => ?_)
  show cb_X κ w 0 0 0 [some (.inl v)] []
  refine cb_iload_n (pc := 0) O dX10_lastOf_0 rfl ?_
  refine cb_bipush (pc := 1) (v := 100) O dX10_lastOf_1 (by decide) ?_
  refine cb_irem (pc := 3) O dX10_lastOf_3 (by decide) ?_
  exact cb_iret (pc := 4) O Rt rfl (Nat.le_of_ble_eq_true rfl) (Nat.le_of_ble_eq_true rfl) dX10_lastOf_4 ⟨rfl, rfl⟩

theorem c_X10_has (w : cb_W) (s m : Int32) : cb_Pu yX10_has cX10_has 2 (some .boolean) 0 0 [.inl s, .inl m] w (if (s.toUInt32 >>> (m.toUInt32 &&& Int32.toUInt32 31)).toInt32 &&& 1 = 1 then 1 else 0) := by
  refine cb_con (by decide) (Nat.le_of_ble_eq_true rfl) (fun κ O Rt hnm => ?_)
  show cb_X κ w 0 0 0 [some (.inl s), some (.inl m)] []
  refine cb_iload_n (pc := 0) O dX10_has_0 rfl ?_
  refine cb_iload_n (pc := 1) O dX10_has_1 rfl ?_
  refine cb_iushr (pc := 2) O dX10_has_2 ?_
  refine cb_iconst (pc := 3) (v := 1) O dX10_has_3 (by decide) ?_
  refine cb_iand (pc := 4) O dX10_has_4 ?_
  refine cb_iconst (pc := 5) (v := 1) O dX10_has_5 (by decide) ?_
  refine cb_icmp_ne (pc := 6) O 13 dX10_has_6 (by decide) (fun c_6 => ?_) (fun c_6 => ?_)
  · skip
    refine cb_iconst (pc := 13) (v := 0) O dX10_has_13 (by decide) ?_
    exact cb_iret (pc := 14) O Rt rfl (Nat.le_of_ble_eq_true rfl) (Nat.le_of_ble_eq_true rfl) dX10_has_14 ⟨by simp [*], rfl⟩
  · skip
    refine cb_iconst (pc := 9) (v := 1) O dX10_has_9 (by decide) ?_
    refine cb_goto (pc := 10) O 14 dX10_has_10 (by decide) ?_
    exact cb_iret (pc := 14) O Rt rfl (Nat.le_of_ble_eq_true rfl) (Nat.le_of_ble_eq_true rfl) dX10_has_14 ⟨by simp [*], rfl⟩

theorem c_max (w : cb_W) (a b : Int32) : cb_Pu yJ9_max_7cf53 cJ9_max_7cf53 2 (some .int) 0 0 [.inl a, .inl b] w (if a < b then b else a) := by
  refine cb_conF (by decide +kernel) (Nat.le_of_ble_eq_true rfl) (fun κ O Rt hnm => ?_)
  show cb_X κ w 0 0 0 [some (.inl a), some (.inl b)] []
  refine cb_iload_n (pc := 0) O dJ9_max_7cf53_0 rfl ?_
  refine cb_iload_n (pc := 1) O dJ9_max_7cf53_1 rfl ?_
  refine cb_icmp_lt (pc := 2) O 9 dJ9_max_7cf53_2 (by decide) (fun c_2 => ?_) (fun c_2 => ?_)
  · skip
    refine cb_iload_n (pc := 9) O dJ9_max_7cf53_9 rfl ?_
    exact cb_iret (pc := 10) O Rt rfl (Nat.le_of_ble_eq_true rfl) (Nat.le_of_ble_eq_true rfl) dJ9_max_7cf53_10 ⟨by simp [*], rfl⟩
  · skip
    refine cb_iload_n (pc := 5) O dJ9_max_7cf53_5 rfl ?_
    refine cb_goto (pc := 6) O 10 dJ9_max_7cf53_6 (by decide) ?_
    exact cb_iret (pc := 10) O Rt rfl (Nat.le_of_ble_eq_true rfl) (Nat.le_of_ble_eq_true rfl) dJ9_max_7cf53_10 ⟨by simp [*], rfl⟩

theorem ci_inc (i : Nat) : nI i + Int32.ofInt 1 = nI (i + 1) := nI_1 i
def ca_st (A : ca_A) : Nat → Bool := fun k => decide (ca_o A k ∧ A 10 k = 0)
def ca_pt (A : ca_A) : Nat → Bool := fun k => decide (ca_p A k)
def ca_gd (A : ca_A) : Nat → Bool := fun s => decide (A 20 s = 0)
def sr_count (A : ca_A) (a : Int32) : Int32 := if a = 0 then nI (A 0 12) else if a = 1 then nI (A 0 20) else if a = 2 then nI (fb_ct (ca_gd A) (A 0 20)) else if a = 3 then nI (A 0 26) else if a = 4 then nI (A 0 8) else if a = 5 then nI (fb_ct (ca_st A) 64) else if a = 6 then nI (A 0 0) * nI (A 0 1) - nI (fb_ct (ca_st A) 64) else -1
theorem ci_01 {P : Prop} [Decidable P] : (nI (if P then 1 else 0) = 1) ↔ P := by
  by_cases h : P
  · rw [if_pos h]
    exact ⟨fun _ => h, fun _ => rfl⟩
  · rw [if_neg h]
    exact ⟨fun q => absurd q (by decide), fun q => absurd q h⟩
theorem ci_01' {P : Prop} [Decidable P] : nI (if P then 1 else 0) = (if P then 1 else 0) := by split <;> rfl
theorem fb_ctd {p : Nat → Prop} [DecidablePred p] (n : Nat) : fb_ct (fun k => decide (p k)) (n + 1) = fb_ct (fun k => decide (p k)) n + (if p n then 1 else 0) := by
  rw [fb_ct_succ]
  simp only [decide_eq_true_eq]
theorem ca_stS (A : ca_A) (n : Nat) : fb_ct (ca_st A) (n + 1) = fb_ct (ca_st A) n + (if ca_o A n ∧ A 10 n = 0 then 1 else 0) := fb_ctd n
theorem ca_ptS (A : ca_A) (n : Nat) : fb_ct (ca_pt A) (n + 1) = fb_ct (ca_pt A) n + (if ca_p A n then 1 else 0) := fb_ctd n
theorem ca_gdS (A : ca_A) (n : Nat) : fb_ct (ca_gd A) (n + 1) = fb_ct (ca_gd A) n + (if A 20 n = 0 then 1 else 0) := fb_ctd n
theorem c_X1_stands (w : cb_W) (A : ca_A) (z : Int32) (hI : ca_I A) (hC : cc_I w A z) (k : Nat) (hk : k < 64) : cb_Pu yX1_stands cX1_stands 2 (some .boolean) 0 0 [.inr (some 20), .inl (nI k)] w (if ca_o A k ∧ A 10 k = 0 then 1 else 0) := by
  refine cb_con (by decide) (Nat.le_of_ble_eq_true rfl) (fun κ O Rt hnm => ?_)
  show cb_X κ w 0 0 0 [some (.inr (some 20)), some (.inl (nI k))] []
  refine cb_aload_n (pc := 0) O dX1_stands_0 rfl ?_
  refine cb_getR (pc := 1) O fl_X1_9 rfl rfl dX1_stands_1 (hC.1.1 _ rfl) (hC.1.2 _ _ _ rfl) ?_
  refine cb_iload_n (pc := 4) O dX1_stands_4 rfl ?_
  refine cb_iald (pc := 5) O k rfl dX1_stands_5 (by decide) (hC.1.1 _ rfl) rfl hk ?_
  refine cb_iconst (pc := 6) (v := 1) O dX1_stands_6 (by decide) ?_
  refine cb_icmp_ne (pc := 7) O 14 dX1_stands_7 (by decide) (fun c_7 => ?_) (fun c_7 => ?_)
  · skip
    refine cb_iconst (pc := 14) (v := 0) O dX1_stands_14 (by decide) ?_
    exact cb_iret (pc := 15) O Rt rfl (Nat.le_of_ble_eq_true rfl) (Nat.le_of_ble_eq_true rfl) dX1_stands_15 (by
      refine ⟨?_, rfl⟩
      rw [hC.2.1.2.1 k hk, ci_01] at c_7
      first | rw [if_pos c_7] | rw [if_neg c_7])
  · skip
    refine cb_iconst (pc := 10) (v := 1) O dX1_stands_10 (by decide) ?_
    refine cb_goto (pc := 11) O 15 dX1_stands_11 (by decide) ?_
    exact cb_iret (pc := 15) O Rt rfl (Nat.le_of_ble_eq_true rfl) (Nat.le_of_ble_eq_true rfl) dX1_stands_15 (by
      refine ⟨?_, rfl⟩
      rw [hC.2.1.2.1 k hk, ci_01] at c_7
      first | rw [if_pos c_7] | rw [if_neg c_7])

theorem c_X1_isIn (w : cb_W) (A : ca_A) (z : Int32) (hI : ca_I A) (hC : cc_I w A z) (k : Nat) (hk : k < 64) (ho : ca_o A k) : cb_Pu yX1_isIn cX1_isIn 2 (some .boolean) 0 0 [.inr (some 20), .inl (nI k)] w (if A 12 (A 11 k) = 0 then 1 else 0) := by
  refine cb_con (by decide) (Nat.le_of_ble_eq_true rfl) (fun κ O Rt hnm => ?_)
  show cb_X κ w 0 0 0 [some (.inr (some 20)), some (.inl (nI k))] []
  refine cb_aload_n (pc := 0) O dX1_isIn_0 rfl ?_
  refine cb_getR (pc := 1) O fl_X1_18 rfl rfl dX1_isIn_1 (hC.1.1 _ rfl) (hC.1.2 _ _ _ rfl) ?_
  refine cb_aload_n (pc := 4) O dX1_isIn_4 rfl ?_
  refine cb_getR (pc := 5) O fl_X1_15 rfl rfl dX1_isIn_5 (hC.1.1 _ rfl) (hC.1.2 _ _ _ rfl) ?_
  refine cb_iload_n (pc := 8) O dX1_isIn_8 rfl ?_
  refine cb_iald (pc := 9) O k rfl dX1_isIn_9 (by decide) (hC.1.1 _ rfl) rfl hk ?_
  refine cb_iald (pc := 10) O (A 11 k) rfl dX1_isIn_10 (by decide) (hC.1.1 _ rfl) (hC.2.1.2.2.1 k hk) (hI.2.2.2.1.2.1 k) ?_
  refine cb_iconst (pc := 11) (v := 1) O dX1_isIn_11 (by decide) ?_
  refine cb_icmp_ne (pc := 12) O 19 dX1_isIn_12 (by decide) (fun c_12 => ?_) (fun c_12 => ?_)
  · skip
    refine cb_iconst (pc := 19) (v := 0) O dX1_isIn_19 (by decide) ?_
    exact cb_iret (pc := 20) O Rt rfl (Nat.le_of_ble_eq_true rfl) (Nat.le_of_ble_eq_true rfl) dX1_isIn_20 (by
      refine ⟨?_, rfl⟩
      rw [hC.2.1.2.2.2 _ (hI.2.2.2.1.2.2.1 k ho)] at c_12
      have h6 := hI.2.2.2.1.2.2.2 (A 11 k)
      rcases (show A 12 (A 11 k) = 0 ∨ A 12 (A 11 k) = 1 by omega) with e | e <;> rw [e] at c_12 ⊢ <;> first | rfl | exact absurd rfl c_12 | exact absurd c_12 (by decide))
  · skip
    refine cb_iconst (pc := 15) (v := 1) O dX1_isIn_15 (by decide) ?_
    refine cb_goto (pc := 16) O 20 dX1_isIn_16 (by decide) ?_
    exact cb_iret (pc := 20) O Rt rfl (Nat.le_of_ble_eq_true rfl) (Nat.le_of_ble_eq_true rfl) dX1_isIn_20 (by
      refine ⟨?_, rfl⟩
      rw [hC.2.1.2.2.2 _ (hI.2.2.2.1.2.2.1 k ho)] at c_12
      have h6 := hI.2.2.2.1.2.2.2 (A 11 k)
      rcases (show A 12 (A 11 k) = 0 ∨ A 12 (A 11 k) = 1 by omega) with e | e <;> rw [e] at c_12 ⊢ <;> first | rfl | exact absurd rfl c_12 | exact absurd c_12 (by decide))

theorem c_X1_prints (w : cb_W) (A : ca_A) (z : Int32) (hI : ca_I A) (hC : cc_I w A z) (k : Nat) (hk : k < 64) : cb_Pu yX1_prints cX1_prints 2 (some .boolean) 1 21 [.inr (some 20), .inl (nI k)] w (if ca_p A k then 1 else 0) := by
  refine cb_con (by decide) (Nat.le_of_ble_eq_true rfl) (fun κ O Rt hnm => ?_)
  show cb_X κ w 0 0 0 [some (.inr (some 20)), some (.inl (nI k))] []
  refine cb_aload_n (pc := 0) O dX1_prints_0 rfl ?_
  refine cb_iload_n (pc := 1) O dX1_prints_1 rfl ?_
  refine cb_cVp (pc := 2) O (c_X1_stands w A z hI hC k hk) my_X1_stands mi_X1_stands mx_X1_stands ml_X1_51 dX1_prints_2 rfl ct_1 rfl rfl rfl ⟨(Nat.le_of_ble_eq_true rfl), (Nat.le_of_ble_eq_true rfl)⟩ (Nat.le_of_ble_eq_true rfl) rfl ⟨(Nat.le_of_ble_eq_true rfl), (Nat.le_of_ble_eq_true rfl)⟩ (hC.1.1 _ rfl) ?_
  refine cb_ifp_eq (pc := 5) O 20 dX1_prints_5 (by decide) (fun c_5 => ?_) (fun c_5 => ?_)
  · skip
    refine cb_iconst (pc := 20) (v := 0) O dX1_prints_20 (by decide) ?_
    exact cb_iret (pc := 21) O Rt rfl (Nat.le_of_ble_eq_true rfl) (Nat.le_of_ble_eq_true rfl) dX1_prints_21 (by
      refine ⟨?_, rfl⟩
      first | rw [if_neg (fun h => c_5 ⟨h.1, h.2.1⟩)] | rw [if_neg (fun h => c_13 h.2.2)] | rw [if_pos ⟨c_5.1, c_5.2, c_13⟩])
  · skip
    refine cb_aload_n (pc := 8) O dX1_prints_8 rfl ?_
    refine cb_iload_n (pc := 9) O dX1_prints_9 rfl ?_
    refine cb_cVp (pc := 10) O (c_X1_isIn w A z hI hC k hk c_5.1) my_X1_isIn mi_X1_isIn mx_X1_isIn ml_X1_55 dX1_prints_10 rfl ct_1 rfl rfl rfl ⟨(Nat.le_of_ble_eq_true rfl), (Nat.le_of_ble_eq_true rfl)⟩ (Nat.le_of_ble_eq_true rfl) rfl ⟨(Nat.le_of_ble_eq_true rfl), (Nat.le_of_ble_eq_true rfl)⟩ (hC.1.1 _ rfl) ?_
    refine cb_ifp_eq (pc := 13) O 20 dX1_prints_13 (by decide) (fun c_13 => ?_) (fun c_13 => ?_)
    · skip
      refine cb_iconst (pc := 20) (v := 0) O dX1_prints_20 (by decide) ?_
      exact cb_iret (pc := 21) O Rt rfl (Nat.le_of_ble_eq_true rfl) (Nat.le_of_ble_eq_true rfl) dX1_prints_21 (by
        refine ⟨?_, rfl⟩
        first | rw [if_neg (fun h => c_5 ⟨h.1, h.2.1⟩)] | rw [if_neg (fun h => c_13 h.2.2)] | rw [if_pos ⟨c_5.1, c_5.2, c_13⟩])
    · skip
      refine cb_iconst (pc := 16) (v := 1) O dX1_prints_16 (by decide) ?_
      refine cb_goto (pc := 17) O 21 dX1_prints_17 (by decide) ?_
      exact cb_iret (pc := 21) O Rt rfl (Nat.le_of_ble_eq_true rfl) (Nat.le_of_ble_eq_true rfl) dX1_prints_21 (by
        refine ⟨?_, rfl⟩
        first | rw [if_neg (fun h => c_5 ⟨h.1, h.2.1⟩)] | rw [if_neg (fun h => c_13 h.2.2)] | rw [if_pos ⟨c_5.1, c_5.2, c_13⟩])

theorem c_X11_prints (w : cb_W) (A : ca_A) (z : Int32) (hI : ca_I A) (hM : cm_I w A z) (k : Nat) (hk : k < 64) : cb_Pu yX11_prints cX11_prints 2 (some .boolean) 0 0 [.inr (some 1000), .inl (nI k)] w (if A 10 k = 0 ∧ A 12 (A 11 k) = 0 then 1 else 0) := by
  have e10 : w.2.1 1010 k = nI (A 10 k) := cm_at hM 10 k (by simp [ca_R]; omega) (by omega)
  have e11 : w.2.1 1011 k = nI (A 11 k) := cm_at hM 11 k (by simp [ca_R]; omega) (by omega)
  have l11 := hI.2.2.2.1.2.1 k
  have e12 : w.2.1 1012 (A 11 k) = nI (A 12 (A 11 k)) := cm_at hM 12 _ (by simp [ca_R]; omega) (by omega)
  have l10 := hI.2.2.2.1.1 k
  have l12 := hI.2.2.2.1.2.2.2 (A 11 k)
  refine cb_con (by decide) (Nat.le_of_ble_eq_true rfl) (fun κ O Rt hnm => ?_)
  show cb_X κ w 0 0 0 [some (.inr (some 1000)), some (.inl (nI k))] []
  refine cb_aload_n (pc := 0) O dX11_prints_0 rfl ?_
  refine cb_getR (pc := 1) O fl_X11_23 rfl rfl dX11_prints_1 (hM.1.1 _ rfl) (hM.1.2 _ _ _ rfl) ?_
  refine cb_iload_n (pc := 4) O dX11_prints_4 rfl ?_
  refine cb_zald (pc := 5) O k rfl dX11_prints_5 (by decide) (hM.1.1 _ rfl) rfl hk ?_
  refine cb_if_ne (pc := 6) O 27 dX11_prints_6 (by decide) (fun c_6 => ?_) (fun c_6 => ?_)
  · skip
    rw [e10] at c_6
    have f6 : ¬ A 10 k = 0 := fun e => c_6 (by rw [e]; rfl)
    refine cb_iconst (pc := 27) (v := 0) O dX11_prints_27 (by decide) ?_
    exact cb_iret (pc := 28) O Rt rfl (Nat.le_of_ble_eq_true rfl) (Nat.le_of_ble_eq_true rfl) dX11_prints_28 (by
      refine ⟨?_, rfl⟩
      first | rw [if_neg (fun h => f6 h.1)] | rw [if_neg (fun h => f20 h.2)] | rw [if_pos ⟨f6, f20⟩])
  · skip
    rw [e10] at c_6
    have f6 : A 10 k = 0 := by
      rcases (show A 10 k = 0 ∨ A 10 k = 1 by omega) with e | e
      · exact e
      · rw [e] at c_6; exact absurd c_6 (by decide)
    refine cb_aload_n (pc := 9) O dX11_prints_9 rfl ?_
    refine cb_getR (pc := 10) O fl_X11_29 rfl rfl dX11_prints_10 (hM.1.1 _ rfl) (hM.1.2 _ _ _ rfl) ?_
    refine cb_aload_n (pc := 13) O dX11_prints_13 rfl ?_
    refine cb_getR (pc := 14) O fl_X11_26 rfl rfl dX11_prints_14 (hM.1.1 _ rfl) (hM.1.2 _ _ _ rfl) ?_
    refine cb_iload_n (pc := 17) O dX11_prints_17 rfl ?_
    refine cb_iald (pc := 18) O k rfl dX11_prints_18 (by decide) (hM.1.1 _ rfl) rfl hk ?_
    refine cb_zald (pc := 19) O (A 11 k) rfl dX11_prints_19 (by decide) (hM.1.1 _ rfl) e11 l11 ?_
    refine cb_if_ne (pc := 20) O 27 dX11_prints_20 (by decide) (fun c_20 => ?_) (fun c_20 => ?_)
    · skip
      rw [e12] at c_20
      have f20 : ¬ A 12 (A 11 k) = 0 := fun e => c_20 (by rw [e]; rfl)
      refine cb_iconst (pc := 27) (v := 0) O dX11_prints_27 (by decide) ?_
      exact cb_iret (pc := 28) O Rt rfl (Nat.le_of_ble_eq_true rfl) (Nat.le_of_ble_eq_true rfl) dX11_prints_28 (by
        refine ⟨?_, rfl⟩
        first | rw [if_neg (fun h => f6 h.1)] | rw [if_neg (fun h => f20 h.2)] | rw [if_pos ⟨f6, f20⟩])
    · skip
      rw [e12] at c_20
      have f20 : A 12 (A 11 k) = 0 := by
        rcases (show A 12 (A 11 k) = 0 ∨ A 12 (A 11 k) = 1 by omega) with e | e
        · exact e
        · rw [e] at c_20; exact absurd c_20 (by decide)
      refine cb_iconst (pc := 23) (v := 1) O dX11_prints_23 (by decide) ?_
      refine cb_goto (pc := 24) O 28 dX11_prints_24 (by decide) ?_
      exact cb_iret (pc := 28) O Rt rfl (Nat.le_of_ble_eq_true rfl) (Nat.le_of_ble_eq_true rfl) dX11_prints_28 (by
        refine ⟨?_, rfl⟩
        first | rw [if_neg (fun h => f6 h.1)] | rw [if_neg (fun h => f20 h.2)] | rw [if_pos ⟨f6, f20⟩])

theorem c_X1_standingCells (w : cb_W) (A : ca_A) (z : Int32) (hI : ca_I A) (hC : cc_I w A z)  : cb_Pu yX1_standingCells cX1_standingCells 3 (some .int) 0 0 [.inr (some 20)] w (nI (fb_ct (ca_st A) 64)) := by
  refine cb_con (by decide) (Nat.le_of_ble_eq_true rfl) (fun κ O Rt hnm => ?_)
  show cb_X κ w 0 0 0 [some (.inr (some 20)), none, none] []
  refine cb_iconst (pc := 0) (v := 0) O dX1_standingCells_0 (by decide) ?_
  refine cb_istore_n (pc := 1) O dX1_standingCells_1 (by decide) ?_
  dsimp only [List.set]
  refine cb_iconst (pc := 2) (v := 0) O dX1_standingCells_2 (by decide) ?_
  refine cb_istore_n (pc := 3) O dX1_standingCells_3 (by decide) ?_
  dsimp only [List.set]
  have L_4 : ∀ (n : Nat) (i : Nat), i ≤ 64 → 64 + 1 ≤ i + n → cb_X κ w 0 0 4 [some (.inr (some 20)), some (.inl (nI (fb_ct (ca_st A) i))), some (.inl (nI i))] [] := by
    intro n
    induction n with
    | zero =>
      intro i hi hn
      exact absurd hn (by omega)
    | succ n ih_4 =>
      intro i hi hn
      refine cb_iload_n (pc := 4) O dX1_standingCells_4 rfl ?_
      refine cb_bipush (pc := 5) (v := 64) O dX1_standingCells_5 (by decide) ?_
      refine cb_icmp_ge (pc := 7) O 25 dX1_standingCells_7 (by decide) (fun c_7 => ?_) (fun c_7 => ?_)
      · skip
        have e : i = 64 := by
          have := ci_ge (b := 64) c_7 (by omega) (by decide)
          omega
        subst e
        refine cb_iload_n (pc := 25) O dX1_standingCells_25 rfl ?_
        exact cb_iret (pc := 26) O Rt rfl (Nat.le_of_ble_eq_true rfl) (Nat.le_of_ble_eq_true rfl) dX1_standingCells_26 ⟨rfl, rfl⟩
      · skip
        have hlt : i < 64 := ci_nge (b := 64) c_7 (by omega) (by decide)
        refine cb_iload_n (pc := 10) O dX1_standingCells_10 rfl ?_
        refine cb_aload_n (pc := 11) O dX1_standingCells_11 rfl ?_
        refine cb_getR (pc := 12) O fl_X1_9 rfl rfl dX1_standingCells_12 (hC.1.1 _ rfl) (hC.1.2 _ _ _ rfl) ?_
        refine cb_iload_n (pc := 15) O dX1_standingCells_15 rfl ?_
        refine cb_iald (pc := 16) O i rfl dX1_standingCells_16 (by decide) (hC.1.1 _ rfl) rfl hlt ?_
        refine cb_iadd (pc := 17) O dX1_standingCells_17 ?_
        refine cb_topv (nI (fb_ct (ca_st A) (i + 1))) (by
          rw [hC.2.1.2.1 i hlt, nI_add, ca_stS]) ?_
        refine cb_istore_n (pc := 18) O dX1_standingCells_18 (by decide) ?_
        dsimp only [List.set]
        refine cb_iinc (pc := 19) O (nI (i + 1)) dX1_standingCells_19 rfl (by decide) (ci_inc i) ?_
        dsimp only [List.set]
        refine cb_goto (pc := 22) O 4 dX1_standingCells_22 (by decide) ?_
        exact ih_4 (i + 1) (by omega) (by omega)
  exact L_4 (64 + 1) 0 (by omega) (by omega)

theorem c_X1_printingCells (w : cb_W) (A : ca_A) (z : Int32) (hI : ca_I A) (hC : cc_I w A z)  : cb_Pu yX1_printingCells cX1_printingCells 3 (some .int) 2 42 [.inr (some 20)] w (nI (fb_ct (ca_pt A) 64)) := by
  refine cb_con (by decide) (Nat.le_of_ble_eq_true rfl) (fun κ O Rt hnm => ?_)
  show cb_X κ w 0 0 0 [some (.inr (some 20)), none, none] []
  refine cb_iconst (pc := 0) (v := 0) O dX1_printingCells_0 (by decide) ?_
  refine cb_istore_n (pc := 1) O dX1_printingCells_1 (by decide) ?_
  dsimp only [List.set]
  refine cb_iconst (pc := 2) (v := 0) O dX1_printingCells_2 (by decide) ?_
  refine cb_istore_n (pc := 3) O dX1_printingCells_3 (by decide) ?_
  dsimp only [List.set]
  have L_4 : ∀ (n : Nat) (i : Nat), i ≤ 64 → 64 + 1 ≤ i + n → cb_X κ w 0 0 4 [some (.inr (some 20)), some (.inl (nI (fb_ct (ca_pt A) i))), some (.inl (nI i))] [] := by
    intro n
    induction n with
    | zero =>
      intro i hi hn
      exact absurd hn (by omega)
    | succ n ih_4 =>
      intro i hi hn
      refine cb_iload_n (pc := 4) O dX1_printingCells_4 rfl ?_
      refine cb_bipush (pc := 5) (v := 64) O dX1_printingCells_5 (by decide) ?_
      refine cb_icmp_ge (pc := 7) O 27 dX1_printingCells_7 (by decide) (fun c_7 => ?_) (fun c_7 => ?_)
      · skip
        have e : i = 64 := by
          have := ci_ge (b := 64) c_7 (by omega) (by decide)
          omega
        subst e
        refine cb_iload_n (pc := 27) O dX1_printingCells_27 rfl ?_
        exact cb_iret (pc := 28) O Rt rfl (Nat.le_of_ble_eq_true rfl) (Nat.le_of_ble_eq_true rfl) dX1_printingCells_28 ⟨rfl, rfl⟩
      · skip
        have hlt : i < 64 := ci_nge (b := 64) c_7 (by omega) (by decide)
        refine cb_iload_n (pc := 10) O dX1_printingCells_10 rfl ?_
        refine cb_aload_n (pc := 11) O dX1_printingCells_11 rfl ?_
        refine cb_iload_n (pc := 12) O dX1_printingCells_12 rfl ?_
        refine cb_cVp (pc := 13) O (c_X1_prints w A z hI hC i hlt) my_X1_prints mi_X1_prints mx_X1_prints ml_X1_58 dX1_printingCells_13 rfl ct_1 rfl rfl rfl ⟨(Nat.le_of_ble_eq_true rfl), (Nat.le_of_ble_eq_true rfl)⟩ (Nat.le_of_ble_eq_true rfl) rfl ⟨(Nat.le_of_ble_eq_true rfl), (Nat.le_of_ble_eq_true rfl)⟩ (hC.1.1 _ rfl) ?_
        refine cb_cSp (pc := 16) O (c_X10_answer _ _) my_X10_answer mt_X10_answer ml_X1_61 dX1_printingCells_16 rfl rfl ⟨(Nat.le_of_ble_eq_true rfl), (Nat.le_of_ble_eq_true rfl)⟩ (Nat.le_of_ble_eq_true rfl) rfl ⟨(Nat.le_of_ble_eq_true rfl), (Nat.le_of_ble_eq_true rfl)⟩ ?_
        refine cb_iadd (pc := 19) O dX1_printingCells_19 ?_
        refine cb_topv (nI (fb_ct (ca_pt A) (i + 1))) (by
          rw [ca_ptS, ← nI_add]
          by_cases h : ca_p A i
          · rw [if_pos h, if_pos h]; rfl
          · rw [if_neg h, if_neg h]; rfl) ?_
        refine cb_istore_n (pc := 20) O dX1_printingCells_20 (by decide) ?_
        dsimp only [List.set]
        refine cb_iinc (pc := 21) O (nI (i + 1)) dX1_printingCells_21 rfl (by decide) (ci_inc i) ?_
        dsimp only [List.set]
        refine cb_goto (pc := 24) O 4 dX1_printingCells_24 (by decide) ?_
        exact ih_4 (i + 1) (by omega) (by omega)
  exact L_4 (64 + 1) 0 (by omega) (by omega)

theorem c_X10_goodSheets (w : cb_W) (A : ca_A) (z : Int32) (hI : ca_I A) (hC : cc_I w A z)  : cb_Pu yX10_goodSheets cX10_goodSheets 3 (some .int) 1 20 [.inr (some 0)] w (nI (fb_ct (ca_gd A) (A 0 20))) := by
  have h9 : w.2.1 0 9 = nI (A 0 20) := hC.2.2.1.1
  have l20 := hI.1.2.2.2.1
  refine cb_con (by decide) (Nat.le_of_ble_eq_true rfl) (fun κ O Rt hnm => ?_)
  show cb_X κ w 0 0 0 [some (.inr (some 0)), none, none] []
  refine cb_iconst (pc := 0) (v := 0) O dX10_goodSheets_0 (by decide) ?_
  refine cb_istore_n (pc := 1) O dX10_goodSheets_1 (by decide) ?_
  dsimp only [List.set]
  refine cb_iconst (pc := 2) (v := 0) O dX10_goodSheets_2 (by decide) ?_
  refine cb_istore_n (pc := 3) O dX10_goodSheets_3 (by decide) ?_
  dsimp only [List.set]
  have L_4 : ∀ (n : Nat) (i : Nat), i ≤ A 0 20 → A 0 20 + 1 ≤ i + n → cb_X κ w 0 0 4 [some (.inr (some 0)), some (.inl (nI (fb_ct (ca_gd A) i))), some (.inl (nI i))] [] := by
    intro n
    induction n with
    | zero =>
      intro i hi hn
      exact absurd hn (by omega)
    | succ n ih_4 =>
      intro i hi hn
      refine cb_iload_n (pc := 4) O dX10_goodSheets_4 rfl ?_
      refine cb_aload_n (pc := 5) O dX10_goodSheets_5 rfl ?_
      refine cb_getI (pc := 6) O fl_X10_71 rfl rfl dX10_goodSheets_6 (hC.1.1 _ rfl) ?_
      refine cb_icmp_ge (pc := 9) O 33 dX10_goodSheets_9 (by decide) (fun c_9 => ?_) (fun c_9 => ?_)
      · skip
        rw [h9] at c_9
        have e : i = A 0 20 := by
          have := ci_ge c_9 (by omega) (by omega)
          omega
        subst e
        refine cb_iload_n (pc := 33) O dX10_goodSheets_33 rfl ?_
        exact cb_iret (pc := 34) O Rt rfl (Nat.le_of_ble_eq_true rfl) (Nat.le_of_ble_eq_true rfl) dX10_goodSheets_34 ⟨rfl, rfl⟩
      · skip
        rw [h9] at c_9
        have hlt : i < A 0 20 := ci_nge c_9 (by omega) (by omega)
        obtain ⟨⟨v0, v1, v2, v3, v4, v5⟩, g2, r0, r1, r2, r3, r4⟩ := hC.2.2.2.2.1.g hlt
        obtain ⟨-, -, -, g4, g5⟩ := hC.2.2.2.2.1.1 i hlt
        refine cb_iload_n (pc := 12) O dX10_goodSheets_12 rfl ?_
        refine cb_aload_n (pc := 13) O dX10_goodSheets_13 rfl ?_
        refine cb_getR (pc := 14) O fl_X10_25 rfl rfl dX10_goodSheets_14 (hC.1.1 _ rfl) (hC.1.2 _ _ _ rfl) ?_
        refine cb_iload_n (pc := 17) O dX10_goodSheets_17 rfl ?_
        refine cb_aald (pc := 18) O i rfl (by decide) (by decide) dX10_goodSheets_18 (by decide) (hC.1.1 _ rfl) rfl (by omega) g2 ?_
        refine cb_getI (pc := 19) O fl_X10_218 rfl (sh_s0 (by omega)) dX10_goodSheets_19 v0 ?_
        refine cb_cSp (pc := 22) O (c_X10_answer _ _) my_X10_answer mt_X10_answer ml_X10_185 dX10_goodSheets_22 rfl rfl ⟨(Nat.le_of_ble_eq_true rfl), (Nat.le_of_ble_eq_true rfl)⟩ (Nat.le_of_ble_eq_true rfl) rfl ⟨(Nat.le_of_ble_eq_true rfl), (Nat.le_of_ble_eq_true rfl)⟩ ?_
        refine cb_iadd (pc := 25) O dX10_goodSheets_25 ?_
        refine cb_topv (nI (fb_ct (ca_gd A) (i + 1))) (by
          rw [g4, ca_gdS, ← nI_add]
          have h6 := hI.2.2.2.2.1.2.2.2.2 i
          rcases (show A 20 i = 0 ∨ A 20 i = 1 by omega) with e | e <;> rw [e] <;> rfl) ?_
        refine cb_istore_n (pc := 26) O dX10_goodSheets_26 (by decide) ?_
        dsimp only [List.set]
        refine cb_iinc (pc := 27) O (nI (i + 1)) dX10_goodSheets_27 rfl (by decide) (ci_inc i) ?_
        dsimp only [List.set]
        refine cb_goto (pc := 30) O 4 dX10_goodSheets_30 (by decide) ?_
        exact ih_4 (i + 1) (by omega) (by omega)
  exact L_4 (A 0 20 + 1) 0 (by omega) (by omega)

theorem k_count (w : cb_W) (A : ca_A) (z : Int32) (hI : ca_I A) (hC : cc_I w A z) (a : Int32) : cb_Con yX10_count cX10_count 2 (some .int) 2 42 0 0 (fun _ => true) [.inr (some 0), .inl a] w (cb_pi (fun x w' => x = sr_count A a ∧ w' = w)) := by
  refine cb_con (by decide) (Nat.le_of_ble_eq_true rfl) (fun κ O Rt hnm => ?_)
  show cb_X κ w 0 0 0 [some (.inr (some 0)), some (.inl a)] []
  refine cb_iload_n (pc := 0) O dX10_count_0 rfl ?_
  rcases (show a = nI 0 ∨ a = nI 1 ∨ a = nI 2 ∨ a = nI 3 ∨ a = nI 4 ∨ a = nI 5 ∨ a = nI 6 ∨ (a.toInt < 0 ∨ 6 < a.toInt) by
      simp only [ci_eq, ci_n (show 0 < 2147483648 by decide), ci_n (show 1 < 2147483648 by decide), ci_n (show 2 < 2147483648 by decide), ci_n (show 3 < 2147483648 by decide), ci_n (show 4 < 2147483648 by decide), ci_n (show 5 < 2147483648 by decide), ci_n (show 6 < 2147483648 by decide)]
      omega) with h0 | h0 | h0 | h0 | h0 | h0 | h0 | h0
  · skip
    refine cb_tabIn (pc := 1) O 44 dX10_count_1 (by rw [h0]; decide) (by rw [h0]; decide) (by rw [h0]; rfl) (by decide) ?_
    refine cb_aload_n (pc := 44) O dX10_count_44 rfl ?_
    refine cb_getR (pc := 45) O fl_X10_60 rfl rfl dX10_count_45 (hC.1.1 _ rfl) (hC.1.2 _ _ _ rfl) ?_
    refine cb_getI (pc := 48) O fl_X10_150 rfl rfl dX10_count_48 (hC.1.1 _ rfl) ?_
    exact cb_iret (pc := 51) O Rt rfl (Nat.le_of_ble_eq_true rfl) (Nat.le_of_ble_eq_true rfl) dX10_count_51 (by
      refine ⟨?_, rfl⟩
      rw [h0, sr_count]
      exact hC.2.1.1.2.2)
  · skip
    refine cb_tabIn (pc := 1) O 52 dX10_count_1 (by rw [h0]; decide) (by rw [h0]; decide) (by rw [h0]; rfl) (by decide) ?_
    refine cb_aload_n (pc := 52) O dX10_count_52 rfl ?_
    refine cb_getI (pc := 53) O fl_X10_71 rfl rfl dX10_count_53 (hC.1.1 _ rfl) ?_
    exact cb_iret (pc := 56) O Rt rfl (Nat.le_of_ble_eq_true rfl) (Nat.le_of_ble_eq_true rfl) dX10_count_56 (by
      refine ⟨?_, rfl⟩
      rw [h0, sr_count]
      exact hC.2.2.1.1)
  · skip
    refine cb_tabIn (pc := 1) O 57 dX10_count_1 (by rw [h0]; decide) (by rw [h0]; decide) (by rw [h0]; rfl) (by decide) ?_
    refine cb_aload_n (pc := 57) O dX10_count_57 rfl ?_
    refine cb_cVp (pc := 58) O (c_X10_goodSheets w A z hI hC) my_X10_goodSheets mi_X10_goodSheets mx_X10_goodSheets ml_X10_304 dX10_count_58 rfl ct_10 rfl rfl rfl ⟨(Nat.le_of_ble_eq_true rfl), (Nat.le_of_ble_eq_true rfl)⟩ (Nat.le_of_ble_eq_true rfl) rfl ⟨(Nat.le_of_ble_eq_true rfl), (Nat.le_of_ble_eq_true rfl)⟩ (hC.1.1 _ rfl) ?_
    exact cb_iret (pc := 61) O Rt rfl (Nat.le_of_ble_eq_true rfl) (Nat.le_of_ble_eq_true rfl) dX10_count_61 (by
      refine ⟨?_, rfl⟩
      rw [h0, sr_count]
      exact rfl)
  · skip
    refine cb_tabIn (pc := 1) O 62 dX10_count_1 (by rw [h0]; decide) (by rw [h0]; decide) (by rw [h0]; rfl) (by decide) ?_
    refine cb_aload_n (pc := 62) O dX10_count_62 rfl ?_
    refine cb_getI (pc := 63) O fl_X10_75 rfl rfl dX10_count_63 (hC.1.1 _ rfl) ?_
    exact cb_iret (pc := 66) O Rt rfl (Nat.le_of_ble_eq_true rfl) (Nat.le_of_ble_eq_true rfl) dX10_count_66 (by
      refine ⟨?_, rfl⟩
      rw [h0, sr_count]
      exact hC.2.2.1.2.1)
  · skip
    refine cb_tabIn (pc := 1) O 67 dX10_count_1 (by rw [h0]; decide) (by rw [h0]; decide) (by rw [h0]; rfl) (by decide) ?_
    refine cb_aload_n (pc := 67) O dX10_count_67 rfl ?_
    refine cb_getI (pc := 68) O fl_X10_78 rfl rfl dX10_count_68 (hC.1.1 _ rfl) ?_
    exact cb_iret (pc := 71) O Rt rfl (Nat.le_of_ble_eq_true rfl) (Nat.le_of_ble_eq_true rfl) dX10_count_71 (by
      refine ⟨?_, rfl⟩
      rw [h0, sr_count]
      exact hC.2.2.1.2.2.1)
  · skip
    refine cb_tabIn (pc := 1) O 72 dX10_count_1 (by rw [h0]; decide) (by rw [h0]; decide) (by rw [h0]; rfl) (by decide) ?_
    refine cb_aload_n (pc := 72) O dX10_count_72 rfl ?_
    refine cb_getR (pc := 73) O fl_X10_60 rfl rfl dX10_count_73 (hC.1.1 _ rfl) (hC.1.2 _ _ _ rfl) ?_
    refine cb_cVp (pc := 76) O (c_X1_standingCells w A z hI hC) my_X1_standingCells mi_X1_standingCells mx_X1_standingCells ml_X10_307 dX10_count_76 rfl ct_1 rfl rfl rfl ⟨(Nat.le_of_ble_eq_true rfl), (Nat.le_of_ble_eq_true rfl)⟩ (Nat.le_of_ble_eq_true rfl) rfl ⟨(Nat.le_of_ble_eq_true rfl), (Nat.le_of_ble_eq_true rfl)⟩ (hC.1.1 _ rfl) ?_
    exact cb_iret (pc := 79) O Rt rfl (Nat.le_of_ble_eq_true rfl) (Nat.le_of_ble_eq_true rfl) dX10_count_79 (by
      refine ⟨?_, rfl⟩
      rw [h0, sr_count]
      exact rfl)
  · skip
    refine cb_tabIn (pc := 1) O 80 dX10_count_1 (by rw [h0]; decide) (by rw [h0]; decide) (by rw [h0]; rfl) (by decide) ?_
    refine cb_aload_n (pc := 80) O dX10_count_80 rfl ?_
    refine cb_getR (pc := 81) O fl_X10_60 rfl rfl dX10_count_81 (hC.1.1 _ rfl) (hC.1.2 _ _ _ rfl) ?_
    refine cb_getI (pc := 84) O fl_X10_125 rfl rfl dX10_count_84 (hC.1.1 _ rfl) ?_
    refine cb_aload_n (pc := 87) O dX10_count_87 rfl ?_
    refine cb_getR (pc := 88) O fl_X10_60 rfl rfl dX10_count_88 (hC.1.1 _ rfl) (hC.1.2 _ _ _ rfl) ?_
    refine cb_getI (pc := 91) O fl_X10_128 rfl rfl dX10_count_91 (hC.1.1 _ rfl) ?_
    refine cb_imul (pc := 94) O dX10_count_94 ?_
    refine cb_aload_n (pc := 95) O dX10_count_95 rfl ?_
    refine cb_getR (pc := 96) O fl_X10_60 rfl rfl dX10_count_96 (hC.1.1 _ rfl) (hC.1.2 _ _ _ rfl) ?_
    refine cb_cVp (pc := 99) O (c_X1_standingCells w A z hI hC) my_X1_standingCells mi_X1_standingCells mx_X1_standingCells ml_X10_307 dX10_count_99 rfl ct_1 rfl rfl rfl ⟨(Nat.le_of_ble_eq_true rfl), (Nat.le_of_ble_eq_true rfl)⟩ (Nat.le_of_ble_eq_true rfl) rfl ⟨(Nat.le_of_ble_eq_true rfl), (Nat.le_of_ble_eq_true rfl)⟩ (hC.1.1 _ rfl) ?_
    refine cb_isub (pc := 102) O dX10_count_102 ?_
    exact cb_iret (pc := 103) O Rt rfl (Nat.le_of_ble_eq_true rfl) (Nat.le_of_ble_eq_true rfl) dX10_count_103 (by
      refine ⟨?_, rfl⟩
      rw [h0, sr_count, hC.2.1.1.1, hC.2.1.1.2.1]
      rfl)
  · skip
    refine cb_tabOut (pc := 1) O 104 dX10_count_1 h0 (by decide) ?_
    refine cb_iconst (pc := 104) (v := (-1)) O dX10_count_104 (by decide) ?_
    exact cb_iret (pc := 105) O Rt rfl (Nat.le_of_ble_eq_true rfl) (Nat.le_of_ble_eq_true rfl) dX10_count_105 (by
      refine ⟨?_, rfl⟩
      rw [sr_count, if_neg (show ¬ a = 0 from ci_ne 0 h0 (by omega) (by omega)), if_neg (show ¬ a = 1 from ci_ne 1 h0 (by omega) (by omega)), if_neg (show ¬ a = 2 from ci_ne 2 h0 (by omega) (by omega)), if_neg (show ¬ a = 3 from ci_ne 3 h0 (by omega) (by omega)), if_neg (show ¬ a = 4 from ci_ne 4 h0 (by omega) (by omega)), if_neg (show ¬ a = 5 from ci_ne 5 h0 (by omega) (by omega)), if_neg (show ¬ a = 6 from ci_ne 6 h0 (by omega) (by omega))])

theorem m_count (w : cb_W) (A : ca_A) (z : Int32) (hI : ca_I A) (hM : cm_I w A z) (a : Int32) : cb_Con yX11_count cX11_count 5 (some .int) 1 21 0 0 (fun _ => true) [.inr (some 1000), .inl a] w (cb_pi (fun x w' => x = sr_count A a ∧ w' = w)) := by
  have h9 : w.2.1 1000 20 = nI (A 0 20) := cm_at hM 0 20 rfl (by omega)
  have l20 := hI.1.2.2.2.1
  refine cb_con (by decide) (Nat.le_of_ble_eq_true rfl) (fun κ O Rt hnm => ?_)
  show cb_X κ w 0 0 0 [some (.inr (some 1000)), some (.inl a), none, none, none] []
  refine cb_iconst (pc := 0) (v := 0) O dX11_count_0 (by decide) ?_
  refine cb_istore_n (pc := 1) O dX11_count_1 (by decide) ?_
  dsimp only [List.set]
  refine cb_iconst (pc := 2) (v := 0) O dX11_count_2 (by decide) ?_
  refine cb_istore_n (pc := 3) O dX11_count_3 (by decide) ?_
  dsimp only [List.set]
  have L_4 : ∀ (n : Nat) (i : Nat), i ≤ A 0 20 → A 0 20 + 1 ≤ i + n → cb_X κ w 0 0 4 [some (.inr (some 1000)), some (.inl a), some (.inl (nI (fb_ct (ca_gd A) i))), some (.inl (nI i)), none] [] := by
    intro n
    induction n with
    | zero =>
      intro i hi hn
      exact absurd hn (by omega)
    | succ n ih_4 =>
      intro i hi hn
      refine cb_iload_n (pc := 4) O dX11_count_4 rfl ?_
      refine cb_aload_n (pc := 5) O dX11_count_5 rfl ?_
      refine cb_getI (pc := 6) O fl_X11_155 rfl rfl dX11_count_6 (hM.1.1 _ rfl) ?_
      refine cb_icmp_ge (pc := 9) O 35 dX11_count_9 (by decide) (fun c_9 => ?_) (fun c_9 => ?_)
      · skip
        rw [h9] at c_9
        have e : i = A 0 20 := by
          have := ci_ge c_9 (by omega) (by omega)
          omega
        subst e
        refine cb_iconst (pc := 35) (v := 0) O dX11_count_35 (by decide) ?_
        refine cb_istore_n (pc := 36) O dX11_count_36 (by decide) ?_
        dsimp only [List.set]
        refine cb_iconst (pc := 37) (v := 0) O dX11_count_37 (by decide) ?_
        refine cb_istore (pc := 38) O dX11_count_38 (by decide) ?_
        dsimp only [List.set]
        have L_40 : ∀ (n : Nat) (k : Nat), k ≤ 64 → 64 + 1 ≤ k + n → cb_X κ w 0 0 40 [some (.inr (some 1000)), some (.inl a), some (.inl (nI (fb_ct (ca_gd A) (A 0 20)))), some (.inl (nI (fb_ct (ca_st A) k))), some (.inl (nI k))] [] := by
          intro n
          induction n with
          | zero =>
            intro k hk hn
            exact absurd hn (by omega)
          | succ n ih_40 =>
            intro k hk hn
            refine cb_iload (pc := 40) O dX11_count_40 rfl ?_
            refine cb_bipush (pc := 42) (v := 64) O dX11_count_42 (by decide) ?_
            refine cb_icmp_ge (pc := 44) O 80 dX11_count_44 (by decide) (fun c_44 => ?_) (fun c_44 => ?_)
            · skip
              have e : k = 64 := by
                have := ci_ge (b := 64) c_44 (by omega) (by decide)
                omega
              subst e
              refine cb_iload_n (pc := 80) O dX11_count_80 rfl ?_
              rcases (show a = nI 0 ∨ a = nI 1 ∨ a = nI 2 ∨ a = nI 3 ∨ a = nI 4 ∨ a = nI 5 ∨ a = nI 6 ∨ (a.toInt < 0 ∨ 6 < a.toInt) by
                  simp only [ci_eq, ci_n (show 0 < 2147483648 by decide), ci_n (show 1 < 2147483648 by decide), ci_n (show 2 < 2147483648 by decide), ci_n (show 3 < 2147483648 by decide), ci_n (show 4 < 2147483648 by decide), ci_n (show 5 < 2147483648 by decide), ci_n (show 6 < 2147483648 by decide)]
                  omega) with h0 | h0 | h0 | h0 | h0 | h0 | h0 | h0
              · skip
                refine cb_tabIn (pc := 81) O 124 dX11_count_81 (by rw [h0]; decide) (by rw [h0]; decide) (by rw [h0]; rfl) (by decide) ?_
                refine cb_aload_n (pc := 124) O dX11_count_124 rfl ?_
                refine cb_getI (pc := 125) O fl_X11_100 rfl rfl dX11_count_125 (hM.1.1 _ rfl) ?_
                exact cb_iret (pc := 128) O Rt rfl (Nat.le_of_ble_eq_true rfl) (Nat.le_of_ble_eq_true rfl) dX11_count_128 (by
                  refine ⟨?_, rfl⟩
                  rw [h0, sr_count]
                  exact cm_at hM 0 12 rfl (by omega))
              · skip
                refine cb_tabIn (pc := 81) O 129 dX11_count_81 (by rw [h0]; decide) (by rw [h0]; decide) (by rw [h0]; rfl) (by decide) ?_
                refine cb_aload_n (pc := 129) O dX11_count_129 rfl ?_
                refine cb_getI (pc := 130) O fl_X11_155 rfl rfl dX11_count_130 (hM.1.1 _ rfl) ?_
                exact cb_iret (pc := 133) O Rt rfl (Nat.le_of_ble_eq_true rfl) (Nat.le_of_ble_eq_true rfl) dX11_count_133 (by
                  refine ⟨?_, rfl⟩
                  rw [h0, sr_count]
                  exact h9)
              · skip
                refine cb_tabIn (pc := 81) O 134 dX11_count_81 (by rw [h0]; decide) (by rw [h0]; decide) (by rw [h0]; rfl) (by decide) ?_
                refine cb_iload_n (pc := 134) O dX11_count_134 rfl ?_
                exact cb_iret (pc := 135) O Rt rfl (Nat.le_of_ble_eq_true rfl) (Nat.le_of_ble_eq_true rfl) dX11_count_135 (by
                  refine ⟨?_, rfl⟩
                  rw [h0, sr_count]
                  exact rfl)
              · skip
                refine cb_tabIn (pc := 81) O 136 dX11_count_81 (by rw [h0]; decide) (by rw [h0]; decide) (by rw [h0]; rfl) (by decide) ?_
                refine cb_aload_n (pc := 136) O dX11_count_136 rfl ?_
                refine cb_getI (pc := 137) O fl_X11_159 rfl rfl dX11_count_137 (hM.1.1 _ rfl) ?_
                exact cb_iret (pc := 140) O Rt rfl (Nat.le_of_ble_eq_true rfl) (Nat.le_of_ble_eq_true rfl) dX11_count_140 (by
                  refine ⟨?_, rfl⟩
                  rw [h0, sr_count]
                  exact cm_at hM 0 26 rfl (by omega))
              · skip
                refine cb_tabIn (pc := 81) O 141 dX11_count_81 (by rw [h0]; decide) (by rw [h0]; decide) (by rw [h0]; rfl) (by decide) ?_
                refine cb_aload_n (pc := 141) O dX11_count_141 rfl ?_
                refine cb_getI (pc := 142) O fl_X11_116 rfl rfl dX11_count_142 (hM.1.1 _ rfl) ?_
                exact cb_iret (pc := 145) O Rt rfl (Nat.le_of_ble_eq_true rfl) (Nat.le_of_ble_eq_true rfl) dX11_count_145 (by
                  refine ⟨?_, rfl⟩
                  rw [h0, sr_count]
                  exact cm_at hM 0 8 rfl (by omega))
              · skip
                refine cb_tabIn (pc := 81) O 146 dX11_count_81 (by rw [h0]; decide) (by rw [h0]; decide) (by rw [h0]; rfl) (by decide) ?_
                refine cb_iload_n (pc := 146) O dX11_count_146 rfl ?_
                exact cb_iret (pc := 147) O Rt rfl (Nat.le_of_ble_eq_true rfl) (Nat.le_of_ble_eq_true rfl) dX11_count_147 (by
                  refine ⟨?_, rfl⟩
                  rw [h0, sr_count]
                  exact rfl)
              · skip
                refine cb_tabIn (pc := 81) O 148 dX11_count_81 (by rw [h0]; decide) (by rw [h0]; decide) (by rw [h0]; rfl) (by decide) ?_
                refine cb_aload_n (pc := 148) O dX11_count_148 rfl ?_
                refine cb_getI (pc := 149) O fl_X11_94 rfl rfl dX11_count_149 (hM.1.1 _ rfl) ?_
                refine cb_aload_n (pc := 152) O dX11_count_152 rfl ?_
                refine cb_getI (pc := 153) O fl_X11_97 rfl rfl dX11_count_153 (hM.1.1 _ rfl) ?_
                refine cb_imul (pc := 156) O dX11_count_156 ?_
                refine cb_iload_n (pc := 157) O dX11_count_157 rfl ?_
                refine cb_isub (pc := 158) O dX11_count_158 ?_
                exact cb_iret (pc := 159) O Rt rfl (Nat.le_of_ble_eq_true rfl) (Nat.le_of_ble_eq_true rfl) dX11_count_159 (by
                  refine ⟨?_, rfl⟩
                  have q0 : w.2.1 1000 0 = nI (A 0 0) := cm_at hM 0 0 rfl (by omega)
                  have q1 : w.2.1 1000 1 = nI (A 0 1) := cm_at hM 0 1 rfl (by omega)
                  rw [h0, sr_count, q0, q1]
                  rfl)
              · skip
                refine cb_tabOut (pc := 81) O 160 dX11_count_81 h0 (by decide) ?_
                refine cb_iconst (pc := 160) (v := (-1)) O dX11_count_160 (by decide) ?_
                exact cb_iret (pc := 161) O Rt rfl (Nat.le_of_ble_eq_true rfl) (Nat.le_of_ble_eq_true rfl) dX11_count_161 (by
                  refine ⟨?_, rfl⟩
                  rw [sr_count, if_neg (show ¬ a = 0 from ci_ne 0 h0 (by omega) (by omega)), if_neg (show ¬ a = 1 from ci_ne 1 h0 (by omega) (by omega)), if_neg (show ¬ a = 2 from ci_ne 2 h0 (by omega) (by omega)), if_neg (show ¬ a = 3 from ci_ne 3 h0 (by omega) (by omega)), if_neg (show ¬ a = 4 from ci_ne 4 h0 (by omega) (by omega)), if_neg (show ¬ a = 5 from ci_ne 5 h0 (by omega) (by omega)), if_neg (show ¬ a = 6 from ci_ne 6 h0 (by omega) (by omega))])
            · skip
              have hlt : k < 64 := ci_nge (b := 64) c_44 (by omega) (by decide)
              have e10 : w.2.1 1010 k = nI (A 10 k) := cm_at hM 10 k (by simp [ca_R]; omega) (by omega)
              have l10 := hI.2.2.2.1.1 k
              refine cb_iload_n (pc := 47) O dX11_count_47 rfl ?_
              refine cb_aload_n (pc := 48) O dX11_count_48 rfl ?_
              refine cb_iload (pc := 49) O dX11_count_49 rfl ?_
              refine cb_cVp (pc := 51) O (c_X11_isCell w A z hI hM _) my_X11_isCell mi_X11_isCell mx_X11_isCell ml_X11_142 dX11_count_51 rfl ct_11 rfl rfl rfl ⟨(Nat.le_of_ble_eq_true rfl), (Nat.le_of_ble_eq_true rfl)⟩ (Nat.le_of_ble_eq_true rfl) rfl ⟨(Nat.le_of_ble_eq_true rfl), (Nat.le_of_ble_eq_true rfl)⟩ (hM.1.1 _ rfl) ?_
              refine cb_ifp_eq (pc := 54) O 71 dX11_count_54 (by decide) (fun c_54 => ?_) (fun c_54 => ?_)
              · skip
                rw [ca_cn (by omega)] at c_54
                refine cb_iconst (pc := 71) (v := 0) O dX11_count_71 (by decide) ?_
                refine cb_iadd (pc := 72) O dX11_count_72 ?_
                refine cb_topv (nI (fb_ct (ca_st A) (k + 1))) (by
                  rw [ca_stS, ← nI_add]
                  first
                  | (rw [if_neg (fun h => c_54 h.1)]; rfl)
                  | (rw [e10] at c_64
                     rcases (show A 10 k = 0 ∨ A 10 k = 1 by omega) with e | e
                     · rw [if_pos ⟨c_54, e⟩]
                       rw [e] at c_64
                       first | rfl | exact absurd rfl c_64 | exact absurd c_64 (by decide)
                     · rw [if_neg (fun h => by have := h.2; omega)]
                       rw [e] at c_64
                       first | rfl | exact absurd rfl c_64 | exact absurd c_64 (by decide))) ?_
                refine cb_istore_n (pc := 73) O dX11_count_73 (by decide) ?_
                dsimp only [List.set]
                refine cb_iinc (pc := 74) O (nI (k + 1)) dX11_count_74 rfl (by decide) (ci_inc k) ?_
                dsimp only [List.set]
                refine cb_goto (pc := 77) O 40 dX11_count_77 (by decide) ?_
                exact ih_40 (k + 1) (by omega) (by omega)
              · skip
                rw [ca_cn (by omega)] at c_54
                refine cb_aload_n (pc := 57) O dX11_count_57 rfl ?_
                refine cb_getR (pc := 58) O fl_X11_23 rfl rfl dX11_count_58 (hM.1.1 _ rfl) (hM.1.2 _ _ _ rfl) ?_
                refine cb_iload (pc := 61) O dX11_count_61 rfl ?_
                refine cb_zald (pc := 63) O k rfl dX11_count_63 (by decide) (hM.1.1 _ rfl) rfl hlt ?_
                refine cb_if_ne (pc := 64) O 71 dX11_count_64 (by decide) (fun c_64 => ?_) (fun c_64 => ?_)
                · skip
                  refine cb_iconst (pc := 71) (v := 0) O dX11_count_71 (by decide) ?_
                  refine cb_iadd (pc := 72) O dX11_count_72 ?_
                  refine cb_topv (nI (fb_ct (ca_st A) (k + 1))) (by
                    rw [ca_stS, ← nI_add]
                    first
                    | (rw [if_neg (fun h => c_54 h.1)]; rfl)
                    | (rw [e10] at c_64
                       rcases (show A 10 k = 0 ∨ A 10 k = 1 by omega) with e | e
                       · rw [if_pos ⟨c_54, e⟩]
                         rw [e] at c_64
                         first | rfl | exact absurd rfl c_64 | exact absurd c_64 (by decide)
                       · rw [if_neg (fun h => by have := h.2; omega)]
                         rw [e] at c_64
                         first | rfl | exact absurd rfl c_64 | exact absurd c_64 (by decide))) ?_
                  refine cb_istore_n (pc := 73) O dX11_count_73 (by decide) ?_
                  dsimp only [List.set]
                  refine cb_iinc (pc := 74) O (nI (k + 1)) dX11_count_74 rfl (by decide) (ci_inc k) ?_
                  dsimp only [List.set]
                  refine cb_goto (pc := 77) O 40 dX11_count_77 (by decide) ?_
                  exact ih_40 (k + 1) (by omega) (by omega)
                · skip
                  refine cb_iconst (pc := 67) (v := 1) O dX11_count_67 (by decide) ?_
                  refine cb_goto (pc := 68) O 72 dX11_count_68 (by decide) ?_
                  refine cb_iadd (pc := 72) O dX11_count_72 ?_
                  refine cb_topv (nI (fb_ct (ca_st A) (k + 1))) (by
                    rw [ca_stS, ← nI_add]
                    first
                    | (rw [if_neg (fun h => c_54 h.1)]; rfl)
                    | (rw [e10] at c_64
                       rcases (show A 10 k = 0 ∨ A 10 k = 1 by omega) with e | e
                       · rw [if_pos ⟨c_54, e⟩]
                         rw [e] at c_64
                         first | rfl | exact absurd rfl c_64 | exact absurd c_64 (by decide)
                       · rw [if_neg (fun h => by have := h.2; omega)]
                         rw [e] at c_64
                         first | rfl | exact absurd rfl c_64 | exact absurd c_64 (by decide))) ?_
                  refine cb_istore_n (pc := 73) O dX11_count_73 (by decide) ?_
                  dsimp only [List.set]
                  refine cb_iinc (pc := 74) O (nI (k + 1)) dX11_count_74 rfl (by decide) (ci_inc k) ?_
                  dsimp only [List.set]
                  refine cb_goto (pc := 77) O 40 dX11_count_77 (by decide) ?_
                  exact ih_40 (k + 1) (by omega) (by omega)
        exact L_40 65 0 (by omega) (by omega)
      · skip
        rw [h9] at c_9
        have hlt : i < A 0 20 := ci_nge c_9 (by omega) (by omega)
        have e20 : w.2.1 1020 i = nI (A 20 i) := cm_at hM 20 i (by simp [ca_R]; omega) (by omega)
        have l1 := hI.2.2.2.2.1.2.2.2.2 i
        refine cb_iload_n (pc := 12) O dX11_count_12 rfl ?_
        refine cb_aload_n (pc := 13) O dX11_count_13 rfl ?_
        refine cb_getR (pc := 14) O fl_X11_50 rfl rfl dX11_count_14 (hM.1.1 _ rfl) (hM.1.2 _ _ _ rfl) ?_
        refine cb_iload_n (pc := 17) O dX11_count_17 rfl ?_
        refine cb_zald (pc := 18) O i rfl dX11_count_18 (by decide) (hM.1.1 _ rfl) rfl (by omega) ?_
        refine cb_if_eq (pc := 19) O 26 dX11_count_19 (by decide) (fun c_19 => ?_) (fun c_19 => ?_)
        · skip
          refine cb_iconst (pc := 26) (v := 1) O dX11_count_26 (by decide) ?_
          refine cb_iadd (pc := 27) O dX11_count_27 ?_
          refine cb_topv (nI (fb_ct (ca_gd A) (i + 1))) (by
            rw [e20] at c_19
            rw [ca_gdS, ← nI_add]
            rcases (show A 20 i = 0 ∨ A 20 i = 1 by omega) with e | e <;> rw [e] at c_19 ⊢ <;> first | rfl | exact absurd rfl c_19 | exact absurd c_19 (by decide)) ?_
          refine cb_istore_n (pc := 28) O dX11_count_28 (by decide) ?_
          dsimp only [List.set]
          refine cb_iinc (pc := 29) O (nI (i + 1)) dX11_count_29 rfl (by decide) (ci_inc i) ?_
          dsimp only [List.set]
          refine cb_goto (pc := 32) O 4 dX11_count_32 (by decide) ?_
          exact ih_4 (i + 1) (by omega) (by omega)
        · skip
          refine cb_iconst (pc := 22) (v := 0) O dX11_count_22 (by decide) ?_
          refine cb_goto (pc := 23) O 27 dX11_count_23 (by decide) ?_
          refine cb_iadd (pc := 27) O dX11_count_27 ?_
          refine cb_topv (nI (fb_ct (ca_gd A) (i + 1))) (by
            rw [e20] at c_19
            rw [ca_gdS, ← nI_add]
            rcases (show A 20 i = 0 ∨ A 20 i = 1 by omega) with e | e <;> rw [e] at c_19 ⊢ <;> first | rfl | exact absurd rfl c_19 | exact absurd c_19 (by decide)) ?_
          refine cb_istore_n (pc := 28) O dX11_count_28 (by decide) ?_
          dsimp only [List.set]
          refine cb_iinc (pc := 29) O (nI (i + 1)) dX11_count_29 rfl (by decide) (ci_inc i) ?_
          dsimp only [List.set]
          refine cb_goto (pc := 32) O 4 dX11_count_32 (by decide) ?_
          exact ih_4 (i + 1) (by omega) (by omega)
  exact L_4 (A 0 20 + 1) 0 (by omega) (by omega)

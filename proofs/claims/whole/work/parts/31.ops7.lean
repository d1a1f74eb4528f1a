def ca_du (A : ca_A) (k : Nat) : Nat := if k / 8 < A 0 28 ∧ k % 8 < A 0 29 then A 31 (4 * (k / 8) + k % 8) else 0
theorem ca_du16 {A : ca_A} (hI : ca_I A) (k : Nat) : ca_du A k < 16 := by
  unfold ca_du
  split
  · exact hI.2.2.2.2.2.1.1 _
  · decide
abbrev ca_sh (A : ca_A) (s : Nat) : Prop := ∀ k, k < 64 → A 15 (64 * s + k) = ca_du A k
abbrev sv_shows (A : ca_A) (s : Int32) : Prop := ci_x s (A 0 20) ∧ 0 < A 0 28 ∧ A 0 28 ≤ A 0 0 ∧ A 0 29 ≤ A 0 1
def sr_shows (A : ca_A) (s : Int32) : Int32 := if sv_shows A s then (if ca_sh A s.toInt.toNat then 1 else 0) else -1
theorem ci_r4c (r c : Nat) : nI r * 4 + nI c = nI (4 * r + c) := by rw [show (4 : Int32) = nI 4 from rfl, pk_mul, nI_add, Nat.mul_comm]
theorem ci_4rc (r c : Nat) : (4 : Int32) * nI r + nI c = nI (4 * r + c) := by rw [show (4 : Int32) = nI 4 from rfl, pk_mul, nI_add]
theorem ci_64 (s r c : Nat) : (64 : Int32) * nI s + 8 * nI r + nI c = nI (64 * s + (8 * r + c)) := by rw [show (64 : Int32) = nI 64 from rfl, show (8 : Int32) = nI 8 from rfl, pk_mul, pk_mul, nI_add, nI_add, Nat.add_assoc]
theorem c_X6_colourAt (w : cb_W) (A : ca_A) (z : Int32) (hI : ca_I A) (hC : cc_I w A z) (r c : Nat) (hr : r < 8) (hc : c < 8) : cb_Pu yX6_colourAt cX6_colourAt 3 (some .int) 2 44 [.inr (some 26), .inl (nI r), .inl (nI c)] w (nI (ca_du A (8 * r + c))) := by
  have l28 := hI.1.2.2.2.2.2.2.2.1
  have l29 := hI.1.2.2.2.2.2.2.2.2.1
  have e8 : (8 * r + c) / 8 = r := by omega
  have f8 : (8 * r + c) % 8 = c := by omega
  refine cb_con (by decide) (Nat.le_of_ble_eq_true rfl) (fun κ O Rt hnm => ?_)
  show cb_X κ w 0 0 0 [some (.inr (some 26)), some (.inl (nI r)), some (.inl (nI c))] []
  refine cb_aload_n (pc := 0) O dX6_colourAt_0 rfl ?_
  refine cb_iload_n (pc := 1) O dX6_colourAt_1 rfl ?_
  refine cb_iload_n (pc := 2) O dX6_colourAt_2 rfl ?_
  refine cb_cVp (pc := 3) O (c_X6_isAt w A z hI hC _ _) my_X6_isAt mi_X6_isAt mx_X6_isAt ml_X6_26 dX6_colourAt_3 rfl ct_6 rfl rfl rfl ⟨(Nat.le_of_ble_eq_true rfl), (Nat.le_of_ble_eq_true rfl)⟩ (Nat.le_of_ble_eq_true rfl) rfl ⟨(Nat.le_of_ble_eq_true rfl), (Nat.le_of_ble_eq_true rfl)⟩ (hC.1.1 _ rfl) ?_
  refine cb_ifp_eq (pc := 6) O 22 dX6_colourAt_6 (by decide) (fun c_6 => ?_) (fun c_6 => ?_)
  · skip
    unfold ci_x at c_6
    rw [ci_n (by omega), ci_n (by omega)] at c_6
    refine cb_iconst (pc := 22) (v := 0) O dX6_colourAt_22 (by decide) ?_
    exact cb_iret (pc := 23) O Rt rfl (Nat.le_of_ble_eq_true rfl) (Nat.le_of_ble_eq_true rfl) dX6_colourAt_23 (by
      refine ⟨?_, rfl⟩
      unfold ca_du
      rw [e8, f8]
      first
      | (rw [if_pos ⟨by omega, by omega⟩]; exact hC.2.2.2.2.2.2.1.2.2 _ (by omega))
      | (rw [if_neg (fun h => c_6 ⟨⟨by omega, by have := h.1; omega⟩, by omega, by have := h.2; omega⟩)]; rfl))
  · skip
    unfold ci_x at c_6
    rw [ci_n (by omega), ci_n (by omega)] at c_6
    refine cb_aload_n (pc := 9) O dX6_colourAt_9 rfl ?_
    refine cb_getR (pc := 10) O fl_X6_9 rfl rfl dX6_colourAt_10 (hC.1.1 _ rfl) (hC.1.2 _ _ _ rfl) ?_
    refine cb_iload_n (pc := 13) O dX6_colourAt_13 rfl ?_
    refine cb_iconst (pc := 14) (v := 4) O dX6_colourAt_14 (by decide) ?_
    refine cb_imul (pc := 15) O dX6_colourAt_15 ?_
    refine cb_iload_n (pc := 16) O dX6_colourAt_16 rfl ?_
    refine cb_iadd (pc := 17) O dX6_colourAt_17 ?_
    refine cb_iald (pc := 18) O (4 * r + c) rfl dX6_colourAt_18 (by decide) (hC.1.1 _ rfl) (ci_r4c r c) (by omega) ?_
    refine cb_goto (pc := 19) O 23 dX6_colourAt_19 (by decide) ?_
    exact cb_iret (pc := 23) O Rt rfl (Nat.le_of_ble_eq_true rfl) (Nat.le_of_ble_eq_true rfl) dX6_colourAt_23 (by
      refine ⟨?_, rfl⟩
      unfold ca_du
      rw [e8, f8]
      first
      | (rw [if_pos ⟨by omega, by omega⟩]; exact hC.2.2.2.2.2.2.1.2.2 _ (by omega))
      | (rw [if_neg (fun h => c_6 ⟨⟨by omega, by have := h.1; omega⟩, by omega, by have := h.2; omega⟩)]; rfl))

theorem c_X6_isOn (w : cb_W) (A : ca_A) (z : Int32) (hI : ca_I A) (hC : cc_I w A z) (s : Nat) (hs : s < A 0 20) : cb_Pu yX6_isOn cX6_isOn 3 (some .boolean) 3 66 [.inr (some 26), .inr (some (200 + 6 * s))] w (if ca_sh A s then 1 else 0) := by
  have l20 := hI.1.2.2.2.1
  obtain ⟨⟨v0, v1, v2, v3, v4, v5⟩, g2, r0, r1, r2, r3, r4⟩ := hC.2.2.2.2.1.g hs
  obtain ⟨-, -, -, g4, g5⟩ := hC.2.2.2.2.1.1 s hs
  refine cb_con (by decide) (Nat.le_of_ble_eq_true rfl) (fun κ O Rt hnm => ?_)
  show cb_X κ w 0 0 0 [some (.inr (some 26)), some (.inr (some (200 + 6 * s))), none] []
  refine cb_iconst (pc := 0) (v := 0) O dX6_isOn_0 (by decide) ?_
  refine cb_istore_n (pc := 1) O dX6_isOn_1 (by decide) ?_
  dsimp only [List.set]
  have L_2 : ∀ (n : Nat) (i : Nat), i ≤ 64 → (∀ k, k < i → A 15 (64 * s + k) = ca_du A k) → 64 + 1 ≤ i + n → cb_X κ w 0 0 2 [some (.inr (some 26)), some (.inr (some (200 + 6 * s))), some (.inl (nI i))] [] := by
    intro n
    induction n with
    | zero =>
      intro i hi ha hn
      exact absurd hn (by omega)
    | succ n ih_2 =>
      intro i hi ha hn
      refine cb_iload_n (pc := 2) O dX6_isOn_2 rfl ?_
      refine cb_bipush (pc := 3) (v := 64) O dX6_isOn_3 (by decide) ?_
      refine cb_icmp_ge (pc := 5) O 37 dX6_isOn_5 (by decide) (fun c_5 => ?_) (fun c_5 => ?_)
      · skip
        have e : i = 64 := by
          have := ci_ge (b := 64) c_5 (by omega) (by decide)
          omega
        subst e
        refine cb_iconst (pc := 37) (v := 1) O dX6_isOn_37 (by decide) ?_
        exact cb_iret (pc := 38) O Rt rfl (Nat.le_of_ble_eq_true rfl) (Nat.le_of_ble_eq_true rfl) dX6_isOn_38 ⟨by rw [if_pos ha], rfl⟩
      · skip
        have hlt : i < 64 := ci_nge (b := 64) c_5 (by omega) (by decide)
        have hA15 := hI.2.2.2.2.1.1 (64 * s + i)
        have hdu := ca_du16 hI i
        refine cb_aload_n (pc := 8) O dX6_isOn_8 rfl ?_
        refine cb_getR (pc := 9) O fl_X6_34 rfl (sh_s0 (by omega)) dX6_isOn_9 v0 r0 ?_
        refine cb_iload_n (pc := 12) O dX6_isOn_12 rfl ?_
        refine cb_iald (pc := 13) O i (sh_sj (s := s) (j := 0) (by omega) (by omega) (by omega)) dX6_isOn_13 (by decide) v1 rfl hlt ?_
        refine cb_aload_n (pc := 14) O dX6_isOn_14 rfl ?_
        refine cb_iload_n (pc := 15) O dX6_isOn_15 rfl ?_
        refine cb_bipush (pc := 16) (v := 8) O dX6_isOn_16 (by decide) ?_
        refine cb_idiv (pc := 18) O dX6_isOn_18 (by decide) ?_
        refine cb_topv _ (ci_d8 (by omega)) ?_
        refine cb_iload_n (pc := 19) O dX6_isOn_19 rfl ?_
        refine cb_bipush (pc := 20) (v := 8) O dX6_isOn_20 (by decide) ?_
        refine cb_irem (pc := 22) O dX6_isOn_22 (by decide) ?_
        refine cb_topv _ (ci_r8 (by omega)) ?_
        refine cb_cVp (pc := 23) O (c_X6_colourAt w A z hI hC (i / 8) (i % 8) (by omega) (by omega)) my_X6_colourAt mi_X6_colourAt mx_X6_colourAt ml_X6_37 dX6_isOn_23 rfl ct_6 rfl rfl rfl ⟨(Nat.le_of_ble_eq_true rfl), (Nat.le_of_ble_eq_true rfl)⟩ (Nat.le_of_ble_eq_true rfl) rfl ⟨(Nat.le_of_ble_eq_true rfl), (Nat.le_of_ble_eq_true rfl)⟩ (hC.1.1 _ rfl) ?_
        refine cb_icmp_eq (pc := 26) O 31 dX6_isOn_26 (by decide) (fun c_26 => ?_) (fun c_26 => ?_)
        · skip
          rw [(g5 i hlt).1, show 8 * (i / 8) + i % 8 = i by omega, nI_eq (by omega) (by omega)] at c_26
          have heq : A 15 (64 * s + i) = ca_du A i := c_26
          refine cb_iinc (pc := 31) O (nI (i + 1)) dX6_isOn_31 rfl (by decide) (ci_inc i) ?_
          dsimp only [List.set]
          refine cb_goto (pc := 34) O 2 dX6_isOn_34 (by decide) ?_
          exact ih_2 (i + 1) (by omega) (fun k hk => by
            rcases (show k < i ∨ k = i by omega) with e | e
            · exact ha k e
            · subst e; exact heq) (by omega)
        · skip
          rw [(g5 i hlt).1, show 8 * (i / 8) + i % 8 = i by omega, nI_eq (by omega) (by omega)] at c_26
          refine cb_iconst (pc := 29) (v := 0) O dX6_isOn_29 (by decide) ?_
          exact cb_iret (pc := 30) O Rt rfl (Nat.le_of_ble_eq_true rfl) (Nat.le_of_ble_eq_true rfl) dX6_isOn_30 ⟨by rw [if_neg (fun h => c_26 (h i hlt))], rfl⟩
  exact L_2 65 0 (by omega) (fun k hk => absurd hk (by omega)) (by omega)

theorem k_shows (w : cb_W) (A : ca_A) (z : Int32) (hI : ca_I A) (hC : cc_I w A z) (s : Int32) : cb_Con yX10_shows cX10_shows 2 (some .int) 4 88 0 0 (fun _ => true) [.inr (some 0), .inl s] w (cb_pi (fun x w' => x = sr_shows A s ∧ w' = w)) := by
  have l := hI.1
  have q0 := hC.2.1.1.1
  have q1 := hC.2.1.1.2.1
  have q2 := hC.2.2.2.2.2.2.1.1
  have q3 := hC.2.2.2.2.2.2.1.2.1
  refine cb_con (by decide) (Nat.le_of_ble_eq_true rfl) (fun κ O Rt hnm => ?_)
  show cb_X κ w 0 0 0 [some (.inr (some 0)), some (.inl s)] []
  refine cb_aload_n (pc := 0) O dX10_shows_0 rfl ?_
  refine cb_iload_n (pc := 1) O dX10_shows_1 rfl ?_
  refine cb_cVp (pc := 2) O (c_X10_isSheet w A z hI hC _) my_X10_isSheet mi_X10_isSheet mx_X10_isSheet ml_X10_203 dX10_shows_2 rfl ct_10 rfl rfl rfl ⟨(Nat.le_of_ble_eq_true rfl), (Nat.le_of_ble_eq_true rfl)⟩ (Nat.le_of_ble_eq_true rfl) rfl ⟨(Nat.le_of_ble_eq_true rfl), (Nat.le_of_ble_eq_true rfl)⟩ (hC.1.1 _ rfl) ?_
  refine cb_ifp_eq (pc := 5) O 52 dX10_shows_5 (by decide) (fun c_5 => ?_) (fun c_5 => ?_)
  · skip
    refine cb_iconst (pc := 52) (v := (-1)) O dX10_shows_52 (by decide) ?_
    exact cb_iret (pc := 53) O Rt rfl (Nat.le_of_ble_eq_true rfl) (Nat.le_of_ble_eq_true rfl) dX10_shows_53 (by
      refine ⟨?_, rfl⟩
      rw [sr_shows, if_neg]
      intro h
      have h1 := h.2.2.1
      have h2 := h.2.2.2
      first | exact c_5 h.1 | exact c_15 h.2.1 | omega)
  · skip
    refine cb_aload_n (pc := 8) O dX10_shows_8 rfl ?_
    refine cb_getR (pc := 9) O fl_X10_67 rfl rfl dX10_shows_9 (hC.1.1 _ rfl) (hC.1.2 _ _ _ rfl) ?_
    refine cb_cVp (pc := 12) O (c_X6_isTold w A z hI hC) my_X6_isTold mi_X6_isTold mx_X6_isTold ml_X10_246 dX10_shows_12 rfl ct_6 rfl rfl rfl ⟨(Nat.le_of_ble_eq_true rfl), (Nat.le_of_ble_eq_true rfl)⟩ (Nat.le_of_ble_eq_true rfl) rfl ⟨(Nat.le_of_ble_eq_true rfl), (Nat.le_of_ble_eq_true rfl)⟩ (hC.1.1 _ rfl) ?_
    refine cb_ifp_eq (pc := 15) O 52 dX10_shows_15 (by decide) (fun c_15 => ?_) (fun c_15 => ?_)
    · skip
      refine cb_iconst (pc := 52) (v := (-1)) O dX10_shows_52 (by decide) ?_
      exact cb_iret (pc := 53) O Rt rfl (Nat.le_of_ble_eq_true rfl) (Nat.le_of_ble_eq_true rfl) dX10_shows_53 (by
        refine ⟨?_, rfl⟩
        rw [sr_shows, if_neg]
        intro h
        have h1 := h.2.2.1
        have h2 := h.2.2.2
        first | exact c_5 h.1 | exact c_15 h.2.1 | omega)
    · skip
      refine cb_aload_n (pc := 18) O dX10_shows_18 rfl ?_
      refine cb_getR (pc := 19) O fl_X10_67 rfl rfl dX10_shows_19 (hC.1.1 _ rfl) (hC.1.2 _ _ _ rfl) ?_
      refine cb_getI (pc := 22) O fl_X10_298 rfl rfl dX10_shows_22 (hC.1.1 _ rfl) ?_
      refine cb_aload_n (pc := 25) O dX10_shows_25 rfl ?_
      refine cb_getR (pc := 26) O fl_X10_60 rfl rfl dX10_shows_26 (hC.1.1 _ rfl) (hC.1.2 _ _ _ rfl) ?_
      refine cb_getI (pc := 29) O fl_X10_125 rfl rfl dX10_shows_29 (hC.1.1 _ rfl) ?_
      refine cb_icmp_gt (pc := 32) O 52 dX10_shows_32 (by decide) (fun c_32 => ?_) (fun c_32 => ?_)
      · skip
        rw [q0, q2, nI_ltI (by omega) (by omega)] at c_32
        refine cb_iconst (pc := 52) (v := (-1)) O dX10_shows_52 (by decide) ?_
        exact cb_iret (pc := 53) O Rt rfl (Nat.le_of_ble_eq_true rfl) (Nat.le_of_ble_eq_true rfl) dX10_shows_53 (by
          refine ⟨?_, rfl⟩
          rw [sr_shows, if_neg]
          intro h
          have h1 := h.2.2.1
          have h2 := h.2.2.2
          first | exact c_5 h.1 | exact c_15 h.2.1 | omega)
      · skip
        rw [q0, q2, nI_ltI (by omega) (by omega)] at c_32
        refine cb_aload_n (pc := 35) O dX10_shows_35 rfl ?_
        refine cb_getR (pc := 36) O fl_X10_67 rfl rfl dX10_shows_36 (hC.1.1 _ rfl) (hC.1.2 _ _ _ rfl) ?_
        refine cb_getI (pc := 39) O fl_X10_299 rfl rfl dX10_shows_39 (hC.1.1 _ rfl) ?_
        refine cb_aload_n (pc := 42) O dX10_shows_42 rfl ?_
        refine cb_getR (pc := 43) O fl_X10_60 rfl rfl dX10_shows_43 (hC.1.1 _ rfl) (hC.1.2 _ _ _ rfl) ?_
        refine cb_getI (pc := 46) O fl_X10_128 rfl rfl dX10_shows_46 (hC.1.1 _ rfl) ?_
        refine cb_icmp_le (pc := 49) O 54 dX10_shows_49 (by decide) (fun c_49 => ?_) (fun c_49 => ?_)
        · skip
          rw [q1, q3, nI_leI (by omega) (by omega)] at c_49
          have hv : sv_shows A s := ⟨c_5, c_15, by omega, c_49⟩
          obtain ⟨s, hs, rfl⟩ := ci_xn c_5 (by omega)
          obtain ⟨-, g2, -⟩ := hC.2.2.2.2.1.g hs
          refine cb_aload_n (pc := 54) O dX10_shows_54 rfl ?_
          refine cb_getR (pc := 55) O fl_X10_67 rfl rfl dX10_shows_55 (hC.1.1 _ rfl) (hC.1.2 _ _ _ rfl) ?_
          refine cb_aload_n (pc := 58) O dX10_shows_58 rfl ?_
          refine cb_getR (pc := 59) O fl_X10_25 rfl rfl dX10_shows_59 (hC.1.1 _ rfl) (hC.1.2 _ _ _ rfl) ?_
          refine cb_iload_n (pc := 62) O dX10_shows_62 rfl ?_
          refine cb_aald (pc := 63) O s rfl (by decide) (by decide) dX10_shows_63 (by decide) (hC.1.1 _ rfl) rfl (by omega) g2 ?_
          refine cb_cVp (pc := 64) O (c_X6_isOn w A z hI hC s hs) my_X6_isOn mi_X6_isOn mx_X6_isOn ml_X10_300 dX10_shows_64 rfl ct_6 rfl rfl rfl ⟨(Nat.le_of_ble_eq_true rfl), (Nat.le_of_ble_eq_true rfl)⟩ (Nat.le_of_ble_eq_true rfl) rfl ⟨(Nat.le_of_ble_eq_true rfl), (Nat.le_of_ble_eq_true rfl)⟩ (hC.1.1 _ rfl) ?_
          refine cb_cSp (pc := 67) O (c_X10_answer _ _) my_X10_answer mt_X10_answer ml_X10_185 dX10_shows_67 rfl rfl ⟨(Nat.le_of_ble_eq_true rfl), (Nat.le_of_ble_eq_true rfl)⟩ (Nat.le_of_ble_eq_true rfl) rfl ⟨(Nat.le_of_ble_eq_true rfl), (Nat.le_of_ble_eq_true rfl)⟩ ?_
          exact cb_iret (pc := 70) O Rt rfl (Nat.le_of_ble_eq_true rfl) (Nat.le_of_ble_eq_true rfl) dX10_shows_70 (by
            refine ⟨?_, rfl⟩
            rw [sr_shows, if_pos hv, ci_tn (by omega)]
            by_cases e : ca_sh A s
            · rw [if_pos e]; rfl
            · rw [if_neg e]; rfl)
        · skip
          rw [q1, q3, nI_leI (by omega) (by omega)] at c_49
          refine cb_iconst (pc := 52) (v := (-1)) O dX10_shows_52 (by decide) ?_
          exact cb_iret (pc := 53) O Rt rfl (Nat.le_of_ble_eq_true rfl) (Nat.le_of_ble_eq_true rfl) dX10_shows_53 (by
            refine ⟨?_, rfl⟩
            rw [sr_shows, if_neg]
            intro h
            have h1 := h.2.2.1
            have h2 := h.2.2.2
            first | exact c_5 h.1 | exact c_15 h.2.1 | omega)

theorem m_shows (w : cb_W) (A : ca_A) (z : Int32) (hI : ca_I A) (hM : cm_I w A z) (s : Int32) : cb_Con yX11_shows cX11_shows 5 (some .int) 1 21 0 0 (fun _ => true) [.inr (some 1000), .inl s] w (cb_pi (fun x w' => x = sr_shows A s ∧ w' = w)) := by
  have l := hI.1
  have q0 : w.2.1 1000 0 = nI (A 0 0) := cm_at hM 0 0 rfl (by omega)
  have q1 : w.2.1 1000 1 = nI (A 0 1) := cm_at hM 0 1 rfl (by omega)
  have q2 : w.2.1 1000 28 = nI (A 0 28) := cm_at hM 0 28 rfl (by omega)
  have q3 : w.2.1 1000 29 = nI (A 0 29) := cm_at hM 0 29 rfl (by omega)
  refine cb_con (by decide) (Nat.le_of_ble_eq_true rfl) (fun κ O Rt hnm => ?_)
  show cb_X κ w 0 0 0 [some (.inr (some 1000)), some (.inl s), none, none, none] []
  refine cb_aload_n (pc := 0) O dX11_shows_0 rfl ?_
  refine cb_iload_n (pc := 1) O dX11_shows_1 rfl ?_
  refine cb_cVp (pc := 2) O (c_X11_isSheet w A z hI hM _) my_X11_isSheet mi_X11_isSheet mx_X11_isSheet ml_X11_176 dX11_shows_2 rfl ct_11 rfl rfl rfl ⟨(Nat.le_of_ble_eq_true rfl), (Nat.le_of_ble_eq_true rfl)⟩ (Nat.le_of_ble_eq_true rfl) rfl ⟨(Nat.le_of_ble_eq_true rfl), (Nat.le_of_ble_eq_true rfl)⟩ (hM.1.1 _ rfl) ?_
  refine cb_ifp_eq (pc := 5) O 37 dX11_shows_5 (by decide) (fun c_5 => ?_) (fun c_5 => ?_)
  · skip
    refine cb_iconst (pc := 37) (v := (-1)) O dX11_shows_37 (by decide) ?_
    exact cb_iret (pc := 38) O Rt rfl (Nat.le_of_ble_eq_true rfl) (Nat.le_of_ble_eq_true rfl) dX11_shows_38 (by
      refine ⟨?_, rfl⟩
      rw [sr_shows, if_neg]
      intro h
      have h0 := h.2.1
      have h1 := h.2.2.1
      have h2 := h.2.2.2
      first | exact c_5 h.1 | omega)
  · skip
    refine cb_aload_n (pc := 8) O dX11_shows_8 rfl ?_
    refine cb_getI (pc := 9) O fl_X11_179 rfl rfl dX11_shows_9 (hM.1.1 _ rfl) ?_
    refine cb_if_eq (pc := 12) O 37 dX11_shows_12 (by decide) (fun c_12 => ?_) (fun c_12 => ?_)
    · skip
      rw [q2] at c_12
      have z12 : A 0 28 = 0 := by
        rw [show (0 : Int32) = nI 0 from rfl, nI_eq (by omega) (by omega)] at c_12
        exact c_12
      refine cb_iconst (pc := 37) (v := (-1)) O dX11_shows_37 (by decide) ?_
      exact cb_iret (pc := 38) O Rt rfl (Nat.le_of_ble_eq_true rfl) (Nat.le_of_ble_eq_true rfl) dX11_shows_38 (by
        refine ⟨?_, rfl⟩
        rw [sr_shows, if_neg]
        intro h
        have h0 := h.2.1
        have h1 := h.2.2.1
        have h2 := h.2.2.2
        first | exact c_5 h.1 | omega)
    · skip
      rw [q2] at c_12
      have z12 : 0 < A 0 28 := by
        rcases Nat.eq_zero_or_pos (A 0 28) with e | e
        · exact absurd (by rw [e]; rfl) c_12
        · exact e
      refine cb_aload_n (pc := 15) O dX11_shows_15 rfl ?_
      refine cb_getI (pc := 16) O fl_X11_179 rfl rfl dX11_shows_16 (hM.1.1 _ rfl) ?_
      refine cb_aload_n (pc := 19) O dX11_shows_19 rfl ?_
      refine cb_getI (pc := 20) O fl_X11_94 rfl rfl dX11_shows_20 (hM.1.1 _ rfl) ?_
      refine cb_icmp_gt (pc := 23) O 37 dX11_shows_23 (by decide) (fun c_23 => ?_) (fun c_23 => ?_)
      · skip
        rw [q0, q2, nI_ltI (by omega) (by omega)] at c_23
        refine cb_iconst (pc := 37) (v := (-1)) O dX11_shows_37 (by decide) ?_
        exact cb_iret (pc := 38) O Rt rfl (Nat.le_of_ble_eq_true rfl) (Nat.le_of_ble_eq_true rfl) dX11_shows_38 (by
          refine ⟨?_, rfl⟩
          rw [sr_shows, if_neg]
          intro h
          have h0 := h.2.1
          have h1 := h.2.2.1
          have h2 := h.2.2.2
          first | exact c_5 h.1 | omega)
      · skip
        rw [q0, q2, nI_ltI (by omega) (by omega)] at c_23
        refine cb_aload_n (pc := 26) O dX11_shows_26 rfl ?_
        refine cb_getI (pc := 27) O fl_X11_182 rfl rfl dX11_shows_27 (hM.1.1 _ rfl) ?_
        refine cb_aload_n (pc := 30) O dX11_shows_30 rfl ?_
        refine cb_getI (pc := 31) O fl_X11_97 rfl rfl dX11_shows_31 (hM.1.1 _ rfl) ?_
        refine cb_icmp_le (pc := 34) O 39 dX11_shows_34 (by decide) (fun c_34 => ?_) (fun c_34 => ?_)
        · skip
          rw [q1, q3, nI_leI (by omega) (by omega)] at c_34
          have hv : sv_shows A s := ⟨c_5, z12, by omega, c_34⟩
          obtain ⟨s, hs, rfl⟩ := ci_xn c_5 (by omega)
          refine cb_iconst (pc := 39) (v := 0) O dX11_shows_39 (by decide) ?_
          refine cb_istore_n (pc := 40) O dX11_shows_40 (by decide) ?_
          dsimp only [List.set]
          have L_41 : ∀ (n : Nat) (r : Nat) (x3 x4 : Option cb_V), r ≤ A 0 0 → (∀ k, ca_o A k → k / 8 < r → A 15 (64 * s + k) = ca_du A k) → A 0 0 + 1 ≤ r + n → cb_X κ w 0 0 41 [some (.inr (some 1000)), some (.inl (nI s)), some (.inl (nI r)), x3, x4] [] := by
            intro n
            induction n with
            | zero =>
              intro r x3 x4 hr ha hn
              exact absurd hn (by omega)
            | succ n ih_41 =>
              intro r x3 x4 hr ha hn
              refine cb_iload_n (pc := 41) O dX11_shows_41 rfl ?_
              refine cb_aload_n (pc := 42) O dX11_shows_42 rfl ?_
              refine cb_getI (pc := 43) O fl_X11_94 rfl rfl dX11_shows_43 (hM.1.1 _ rfl) ?_
              refine cb_icmp_ge (pc := 46) O 126 dX11_shows_46 (by decide) (fun c_46 => ?_) (fun c_46 => ?_)
              · skip
                rw [q0, nI_leI (by omega) (by omega)] at c_46
                have e : r = A 0 0 := by omega
                refine cb_iconst (pc := 126) (v := 1) O dX11_shows_126 (by decide) ?_
                exact cb_iret (pc := 127) O Rt rfl (Nat.le_of_ble_eq_true rfl) (Nat.le_of_ble_eq_true rfl) dX11_shows_127 (by
                  refine ⟨?_, rfl⟩
                  rw [sr_shows, if_pos hv, ci_tn (by omega), if_pos]
                  intro k hk
                  by_cases ho : ca_o A k
                  · exact ha k ho (by have := ho.1; omega)
                  · rw [hI.2.2.2.2.2.2.2.2.1 s k hk ho]
                    have h1 := hv.2.2.1
                    have h2 := hv.2.2.2
                    unfold ca_du
                    rw [if_neg (fun h => ho ⟨by have := h.1; omega, by have := h.2; omega⟩)])
              · skip
                rw [q0, nI_leI (by omega) (by omega)] at c_46
                have hr8 : r < A 0 0 := by omega
                refine cb_iconst (pc := 49) (v := 0) O dX11_shows_49 (by decide) ?_
                refine cb_istore_n (pc := 50) O dX11_shows_50 (by decide) ?_
                dsimp only [List.set]
                have L_51 : ∀ (n : Nat) (c : Nat) (x4 : Option cb_V), c ≤ A 0 1 → (∀ k, ca_o A k → k / 8 = r → k % 8 < c → A 15 (64 * s + k) = ca_du A k) → A 0 1 + 1 ≤ c + n → cb_X κ w 0 0 51 [some (.inr (some 1000)), some (.inl (nI s)), some (.inl (nI r)), some (.inl (nI c)), x4] [] := by
                  intro n
                  induction n with
                  | zero =>
                    intro c x4 hc hb hn
                    exact absurd hn (by omega)
                  | succ n ih_51 =>
                    intro c x4 hc hb hn
                    refine cb_iload_n (pc := 51) O dX11_shows_51 rfl ?_
                    refine cb_aload_n (pc := 52) O dX11_shows_52 rfl ?_
                    refine cb_getI (pc := 53) O fl_X11_97 rfl rfl dX11_shows_53 (hM.1.1 _ rfl) ?_
                    refine cb_icmp_ge (pc := 56) O 120 dX11_shows_56 (by decide) (fun c_56 => ?_) (fun c_56 => ?_)
                    · skip
                      rw [q1, nI_leI (by omega) (by omega)] at c_56
                      have e : c = A 0 1 := by omega
                      refine cb_iinc (pc := 120) O (nI (r + 1)) dX11_shows_120 rfl (by decide) (ci_inc r) ?_
                      dsimp only [List.set]
                      refine cb_goto (pc := 123) O 41 dX11_shows_123 (by decide) ?_
                      exact ih_41 (r + 1) _ _ (by omega) (fun k ho hk => by
                        rcases (show k / 8 < r ∨ k / 8 = r by omega) with e9 | e9
                        · exact ha k ho e9
                        · exact hb k ho e9 (by have := ho.2; omega)) (by omega)
                    · skip
                      rw [q1, nI_leI (by omega) (by omega)] at c_56
                      have hc8 : c < A 0 1 := by omega
                      have e8 : (8 * r + c) / 8 = r := by omega
                      have f8 : (8 * r + c) % 8 = c := by omega
                      have hA15 := hI.2.2.2.2.1.1 (64 * s + (8 * r + c))
                      have hdu := ca_du16 hI (8 * r + c)
                      refine cb_iload_n (pc := 59) O dX11_shows_59 rfl ?_
                      refine cb_aload_n (pc := 60) O dX11_shows_60 rfl ?_
                      refine cb_getI (pc := 61) O fl_X11_179 rfl rfl dX11_shows_61 (hM.1.1 _ rfl) ?_
                      refine cb_icmp_ge (pc := 64) O 88 dX11_shows_64 (by decide) (fun c_64 => ?_) (fun c_64 => ?_)
                      · skip
                        rw [q2, nI_leI (by omega) (by omega)] at c_64
                        refine cb_iconst (pc := 88) (v := 0) O dX11_shows_88 (by decide) ?_
                        refine cb_topv (nI (ca_du A (8 * r + c))) (by
                          unfold ca_du
                          rw [e8, f8]
                          first
                          | (rw [if_neg (fun h => by have h1 := h.1; have h2 := h.2; omega)]; rfl)
                          | (rw [if_pos ⟨by omega, by omega⟩]; exact cm_at hM 31 _ (by simp [ca_R]; omega) (by omega))) ?_
                        refine cb_istore (pc := 89) O dX11_shows_89 (by decide) ?_
                        dsimp only [List.set]
                        refine cb_aload_n (pc := 91) O dX11_shows_91 rfl ?_
                        refine cb_getR (pc := 92) O fl_X11_35 rfl rfl dX11_shows_92 (hM.1.1 _ rfl) (hM.1.2 _ _ _ rfl) ?_
                        refine cb_bipush (pc := 95) (v := 64) O dX11_shows_95 (by decide) ?_
                        refine cb_iload_n (pc := 97) O dX11_shows_97 rfl ?_
                        refine cb_imul (pc := 98) O dX11_shows_98 ?_
                        refine cb_bipush (pc := 99) (v := 8) O dX11_shows_99 (by decide) ?_
                        refine cb_iload_n (pc := 101) O dX11_shows_101 rfl ?_
                        refine cb_imul (pc := 102) O dX11_shows_102 ?_
                        refine cb_iadd (pc := 103) O dX11_shows_103 ?_
                        refine cb_iload_n (pc := 104) O dX11_shows_104 rfl ?_
                        refine cb_iadd (pc := 105) O dX11_shows_105 ?_
                        refine cb_iald (pc := 106) O (64 * s + (8 * r + c)) rfl dX11_shows_106 (by decide) (hM.1.1 _ rfl) (ci_64 s r c) (by omega) ?_
                        refine cb_iload (pc := 107) O dX11_shows_107 rfl ?_
                        refine cb_icmp_eq (pc := 109) O 114 dX11_shows_109 (by decide) (fun c_109 => ?_) (fun c_109 => ?_)
                        · skip
                          rw [cm_at hM 15 (64 * s + (8 * r + c)) (by simp [ca_R]; omega) (by omega), nI_eq (by omega) (by omega)] at c_109
                          have heq : A 15 (64 * s + (8 * r + c)) = ca_du A (8 * r + c) := c_109
                          refine cb_iinc (pc := 114) O (nI (c + 1)) dX11_shows_114 rfl (by decide) (ci_inc c) ?_
                          dsimp only [List.set]
                          refine cb_goto (pc := 117) O 51 dX11_shows_117 (by decide) ?_
                          exact ih_51 (c + 1) _ (by omega) (fun k ho h1 hk => by
                            rcases (show k % 8 < c ∨ k % 8 = c by omega) with e9 | e9
                            · exact hb k ho h1 e9
                            · rw [show k = 8 * r + c by omega]; exact heq) (by omega)
                        · skip
                          rw [cm_at hM 15 (64 * s + (8 * r + c)) (by simp [ca_R]; omega) (by omega), nI_eq (by omega) (by omega)] at c_109
                          refine cb_iconst (pc := 112) (v := 0) O dX11_shows_112 (by decide) ?_
                          exact cb_iret (pc := 113) O Rt rfl (Nat.le_of_ble_eq_true rfl) (Nat.le_of_ble_eq_true rfl) dX11_shows_113 (by
                            refine ⟨?_, rfl⟩
                            rw [sr_shows, if_pos hv, ci_tn (by omega), if_neg (fun h => c_109 (h (8 * r + c) (by omega)))])
                      · skip
                        rw [q2, nI_leI (by omega) (by omega)] at c_64
                        refine cb_iload_n (pc := 67) O dX11_shows_67 rfl ?_
                        refine cb_aload_n (pc := 68) O dX11_shows_68 rfl ?_
                        refine cb_getI (pc := 69) O fl_X11_182 rfl rfl dX11_shows_69 (hM.1.1 _ rfl) ?_
                        refine cb_icmp_ge (pc := 72) O 88 dX11_shows_72 (by decide) (fun c_72 => ?_) (fun c_72 => ?_)
                        · skip
                          rw [q3, nI_leI (by omega) (by omega)] at c_72
                          refine cb_iconst (pc := 88) (v := 0) O dX11_shows_88 (by decide) ?_
                          refine cb_topv (nI (ca_du A (8 * r + c))) (by
                            unfold ca_du
                            rw [e8, f8]
                            first
                            | (rw [if_neg (fun h => by have h1 := h.1; have h2 := h.2; omega)]; rfl)
                            | (rw [if_pos ⟨by omega, by omega⟩]; exact cm_at hM 31 _ (by simp [ca_R]; omega) (by omega))) ?_
                          refine cb_istore (pc := 89) O dX11_shows_89 (by decide) ?_
                          dsimp only [List.set]
                          refine cb_aload_n (pc := 91) O dX11_shows_91 rfl ?_
                          refine cb_getR (pc := 92) O fl_X11_35 rfl rfl dX11_shows_92 (hM.1.1 _ rfl) (hM.1.2 _ _ _ rfl) ?_
                          refine cb_bipush (pc := 95) (v := 64) O dX11_shows_95 (by decide) ?_
                          refine cb_iload_n (pc := 97) O dX11_shows_97 rfl ?_
                          refine cb_imul (pc := 98) O dX11_shows_98 ?_
                          refine cb_bipush (pc := 99) (v := 8) O dX11_shows_99 (by decide) ?_
                          refine cb_iload_n (pc := 101) O dX11_shows_101 rfl ?_
                          refine cb_imul (pc := 102) O dX11_shows_102 ?_
                          refine cb_iadd (pc := 103) O dX11_shows_103 ?_
                          refine cb_iload_n (pc := 104) O dX11_shows_104 rfl ?_
                          refine cb_iadd (pc := 105) O dX11_shows_105 ?_
                          refine cb_iald (pc := 106) O (64 * s + (8 * r + c)) rfl dX11_shows_106 (by decide) (hM.1.1 _ rfl) (ci_64 s r c) (by omega) ?_
                          refine cb_iload (pc := 107) O dX11_shows_107 rfl ?_
                          refine cb_icmp_eq (pc := 109) O 114 dX11_shows_109 (by decide) (fun c_109 => ?_) (fun c_109 => ?_)
                          · skip
                            rw [cm_at hM 15 (64 * s + (8 * r + c)) (by simp [ca_R]; omega) (by omega), nI_eq (by omega) (by omega)] at c_109
                            have heq : A 15 (64 * s + (8 * r + c)) = ca_du A (8 * r + c) := c_109
                            refine cb_iinc (pc := 114) O (nI (c + 1)) dX11_shows_114 rfl (by decide) (ci_inc c) ?_
                            dsimp only [List.set]
                            refine cb_goto (pc := 117) O 51 dX11_shows_117 (by decide) ?_
                            exact ih_51 (c + 1) _ (by omega) (fun k ho h1 hk => by
                              rcases (show k % 8 < c ∨ k % 8 = c by omega) with e9 | e9
                              · exact hb k ho h1 e9
                              · rw [show k = 8 * r + c by omega]; exact heq) (by omega)
                          · skip
                            rw [cm_at hM 15 (64 * s + (8 * r + c)) (by simp [ca_R]; omega) (by omega), nI_eq (by omega) (by omega)] at c_109
                            refine cb_iconst (pc := 112) (v := 0) O dX11_shows_112 (by decide) ?_
                            exact cb_iret (pc := 113) O Rt rfl (Nat.le_of_ble_eq_true rfl) (Nat.le_of_ble_eq_true rfl) dX11_shows_113 (by
                              refine ⟨?_, rfl⟩
                              rw [sr_shows, if_pos hv, ci_tn (by omega), if_neg (fun h => c_109 (h (8 * r + c) (by omega)))])
                        · skip
                          rw [q3, nI_leI (by omega) (by omega)] at c_72
                          refine cb_aload_n (pc := 75) O dX11_shows_75 rfl ?_
                          refine cb_getR (pc := 76) O fl_X11_71 rfl rfl dX11_shows_76 (hM.1.1 _ rfl) (hM.1.2 _ _ _ rfl) ?_
                          refine cb_iconst (pc := 79) (v := 4) O dX11_shows_79 (by decide) ?_
                          refine cb_iload_n (pc := 80) O dX11_shows_80 rfl ?_
                          refine cb_imul (pc := 81) O dX11_shows_81 ?_
                          refine cb_iload_n (pc := 82) O dX11_shows_82 rfl ?_
                          refine cb_iadd (pc := 83) O dX11_shows_83 ?_
                          refine cb_iald (pc := 84) O (4 * r + c) rfl dX11_shows_84 (by decide) (hM.1.1 _ rfl) (ci_4rc r c) (by omega) ?_
                          refine cb_goto (pc := 85) O 89 dX11_shows_85 (by decide) ?_
                          refine cb_topv (nI (ca_du A (8 * r + c))) (by
                            unfold ca_du
                            rw [e8, f8]
                            first
                            | (rw [if_neg (fun h => by have h1 := h.1; have h2 := h.2; omega)]; rfl)
                            | (rw [if_pos ⟨by omega, by omega⟩]; exact cm_at hM 31 _ (by simp [ca_R]; omega) (by omega))) ?_
                          refine cb_istore (pc := 89) O dX11_shows_89 (by decide) ?_
                          dsimp only [List.set]
                          refine cb_aload_n (pc := 91) O dX11_shows_91 rfl ?_
                          refine cb_getR (pc := 92) O fl_X11_35 rfl rfl dX11_shows_92 (hM.1.1 _ rfl) (hM.1.2 _ _ _ rfl) ?_
                          refine cb_bipush (pc := 95) (v := 64) O dX11_shows_95 (by decide) ?_
                          refine cb_iload_n (pc := 97) O dX11_shows_97 rfl ?_
                          refine cb_imul (pc := 98) O dX11_shows_98 ?_
                          refine cb_bipush (pc := 99) (v := 8) O dX11_shows_99 (by decide) ?_
                          refine cb_iload_n (pc := 101) O dX11_shows_101 rfl ?_
                          refine cb_imul (pc := 102) O dX11_shows_102 ?_
                          refine cb_iadd (pc := 103) O dX11_shows_103 ?_
                          refine cb_iload_n (pc := 104) O dX11_shows_104 rfl ?_
                          refine cb_iadd (pc := 105) O dX11_shows_105 ?_
                          refine cb_iald (pc := 106) O (64 * s + (8 * r + c)) rfl dX11_shows_106 (by decide) (hM.1.1 _ rfl) (ci_64 s r c) (by omega) ?_
                          refine cb_iload (pc := 107) O dX11_shows_107 rfl ?_
                          refine cb_icmp_eq (pc := 109) O 114 dX11_shows_109 (by decide) (fun c_109 => ?_) (fun c_109 => ?_)
                          · skip
                            rw [cm_at hM 15 (64 * s + (8 * r + c)) (by simp [ca_R]; omega) (by omega), nI_eq (by omega) (by omega)] at c_109
                            have heq : A 15 (64 * s + (8 * r + c)) = ca_du A (8 * r + c) := c_109
                            refine cb_iinc (pc := 114) O (nI (c + 1)) dX11_shows_114 rfl (by decide) (ci_inc c) ?_
                            dsimp only [List.set]
                            refine cb_goto (pc := 117) O 51 dX11_shows_117 (by decide) ?_
                            exact ih_51 (c + 1) _ (by omega) (fun k ho h1 hk => by
                              rcases (show k % 8 < c ∨ k % 8 = c by omega) with e9 | e9
                              · exact hb k ho h1 e9
                              · rw [show k = 8 * r + c by omega]; exact heq) (by omega)
                          · skip
                            rw [cm_at hM 15 (64 * s + (8 * r + c)) (by simp [ca_R]; omega) (by omega), nI_eq (by omega) (by omega)] at c_109
                            refine cb_iconst (pc := 112) (v := 0) O dX11_shows_112 (by decide) ?_
                            exact cb_iret (pc := 113) O Rt rfl (Nat.le_of_ble_eq_true rfl) (Nat.le_of_ble_eq_true rfl) dX11_shows_113 (by
                              refine ⟨?_, rfl⟩
                              rw [sr_shows, if_pos hv, ci_tn (by omega), if_neg (fun h => c_109 (h (8 * r + c) (by omega)))])
                exact L_51 (A 0 1 + 1) 0 _ (by omega) (fun k _ _ hk => absurd hk (by omega)) (by omega)
          exact L_41 (A 0 0 + 1) 0 none none (by omega) (fun k _ hk => absurd hk (by omega)) (by omega)
        · skip
          rw [q1, q3, nI_leI (by omega) (by omega)] at c_34
          refine cb_iconst (pc := 37) (v := (-1)) O dX11_shows_37 (by decide) ?_
          exact cb_iret (pc := 38) O Rt rfl (Nat.le_of_ble_eq_true rfl) (Nat.le_of_ble_eq_true rfl) dX11_shows_38 (by
            refine ⟨?_, rfl⟩
            rw [sr_shows, if_neg]
            intro h
            have h0 := h.2.1
            have h1 := h.2.2.1
            have h2 := h.2.2.2
            first | exact c_5 h.1 | omega)

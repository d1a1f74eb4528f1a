theorem cc_I.tmp {w w' : cb_W} {A : ca_A} {z : Int32} (hC : cc_I w A z) (hI : ca_I A) (h1 : ∀ r, ¬ (40 ≤ r ∧ r < 46) → w'.1 r = w.1 r) (h2 : ∀ r, ¬ (40 ≤ r ∧ r < 46) → w'.2.1 r = w.2.1 r) (h3 : ∀ r, ¬ (40 ≤ r ∧ r < 46) → w'.2.2 r = w.2.2 r) : cc_I w' A z ∧ cb_M1 w w' := by
  obtain ⟨⟨a1, a2⟩, hB, hN, hK, hS, hE, hP, hL, l1, l2, l3⟩ := hC
  refine ⟨⟨⟨fun r hr => ?_, fun r k q hq => ?_⟩, hB.cg (fun r k h => by rw [h2 r (by omega)]) (fun _ _ _ => rfl), hN.cg (fun r k h => by rw [h2 r (by omega)]) (fun _ _ _ => rfl), hK.cg (fun r k h => by rw [h2 r (by omega)]) (fun _ _ _ => rfl), hS.cg hI.1.2.2.2.1 (fun r g1 g2 => h1 r (by omega)) (fun r k h => by rw [h3 r (by omega)]) (fun r k g1 g2 => by rw [h2 r (by omega)]) (fun _ _ _ => rfl), hE.cg hI.1.2.2.2.2.1 (fun r g1 g2 => h1 r (by omega)) (fun k => by rw [h3 4 (by omega)]) (fun r k g1 g2 => by rw [h2 r (by omega)]) (fun _ _ _ => rfl), hP.cg (fun r k h => by rw [h2 r (by omega)]) (fun _ _ _ => rfl), hL.cg (fun r k h => by rw [h2 r (by omega)]) (fun _ _ _ => rfl), fun r g1 g2 => ?_, fun r g1 => ?_, fun r k q hr hr4 hk g1 g2 => ?_⟩, fun r hr => ⟨h1 r (by omega), h2 r (by omega), fun _ => h3 r (by omega)⟩⟩
  · rw [h1 r (by simp [cc_Lv] at hr; omega)]; exact a1 r hr
  · rw [h3 r (by have := cc_Rf_lo hq; omega)]; exact a2 r k q hq
  · rw [h1 r (by omega)]; exact l1 r g1 g2
  · rw [h1 r (by omega)]; exact l2 r g1
  · rw [h1 r (by omega)] at hr
    rw [h3 r (by omega)] at hk
    exact l3 r k q hr hr4 hk g1 g2
theorem cc_I.cz {w : cb_W} {A : ca_A} {z : Int32} {j : Nat} (hC : cc_I w A z) (hI : ca_I A) : cc_I (cb_cz w j 64) (ca_ct A j) z := by
  have hm : ∀ r k, r ≠ 21 → (cb_cz w j 64).2.1 r k = w.2.1 r k := fun r k h => if_neg (fun q => h q.1)
  have ha : ∀ k i, k ≠ 10 → ca_ct A j k i = A k i := fun k i h => if_neg (fun q => h q.1)
  obtain ⟨hW, ⟨b1, b2, b3, b4⟩, hN, hK, hS, hE, hP, hL, l⟩ := hC
  refine ⟨hW, ⟨?_, fun k hk => ?_, fun k hk => ?_, fun k hk => ?_⟩, hN.cg (fun r k h => hm r k (by omega)) (fun k i h => ha k i (by omega)), hK.cg (fun r k h => hm r k (by omega)) (fun k i h => ha k i (by omega)), hS.cg hI.1.2.2.2.1 (fun _ _ _ => rfl) (fun _ _ _ => rfl) (fun r k g1 g2 => hm r k (by omega)) (fun k i h => ha k i (by omega)), hE.cg hI.1.2.2.2.2.1 (fun _ _ _ => rfl) (fun _ => rfl) (fun r k g1 g2 => hm r k (by omega)) (fun k i h => ha k i (by omega)), hP.cg (fun r k h => hm r k (by omega)) (fun k i h => ha k i (by omega)), hL.cg (fun r k h => hm r k (by omega)) (fun k i h => ha k i (by omega)), l⟩
  · rw [hm 20 0 (by decide), hm 20 1 (by decide), hm 20 5 (by decide), ha 0 0 (by decide), ha 0 1 (by decide), ha 0 12 (by decide)]
    exact b1
  · have o1 : ca_o (ca_ct A j) k ↔ ca_o A k := by
      unfold ca_o
      rw [ha 0 0 (by decide), ha 0 1 (by decide)]
    show (if 21 = 21 ∧ ca_in j k ∧ k < 64 then 0 else w.2.1 21 k) = _
    by_cases e : ca_in j k
    · rw [if_pos ⟨rfl, e, hk⟩, if_neg]
      · rfl
      · intro h
        have h2 : (if 10 = 10 ∧ ca_in j k then 1 else A 10 k) = 0 := h.2
        rw [if_pos ⟨rfl, e⟩] at h2
        cases h2
    · rw [if_neg (fun h => e h.2.1), b2 k hk]
      congr 1
      have e10 : ca_ct A j 10 k = A 10 k := if_neg (fun h => e h.2)
      by_cases e2 : ca_o A k ∧ A 10 k = 0
      · rw [if_pos e2, if_pos ⟨o1.mpr e2.1, by rw [e10]; exact e2.2⟩]
      · rw [if_neg e2, if_neg (fun h => e2 ⟨o1.mp h.1, by rw [← e10]; exact h.2⟩)]
  · rw [hm 22 k (by decide), ha 11 k (by decide)]; exact b3 k hk
  · rw [ha 0 12 (by decide)] at hk
    rw [hm 23 k (by decide), ha 12 k (by decide)]; exact b4 k hk
theorem k_cut0 (w : cb_W) (A : ca_A) (z : Int32) (hI : ca_I A) (hC : cc_I w A z) (ht4 : ∀ r, 40 ≤ r → r < 46 → w.1 r = false) (x : Int32) : cb_Con yX10_cut cX10_cut 3 (some .int) 3 66 1 4 cb_kpub [.inr (some 0), .inl x] w (cb_pi (fun y w' => y = sr_cut A x ∧ cc_I w' (sA_cut A x) z ∧ cb_M1 w w')) := by
  refine cb_con (by decide) (Nat.le_of_ble_eq_true rfl) (fun κ O Rt hnm => ?_)
  show cb_X κ w 0 0 0 [some (.inr (some 0)), some (.inl x), none] []
  refine cb_new (pc := 0) O 40 ct_0 cl_X10_120 in_X0 ini_X0 rfl dX10_cut_0 (by decide) (by rw [Rt.2.2]; rfl) rfl (Nat.le_of_ble_eq_true rfl) (Nat.le_of_ble_eq_true rfl) (ht4 40 (by decide) (by decide)) ?_
  refine cb_dup (pc := 3) O dX10_cut_3 ?_
  refine cb_iload_n (pc := 4) O dX10_cut_4 rfl ?_
  refine cb_cIv (pc := 5) O (c_X0_init (cb_nw1 w 40) x (by simp [cb_nw1])) my_X0_init mi_X0_init rfl ml_X10_122 dX10_cut_5 rfl rfl ⟨(Nat.le_of_ble_eq_true rfl), (Nat.le_of_ble_eq_true rfl)⟩ (Nat.le_of_ble_eq_true rfl) rfl ⟨(Nat.le_of_ble_eq_true rfl), (Nat.le_of_ble_eq_true rfl)⟩ (fun _ _ => rfl) (fun w_5 hp_5 => ?_)
  obtain ⟨u0, u1, u2, u3, hw1, hA⟩ := hp_5
  have hT := hC.tmp (w' := w_5) hI (fun r h => by rw [hw1]; simp only [cb_um, cb_nw1]; rw [if_neg (by omega)]) (fun r h => by rw [hw1]; simp only [cb_um, cb_nw1]; rw [cb_u2r (by omega), cb_u2r (by omega), cb_u2r (by omega), cb_u2r (by omega), if_neg (by omega)]) (fun r h => by rw [hw1]; simp only [cb_um, cb_nw1]; rw [if_neg (by omega)])
  have hC1 := hT.1
  have h40 : w_5.1 40 = true := by rw [hw1]; simp [cb_um, cb_nw1]
  have hA1 : (∀ j, j < 2147483648 → x = nI j → w_5.2.1 40 0 = nI (j / 512) ∧ w_5.2.1 40 1 = nI (j / 64 % 8) ∧ w_5.2.1 40 2 = nI (j / 8 % 8) ∧ w_5.2.1 40 3 = nI (j % 8)) ∧ (x.toInt < 0 → (w_5.2.1 40 0).toInt < 0) := by
    have p0 : w_5.2.1 40 0 = u0 := by rw [hw1]; simp [cb_um, cb_u2]
    have p1 : w_5.2.1 40 1 = u1 := by rw [hw1]; simp [cb_um, cb_u2]
    have p2 : w_5.2.1 40 2 = u2 := by rw [hw1]; simp [cb_um, cb_u2]
    have p3 : w_5.2.1 40 3 = u3 := by rw [hw1]; simp [cb_um, cb_u2]
    rw [p0, p1, p2, p3]
    exact hA
  refine cb_astore_n (pc := 8) O dX10_cut_8 (by decide) ?_
  dsimp only [List.set]
  refine cb_aload_n (pc := 9) O dX10_cut_9 rfl ?_
  refine cb_aload_n (pc := 10) O dX10_cut_10 rfl ?_
  refine cb_getR (pc := 11) O fl_X10_60 rfl rfl dX10_cut_11 (hC1.1.1 _ rfl) (hC1.1.2 _ _ _ rfl) ?_
  refine cb_getI (pc := 14) O fl_X10_125 rfl rfl dX10_cut_14 (hC1.1.1 _ rfl) ?_
  refine cb_topv _ hC1.2.1.1.1 ?_
  refine cb_aload_n (pc := 17) O dX10_cut_17 rfl ?_
  refine cb_getR (pc := 18) O fl_X10_60 rfl rfl dX10_cut_18 (hC1.1.1 _ rfl) (hC1.1.2 _ _ _ rfl) ?_
  refine cb_getI (pc := 21) O fl_X10_128 rfl rfl dX10_cut_21 (hC1.1.1 _ rfl) ?_
  refine cb_topv _ hC1.2.1.1.2.1 ?_
  refine cb_cVp (pc := 24) O (c_X0_liesOn w_5 A hI x h40 hA1) my_X0_liesOn mi_X0_liesOn mx_X0_liesOn ml_X10_131 dX10_cut_24 rfl ct_0 rfl rfl rfl ⟨(Nat.le_of_ble_eq_true rfl), (Nat.le_of_ble_eq_true rfl)⟩ (Nat.le_of_ble_eq_true rfl) rfl ⟨(Nat.le_of_ble_eq_true rfl), (Nat.le_of_ble_eq_true rfl)⟩ h40 ?_
  refine cb_ifp_ne (pc := 27) O 32 dX10_cut_27 (by decide) (fun c_27 => ?_) (fun c_27 => ?_)
  · skip
    have hv := c_27
    have hbx := fb_rng x
    obtain ⟨j, hj, e⟩ : ∃ j : Nat, j < 2147483648 ∧ x = nI j := ⟨x.toInt.toNat, by omega, by rw [ci_eq, ci_n (by have := hv.1; omega)]; have := hv.1; omega⟩
    subst e
    have hrv : ca_rv A j := by
      have := hv.2
      rw [ci_tn hj] at this
      exact this
    refine cb_aload_n (pc := 32) O dX10_cut_32 rfl ?_
    refine cb_getR (pc := 33) O fl_X10_60 rfl rfl dX10_cut_33 (hC1.1.1 _ rfl) (hC1.1.2 _ _ _ rfl) ?_
    refine cb_aload_n (pc := 36) O dX10_cut_36 rfl ?_
    refine cb_cVp (pc := 37) O (c_X1_standsInOutPiece w_5 A z hI hC1 j h40 (hA1.1 j hj rfl) hj hrv) my_X1_standsInOutPiece mi_X1_standsInOutPiece mx_X1_standsInOutPiece ml_X10_135 dX10_cut_37 rfl ct_1 rfl rfl rfl ⟨(Nat.le_of_ble_eq_true rfl), (Nat.le_of_ble_eq_true rfl)⟩ (Nat.le_of_ble_eq_true rfl) rfl ⟨(Nat.le_of_ble_eq_true rfl), (Nat.le_of_ble_eq_true rfl)⟩ (hC1.1.1 _ rfl) ?_
    refine cb_if_eq (pc := 40) O 46 dX10_cut_40 (by decide) (fun c_40 => ?_) (fun c_40 => ?_)
    · skip
      refine cb_aload_n (pc := 46) O dX10_cut_46 rfl ?_
      refine cb_getR (pc := 47) O fl_X10_60 rfl rfl dX10_cut_47 (hC1.1.1 _ rfl) (hC1.1.2 _ _ _ rfl) ?_
      refine cb_aload_n (pc := 50) O dX10_cut_50 rfl ?_
      refine cb_cVi (pc := 51) O (c_X1_cutAway w_5 A z hI hC1 j h40 (hA1.1 j hj rfl) hj hrv) my_X1_cutAway mi_X1_cutAway mx_X1_cutAway ml_X10_139 dX10_cut_51 rfl ct_1 rfl rfl rfl ⟨(Nat.le_of_ble_eq_true rfl), (Nat.le_of_ble_eq_true rfl)⟩ (Nat.le_of_ble_eq_true rfl) rfl ⟨(Nat.le_of_ble_eq_true rfl), (Nat.le_of_ble_eq_true rfl)⟩ (fun _ _ => rfl) (hC1.1.1 _ rfl) (fun x_51 w_51 hp_51 => ?_)
      obtain ⟨ex, ew⟩ := hp_51
      rw [ew, ex]
      exact cb_iret (pc := 54) O Rt rfl (Nat.le_of_ble_eq_true rfl) (Nat.le_of_ble_eq_true rfl) dX10_cut_54 (by
        have hbd : ca_bd A j := Classical.byContradiction fun h => by rw [if_neg h] at c_40; exact absurd c_40 (by decide)
        refine ⟨by rw [sr_cut, if_pos hv, ci_tn hj, if_pos hbd], ?_, hT.2.trans (fun r hr => ⟨rfl, ?_, fun _ => rfl⟩)⟩
        · rw [sA_cut, if_pos ⟨hv, by rw [ci_tn hj]; exact hbd⟩, ci_tn hj]
          exact hC1.cz hI
        · funext k
          show (if r = 21 ∧ _ then _ else _) = _
          rw [if_neg (fun h => by have := h.1; omega)])
    · skip
      refine cb_bipush (pc := 43) (v := (-3)) O dX10_cut_43 (by decide) ?_
      exact cb_iret (pc := 45) O Rt rfl (Nat.le_of_ble_eq_true rfl) (Nat.le_of_ble_eq_true rfl) dX10_cut_45 (by
        have hnb : ¬ ca_bd A j := fun h => c_40 (by rw [if_pos h])
        refine ⟨by rw [sr_cut, if_pos hv, ci_tn hj, if_neg hnb], ?_, hT.2⟩
        rw [sA_cut, if_neg (fun h => hnb (by have := h.2; rw [ci_tn hj] at this; exact this))]
        exact hC1)
  · skip
    refine cb_iconst (pc := 30) (v := (-1)) O dX10_cut_30 (by decide) ?_
    exact cb_iret (pc := 31) O Rt rfl (Nat.le_of_ble_eq_true rfl) (Nat.le_of_ble_eq_true rfl) dX10_cut_31 (by
      exact ⟨by rw [sr_cut, if_neg c_27], by rw [sA_cut, if_neg (fun h => c_27 h.1)]; exact hC1, hT.2⟩)

theorem k_cut (w : cb_W) (A : ca_A) (z : Int32) (hI : ca_I A) (hC : cc_I w A z) (x : Int32) : cb_Con yX10_cut cX10_cut 3 (some .int) 3 66 1 4 cb_kpub [.inr (some 0), .inl x] w (cb_pi (fun y w' => y = sr_cut A x ∧ cc_I w' (sA_cut A x) z ∧ cb_M1 w w')) := cb_pub hC (k_cut0 (cb_dp w) A z hI (hC.dp hI) (cb_dpL w) x)
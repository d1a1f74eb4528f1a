theorem c_X5_slips (w : cb_W) (A : ca_A) (z : Int32) (hI : ca_I A) (hC : cc_I w A z)  : cb_Con yX5_slips cX5_slips 1 (some .boolean) 0 0 0 0 (fun _ => true) [.inr (some 2)] w (cb_pi (fun x w' => x = (if poff A (pz z) then 1 else 0) ∧ w' = cb_um w 2 0 (pz z))) := by
  refine cb_con (by decide) (Nat.le_of_ble_eq_true rfl) (fun κ O Rt hnm => ?_)
  show cb_X κ w 0 0 0 [some (.inr (some 2))] []
  refine cb_aload_n (pc := 0) O dX5_slips_0 rfl ?_
  refine cb_aload_n (pc := 1) O dX5_slips_1 rfl ?_
  refine cb_getI (pc := 2) O fl_X5_7 rfl rfl dX5_slips_2 (by first | exact hC.1.1 _ rfl | (simp only [cb_um]; exact hC.1.1 _ rfl)) ?_
  refine cb_ldc (pc := 5) O dX5_slips_5 kc_X5_16 ?_
  refine cb_imul (pc := 7) O dX5_slips_7 ?_
  refine cb_sipush (pc := 8) (v := 12345) O dX5_slips_8 (by decide) ?_
  refine cb_iadd (pc := 11) O dX5_slips_11 ?_
  refine cb_topv (pz z) (by rw [hC.2.2.1.2.2.2.1]; rfl) ?_
  refine cb_putIc (pc := 12) O fl_X5_7 (Or.inl rfl) rfl rfl dX5_slips_12 rfl rfl (by first | exact hC.1.1 _ rfl | (simp only [cb_um]; exact hC.1.1 _ rfl)) ?_
  refine cb_aload_n (pc := 15) O dX5_slips_15 rfl ?_
  refine cb_getI (pc := 16) O fl_X5_7 rfl rfl dX5_slips_16 (by first | exact hC.1.1 _ rfl | (simp only [cb_um]; exact hC.1.1 _ rfl)) ?_
  refine cb_topv (pz z) (by show cb_u2 w.2.1 2 0 (pz z) 2 0 = _; rw [cb_u2s]) ?_
  refine cb_bipush (pc := 19) (v := 8) O dX5_slips_19 (by decide) ?_
  refine cb_iushr (pc := 21) O dX5_slips_21 ?_
  refine cb_topv (pu (pz z)) rfl ?_
  refine cb_sipush (pc := 22) (v := 1000) O dX5_slips_22 (by decide) ?_
  refine cb_irem (pc := 25) O dX5_slips_25 (by decide) ?_
  refine cb_aload_n (pc := 26) O dX5_slips_26 rfl ?_
  refine cb_getI (pc := 27) O fl_X5_13 rfl rfl dX5_slips_27 (by first | exact hC.1.1 _ rfl | (simp only [cb_um]; exact hC.1.1 _ rfl)) ?_
  refine cb_topv (nI (A 0 6)) (by show cb_u2 w.2.1 2 0 (pz z) 2 1 = _; rw [cb_u2n (by omega)]; exact hC.2.2.1.2.2.2.2) ?_
  refine cb_icmp_ge (pc := 30) O 37 dX5_slips_30 (by decide) (fun c_30 => ?_) (fun c_30 => ?_)
  · skip
    refine cb_iconst (pc := 37) (v := 0) O dX5_slips_37 (by decide) ?_
    exact cb_iret (pc := 38) O Rt rfl (Nat.le_of_ble_eq_true rfl) (Nat.le_of_ble_eq_true rfl) dX5_slips_38 (by
      refine ⟨?_, rfl⟩
      first
      | exact (if_neg (fun h => h c_30)).symm
      | exact (if_pos c_30).symm)
  · skip
    refine cb_iconst (pc := 33) (v := 1) O dX5_slips_33 (by decide) ?_
    refine cb_goto (pc := 34) O 38 dX5_slips_34 (by decide) ?_
    exact cb_iret (pc := 38) O Rt rfl (Nat.le_of_ble_eq_true rfl) (Nat.le_of_ble_eq_true rfl) dX5_slips_38 (by
      refine ⟨?_, rfl⟩
      first
      | exact (if_neg (fun h => h c_30)).symm
      | exact (if_pos c_30).symm)

theorem cc_I.z9 {w : cb_W} {A : ca_A} {z v : Int32} (hC : cc_I w A z) (hI : ca_I A) : cc_I (cb_um w 2 0 v) A v := ⟨hC.1, hC.2.1.cg (fun r k h => by first | rfl | (simp only [cb_um, cb_ur]; repeat rw [cb_u2n (by omega)])) (fun k i h => by first | rfl | (repeat rw [cb_u2n (by omega)])), hC.2.2.1.zz, hC.2.2.2.1.cg (fun r k h => by first | rfl | (simp only [cb_um, cb_ur]; repeat rw [cb_u2n (by omega)])) (fun k i h => by first | rfl | (repeat rw [cb_u2n (by omega)])), hC.2.2.2.2.1.cg hI.1.2.2.2.1 (fun r h1 h2 => rfl) (fun r k h => by first | rfl | (simp only [cb_um, cb_ur]; repeat rw [cb_u2n (by omega)])) (fun r k h1 h2 => by first | rfl | (simp only [cb_um, cb_ur]; repeat rw [cb_u2n (by omega)])) (fun k i h => by first | rfl | (repeat rw [cb_u2n (by omega)])), hC.2.2.2.2.2.1.cg hI.1.2.2.2.2.1 (fun r h1 h2 => rfl) (fun k => by first | rfl | (simp only [cb_ur]; repeat rw [cb_u2n (by omega)])) (fun r k h1 h2 => by first | rfl | (simp only [cb_um, cb_ur]; repeat rw [cb_u2n (by omega)])) (fun k i h => by first | rfl | (repeat rw [cb_u2n (by omega)])), hC.2.2.2.2.2.2.1.cg (fun r k h => by first | rfl | (simp only [cb_um, cb_ur]; repeat rw [cb_u2n (by omega)])) (fun k i h => by first | rfl | (repeat rw [cb_u2n (by omega)])), hC.2.2.2.2.2.2.2.1.cg (fun r k h => by first | rfl | (simp only [cb_um, cb_ur]; repeat rw [cb_u2n (by omega)])) (fun k i h => by first | rfl | (repeat rw [cb_u2n (by omega)])), hC.2.2.2.2.2.2.2.2.1, hC.2.2.2.2.2.2.2.2.2.1, hC.2.2.2.2.2.2.2.2.2.2⟩
theorem cc_I.sp {w : cb_W} {A : ca_A} {z : Int32} {s : Nat} (hC : cc_I w A z) (hI : ca_I A) (hs : s < A 0 20) : cc_I (cb_um w (200 + 6 * s) 5 0) (cb_u2 A 20 s 1) z := by
  have l20 := hI.1.2.2.2.1
  have h9 := (hC.2.2.2.2.1.1 s hs).2.2.2.2 0 (by omega)
  refine cc_I.sh s 0 hC hI hs (by omega) rfl rfl (fun r i h => ?_) (fun r i h1 h2 h3 => ?_) (fun q i h1 h2 => ?_) ?_ ?_
  · show cb_u2 w.2.1 (200 + 6 * s) 5 0 r i = _
    rw [cb_u2n (by omega)]
  · show cb_u2 w.2.1 (200 + 6 * s) 5 0 r i = _
    rw [cb_u2n (by omega)]
  · rw [cb_u2n (by omega)]
  · rw [cb_u2s]
    show cb_u2 w.2.1 (200 + 6 * s) 5 0 (200 + 6 * s) 5 = _
    rw [cb_u2s]
    rfl
  · simp only [cb_um]
    rw [cb_u2n (by omega), cb_u2n (by omega), cb_u2n (by omega), cb_u2n (by omega), cb_u2n (by omega), cb_u2n (by omega), cb_u2n (by omega), cb_u2n (by omega), cb_u2n (by omega), cb_u2n (by omega)]
    exact h9
theorem c_X10_pullSheets (w : cb_W) (A : ca_A) (z : Int32) (hI : ca_I A) (hC : cc_I w A z) (a b : Nat) (hab : a ≤ b) (hb : b < A 0 20) (rl : Nat → Nat) (hrl : ∀ c, rl c < 10) (hroll : ∀ c, c < 8 → w.2.1 5 c = nI (rl c)) (h17 : ∀ i, A 17 i ≤ 200) : cb_Con yX10_pullSheets cX10_pullSheets 6 (some .int) 3 64 0 0 (fun _ => true) [.inr (some 0), .inl (nI a), .inl (nI b)] w (cb_pi (fun x w' => x = nI (pst A z rl a (b + 1 - a)).2.2 ∧ cc_I w' (pst A z rl a (b + 1 - a)).1 (pst A z rl a (b + 1 - a)).2.1 ∧ cb_M1 w w')) := by
  have l := hI.1
  refine cb_con (by decide) (Nat.le_of_ble_eq_true rfl) (fun κ O Rt hnm => ?_)
  show cb_X κ w 0 0 0 [some (.inr (some 0)), some (.inl (nI a)), some (.inl (nI b)), none, none, none] []
  refine cb_iconst (pc := 0) (v := 0) O dX10_pullSheets_0 (by decide) ?_
  refine cb_istore_n (pc := 1) O dX10_pullSheets_1 (by decide) ?_
  dsimp only [List.set]
  refine cb_iload_n (pc := 2) O dX10_pullSheets_2 rfl ?_
  refine cb_istore (pc := 3) O dX10_pullSheets_3 (by decide) ?_
  dsimp only [List.set]
  have L_5 : ∀ (n : Nat) (j : Nat) (t : pT) (w9 : cb_W) (x5 : Option cb_V), a + j ≤ b + 1 → t = pst A z rl a j → cc_I w9 t.1 t.2.1 → w9.2.1 5 = w.2.1 5 → cb_M1 w w9 → b + 2 ≤ a + j + n → cb_X κ w9 0 0 5 [some (.inr (some 0)), some (.inl (nI a)), some (.inl (nI b)), some (.inl (nI t.2.2)), some (.inl (nI (a + j))), x5] [] := by
    intro n
    induction n with
    | zero =>
      intro j t w9 x5 hj ht hC9 h59 hM9 hn
      exact absurd hn (by omega)
    | succ n ih_5 =>
      intro j t w9 x5 hj ht hC9 h59 hM9 hn
      refine cb_iload (pc := 5) O dX10_pullSheets_5 rfl ?_
      refine cb_iload_n (pc := 7) O dX10_pullSheets_7 rfl ?_
      refine cb_icmp_gt (pc := 8) O 81 dX10_pullSheets_8 (by decide) (fun c_8 => ?_) (fun c_8 => ?_)
      · skip
        rw [nI_ltI (by omega) (by omega)] at c_8
        refine cb_iload_n (pc := 81) O dX10_pullSheets_81 rfl ?_
        exact cb_iret (pc := 82) O Rt rfl (Nat.le_of_ble_eq_true rfl) (Nat.le_of_ble_eq_true rfl) dX10_pullSheets_82 (by
          have ej : b + 1 - a = j := by omega
          rw [ej, ← ht]
          exact ⟨rfl, hC9, hM9⟩)
      · skip
        rw [nI_ltI (by omega) (by omega)] at c_8
        have hpi := pst_I hI h17 hrl (z := z) (a := a) j (by omega)
        rw [← ht] at hpi
        have hIt := hpi.2.2.1
        have e20 : t.1 0 20 = A 0 20 := hpi.1 0 20 (by omega)
        have hs : a + j < t.1 0 20 := by omega
        have hgs := hC9.2.2.2.2.1.g hs
        obtain ⟨x1, x2, x3, x4, x5⟩ := hC9.2.2.2.2.1.1 _ hs
        have l1 := hIt.2.2.2.2.1.2.2.2.2 (a + j)
        have hps : pst A z rl a (j + 1) = ps rl t (a + j) := by rw [ht]; rfl
        refine cb_aload_n (pc := 11) O dX10_pullSheets_11 rfl ?_
        refine cb_getR (pc := 12) O fl_X10_25 rfl rfl dX10_pullSheets_12 (hC9.1.1 _ rfl) (hC9.1.2 _ _ _ rfl) ?_
        refine cb_iload (pc := 15) O dX10_pullSheets_15 rfl ?_
        refine cb_aald (pc := 17) O (a + j) rfl (by decide) (by decide) dX10_pullSheets_17 (by decide) (hC9.1.1 _ rfl) rfl (by omega) hgs.2.1 ?_
        refine cb_astore (pc := 18) O dX10_pullSheets_18 (by decide) ?_
        dsimp only [List.set]
        refine cb_aload (pc := 20) O dX10_pullSheets_20 rfl ?_
        refine cb_getI (pc := 22) O fl_X10_218 rfl (sh_s0 (by omega)) dX10_pullSheets_22 hgs.1.1 ?_
        refine cb_topv _ x4 ?_
        refine cb_if_ne (pc := 25) O 31 dX10_pullSheets_25 (by decide) (fun c_25 => ?_) (fun c_25 => ?_)
        · skip
          have h0 : t.1 20 (a + j) = 0 := by
            rcases (show t.1 20 (a + j) = 0 ∨ t.1 20 (a + j) = 1 by omega) with e | e
            · exact e
            · rw [e] at c_25; exact absurd rfl c_25
          refine cb_aload_n (pc := 31) O dX10_pullSheets_31 rfl ?_
          refine cb_getR (pc := 32) O fl_X10_19 rfl rfl dX10_pullSheets_32 (hC9.1.1 _ rfl) (hC9.1.2 _ _ _ rfl) ?_
          refine cb_cVi (pc := 35) O (c_X5_slips w9 t.1 t.2.1 hIt hC9) my_X5_slips mi_X5_slips mx_X5_slips ml_X10_316 dX10_pullSheets_35 rfl ct_5 rfl rfl rfl ⟨(Nat.le_of_ble_eq_true rfl), (Nat.le_of_ble_eq_true rfl)⟩ (Nat.le_of_ble_eq_true rfl) rfl ⟨(Nat.le_of_ble_eq_true rfl), (Nat.le_of_ble_eq_true rfl)⟩ (fun _ _ => rfl) (hC9.1.1 _ rfl) (fun x_35 w_35 hp_35 => ?_)
          obtain ⟨rfl, rfl⟩ := hp_35
          have hC2 := hC9.z9 hIt (v := pz t.2.1)
          refine cb_ifp_eq (pc := 38) O 50 dX10_pullSheets_38 (by decide) (fun c_38 => ?_) (fun c_38 => ?_)
          · skip
            refine cb_aload_n (pc := 50) O dX10_pullSheets_50 rfl ?_
            refine cb_aload (pc := 51) O dX10_pullSheets_51 rfl ?_
            refine cb_cVv (pc := 53) O (c_X10_layRoll (cb_um w9 2 0 (pz t.2.1)) t.1 (pz t.2.1) hIt hC2 (a + j) hs h0 (fun k hk => by rw [(hpi.2.1 (a + j) (by omega)).1 17 k (by omega) (by omega)]; exact h17 _) rl hrl (fun c hc => by show cb_u2 w9.2.1 2 0 (pz t.2.1) 5 c = _; rw [cb_u2n (by omega), h59]; exact hroll c hc)) my_X10_layRoll mi_X10_layRoll mx_X10_layRoll ml_X10_319 dX10_pullSheets_53 rfl ct_10 rfl rfl rfl ⟨(Nat.le_of_ble_eq_true rfl), (Nat.le_of_ble_eq_true rfl)⟩ (Nat.le_of_ble_eq_true rfl) rfl ⟨(Nat.le_of_ble_eq_true rfl), (Nat.le_of_ble_eq_true rfl)⟩ (fun _ _ => rfl) (hC2.1.1 _ rfl) (fun w_53 hp_53 => ?_)
            obtain ⟨hCn, h5m, hMm⟩ := hp_53
            obtain ⟨q9, hq9⟩ : ∃ q : Nat, q = sp t.1 rl (a + j) 64 := ⟨_, rfl⟩
            have hq1 := sp_1 t.1 rl (a + j) 64
            have hnew : (cb_u2 (ly t.1 rl (a + j) 64) 20 (a + j) (sp t.1 rl (a + j) 64), pz t.2.1, t.2.2 + q9) = pst A z rl a (j + 1) := by
              rw [hq9, hps, ps, if_pos h0, if_neg c_38]
            have h5n : w_53.2.1 5 = w.2.1 5 := by
              rw [h5m, ← h59]
              funext i
              show cb_u2 w9.2.1 2 0 (pz t.2.1) 5 i = _
              rw [cb_u2n (by omega)]
            have hMn : cb_M1 w w_53 := (hM9.um (by omega)).trans hMm
            have hsn : a + j < cb_u2 (ly t.1 rl (a + j) 64) 20 (a + j) (sp t.1 rl (a + j) 64) 0 20 := by
              rw [cb_u2n (by omega), ly_o _ _ _ 64 (by omega)]
              exact hs
            have hgn : w_53.2.1 (200 + 6 * (a + j)) 5 = nI (1 - q9) := by
              rw [hq9]
              have := (hCn.2.2.2.2.1.1 _ hsn).2.2.2.1
              rw [cb_u2s] at this
              exact this
            have hvn : w_53.1 (200 + 6 * (a + j)) = true := (hCn.2.2.2.2.1.g hsn).1.1
            refine cb_iload_n (pc := 56) O dX10_pullSheets_56 rfl ?_
            refine cb_aload (pc := 57) O dX10_pullSheets_57 rfl ?_
            refine cb_getI (pc := 59) O fl_X10_218 rfl (sh_s0 (by omega)) dX10_pullSheets_59 hvn ?_
            refine cb_topv _ hgn ?_
            refine cb_if_ne (pc := 62) O 69 dX10_pullSheets_62 (by decide) (fun c_62 => ?_) (fun c_62 => ?_)
            · skip
              refine cb_iconst (pc := 69) (v := 0) O dX10_pullSheets_69 (by decide) ?_
              refine cb_cSp (pc := 70) O (c_X10_answer _ _) my_X10_answer mt_X10_answer ml_X10_185 dX10_pullSheets_70 rfl rfl ⟨(Nat.le_of_ble_eq_true rfl), (Nat.le_of_ble_eq_true rfl)⟩ (Nat.le_of_ble_eq_true rfl) rfl ⟨(Nat.le_of_ble_eq_true rfl), (Nat.le_of_ble_eq_true rfl)⟩ ?_
              refine cb_iadd (pc := 73) O dX10_pullSheets_73 ?_
              refine cb_topv (nI (t.2.2 + q9)) (by
                rw [← nI_add]
                congr 1
                rcases (show q9 = 0 ∨ q9 = 1 by omega) with e | e
                · rw [e] at c_62 ⊢
                  first | rfl | (exfalso; exact absurd c_62 (by decide)) | (exfalso; exact c_62 rfl)
                · rw [e] at c_62 ⊢
                  first | rfl | (exfalso; exact absurd c_62 (by decide)) | (exfalso; exact c_62 rfl)) ?_
              refine cb_istore_n (pc := 74) O dX10_pullSheets_74 (by decide) ?_
              dsimp only [List.set]
              refine cb_iinc (pc := 75) O (nI (a + (j + 1))) dX10_pullSheets_75 rfl (by decide) (by rw [ci_inc]; rfl) ?_
              dsimp only [List.set]
              refine cb_goto (pc := 78) O 5 dX10_pullSheets_78 (by decide) ?_
              first
              | exact ih_5 (j + 1) t w9 _ (by omega) hkeep hC9 h59 hM9 (by omega)
              | exact ih_5 (j + 1) _ _ _ (by omega) hnew hCn h5n hMn (by omega)
            · skip
              refine cb_iconst (pc := 65) (v := 1) O dX10_pullSheets_65 (by decide) ?_
              refine cb_goto (pc := 66) O 70 dX10_pullSheets_66 (by decide) ?_
              refine cb_cSp (pc := 70) O (c_X10_answer _ _) my_X10_answer mt_X10_answer ml_X10_185 dX10_pullSheets_70 rfl rfl ⟨(Nat.le_of_ble_eq_true rfl), (Nat.le_of_ble_eq_true rfl)⟩ (Nat.le_of_ble_eq_true rfl) rfl ⟨(Nat.le_of_ble_eq_true rfl), (Nat.le_of_ble_eq_true rfl)⟩ ?_
              refine cb_iadd (pc := 73) O dX10_pullSheets_73 ?_
              refine cb_topv (nI (t.2.2 + q9)) (by
                rw [← nI_add]
                congr 1
                rcases (show q9 = 0 ∨ q9 = 1 by omega) with e | e
                · rw [e] at c_62 ⊢
                  first | rfl | (exfalso; exact absurd c_62 (by decide)) | (exfalso; exact c_62 rfl)
                · rw [e] at c_62 ⊢
                  first | rfl | (exfalso; exact absurd c_62 (by decide)) | (exfalso; exact c_62 rfl)) ?_
              refine cb_istore_n (pc := 74) O dX10_pullSheets_74 (by decide) ?_
              dsimp only [List.set]
              refine cb_iinc (pc := 75) O (nI (a + (j + 1))) dX10_pullSheets_75 rfl (by decide) (by rw [ci_inc]; rfl) ?_
              dsimp only [List.set]
              refine cb_goto (pc := 78) O 5 dX10_pullSheets_78 (by decide) ?_
              first
              | exact ih_5 (j + 1) t w9 _ (by omega) hkeep hC9 h59 hM9 (by omega)
              | exact ih_5 (j + 1) _ _ _ (by omega) hnew hCn h5n hMn (by omega)
          · skip
            have hCn := hC2.sp hIt hs
            refine cb_aload (pc := 41) O dX10_pullSheets_41 rfl ?_
            refine cb_iconst (pc := 43) (v := 0) O dX10_pullSheets_43 (by decide) ?_
            refine cb_putIc (pc := 44) O fl_X10_218 (Or.inl rfl) rfl (sh_s0 (by omega)) dX10_pullSheets_44 rfl rfl hgs.1.1 ?_
            obtain ⟨q9, hq9⟩ : ∃ q : Nat, q = 1 := ⟨_, rfl⟩
            have hnew : (cb_u2 t.1 20 (a + j) 1, pz t.2.1, t.2.2 + q9) = pst A z rl a (j + 1) := by
              rw [hq9, hps, ps, if_pos h0, if_pos c_38]
            have h5n : (cb_um (cb_um w9 2 0 (pz t.2.1)) (200 + 6 * (a + j)) 5 0).2.1 5 = w.2.1 5 := by
              rw [← h59]
              funext i
              simp only [cb_um]
              rw [cb_u2n (by omega), cb_u2n (by omega)]
            have hMn : cb_M1 w (cb_um (cb_um w9 2 0 (pz t.2.1)) (200 + 6 * (a + j)) 5 0) := (hM9.um (by omega)).um (by omega)
            have hgn : (cb_um (cb_um w9 2 0 (pz t.2.1)) (200 + 6 * (a + j)) 5 0).2.1 (200 + 6 * (a + j)) 5 = nI (1 - q9) := by
              rw [hq9]
              simp only [cb_um]
              rw [cb_u2s]
              rfl
            have hvn : (cb_um (cb_um w9 2 0 (pz t.2.1)) (200 + 6 * (a + j)) 5 0).1 (200 + 6 * (a + j)) = true := hgs.1.1
            refine cb_goto (pc := 47) O 56 dX10_pullSheets_47 (by decide) ?_
            refine cb_iload_n (pc := 56) O dX10_pullSheets_56 rfl ?_
            refine cb_aload (pc := 57) O dX10_pullSheets_57 rfl ?_
            refine cb_getI (pc := 59) O fl_X10_218 rfl (sh_s0 (by omega)) dX10_pullSheets_59 hvn ?_
            refine cb_topv _ hgn ?_
            refine cb_if_ne (pc := 62) O 69 dX10_pullSheets_62 (by decide) (fun c_62 => ?_) (fun c_62 => ?_)
            · skip
              refine cb_iconst (pc := 69) (v := 0) O dX10_pullSheets_69 (by decide) ?_
              refine cb_cSp (pc := 70) O (c_X10_answer _ _) my_X10_answer mt_X10_answer ml_X10_185 dX10_pullSheets_70 rfl rfl ⟨(Nat.le_of_ble_eq_true rfl), (Nat.le_of_ble_eq_true rfl)⟩ (Nat.le_of_ble_eq_true rfl) rfl ⟨(Nat.le_of_ble_eq_true rfl), (Nat.le_of_ble_eq_true rfl)⟩ ?_
              refine cb_iadd (pc := 73) O dX10_pullSheets_73 ?_
              refine cb_topv (nI (t.2.2 + q9)) (by
                rw [← nI_add]
                congr 1
                rcases (show q9 = 0 ∨ q9 = 1 by omega) with e | e
                · rw [e] at c_62 ⊢
                  first | rfl | (exfalso; exact absurd c_62 (by decide)) | (exfalso; exact c_62 rfl)
                · rw [e] at c_62 ⊢
                  first | rfl | (exfalso; exact absurd c_62 (by decide)) | (exfalso; exact c_62 rfl)) ?_
              refine cb_istore_n (pc := 74) O dX10_pullSheets_74 (by decide) ?_
              dsimp only [List.set]
              refine cb_iinc (pc := 75) O (nI (a + (j + 1))) dX10_pullSheets_75 rfl (by decide) (by rw [ci_inc]; rfl) ?_
              dsimp only [List.set]
              refine cb_goto (pc := 78) O 5 dX10_pullSheets_78 (by decide) ?_
              first
              | exact ih_5 (j + 1) t w9 _ (by omega) hkeep hC9 h59 hM9 (by omega)
              | exact ih_5 (j + 1) _ _ _ (by omega) hnew hCn h5n hMn (by omega)
            · skip
              refine cb_iconst (pc := 65) (v := 1) O dX10_pullSheets_65 (by decide) ?_
              refine cb_goto (pc := 66) O 70 dX10_pullSheets_66 (by decide) ?_
              refine cb_cSp (pc := 70) O (c_X10_answer _ _) my_X10_answer mt_X10_answer ml_X10_185 dX10_pullSheets_70 rfl rfl ⟨(Nat.le_of_ble_eq_true rfl), (Nat.le_of_ble_eq_true rfl)⟩ (Nat.le_of_ble_eq_true rfl) rfl ⟨(Nat.le_of_ble_eq_true rfl), (Nat.le_of_ble_eq_true rfl)⟩ ?_
              refine cb_iadd (pc := 73) O dX10_pullSheets_73 ?_
              refine cb_topv (nI (t.2.2 + q9)) (by
                rw [← nI_add]
                congr 1
                rcases (show q9 = 0 ∨ q9 = 1 by omega) with e | e
                · rw [e] at c_62 ⊢
                  first | rfl | (exfalso; exact absurd c_62 (by decide)) | (exfalso; exact c_62 rfl)
                · rw [e] at c_62 ⊢
                  first | rfl | (exfalso; exact absurd c_62 (by decide)) | (exfalso; exact c_62 rfl)) ?_
              refine cb_istore_n (pc := 74) O dX10_pullSheets_74 (by decide) ?_
              dsimp only [List.set]
              refine cb_iinc (pc := 75) O (nI (a + (j + 1))) dX10_pullSheets_75 rfl (by decide) (by rw [ci_inc]; rfl) ?_
              dsimp only [List.set]
              refine cb_goto (pc := 78) O 5 dX10_pullSheets_78 (by decide) ?_
              first
              | exact ih_5 (j + 1) t w9 _ (by omega) hkeep hC9 h59 hM9 (by omega)
              | exact ih_5 (j + 1) _ _ _ (by omega) hnew hCn h5n hMn (by omega)
        · skip
          have hkeep : t = pst A z rl a (j + 1) := by
            rw [hps, ps, if_neg (fun e => by rw [e] at c_25; exact absurd c_25 (by decide))]
          refine cb_goto (pc := 28) O 75 dX10_pullSheets_28 (by decide) ?_
          refine cb_iinc (pc := 75) O (nI (a + (j + 1))) dX10_pullSheets_75 rfl (by decide) (by rw [ci_inc]; rfl) ?_
          dsimp only [List.set]
          refine cb_goto (pc := 78) O 5 dX10_pullSheets_78 (by decide) ?_
          first
          | exact ih_5 (j + 1) t w9 _ (by omega) hkeep hC9 h59 hM9 (by omega)
          | exact ih_5 (j + 1) _ _ _ (by omega) hnew hCn h5n hMn (by omega)
  exact L_5 (b + 2) 0 (A, z, 0) w none (by omega) rfl hC rfl cb_M1.rfl' (by omega)

theorem c_X2_init (w : cb_W) (r : Nat) (hs : cb_sh r = (0, 2)) (hr : w.1 r = true) (a b c d e : Int32) : cb_Con yX2_init cX2_init 6 none 1 20 0 0 (fun _ => true) [.inr (some r), .inl a, .inl b, .inl c, .inl d, .inl e] w (cb_pv (fun w' => w' = cb_um (cb_um (cb_um (cb_um (cb_um w r 0 a) r 1 b) r 2 c) r 3 d) r 4 e)) := by
  refine cb_con (by decide) (Nat.le_of_ble_eq_true rfl) (fun κ O Rt hnm => ?_)
  show cb_X κ w 0 0 0 [some (.inr (some r)), some (.inl a), some (.inl b), some (.inl c), some (.inl d), some (.inl e)] []
  refine cb_aload_n (pc := 0) O dX2_init_0 rfl ?_
  refine cb_objInit (pc := 1) O dX2_init_1 oi_X2_3 oi_inst oi_code ⟨(Nat.le_of_ble_eq_true rfl), (Nat.le_of_ble_eq_true rfl)⟩ (Nat.le_of_ble_eq_true rfl) ?_
  refine cb_aload_n (pc := 4) O dX2_init_4 rfl ?_
  refine cb_iload_n (pc := 5) O dX2_init_5 rfl ?_
  refine cb_putIc (pc := 6) O fl_X2_9 (Or.inr ⟨rfl, hnm, rfl, fm_X2_9⟩) rfl hs dX2_init_6 rfl rfl hr ?_
  refine cb_aload_n (pc := 9) O dX2_init_9 rfl ?_
  refine cb_iload_n (pc := 10) O dX2_init_10 rfl ?_
  refine cb_putIc (pc := 11) O fl_X2_15 (Or.inr ⟨rfl, hnm, rfl, fm_X2_15⟩) rfl hs dX2_init_11 rfl rfl hr ?_
  refine cb_aload_n (pc := 14) O dX2_init_14 rfl ?_
  refine cb_iload_n (pc := 15) O dX2_init_15 rfl ?_
  refine cb_putIc (pc := 16) O fl_X2_18 (Or.inr ⟨rfl, hnm, rfl, fm_X2_18⟩) rfl hs dX2_init_16 rfl rfl hr ?_
  refine cb_aload_n (pc := 19) O dX2_init_19 rfl ?_
  refine cb_iload (pc := 20) O dX2_init_20 rfl ?_
  refine cb_putIc (pc := 22) O fl_X2_21 (Or.inr ⟨rfl, hnm, rfl, fm_X2_21⟩) rfl hs dX2_init_22 rfl rfl hr ?_
  refine cb_aload_n (pc := 25) O dX2_init_25 rfl ?_
  refine cb_iload (pc := 26) O dX2_init_26 rfl ?_
  refine cb_putIc (pc := 28) O fl_X2_24 (Or.inr ⟨rfl, hnm, rfl, fm_X2_24⟩) rfl hs dX2_init_28 rfl rfl hr ?_
  exact cb_vret (pc := 31) O Rt (Nat.le_of_ble_eq_true rfl) (Nat.le_of_ble_eq_true rfl) dX2_init_31 rfl

def cb_e9 (w : cb_W) (p : Nat) (a b c d e : Int32) : cb_W := cb_um (cb_ur (cb_um (cb_um (cb_um (cb_um (cb_um (cb_nw1 w (400 + p)) (400 + p) 0 a) (400 + p) 1 b) (400 + p) 2 c) (400 + p) 3 d) (400 + p) 4 e) 4 p (some (400 + p))) 0 10 (nI (p + 1))
theorem cc_I.e9 {w : cb_W} {B : ca_A} {z : Int32} {p a b c d e : Nat} {y : Int32} (hC : cc_I w B z) (hI : ca_I B) (hp : B 0 26 = p) (hp2 : p < 200) (hy : y = nI c - 1) : cc_I (cb_e9 w p (nI a) (nI b) y (nI d) (nI e)) (en B p a b c d e) z ∧ cb_M1 w (cb_e9 w p (nI a) (nI b) y (nI d) (nI e)) := by
  have f1 : ∀ r, r ≠ 400 + p → (cb_e9 w p (nI a) (nI b) y (nI d) (nI e)).1 r = w.1 r := fun r h => by
    show (if r = 400 + p then true else w.1 r) = _
    rw [if_neg h]
  have f2 : ∀ r k, r ≠ 400 + p → ¬ (r = 0 ∧ k = 10) → (cb_e9 w p (nI a) (nI b) y (nI d) (nI e)).2.1 r k = w.2.1 r k := fun r k h h2 => by
    unfold cb_e9
    simp only [cb_um, cb_ur, cb_nw1]
    rw [cb_u2n (by omega), cb_u2n (by omega), cb_u2n (by omega), cb_u2n (by omega), cb_u2n (by omega), cb_u2n (by omega), if_neg h]
  have f3 : ∀ r k, r ≠ 400 + p → ¬ (r = 4 ∧ k = p) → (cb_e9 w p (nI a) (nI b) y (nI d) (nI e)).2.2 r k = w.2.2 r k := fun r k h h2 => by
    unfold cb_e9
    simp only [cb_um, cb_ur, cb_nw1]
    rw [cb_u2n (by omega), if_neg h]
  have ha : ∀ k i, ¬ (22 ≤ k ∧ k ≤ 26) → ¬ (k = 0 ∧ i = 26) → en B p a b c d e k i = B k i := fun k i h1 h2 => by
    unfold en
    rw [cb_u2n (by omega), cb_u2n (by omega), cb_u2n (by omega), cb_u2n (by omega), cb_u2n (by omega), cb_u2n (by omega)]
  have hb : ∀ k i, i ≠ p → ¬ (k = 0 ∧ i = 26) → en B p a b c d e k i = B k i := fun k i h1 h2 => by
    unfold en
    rw [cb_u2n (by omega), cb_u2n (by omega), cb_u2n (by omega), cb_u2n (by omega), cb_u2n (by omega), cb_u2n (by omega)]
  have a26 : en B p a b c d e 0 26 = p + 1 := by
    unfold en
    rw [cb_u2s]
  obtain ⟨⟨w1, w2⟩, hB, ⟨n1, n2, n3, n4, n5⟩, hK, hS, ⟨s1, s2⟩, hP, hL, l1, l2, l3⟩ := hC
  refine ⟨⟨⟨fun r hr => ?_, fun r k q hq => ?_⟩, hB.cg (fun r k e => f2 r k (by omega) (by omega)) (fun k i e => ha k i (by omega) (by omega)), ⟨?_, ?_, ?_, ?_, ?_⟩, hK.cg (fun r k e => f2 r k (by omega) (by omega)) (fun k i e => ha k i (by omega) (by omega)), hS.cg hI.1.2.2.2.1 (fun r g1 g2 => f1 r (by omega)) (fun r k e => f3 r k (by omega) (by omega)) (fun r k g1 g2 => f2 r k (by omega) (by omega)) (fun k i e => ha k i (by omega) (by omega)), ⟨fun q hq => ?_, fun q hq hq2 => ?_⟩, hP.cg (fun r k e => f2 r k (by omega) (by omega)) (fun k i e => ha k i (by omega) (by omega)), hL.cg (fun r k e => f2 r k (by omega) (by omega)) (fun k i e => ha k i (by omega) (by omega)), fun r g1 g2 => ?_, fun r g1 => ?_, fun r k q hr hr4 hk g1 g2 => ?_⟩, fun r hr => ⟨f1 r (by omega), funext fun k => f2 r k (by omega) (by omega), fun _ => funext fun k => f3 r k (by omega) (by omega)⟩⟩
  · rw [f1 r (by simp [cc_Lv] at hr; omega)]; exact w1 r hr
  · rw [f3 r k (by have := cc_Rf_lo hq; omega) (fun e => by rw [e.1] at hq; simp [cc_Rf] at hq)]; exact w2 r k q hq
  · rw [f2 0 9 (by omega) (by omega), ha 0 20 (by omega) (by omega)]; exact n1
  · rw [a26]
    unfold cb_e9
    simp only [cb_um]
    rw [cb_u2s]
  · rw [f2 0 11 (by omega) (by omega), ha 0 8 (by omega) (by omega)]; exact n3
  · rw [f2 2 0 (by omega) (by omega)]; exact n4
  · rw [f2 2 1 (by omega) (by omega), ha 0 6 (by omega) (by omega)]; exact n5
  · rw [a26] at hq
    rcases Nat.lt_or_ge q p with h | h
    · obtain ⟨x1, x2, x3, x4, x5, x6, x7⟩ := s1 q (by omega)
      rw [f1 _ (by omega), f3 4 q (by omega) (by omega), f2 _ _ (by omega) (by omega), f2 _ _ (by omega) (by omega), f2 _ _ (by omega) (by omega), f2 _ _ (by omega) (by omega), f2 _ _ (by omega) (by omega), hb 22 q (by omega) (by omega), hb 23 q (by omega) (by omega), hb 24 q (by omega) (by omega), hb 25 q (by omega) (by omega), hb 26 q (by omega) (by omega)]
      exact ⟨x1, x2, x3, x4, x5, x6, x7⟩
    · have eq : q = p := by omega
      subst eq
      refine ⟨?_, ?_, ?_, ?_, ?_, ?_, ?_⟩
      · show (if 400 + q = 400 + q then true else w.1 (400 + q)) = _
        rw [if_pos rfl]
      · show cb_u2 _ 4 q _ 4 q = _
        rw [cb_u2s]
      · unfold en cb_e9
        simp only [cb_um, cb_ur]
        rw [cb_u2n (by omega), cb_u2n (by omega), cb_u2n (by omega), cb_u2n (by omega), cb_u2n (by omega), cb_u2s, cb_u2n (by omega), cb_u2n (by omega), cb_u2n (by omega), cb_u2n (by omega), cb_u2n (by omega), cb_u2s]
      · unfold en cb_e9
        simp only [cb_um, cb_ur]
        rw [cb_u2n (by omega), cb_u2n (by omega), cb_u2n (by omega), cb_u2n (by omega), cb_u2s, cb_u2n (by omega), cb_u2n (by omega), cb_u2n (by omega), cb_u2n (by omega), cb_u2s]
      · unfold en cb_e9
        simp only [cb_um, cb_ur]
        rw [cb_u2n (by omega), cb_u2n (by omega), cb_u2n (by omega), cb_u2s, cb_u2n (by omega), cb_u2n (by omega), cb_u2n (by omega), cb_u2s, hy]
      · unfold en cb_e9
        simp only [cb_um, cb_ur]
        rw [cb_u2n (by omega), cb_u2n (by omega), cb_u2s, cb_u2n (by omega), cb_u2n (by omega), cb_u2s]
      · unfold en cb_e9
        simp only [cb_um, cb_ur]
        rw [cb_u2n (by omega), cb_u2s, cb_u2n (by omega), cb_u2s]
  · rw [a26] at hq
    rw [f1 _ (by omega)]
    exact s2 q (by omega) hq2
  · rw [f1 r (by omega)]; exact l1 r g1 g2
  · rw [f1 r (by omega)]; exact l2 r g1
  · by_cases e1 : r = 400 + p
    · subst e1
      have hk2 : cb_u2 (fun q => if q = 400 + p then (fun _ => none) else w.2.2 q) 4 p (some (400 + p)) (400 + p) k = some q := hk
      rw [cb_u2n (by omega), if_pos rfl] at hk2
      cases hk2
    · by_cases e2 : r = 4 ∧ k = p
      · obtain ⟨rfl, rfl⟩ := e2
        have hk2 : cb_u2 (fun q => if q = 400 + k then (fun _ => none) else w.2.2 q) 4 k (some (400 + k)) 4 k = some q := hk
        rw [cb_u2s] at hk2
        cases hk2
        omega
      · rw [f3 r k e1 e2] at hk
        rw [f1 r e1] at hr
        exact l3 r k q hr hr4 hk g1 g2
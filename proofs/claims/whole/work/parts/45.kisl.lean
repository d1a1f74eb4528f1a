theorem m_islands (w : cb_W) (A : ca_A) (z : Int32) (hI : ca_I A) (hM : cm_I w A z) (a : Int32) : cb_Con yX11_islands cX11_islands 8 (some .int) 2 44 0 0 (fun _ => true) [.inr (some 1000), .inl a] w (cb_pi (fun x w' => x = sr_islands A a ∧ cm_I w' A z ∧ cb_C1 w w')) := by
  have l := hI.1
  refine cb_con (by decide) (Nat.le_of_ble_eq_true rfl) (fun κ O Rt hnm => ?_)
  show cb_X κ w 0 0 0 [some (.inr (some 1000)), some (.inl a), none, none, none, none, none, none] []
  refine cb_iload_n (pc := 0) O dX11_islands_0 rfl ?_
  refine cb_iconst (pc := 1) (v := 0) O dX11_islands_1 (by decide) ?_
  refine cb_iconst (pc := 2) (v := 2) O dX11_islands_2 (by decide) ?_
  refine cb_cSp (pc := 3) O (c_X11_within _ _ _ _) my_X11_within mt_X11_within ml_X11_90 dX11_islands_3 rfl rfl ⟨(Nat.le_of_ble_eq_true rfl), (Nat.le_of_ble_eq_true rfl)⟩ (Nat.le_of_ble_eq_true rfl) rfl ⟨(Nat.le_of_ble_eq_true rfl), (Nat.le_of_ble_eq_true rfl)⟩ ?_
  refine cb_ifp_ne (pc := 6) O 11 dX11_islands_6 (by decide) (fun c_6 => ?_) (fun c_6 => ?_)
  · skip
    refine cb_aload_n (pc := 11) O dX11_islands_11 rfl ?_
    refine cb_cVv (pc := 12) O (c_X11_findGroups w A z hI hM) my_X11_findGroups mi_X11_findGroups mx_X11_findGroups ml_X11_152 dX11_islands_12 rfl ct_11 rfl rfl rfl ⟨(Nat.le_of_ble_eq_true rfl), (Nat.le_of_ble_eq_true rfl)⟩ (Nat.le_of_ble_eq_true rfl) rfl ⟨(Nat.le_of_ble_eq_true rfl), (Nat.le_of_ble_eq_true rfl)⟩ (fun _ _ => rfl) (by first | exact hM9.1.1 _ rfl | exact hM.1.1 _ rfl) (fun w_12 hp_12 => ?_)
    obtain ⟨g, hGF, hM9, hC9⟩ := hp_12
    refine cb_iconst (pc := 15) (v := 0) O dX11_islands_15 (by decide) ?_
    refine cb_istore_n (pc := 16) O dX11_islands_16 (by decide) ?_
    dsimp only [List.set]
    refine cb_iconst (pc := 17) (v := 0) O dX11_islands_17 (by decide) ?_
    refine cb_istore_n (pc := 18) O dX11_islands_18 (by decide) ?_
    dsimp only [List.set]
    refine cb_iconst (pc := 19) (v := 0) O dX11_islands_19 (by decide) ?_
    refine cb_istore (pc := 20) O dX11_islands_20 (by decide) ?_
    dsimp only [List.set]
    refine cb_iconst (pc := 22) (v := 0) O dX11_islands_22 (by decide) ?_
    refine cb_istore (pc := 23) O dX11_islands_23 (by decide) ?_
    dsimp only [List.set]
    have L_25 : ∀ (n : Nat) (G : Nat) (x6 x7 : Option cb_V), G ≤ 64 → 65 ≤ G + n → cb_X κ w_12 0 0 25 [some (.inr (some 1000)), some (.inl a), some (.inl (nI (is_c A G))), some (.inl (nI (is_m A G))), some (.inl (nI (fb_sm (sz A) G))), some (.inl (nI G)), x6, x7] [] := by
      intro n
      induction n with
      | zero =>
        intro G x6 x7 hG hn
        exact absurd hn (by omega)
      | succ n ih_25 =>
        intro G x6 x7 hG hn
        refine cb_iload (pc := 25) O dX11_islands_25 rfl ?_
        refine cb_bipush (pc := 27) (v := 64) O dX11_islands_27 (by decide) ?_
        refine cb_icmp_ge (pc := 29) O 112 dX11_islands_29 (by decide) (fun c_29 => ?_) (fun c_29 => ?_)
        · skip
          have e : G = 64 := by
            have := ci_ge (b := 64) c_29 (by omega) (by decide)
            omega
          subst e
          refine cb_iload_n (pc := 112) O dX11_islands_112 rfl ?_
          refine cb_if_ne (pc := 113) O 120 dX11_islands_113 (by decide) (fun c_113 => ?_) (fun c_113 => ?_)
          · skip
            refine cb_iload_n (pc := 120) O dX11_islands_120 rfl ?_
            refine cb_iconst (pc := 121) (v := 1) O dX11_islands_121 (by decide) ?_
            refine cb_icmp_ne (pc := 122) O 129 dX11_islands_122 (by decide) (fun c_122 => ?_) (fun c_122 => ?_)
            · skip
              refine cb_iload (pc := 129) O dX11_islands_129 rfl ?_
              exact cb_iret (pc := 131) O Rt rfl (Nat.le_of_ble_eq_true rfl) (Nat.le_of_ble_eq_true rfl) dX11_islands_131 (by
                refine ⟨?_, hM9, hC9⟩
                rw [sr_islands, if_pos c_6]
                first
                | rw [if_pos c_113]
                | rw [if_neg c_113, if_pos c_122]
                | rw [if_neg c_113, if_neg c_122, hGF.all])
            · skip
              refine cb_iload_n (pc := 125) O dX11_islands_125 rfl ?_
              refine cb_goto (pc := 126) O 131 dX11_islands_126 (by decide) ?_
              exact cb_iret (pc := 131) O Rt rfl (Nat.le_of_ble_eq_true rfl) (Nat.le_of_ble_eq_true rfl) dX11_islands_131 (by
                refine ⟨?_, hM9, hC9⟩
                rw [sr_islands, if_pos c_6]
                first
                | rw [if_pos c_113]
                | rw [if_neg c_113, if_pos c_122]
                | rw [if_neg c_113, if_neg c_122, hGF.all])
          · skip
            refine cb_iload_n (pc := 116) O dX11_islands_116 rfl ?_
            refine cb_goto (pc := 117) O 131 dX11_islands_117 (by decide) ?_
            exact cb_iret (pc := 131) O Rt rfl (Nat.le_of_ble_eq_true rfl) (Nat.le_of_ble_eq_true rfl) dX11_islands_131 (by
              refine ⟨?_, hM9, hC9⟩
              rw [sr_islands, if_pos c_6]
              first
              | rw [if_pos c_113]
              | rw [if_neg c_113, if_pos c_122]
              | rw [if_neg c_113, if_neg c_122, hGF.all])
        · skip
          have hG64 : G < 64 := ci_nge (b := 64) c_29 (by omega) (by decide)
          refine cb_iconst (pc := 32) (v := 0) O dX11_islands_32 (by decide) ?_
          refine cb_istore (pc := 33) O dX11_islands_33 (by decide) ?_
          dsimp only [List.set]
          refine cb_iconst (pc := 35) (v := 0) O dX11_islands_35 (by decide) ?_
          refine cb_istore (pc := 36) O dX11_islands_36 (by decide) ?_
          dsimp only [List.set]
          have L_38 : ∀ (n : Nat) (k : Nat), k ≤ 64 → 65 ≤ k + n → cb_X κ w_12 0 0 38 [some (.inr (some 1000)), some (.inl a), some (.inl (nI (is_c A G))), some (.inl (nI (is_m A G))), some (.inl (nI (fb_sm (sz A) G))), some (.inl (nI G)), some (.inl (nI (fb_ct (cmb A G) k))), some (.inl (nI k))] [] := by
            intro n
            induction n with
            | zero =>
              intro k hk hn
              exact absurd hn (by omega)
            | succ n ih_38 =>
              intro k hk hn
              refine cb_iload (pc := 38) O dX11_islands_38 rfl ?_
              refine cb_bipush (pc := 40) (v := 64) O dX11_islands_40 (by decide) ?_
              refine cb_icmp_ge (pc := 42) O 73 dX11_islands_42 (by decide) (fun c_42 => ?_) (fun c_42 => ?_)
              · skip
                have e : k = 64 := by
                  have := ci_ge (b := 64) c_42 (by omega) (by decide)
                  omega
                subst e
                have hz64 := sz_64 A G
                have hm64 := is_m64 A G
                refine cb_iload_n (pc := 73) O dX11_islands_73 rfl ?_
                refine cb_iload (pc := 74) O dX11_islands_74 rfl ?_
                refine cb_if_le (pc := 76) O 83 dX11_islands_76 (by decide) (fun c_76 => ?_) (fun c_76 => ?_)
                · skip
                  rw [ci_le, ci_n (by show sz A G < _; omega), ci_z0] at c_76
                  have hz0 : sz A G = 0 := by
                    have : ((sz A G : Nat) : Int) ≤ 0 := c_76
                    omega
                  have hnr : ¬ rt A G := fun h => by have := sz_p hI h; omega
                  refine cb_iconst (pc := 83) (v := 0) O dX11_islands_83 (by decide) ?_
                  refine cb_iadd (pc := 84) O dX11_islands_84 ?_
                  refine cb_topv (nI (is_c A (G + 1))) (by first | (rw [is_cN hnr]; exact (nI_add _ 0)) | (rw [is_cY hr]; exact (nI_add _ 1))) ?_
                  refine cb_istore_n (pc := 85) O dX11_islands_85 (by decide) ?_
                  dsimp only [List.set]
                  refine cb_iload (pc := 86) O dX11_islands_86 rfl ?_
                  refine cb_iload_n (pc := 88) O dX11_islands_88 rfl ?_
                  refine cb_icmp_le (pc := 89) O 97 dX11_islands_89 (by decide) (fun c_89 => ?_) (fun c_89 => ?_)
                  · skip
                    have c_89 : nI (sz A G) ≤ nI (is_m A G) := c_89
                    rw [nI_leI (by omega) (by omega)] at c_89
                    refine cb_iload_n (pc := 97) O dX11_islands_97 rfl ?_
                    refine cb_topv (nI (is_m A (G + 1))) (by
                      show nI (is_m A G) = nI (max (is_m A G) (sz A G))
                      rw [Nat.max_eq_left (by omega)]) ?_
                    refine cb_istore_n (pc := 98) O dX11_islands_98 (by decide) ?_
                    dsimp only [List.set]
                    refine cb_iload (pc := 99) O dX11_islands_99 rfl ?_
                    refine cb_iload (pc := 101) O dX11_islands_101 rfl ?_
                    refine cb_iadd (pc := 103) O dX11_islands_103 ?_
                    refine cb_topv (nI (fb_sm (sz A) (G + 1))) (nI_add _ _) ?_
                    refine cb_istore (pc := 104) O dX11_islands_104 (by decide) ?_
                    dsimp only [List.set]
                    refine cb_iinc (pc := 106) O (nI (G + 1)) dX11_islands_106 rfl (by decide) (ci_inc G) ?_
                    dsimp only [List.set]
                    refine cb_goto (pc := 109) O 25 dX11_islands_109 (by decide) ?_
                    exact ih_25 (G + 1) _ _ (by omega) (by omega)
                  · skip
                    have c_89 : ¬ nI (sz A G) ≤ nI (is_m A G) := c_89
                    rw [nI_leI (by omega) (by omega)] at c_89
                    refine cb_iload (pc := 92) O dX11_islands_92 rfl ?_
                    refine cb_topv (nI (is_m A (G + 1))) (by
                      show nI (sz A G) = nI (max (is_m A G) (sz A G))
                      rw [Nat.max_eq_right (by omega)]) ?_
                    refine cb_goto (pc := 94) O 98 dX11_islands_94 (by decide) ?_
                    refine cb_istore_n (pc := 98) O dX11_islands_98 (by decide) ?_
                    dsimp only [List.set]
                    refine cb_iload (pc := 99) O dX11_islands_99 rfl ?_
                    refine cb_iload (pc := 101) O dX11_islands_101 rfl ?_
                    refine cb_iadd (pc := 103) O dX11_islands_103 ?_
                    refine cb_topv (nI (fb_sm (sz A) (G + 1))) (nI_add _ _) ?_
                    refine cb_istore (pc := 104) O dX11_islands_104 (by decide) ?_
                    dsimp only [List.set]
                    refine cb_iinc (pc := 106) O (nI (G + 1)) dX11_islands_106 rfl (by decide) (ci_inc G) ?_
                    dsimp only [List.set]
                    refine cb_goto (pc := 109) O 25 dX11_islands_109 (by decide) ?_
                    exact ih_25 (G + 1) _ _ (by omega) (by omega)
                · skip
                  rw [ci_le, ci_n (by show sz A G < _; omega), ci_z0] at c_76
                  have hr : rt A G := Classical.byContradiction (fun h => c_76 (by show ((sz A G : Nat) : Int) ≤ 0; rw [sz_0 h]; omega))
                  refine cb_iconst (pc := 79) (v := 1) O dX11_islands_79 (by decide) ?_
                  refine cb_goto (pc := 80) O 84 dX11_islands_80 (by decide) ?_
                  refine cb_iadd (pc := 84) O dX11_islands_84 ?_
                  refine cb_topv (nI (is_c A (G + 1))) (by first | (rw [is_cN hnr]; exact (nI_add _ 0)) | (rw [is_cY hr]; exact (nI_add _ 1))) ?_
                  refine cb_istore_n (pc := 85) O dX11_islands_85 (by decide) ?_
                  dsimp only [List.set]
                  refine cb_iload (pc := 86) O dX11_islands_86 rfl ?_
                  refine cb_iload_n (pc := 88) O dX11_islands_88 rfl ?_
                  refine cb_icmp_le (pc := 89) O 97 dX11_islands_89 (by decide) (fun c_89 => ?_) (fun c_89 => ?_)
                  · skip
                    have c_89 : nI (sz A G) ≤ nI (is_m A G) := c_89
                    rw [nI_leI (by omega) (by omega)] at c_89
                    refine cb_iload_n (pc := 97) O dX11_islands_97 rfl ?_
                    refine cb_topv (nI (is_m A (G + 1))) (by
                      show nI (is_m A G) = nI (max (is_m A G) (sz A G))
                      rw [Nat.max_eq_left (by omega)]) ?_
                    refine cb_istore_n (pc := 98) O dX11_islands_98 (by decide) ?_
                    dsimp only [List.set]
                    refine cb_iload (pc := 99) O dX11_islands_99 rfl ?_
                    refine cb_iload (pc := 101) O dX11_islands_101 rfl ?_
                    refine cb_iadd (pc := 103) O dX11_islands_103 ?_
                    refine cb_topv (nI (fb_sm (sz A) (G + 1))) (nI_add _ _) ?_
                    refine cb_istore (pc := 104) O dX11_islands_104 (by decide) ?_
                    dsimp only [List.set]
                    refine cb_iinc (pc := 106) O (nI (G + 1)) dX11_islands_106 rfl (by decide) (ci_inc G) ?_
                    dsimp only [List.set]
                    refine cb_goto (pc := 109) O 25 dX11_islands_109 (by decide) ?_
                    exact ih_25 (G + 1) _ _ (by omega) (by omega)
                  · skip
                    have c_89 : ¬ nI (sz A G) ≤ nI (is_m A G) := c_89
                    rw [nI_leI (by omega) (by omega)] at c_89
                    refine cb_iload (pc := 92) O dX11_islands_92 rfl ?_
                    refine cb_topv (nI (is_m A (G + 1))) (by
                      show nI (sz A G) = nI (max (is_m A G) (sz A G))
                      rw [Nat.max_eq_right (by omega)]) ?_
                    refine cb_goto (pc := 94) O 98 dX11_islands_94 (by decide) ?_
                    refine cb_istore_n (pc := 98) O dX11_islands_98 (by decide) ?_
                    dsimp only [List.set]
                    refine cb_iload (pc := 99) O dX11_islands_99 rfl ?_
                    refine cb_iload (pc := 101) O dX11_islands_101 rfl ?_
                    refine cb_iadd (pc := 103) O dX11_islands_103 ?_
                    refine cb_topv (nI (fb_sm (sz A) (G + 1))) (nI_add _ _) ?_
                    refine cb_istore (pc := 104) O dX11_islands_104 (by decide) ?_
                    dsimp only [List.set]
                    refine cb_iinc (pc := 106) O (nI (G + 1)) dX11_islands_106 rfl (by decide) (ci_inc G) ?_
                    dsimp only [List.set]
                    refine cb_goto (pc := 109) O 25 dX11_islands_109 (by decide) ?_
                    exact ih_25 (G + 1) _ _ (by omega) (by omega)
              · skip
                have hlt : k < 64 := ci_nge (b := 64) c_42 (by omega) (by decide)
                refine cb_iload (pc := 45) O dX11_islands_45 rfl ?_
                refine cb_aload_n (pc := 47) O dX11_islands_47 rfl ?_
                refine cb_getR (pc := 48) O fl_X11_32 rfl rfl dX11_islands_48 (by first | exact hM9.1.1 _ rfl | exact hM.1.1 _ rfl) (hM9.1.2 _ _ _ rfl) ?_
                refine cb_iload (pc := 51) O dX11_islands_51 rfl ?_
                refine cb_iald (pc := 53) O k rfl dX11_islands_53 (by decide) (by first | exact hM9.1.1 _ rfl | exact hM.1.1 _ rfl) rfl (by omega) ?_
                refine cb_iload (pc := 54) O dX11_islands_54 rfl ?_
                refine cb_icmp_ne (pc := 56) O 63 dX11_islands_56 (by decide) (fun c_56 => ?_) (fun c_56 => ?_)
                · skip
                  have hb : cmb A G k = false := by
                    cases e : cmb A G k
                    · rfl
                    · exact absurd ((hGF.eq hlt hG64).mpr e) c_56
                  refine cb_iconst (pc := 63) (v := 0) O dX11_islands_63 (by decide) ?_
                  refine cb_iadd (pc := 64) O dX11_islands_64 ?_
                  refine cb_topv (nI (fb_ct (cmb A G) (k + 1))) (by
                    rw [fb_ct_succ, hb, ← nI_add]
                    rfl) ?_
                  refine cb_istore (pc := 65) O dX11_islands_65 (by decide) ?_
                  dsimp only [List.set]
                  refine cb_iinc (pc := 67) O (nI (k + 1)) dX11_islands_67 rfl (by decide) (ci_inc k) ?_
                  dsimp only [List.set]
                  refine cb_goto (pc := 70) O 38 dX11_islands_70 (by decide) ?_
                  exact ih_38 (k + 1) (by omega) (by omega)
                · skip
                  have hb := (hGF.eq hlt hG64).mp c_56
                  refine cb_iconst (pc := 59) (v := 1) O dX11_islands_59 (by decide) ?_
                  refine cb_goto (pc := 60) O 64 dX11_islands_60 (by decide) ?_
                  refine cb_iadd (pc := 64) O dX11_islands_64 ?_
                  refine cb_topv (nI (fb_ct (cmb A G) (k + 1))) (by
                    rw [fb_ct_succ, hb, ← nI_add]
                    rfl) ?_
                  refine cb_istore (pc := 65) O dX11_islands_65 (by decide) ?_
                  dsimp only [List.set]
                  refine cb_iinc (pc := 67) O (nI (k + 1)) dX11_islands_67 rfl (by decide) (ci_inc k) ?_
                  dsimp only [List.set]
                  refine cb_goto (pc := 70) O 38 dX11_islands_70 (by decide) ?_
                  exact ih_38 (k + 1) (by omega) (by omega)
          exact L_38 65 0 (by omega) (by omega)
    exact L_25 65 0 none none (by omega) (by omega)
  · skip
    refine cb_iconst (pc := 9) (v := (-1)) O dX11_islands_9 (by decide) ?_
    exact cb_iret (pc := 10) O Rt rfl (Nat.le_of_ble_eq_true rfl) (Nat.le_of_ble_eq_true rfl) dX11_islands_10 (by
      exact ⟨by rw [sr_islands, if_neg c_6], hM, cb_C1.rfl'⟩)

theorem m_joined (w : cb_W) (A : ca_A) (z : Int32) (hI : ca_I A) (hM : cm_I w A z) (a b : Int32) : cb_Con yX11_joined cX11_joined 3 (some .int) 2 44 0 0 (fun _ => true) [.inr (some 1000), .inl a, .inl b] w (cb_pi (fun x w' => x = sr_joined A a b ∧ cm_I w' A z ∧ cb_C1 w w')) := by
  have l := hI.1
  refine cb_con (by decide) (Nat.le_of_ble_eq_true rfl) (fun κ O Rt hnm => ?_)
  show cb_X κ w 0 0 0 [some (.inr (some 1000)), some (.inl a), some (.inl b)] []
  refine cb_aload_n (pc := 0) O dX11_joined_0 rfl ?_
  refine cb_iload_n (pc := 1) O dX11_joined_1 rfl ?_
  refine cb_cVp (pc := 2) O (c_X11_isCell w A z hI hM a) my_X11_isCell mi_X11_isCell mx_X11_isCell ml_X11_142 dX11_joined_2 rfl ct_11 rfl rfl rfl ⟨(Nat.le_of_ble_eq_true rfl), (Nat.le_of_ble_eq_true rfl)⟩ (Nat.le_of_ble_eq_true rfl) rfl ⟨(Nat.le_of_ble_eq_true rfl), (Nat.le_of_ble_eq_true rfl)⟩ (by first | exact hM9.1.1 _ rfl | exact hM.1.1 _ rfl) ?_
  refine cb_ifp_eq (pc := 5) O 16 dX11_joined_5 (by decide) (fun c_5 => ?_) (fun c_5 => ?_)
  · skip
    refine cb_iconst (pc := 16) (v := (-1)) O dX11_joined_16 (by decide) ?_
    exact cb_iret (pc := 17) O Rt rfl (Nat.le_of_ble_eq_true rfl) (Nat.le_of_ble_eq_true rfl) dX11_joined_17 (by
      have hv : ¬ (ca_c A a ∧ ca_c A b) := fun h => by
        first | exact c_5 h.1 | exact c_13 h.2
      exact ⟨by rw [sr_joined, if_neg hv], hM, cb_C1.rfl'⟩)
  · skip
    refine cb_aload_n (pc := 8) O dX11_joined_8 rfl ?_
    refine cb_iload_n (pc := 9) O dX11_joined_9 rfl ?_
    refine cb_cVp (pc := 10) O (c_X11_isCell w A z hI hM b) my_X11_isCell mi_X11_isCell mx_X11_isCell ml_X11_142 dX11_joined_10 rfl ct_11 rfl rfl rfl ⟨(Nat.le_of_ble_eq_true rfl), (Nat.le_of_ble_eq_true rfl)⟩ (Nat.le_of_ble_eq_true rfl) rfl ⟨(Nat.le_of_ble_eq_true rfl), (Nat.le_of_ble_eq_true rfl)⟩ (by first | exact hM9.1.1 _ rfl | exact hM.1.1 _ rfl) ?_
    refine cb_ifp_ne (pc := 13) O 18 dX11_joined_13 (by decide) (fun c_13 => ?_) (fun c_13 => ?_)
    · skip
      have hv : ca_c A a ∧ ca_c A b := ⟨c_5, c_13⟩
      obtain ⟨a, ha, rfl, hoa⟩ := ca_c64 hI c_5
      obtain ⟨b, hb, rfl, hob⟩ := ca_c64 hI c_13
      refine cb_aload_n (pc := 18) O dX11_joined_18 rfl ?_
      refine cb_cVv (pc := 19) O (c_X11_findGroups w A z hI hM) my_X11_findGroups mi_X11_findGroups mx_X11_findGroups ml_X11_152 dX11_joined_19 rfl ct_11 rfl rfl rfl ⟨(Nat.le_of_ble_eq_true rfl), (Nat.le_of_ble_eq_true rfl)⟩ (Nat.le_of_ble_eq_true rfl) rfl ⟨(Nat.le_of_ble_eq_true rfl), (Nat.le_of_ble_eq_true rfl)⟩ (fun _ _ => rfl) (by first | exact hM9.1.1 _ rfl | exact hM.1.1 _ rfl) (fun w_19 hp_19 => ?_)
      obtain ⟨g, hGF, hM9, hC9⟩ := hp_19
      refine cb_aload_n (pc := 22) O dX11_joined_22 rfl ?_
      refine cb_getR (pc := 23) O fl_X11_32 rfl rfl dX11_joined_23 (by first | exact hM9.1.1 _ rfl | exact hM.1.1 _ rfl) (hM9.1.2 _ _ _ rfl) ?_
      refine cb_iload_n (pc := 26) O dX11_joined_26 rfl ?_
      refine cb_iald (pc := 27) O a rfl dX11_joined_27 (by decide) (by first | exact hM9.1.1 _ rfl | exact hM.1.1 _ rfl) rfl (by omega) ?_
      refine cb_if_lt (pc := 28) O 50 dX11_joined_28 (by decide) (fun c_28 => ?_) (fun c_28 => ?_)
      · skip
        have hr : ¬ (ca_p A a ∧ cn A a b) := fun h => by
          obtain ⟨h1, h2, h3⟩ := (hGF a ha).1 h.1
          rw [h1, ci_lt0, ci_n (by have := h2.2 a h3; omega)] at c_28
          omega
        refine cb_iconst (pc := 50) (v := 0) O dX11_joined_50 (by decide) ?_
        exact cb_iret (pc := 51) O Rt rfl (Nat.le_of_ble_eq_true rfl) (Nat.le_of_ble_eq_true rfl) dX11_joined_51 (by
          refine ⟨?_, hM9, hC9⟩
          rw [sr_joined, if_pos hv, ci_tn (by omega), ci_tn (by omega)]
          first | exact (jn_1 hr).symm | exact (jn_0 hr).symm)
      · skip
        have hpa : ca_p A a := Classical.byContradiction (fun h => c_28 (by rw [(hGF a ha).2 h]; decide))
        obtain ⟨h1, h2, h3⟩ := (hGF a ha).1 hpa
        have hle := h2.2 a h3
        refine cb_aload_n (pc := 31) O dX11_joined_31 rfl ?_
        refine cb_getR (pc := 32) O fl_X11_32 rfl rfl dX11_joined_32 (by first | exact hM9.1.1 _ rfl | exact hM.1.1 _ rfl) (hM9.1.2 _ _ _ rfl) ?_
        refine cb_iload_n (pc := 35) O dX11_joined_35 rfl ?_
        refine cb_iald (pc := 36) O a rfl dX11_joined_36 (by decide) (by first | exact hM9.1.1 _ rfl | exact hM.1.1 _ rfl) rfl (by omega) ?_
        refine cb_aload_n (pc := 37) O dX11_joined_37 rfl ?_
        refine cb_getR (pc := 38) O fl_X11_32 rfl rfl dX11_joined_38 (by first | exact hM9.1.1 _ rfl | exact hM.1.1 _ rfl) (hM9.1.2 _ _ _ rfl) ?_
        refine cb_iload_n (pc := 41) O dX11_joined_41 rfl ?_
        refine cb_iald (pc := 42) O b rfl dX11_joined_42 (by decide) (by first | exact hM9.1.1 _ rfl | exact hM.1.1 _ rfl) rfl (by omega) ?_
        refine cb_icmp_ne (pc := 43) O 50 dX11_joined_43 (by decide) (fun c_43 => ?_) (fun c_43 => ?_)
        · skip
          rw [h1] at c_43
          have hr : ¬ (ca_p A a ∧ cn A a b) := fun h => c_43 (((hGF.eq hb (by omega)).mpr (cmb_t.mpr ⟨h2, h3.trans h.2⟩)).symm)
          refine cb_iconst (pc := 50) (v := 0) O dX11_joined_50 (by decide) ?_
          exact cb_iret (pc := 51) O Rt rfl (Nat.le_of_ble_eq_true rfl) (Nat.le_of_ble_eq_true rfl) dX11_joined_51 (by
            refine ⟨?_, hM9, hC9⟩
            rw [sr_joined, if_pos hv, ci_tn (by omega), ci_tn (by omega)]
            first | exact (jn_1 hr).symm | exact (jn_0 hr).symm)
        · skip
          rw [h1] at c_43
          have hr : ca_p A a ∧ cn A a b := ⟨hpa, h3.symm.trans (cmb_t.mp ((hGF.eq hb (by omega)).mp c_43.symm)).2⟩
          refine cb_iconst (pc := 46) (v := 1) O dX11_joined_46 (by decide) ?_
          refine cb_goto (pc := 47) O 51 dX11_joined_47 (by decide) ?_
          exact cb_iret (pc := 51) O Rt rfl (Nat.le_of_ble_eq_true rfl) (Nat.le_of_ble_eq_true rfl) dX11_joined_51 (by
            refine ⟨?_, hM9, hC9⟩
            rw [sr_joined, if_pos hv, ci_tn (by omega), ci_tn (by omega)]
            first | exact (jn_1 hr).symm | exact (jn_0 hr).symm)
    · skip
      refine cb_iconst (pc := 16) (v := (-1)) O dX11_joined_16 (by decide) ?_
      exact cb_iret (pc := 17) O Rt rfl (Nat.le_of_ble_eq_true rfl) (Nat.le_of_ble_eq_true rfl) dX11_joined_17 (by
        have hv : ¬ (ca_c A a ∧ ca_c A b) := fun h => by
          first | exact c_5 h.1 | exact c_13 h.2
        exact ⟨by rw [sr_joined, if_neg hv], hM, cb_C1.rfl'⟩)

def inF (f : Nat → Nat) (s x : Nat) : Prop := ∃ i, i < s ∧ f i = x
noncomputable def inB (f : Nat → Nat) (s : Nat) : Nat → Bool := fun x => @decide (inF f s x) (Classical.propDecidable _)
theorem inB_t {f : Nat → Nat} {s x : Nat} : inB f s x = true ↔ inF f s x := by unfold inB; simp
theorem inB_f {f : Nat → Nat} {s x : Nat} : inB f s x = false ↔ ¬ inF f s x := by
  rw [← inB_t]
  cases inB f s x <;> simp
theorem inF_add {f : Nat → Nat} {s x y : Nat} : inF (fun i => if i = s then x else f i) (s + 1) y ↔ (y = x ∨ inF f s y) := by
  constructor
  · rintro ⟨i, h1, h2⟩
    dsimp only at h2
    by_cases e : i = s
    · rw [if_pos e] at h2
      exact Or.inl h2.symm
    · rw [if_neg e] at h2
      exact Or.inr ⟨i, by omega, h2⟩
  · rintro (e | ⟨i, h1, h2⟩)
    · exact ⟨s, by omega, by dsimp only; rw [if_pos rfl, e]⟩
    · exact ⟨i, by omega, by dsimp only; rw [if_neg (by omega)]; exact h2⟩
def bfs_I (A : ca_A) (st cnt : Nat) (M0 : Nat → Int32) (M : Nat → Nat → Int32) (f : Nat → Nat) (s : Nat) : Prop := (∀ i, i < s → M 25 i = nI (f i) ∧ f i < 64 ∧ cn A st (f i)) ∧ (∀ x, x < 64 → (inF f s x → M 24 x = nI cnt) ∧ (¬ inF f s x → M 24 x = M0 x)) ∧ s = fb_ct (inB f s) 64
theorem bfs_I.add {A : ca_A} {st cnt : Nat} {M0 : Nat → Int32} {M : Nat → Nat → Int32} {f : Nat → Nat} {s x : Nat} (h : bfs_I A st cnt M0 M f s) (hx : x < 64) (hc : cn A st x) (hn : ¬ inF f s x) : bfs_I A st cnt M0 (cb_u2 (cb_u2 M 24 x (nI cnt)) 25 s (nI x)) (fun i => if i = s then x else f i) (s + 1) := by
  obtain ⟨h1, h2, h3⟩ := h
  refine ⟨fun i hi => ?_, fun y hy => ?_, ?_⟩
  · by_cases e : i = s
    · rw [e, cb_u2s]
      dsimp only
      rw [if_pos rfl]
      exact ⟨rfl, hx, hc⟩
    · rw [cb_u2n (Or.inr e), cb_u2n (by omega)]
      dsimp only
      rw [if_neg e]
      exact h1 i (by omega)
  · rw [inF_add, cb_u2n (by omega)]
    by_cases e : y = x
    · rw [e, cb_u2s]
      exact ⟨fun _ => rfl, fun h => absurd (Or.inl rfl) h⟩
    · rw [cb_u2n (by omega)]
      exact ⟨fun h => (h2 y hy).1 (h.resolve_left e), fun h => (h2 y hy).2 (fun g => h (Or.inr g))⟩
  · have e : inB (fun i => if i = s then x else f i) (s + 1) = fun k => if k = x then true else inB f s k := by
      funext k
      rw [Bool.eq_iff_iff, inB_t, inF_add]
      by_cases e : k = x
      · rw [if_pos e]
        exact ⟨fun _ => rfl, fun _ => Or.inl e⟩
      · rw [if_neg e, inB_t]
        exact ⟨fun h => h.resolve_left e, fun h => Or.inr h⟩
    rw [e]
    have := fb_ct_upd (inB f s) true (i := x) (n := 64) hx
    rw [inB_f.mpr hn, if_neg (by decide), if_pos rfl] at this
    omega
theorem bfs_I.zero {A : ca_A} {st cnt : Nat} {M : Nat → Nat → Int32} (f : Nat → Nat) : bfs_I A st cnt (M 24) M f 0 := by
  refine ⟨fun i hi => absurd hi (by omega), fun x _ => ⟨fun ⟨i, hi, _⟩ => absurd hi (by omega), fun _ => rfl⟩, ?_⟩
  symm
  rw [fb_ct_zero]
  intro k _
  rw [inB_f]
  rintro ⟨i, hi, _⟩
  omega
theorem bfs_I.le {A : ca_A} {st cnt : Nat} {M0 : Nat → Int32} {M : Nat → Nat → Int32} {f : Nat → Nat} {s : Nat} (h : bfs_I A st cnt M0 M f s) : s ≤ 64 := by
  have h1 := h.2.2
  have h2 := fb_ct_le (inB f s) 64
  omega
theorem bfs_I.full {A : ca_A} {st cnt : Nat} {M0 : Nat → Int32} {M : Nat → Nat → Int32} {f : Nat → Nat} {s : Nat} (h : bfs_I A st cnt M0 M f s) (hs : 64 ≤ s) {x : Nat} (hx : x < 64) : inF f s x := by
  have h1 := h.2.2
  have h2 := h.le
  have e : fb_ct (inB f s) 64 = 64 := by omega
  exact inB_t.mp (fb_ct_all.mp e x hx)
def rs (d : Nat) : Int32 := ([-1, 1, 0, 0] : List Int32).getD d 0
def cs (d : Nat) : Int32 := ([0, 0, -1, 1] : List Int32).getD d 0
theorem nd_rc {x d : Nat} {r c : Int32} (hx : x < 64) (hd : d < 4) (hr : r = nI (x / 8) + rs d) (hc : c = nI (x % 8) + cs d) : r.toInt = ((x / 8 : Nat) : Int) + (if d = 0 then -1 else if d = 1 then 1 else 0) ∧ c.toInt = ((x % 8 : Nat) : Int) + (if d = 2 then -1 else if d = 3 then 1 else 0) := by
  have n1 := ci_n (n := x / 8) (by omega)
  have n2 := ci_n (n := x % 8) (by omega)
  have m1 : (-1 : Int32).toInt = -1 := rfl
  have p1 : (1 : Int32).toInt = 1 := rfl
  have z1 : (0 : Int32).toInt = 0 := rfl
  subst hr
  subst hc
  rcases (show d = 0 ∨ d = 1 ∨ d = 2 ∨ d = 3 by omega) with rfl | rfl | rfl | rfl
  · show (nI (x / 8) + (-1)).toInt = _ ∧ (nI (x % 8) + 0).toInt = _
    rw [fb_addI (by omega) (by omega), fb_addI (by omega) (by omega), n1, n2, m1, z1]
    simp
  · show (nI (x / 8) + 1).toInt = _ ∧ (nI (x % 8) + 0).toInt = _
    rw [fb_addI (by omega) (by omega), fb_addI (by omega) (by omega), n1, n2, p1, z1]
    simp
  · show (nI (x / 8) + 0).toInt = _ ∧ (nI (x % 8) + (-1)).toInt = _
    rw [fb_addI (by omega) (by omega), fb_addI (by omega) (by omega), n1, n2, m1, z1]
    simp
  · show (nI (x / 8) + 0).toInt = _ ∧ (nI (x % 8) + 1).toInt = _
    rw [fb_addI (by omega) (by omega), fb_addI (by omega) (by omega), n1, n2, p1, z1]
    simp
theorem nd_of {x d R C : Nat} {r c : Int32} (hx : x < 64) (hd : d < 4) (hr : r = nI (x / 8) + rs d) (hc : c = nI (x % 8) + cs d) (h : ci_x r R ∧ ci_x c C) (hR : R ≤ 8) (hC : C ≤ 8) : ∃ y, y < 64 ∧ nd x y d ∧ r * 8 + c = nI y := by
  obtain ⟨e1, e2⟩ := nd_rc hx hd hr hc
  obtain ⟨i, hi, ri⟩ := ci_xn h.1 (by omega)
  obtain ⟨j, hj, cj⟩ := ci_xn h.2 (by omega)
  rw [ri, ci_n (by omega)] at e1
  rw [cj, ci_n (by omega)] at e2
  refine ⟨8 * i + j, by omega, ?_, ?_⟩
  · unfold nd
    rcases (show d = 0 ∨ d = 1 ∨ d = 2 ∨ d = 3 by omega) with rfl | rfl | rfl | rfl <;> simp at e1 e2 <;> omega
  · rw [ri, cj, ci_x8, nI_add]
theorem nd_at {x y d R C : Nat} {r c : Int32} (hx : x < 64) (hd : d < 4) (hr : r = nI (x / 8) + rs d) (hc : c = nI (x % 8) + cs d) (h : nd x y d) (h1 : y / 8 < R) (h2 : y % 8 < C) : ci_x r R ∧ ci_x c C := by
  obtain ⟨e1, e2⟩ := nd_rc hx hd hr hc
  unfold nd at h
  unfold ci_x
  rcases (show d = 0 ∨ d = 1 ∨ d = 2 ∨ d = 3 by omega) with rfl | rfl | rfl | rfl <;> simp at e1 e2 h <;> omega
theorem nd_u {x y y' d : Nat} (h : nd x y d) (h' : nd x y' d) : y = y' := by
  unfold nd at *
  omega
theorem cc_I.bf {w w' : cb_W} {A : ca_A} {z : Int32} (hC : cc_I w A z) (hI : ca_I A) (h1 : w'.1 = w.1) (h2 : w'.2.2 = w.2.2) (h3 : ∀ r k, ¬ (r = 24 ∨ r = 25 ∨ (r = 20 ∧ (k = 8 ∨ k = 9))) → w'.2.1 r k = w.2.1 r k) : cc_I w' A z ∧ cb_M1 w w' := by
  obtain ⟨hW, hB, hN, hK, hS, hE, hP, hL, l1, l2, l3⟩ := hC
  exact ⟨⟨by unfold cb_CW; rw [h1, h2]; exact hW, hB.cg (fun r k e => h3 r k (by omega)) (fun _ _ _ => rfl), hN.cg (fun r k e => h3 r k (by omega)) (fun _ _ _ => rfl), hK.cg (fun r k e => h3 r k (by omega)) (fun _ _ _ => rfl), hS.cg hI.1.2.2.2.1 (fun r _ _ => by rw [h1]) (fun r k _ => by rw [h2]) (fun r k g1 g2 => h3 r k (by omega)) (fun _ _ _ => rfl), hE.cg hI.1.2.2.2.2.1 (fun r _ _ => by rw [h1]) (fun k => by rw [h2]) (fun r k g1 g2 => h3 r k (by omega)) (fun _ _ _ => rfl), hP.cg (fun r k e => h3 r k (by omega)) (fun _ _ _ => rfl), hL.cg (fun r k e => h3 r k (by omega)) (fun _ _ _ => rfl), by rw [h1]; exact l1, by rw [h1]; exact l2, by rw [h1, h2]; exact l3⟩, fun r hr => ⟨by rw [h1], funext fun k => h3 r k (by omega), fun _ => by rw [h2]⟩⟩
theorem c_X1_findNeighbours (w : cb_W) (A : ca_A) (z : Int32) (hI : ca_I A) (hC : cc_I w A z) (st cnt : Nat) (M0 : Nat → Int32) (f : Nat → Nat) (s : Nat) (hB : bfs_I A st cnt M0 w.2.1 f s) (hM0 : ∀ x, x < 64 → cn A st x → M0 x = -1) (hc : w.2.1 20 8 = nI cnt) (hcnt : cnt ≤ 64) (hpst : ∀ x, cn A st x → ca_p A x) (x : Nat) (hxx : inF f s x) : cb_Con yX1_findNeighbours cX1_findNeighbours 8 (some .int) 2 44 0 0 (fun _ => true) [.inr (some 20), .inl (nI x), .inl (nI s)] w (cb_pi (fun v w' => ∃ f' s', v = nI s' ∧ s ≤ s' ∧ (∀ i, i < s → f' i = f i) ∧ bfs_I A st cnt M0 w'.2.1 f' s' ∧ (∀ y, adj A x y → inF f' s' y) ∧ cc_I w' A z ∧ cb_M1 w w' ∧ w'.2.1 20 = w.2.1 20)) := by
  have l := hI.1
  obtain ⟨i9, hi9, hfx⟩ := id hxx
  have hx64 : x < 64 := by
    rw [← hfx]; exact (hB.1 i9 hi9).2.1
  have hcx : cn A st x := by
    rw [← hfx]; exact (hB.1 i9 hi9).2.2
  have hs64 := hB.le
  refine cb_con (by decide) (Nat.le_of_ble_eq_true rfl) (fun κ O Rt hnm => ?_)
  show cb_X κ w 0 0 0 [some (.inr (some 20)), some (.inl (nI x)), some (.inl (nI s)), none, none, none, none, none] []
  refine cb_iload_n (pc := 0) O dX1_findNeighbours_0 rfl ?_
  refine cb_istore_n (pc := 1) O dX1_findNeighbours_1 (by decide) ?_
  dsimp only [List.set]
  refine cb_iconst (pc := 2) (v := 0) O dX1_findNeighbours_2 (by decide) ?_
  refine cb_istore (pc := 3) O dX1_findNeighbours_3 (by decide) ?_
  dsimp only [List.set]
  have L_5 : ∀ (n : Nat) (d s9 : Nat) (f9 : Nat → Nat) (w9 : cb_W) (x5 x6 x7 : Option cb_V), d ≤ 4 → s ≤ s9 → (∀ i, i < s → f9 i = f i) → bfs_I A st cnt M0 w9.2.1 f9 s9 → (∀ y d', d' < d → nd x y d' → adj A x y → inF f9 s9 y) → cc_I w9 A z → cb_M1 w w9 → w9.2.1 20 = w.2.1 20 → 5 ≤ d + n → cb_X κ w9 0 0 5 [some (.inr (some 20)), some (.inl (nI x)), some (.inl (nI s)), some (.inl (nI s9)), some (.inl (nI d)), x5, x6, x7] [] := by
    intro n
    induction n with
    | zero =>
      intro d s9 f9 w9 x5 x6 x7 hd hss hex hB9 hdn hC9 hM9 h29 hn
      exact absurd hn (by omega)
    | succ n ih_5 =>
      intro d s9 f9 w9 x5 x6 x7 hd hss hex hB9 hdn hC9 hM9 h29 hn
      have hl9 := hB9.le
      refine cb_iload (pc := 5) O dX1_findNeighbours_5 rfl ?_
      refine cb_gets (pc := 7) O 1 (by decide) (by decide) fs_X1_99 dX1_findNeighbours_7 ?_
      refine cb_alenS (pc := 10) O 1 (by decide) dX1_findNeighbours_10 ?_
      refine cb_topv (nI 4) rfl ?_
      refine cb_icmp_ge (pc := 11) O 131 dX1_findNeighbours_11 (by decide) (fun c_11 => ?_) (fun c_11 => ?_)
      · skip
        rw [nI_leI (by omega) (by omega)] at c_11
        refine cb_iload_n (pc := 131) O dX1_findNeighbours_131 rfl ?_
        exact cb_iret (pc := 132) O Rt rfl (Nat.le_of_ble_eq_true rfl) (Nat.le_of_ble_eq_true rfl) dX1_findNeighbours_132 ⟨f9, s9, rfl, hss, hex, hB9, fun y ha => by
          obtain ⟨-, -, -, d', hd', hn'⟩ := id ha
          exact hdn y d' (by omega) hn' ha, hC9, hM9, h29⟩
      · skip
        rw [nI_leI (by omega) (by omega)] at c_11
        have hd4 : d < 4 := by omega
        refine cb_iload_n (pc := 14) O dX1_findNeighbours_14 rfl ?_
        refine cb_bipush (pc := 15) (v := 8) O dX1_findNeighbours_15 (by decide) ?_
        refine cb_idiv (pc := 17) O dX1_findNeighbours_17 (by decide) ?_
        refine cb_topv (nI (x / 8)) (ci_d8 (by omega)) ?_
        refine cb_gets (pc := 18) O 1 (by decide) (by decide) fs_X1_99 dX1_findNeighbours_18 ?_
        refine cb_iload (pc := 21) O dX1_findNeighbours_21 rfl ?_
        refine cb_ialdS (pc := 23) O 1 d (by decide) dX1_findNeighbours_23 (by show 4 < 2147483648; decide) rfl (by show d < 4; omega) ?_
        refine cb_topv (rs d) rfl ?_
        refine cb_iadd (pc := 24) O dX1_findNeighbours_24 ?_
        refine cb_top (fun r hr => ?_)
        refine cb_istore (pc := 25) O dX1_findNeighbours_25 (by decide) ?_
        dsimp only [List.set]
        refine cb_iload_n (pc := 27) O dX1_findNeighbours_27 rfl ?_
        refine cb_bipush (pc := 28) (v := 8) O dX1_findNeighbours_28 (by decide) ?_
        refine cb_irem (pc := 30) O dX1_findNeighbours_30 (by decide) ?_
        refine cb_topv (nI (x % 8)) (ci_r8 (by omega)) ?_
        refine cb_gets (pc := 31) O 2 (by decide) (by decide) fs_X1_102 dX1_findNeighbours_31 ?_
        refine cb_iload (pc := 34) O dX1_findNeighbours_34 rfl ?_
        refine cb_ialdS (pc := 36) O 2 d (by decide) dX1_findNeighbours_36 (by show 4 < 2147483648; decide) rfl (by show d < 4; omega) ?_
        refine cb_topv (cs d) rfl ?_
        refine cb_iadd (pc := 37) O dX1_findNeighbours_37 ?_
        refine cb_top (fun c hcc => ?_)
        refine cb_istore (pc := 38) O dX1_findNeighbours_38 (by decide) ?_
        dsimp only [List.set]
        refine cb_iload (pc := 40) O dX1_findNeighbours_40 rfl ?_
        refine cb_bipush (pc := 42) (v := 8) O dX1_findNeighbours_42 (by decide) ?_
        refine cb_imul (pc := 44) O dX1_findNeighbours_44 ?_
        refine cb_iload (pc := 45) O dX1_findNeighbours_45 rfl ?_
        refine cb_iadd (pc := 47) O dX1_findNeighbours_47 ?_
        refine cb_top (fun nx hnx => ?_)
        refine cb_istore (pc := 48) O dX1_findNeighbours_48 (by decide) ?_
        dsimp only [List.set]
        refine cb_aload_n (pc := 50) O dX1_findNeighbours_50 rfl ?_
        refine cb_iload (pc := 51) O dX1_findNeighbours_51 rfl ?_
        refine cb_iload (pc := 53) O dX1_findNeighbours_53 rfl ?_
        refine cb_cVp (pc := 55) O (c_X1_isAt w9 A z hI hC9 r c) my_X1_isAt mi_X1_isAt mx_X1_isAt ml_X1_47 dX1_findNeighbours_55 rfl ct_1 rfl rfl rfl ⟨(Nat.le_of_ble_eq_true rfl), (Nat.le_of_ble_eq_true rfl)⟩ (Nat.le_of_ble_eq_true rfl) rfl ⟨(Nat.le_of_ble_eq_true rfl), (Nat.le_of_ble_eq_true rfl)⟩ (by first | exact hC9.1.1 _ rfl | (simp only [cb_um]; exact hC9.1.1 _ rfl)) ?_
        refine cb_ifp_eq (pc := 58) O 125 dX1_findNeighbours_58 (by decide) (fun c_58 => ?_) (fun c_58 => ?_)
        · skip
          have hno : ∀ y', nd x y' d → adj A x y' → inF f9 s9 y' := fun y' hn' ha => by
            exact absurd (nd_at hx64 hd4 hr hcc hn' ha.2.1.1.1 ha.2.1.1.2) c_58
          refine cb_iinc (pc := 125) O (nI (d + 1)) dX1_findNeighbours_125 rfl (by decide) (ci_inc d) ?_
          dsimp only [List.set]
          refine cb_goto (pc := 128) O 5 dX1_findNeighbours_128 (by decide) ?_
          first
          | exact ih_5 (d + 1) s9 f9 w9 _ _ _ (by omega) hss hex hB9 (fun y' d' hd' hn' ha => by
              rcases Nat.lt_or_ge d' d with h | h
              · exact hdn y' d' h hn' ha
              · have e : d' = d := by omega
                rw [e] at hn'
                exact hno y' hn' ha) hC9 hM9 h29 (by omega)
          | exact ih_5 (d + 1) (s9 + 1) (fun i => if i = s9 then y else f9 i) _ _ _ _ (by omega) (by omega) (fun i hi => by rw [if_neg (by omega)]; exact hex i hi) (hB9.add hy64 (hcx.trans (cn.step haj)) hnin) (fun y' d' hd' hn' ha => inF_add.mpr (by
              rcases Nat.lt_or_ge d' d with h | h
              · exact Or.inr (hdn y' d' h hn' ha)
              · have e : d' = d := by omega
                rw [e] at hn'
                exact Or.inl (nd_u hn' hnd))) hbf.1 (hM9.trans hbf.2) (by
              rw [← h29]
              funext k9
              simp only [cb_um]
              rw [cb_u2n (by omega), cb_u2n (by omega)]) (by omega)
        · skip
          obtain ⟨y, hy64, hnd, hye⟩ := nd_of hx64 hd4 hr hcc c_58 l.1 l.2.1
          rw [hye] at hnx
          refine cb_aload_n (pc := 61) O dX1_findNeighbours_61 rfl ?_
          refine cb_getR (pc := 62) O fl_X1_21 rfl rfl dX1_findNeighbours_62 (by first | exact hC9.1.1 _ rfl | (simp only [cb_um]; exact hC9.1.1 _ rfl)) (by first | exact hC9.1.2 _ _ _ rfl | (simp only [cb_um]; exact hC9.1.2 _ _ _ rfl)) ?_
          refine cb_iload (pc := 65) O dX1_findNeighbours_65 rfl ?_
          refine cb_iald (pc := 67) O y rfl dX1_findNeighbours_67 (by decide) (by first | exact hC9.1.1 _ rfl | (simp only [cb_um]; exact hC9.1.1 _ rfl)) hnx hy64 ?_
          refine cb_iconst (pc := 68) (v := (-1)) O dX1_findNeighbours_68 (by decide) ?_
          refine cb_icmp_ne (pc := 69) O 125 dX1_findNeighbours_69 (by decide) (fun c_69 => ?_) (fun c_69 => ?_)
          · skip
            have hno : ∀ y', nd x y' d → adj A x y' → inF f9 s9 y' := fun y' hn' ha => by
              have e := nd_u hn' hnd
              subst e
              refine Classical.byContradiction (fun h => c_69 ?_)
              rw [(hB9.2.1 _ hy64).2 h]
              exact hM0 _ hy64 (hcx.trans (cn.step ha))
            refine cb_iinc (pc := 125) O (nI (d + 1)) dX1_findNeighbours_125 rfl (by decide) (ci_inc d) ?_
            dsimp only [List.set]
            refine cb_goto (pc := 128) O 5 dX1_findNeighbours_128 (by decide) ?_
            first
            | exact ih_5 (d + 1) s9 f9 w9 _ _ _ (by omega) hss hex hB9 (fun y' d' hd' hn' ha => by
                rcases Nat.lt_or_ge d' d with h | h
                · exact hdn y' d' h hn' ha
                · have e : d' = d := by omega
                  rw [e] at hn'
                  exact hno y' hn' ha) hC9 hM9 h29 (by omega)
            | exact ih_5 (d + 1) (s9 + 1) (fun i => if i = s9 then y else f9 i) _ _ _ _ (by omega) (by omega) (fun i hi => by rw [if_neg (by omega)]; exact hex i hi) (hB9.add hy64 (hcx.trans (cn.step haj)) hnin) (fun y' d' hd' hn' ha => inF_add.mpr (by
                rcases Nat.lt_or_ge d' d with h | h
                · exact Or.inr (hdn y' d' h hn' ha)
                · have e : d' = d := by omega
                  rw [e] at hn'
                  exact Or.inl (nd_u hn' hnd))) hbf.1 (hM9.trans hbf.2) (by
                rw [← h29]
                funext k9
                simp only [cb_um]
                rw [cb_u2n (by omega), cb_u2n (by omega)]) (by omega)
          · skip
            have hnin : ¬ inF f9 s9 y := fun h => by
              rw [(hB9.2.1 _ hy64).1 h, ci_eq, ci_n (by omega)] at c_69
              exact absurd c_69 (by show ¬ ((cnt : Nat) : Int) = -1; omega)
            refine cb_iload_n (pc := 72) O dX1_findNeighbours_72 rfl ?_
            refine cb_bipush (pc := 73) (v := 64) O dX1_findNeighbours_73 (by decide) ?_
            refine cb_icmp_ge (pc := 75) O 125 dX1_findNeighbours_75 (by decide) (fun c_75 => ?_) (fun c_75 => ?_)
            · skip
              have h64 := ci_ge (b := 64) c_75 (by omega) (by decide)
              exact absurd (hB9.full h64 hy64) hnin
              skip
            · skip
              refine cb_aload_n (pc := 78) O dX1_findNeighbours_78 rfl ?_
              refine cb_iload (pc := 79) O dX1_findNeighbours_79 rfl ?_
              refine cb_topv (nI y) hnx ?_
              refine cb_cVp (pc := 81) O (c_X1_prints w9 A z hI hC9 y hy64) my_X1_prints mi_X1_prints mx_X1_prints ml_X1_58 dX1_findNeighbours_81 rfl ct_1 rfl rfl rfl ⟨(Nat.le_of_ble_eq_true rfl), (Nat.le_of_ble_eq_true rfl)⟩ (Nat.le_of_ble_eq_true rfl) rfl ⟨(Nat.le_of_ble_eq_true rfl), (Nat.le_of_ble_eq_true rfl)⟩ (by first | exact hC9.1.1 _ rfl | (simp only [cb_um]; exact hC9.1.1 _ rfl)) ?_
              refine cb_ifp_eq (pc := 84) O 125 dX1_findNeighbours_84 (by decide) (fun c_84 => ?_) (fun c_84 => ?_)
              · skip
                have hno : ∀ y', nd x y' d → adj A x y' → inF f9 s9 y' := fun y' hn' ha => by
                  have e := nd_u hn' hnd
                  subst e
                  exact absurd ha.2.1 c_84
                refine cb_iinc (pc := 125) O (nI (d + 1)) dX1_findNeighbours_125 rfl (by decide) (ci_inc d) ?_
                dsimp only [List.set]
                refine cb_goto (pc := 128) O 5 dX1_findNeighbours_128 (by decide) ?_
                first
                | exact ih_5 (d + 1) s9 f9 w9 _ _ _ (by omega) hss hex hB9 (fun y' d' hd' hn' ha => by
                    rcases Nat.lt_or_ge d' d with h | h
                    · exact hdn y' d' h hn' ha
                    · have e : d' = d := by omega
                      rw [e] at hn'
                      exact hno y' hn' ha) hC9 hM9 h29 (by omega)
                | exact ih_5 (d + 1) (s9 + 1) (fun i => if i = s9 then y else f9 i) _ _ _ _ (by omega) (by omega) (fun i hi => by rw [if_neg (by omega)]; exact hex i hi) (hB9.add hy64 (hcx.trans (cn.step haj)) hnin) (fun y' d' hd' hn' ha => inF_add.mpr (by
                    rcases Nat.lt_or_ge d' d with h | h
                    · exact Or.inr (hdn y' d' h hn' ha)
                    · have e : d' = d := by omega
                      rw [e] at hn'
                      exact Or.inl (nd_u hn' hnd))) hbf.1 (hM9.trans hbf.2) (by
                    rw [← h29]
                    funext k9
                    simp only [cb_um]
                    rw [cb_u2n (by omega), cb_u2n (by omega)]) (by omega)
              · skip
                refine cb_aload_n (pc := 87) O dX1_findNeighbours_87 rfl ?_
                refine cb_getR (pc := 88) O fl_X1_15 rfl rfl dX1_findNeighbours_88 (by first | exact hC9.1.1 _ rfl | (simp only [cb_um]; exact hC9.1.1 _ rfl)) (by first | exact hC9.1.2 _ _ _ rfl | (simp only [cb_um]; exact hC9.1.2 _ _ _ rfl)) ?_
                refine cb_iload (pc := 91) O dX1_findNeighbours_91 rfl ?_
                refine cb_iald (pc := 93) O y rfl dX1_findNeighbours_93 (by decide) (by first | exact hC9.1.1 _ rfl | (simp only [cb_um]; exact hC9.1.1 _ rfl)) hnx hy64 ?_
                refine cb_topv _ (hC9.2.1.2.2.1 y hy64) ?_
                refine cb_aload_n (pc := 94) O dX1_findNeighbours_94 rfl ?_
                refine cb_getR (pc := 95) O fl_X1_15 rfl rfl dX1_findNeighbours_95 (by first | exact hC9.1.1 _ rfl | (simp only [cb_um]; exact hC9.1.1 _ rfl)) (by first | exact hC9.1.2 _ _ _ rfl | (simp only [cb_um]; exact hC9.1.2 _ _ _ rfl)) ?_
                refine cb_iload_n (pc := 98) O dX1_findNeighbours_98 rfl ?_
                refine cb_iald (pc := 99) O x rfl dX1_findNeighbours_99 (by decide) (by first | exact hC9.1.1 _ rfl | (simp only [cb_um]; exact hC9.1.1 _ rfl)) rfl hx64 ?_
                refine cb_topv _ (hC9.2.1.2.2.1 x hx64) ?_
                refine cb_icmp_ne (pc := 100) O 125 dX1_findNeighbours_100 (by decide) (fun c_100 => ?_) (fun c_100 => ?_)
                · skip
                  rw [nI_eq (by have := hI.2.2.2.1.2.1 y; omega) (by have := hI.2.2.2.1.2.1 x; omega)] at c_100
                  have hno : ∀ y', nd x y' d → adj A x y' → inF f9 s9 y' := fun y' hn' ha => by
                    have e := nd_u hn' hnd
                    subst e
                    exact absurd ha.2.2.1.symm c_100
                  refine cb_iinc (pc := 125) O (nI (d + 1)) dX1_findNeighbours_125 rfl (by decide) (ci_inc d) ?_
                  dsimp only [List.set]
                  refine cb_goto (pc := 128) O 5 dX1_findNeighbours_128 (by decide) ?_
                  first
                  | exact ih_5 (d + 1) s9 f9 w9 _ _ _ (by omega) hss hex hB9 (fun y' d' hd' hn' ha => by
                      rcases Nat.lt_or_ge d' d with h | h
                      · exact hdn y' d' h hn' ha
                      · have e : d' = d := by omega
                        rw [e] at hn'
                        exact hno y' hn' ha) hC9 hM9 h29 (by omega)
                  | exact ih_5 (d + 1) (s9 + 1) (fun i => if i = s9 then y else f9 i) _ _ _ _ (by omega) (by omega) (fun i hi => by rw [if_neg (by omega)]; exact hex i hi) (hB9.add hy64 (hcx.trans (cn.step haj)) hnin) (fun y' d' hd' hn' ha => inF_add.mpr (by
                      rcases Nat.lt_or_ge d' d with h | h
                      · exact Or.inr (hdn y' d' h hn' ha)
                      · have e : d' = d := by omega
                        rw [e] at hn'
                        exact Or.inl (nd_u hn' hnd))) hbf.1 (hM9.trans hbf.2) (by
                      rw [← h29]
                      funext k9
                      simp only [cb_um]
                      rw [cb_u2n (by omega), cb_u2n (by omega)]) (by omega)
                · skip
                  rw [nI_eq (by have := hI.2.2.2.1.2.1 y; omega) (by have := hI.2.2.2.1.2.1 x; omega)] at c_100
                  have hpx : ca_p A x := hpst x hcx
                  have haj : adj A x y := ⟨hpx, c_84, c_100.symm, d, hd4, hnd⟩
                  have h75 := ci_nge (b := 64) c_75 (by omega) (by decide)
                  refine cb_aload_n (pc := 103) O dX1_findNeighbours_103 rfl ?_
                  refine cb_getR (pc := 104) O fl_X1_21 rfl rfl dX1_findNeighbours_104 (by first | exact hC9.1.1 _ rfl | (simp only [cb_um]; exact hC9.1.1 _ rfl)) (by first | exact hC9.1.2 _ _ _ rfl | (simp only [cb_um]; exact hC9.1.2 _ _ _ rfl)) ?_
                  refine cb_iload (pc := 107) O dX1_findNeighbours_107 rfl ?_
                  refine cb_aload_n (pc := 109) O dX1_findNeighbours_109 rfl ?_
                  refine cb_getI (pc := 110) O fl_X1_80 rfl rfl dX1_findNeighbours_110 (by first | exact hC9.1.1 _ rfl | (simp only [cb_um]; exact hC9.1.1 _ rfl)) ?_
                  refine cb_topv (nI cnt) (by rw [h29]; exact hc) ?_
                  refine cb_iast (pc := 113) O y rfl dX1_findNeighbours_113 (by decide) (by first | exact hC9.1.1 _ rfl | (simp only [cb_um]; exact hC9.1.1 _ rfl)) hnx hy64 ?_
                  refine cb_aload_n (pc := 114) O dX1_findNeighbours_114 rfl ?_
                  refine cb_getR (pc := 115) O fl_X1_24 rfl rfl dX1_findNeighbours_115 (by first | exact hC9.1.1 _ rfl | (simp only [cb_um]; exact hC9.1.1 _ rfl)) (by first | exact hC9.1.2 _ _ _ rfl | (simp only [cb_um]; exact hC9.1.2 _ _ _ rfl)) ?_
                  refine cb_iload_n (pc := 118) O dX1_findNeighbours_118 rfl ?_
                  refine cb_iload (pc := 119) O dX1_findNeighbours_119 rfl ?_
                  rw [hnx]
                  refine cb_iast (pc := 121) O s9 rfl dX1_findNeighbours_121 (by decide) (by first | exact hC9.1.1 _ rfl | (simp only [cb_um]; exact hC9.1.1 _ rfl)) rfl (by omega) ?_
                  have hbf := cc_I.bf (w' := cb_um (cb_um w9 24 y (nI cnt)) 25 s9 (nI y)) hC9 hI rfl rfl (fun r k h => by
                    simp only [cb_um]
                    rw [cb_u2n (by omega), cb_u2n (by omega)])
                  refine cb_iinc (pc := 122) O (nI (s9 + 1)) dX1_findNeighbours_122 rfl (by decide) (ci_inc s9) ?_
                  dsimp only [List.set]
                  refine cb_iinc (pc := 125) O (nI (d + 1)) dX1_findNeighbours_125 rfl (by decide) (ci_inc d) ?_
                  dsimp only [List.set]
                  refine cb_goto (pc := 128) O 5 dX1_findNeighbours_128 (by decide) ?_
                  first
                  | exact ih_5 (d + 1) s9 f9 w9 _ _ _ (by omega) hss hex hB9 (fun y' d' hd' hn' ha => by
                      rcases Nat.lt_or_ge d' d with h | h
                      · exact hdn y' d' h hn' ha
                      · have e : d' = d := by omega
                        rw [e] at hn'
                        exact hno y' hn' ha) hC9 hM9 h29 (by omega)
                  | exact ih_5 (d + 1) (s9 + 1) (fun i => if i = s9 then y else f9 i) _ _ _ _ (by omega) (by omega) (fun i hi => by rw [if_neg (by omega)]; exact hex i hi) (hB9.add hy64 (hcx.trans (cn.step haj)) hnin) (fun y' d' hd' hn' ha => inF_add.mpr (by
                      rcases Nat.lt_or_ge d' d with h | h
                      · exact Or.inr (hdn y' d' h hn' ha)
                      · have e : d' = d := by omega
                        rw [e] at hn'
                        exact Or.inl (nd_u hn' hnd))) hbf.1 (hM9.trans hbf.2) (by
                      rw [← h29]
                      funext k9
                      simp only [cb_um]
                      rw [cb_u2n (by omega), cb_u2n (by omega)]) (by omega)
  exact L_5 5 0 s f w none none none (by omega) (Nat.le_refl _) (fun _ _ => rfl) hB (fun y d' h => absurd h (by omega)) hC cb_M1.rfl' rfl (by omega)

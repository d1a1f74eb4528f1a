theorem c_X11_throwsOff (w : cb_W) (A : ca_A) (z : Int32) (hI : ca_I A) (hM : cm_I w A z)  : cb_Con yX11_throwsOff cX11_throwsOff 1 (some .boolean) 0 0 0 0 (fun _ => true) [.inr (some 1000)] w (cb_pi (fun x w' => x = (if poff A (pz z) then 1 else 0) ∧ w' = cb_um w 1000 7 (pz z))) := by
  refine cb_con (by decide) (Nat.le_of_ble_eq_true rfl) (fun κ O Rt hnm => ?_)
  show cb_X κ w 0 0 0 [some (.inr (some 1000))] []
  refine cb_aload_n (pc := 0) O dX11_throwsOff_0 rfl ?_
  refine cb_aload_n (pc := 1) O dX11_throwsOff_1 rfl ?_
  refine cb_getI (pc := 2) O fl_X11_113 rfl rfl dX11_throwsOff_2 (by first | exact hM.1.1 _ rfl | (simp only [cb_um]; exact hM.1.1 _ rfl)) ?_
  refine cb_ldc (pc := 5) O dX11_throwsOff_5 kc_X11_158 ?_
  refine cb_imul (pc := 7) O dX11_throwsOff_7 ?_
  refine cb_sipush (pc := 8) (v := 12345) O dX11_throwsOff_8 (by decide) ?_
  refine cb_iadd (pc := 11) O dX11_throwsOff_11 ?_
  refine cb_topv (pz z) (by rw [hM.2.2]; rfl) ?_
  refine cb_putIc (pc := 12) O fl_X11_113 (Or.inl rfl) rfl rfl dX11_throwsOff_12 rfl rfl (by first | exact hM.1.1 _ rfl | (simp only [cb_um]; exact hM.1.1 _ rfl)) ?_
  refine cb_aload_n (pc := 15) O dX11_throwsOff_15 rfl ?_
  refine cb_getI (pc := 16) O fl_X11_113 rfl rfl dX11_throwsOff_16 (by first | exact hM.1.1 _ rfl | (simp only [cb_um]; exact hM.1.1 _ rfl)) ?_
  refine cb_topv (pz z) (by show cb_u2 w.2.1 1000 7 (pz z) 1000 7 = _; rw [cb_u2s]) ?_
  refine cb_bipush (pc := 19) (v := 8) O dX11_throwsOff_19 (by decide) ?_
  refine cb_iushr (pc := 21) O dX11_throwsOff_21 ?_
  refine cb_topv (pu (pz z)) rfl ?_
  refine cb_sipush (pc := 22) (v := 1000) O dX11_throwsOff_22 (by decide) ?_
  refine cb_irem (pc := 25) O dX11_throwsOff_25 (by decide) ?_
  refine cb_aload_n (pc := 26) O dX11_throwsOff_26 rfl ?_
  refine cb_getI (pc := 27) O fl_X11_110 rfl rfl dX11_throwsOff_27 (by first | exact hM.1.1 _ rfl | (simp only [cb_um]; exact hM.1.1 _ rfl)) ?_
  refine cb_topv (nI (A 0 6)) (by show cb_u2 w.2.1 1000 7 (pz z) 1000 6 = _; rw [cb_u2n (by omega)]; exact cm_at hM 0 6 rfl (by omega)) ?_
  refine cb_icmp_ge (pc := 30) O 37 dX11_throwsOff_30 (by decide) (fun c_30 => ?_) (fun c_30 => ?_)
  · skip
    refine cb_iconst (pc := 37) (v := 0) O dX11_throwsOff_37 (by decide) ?_
    exact cb_iret (pc := 38) O Rt rfl (Nat.le_of_ble_eq_true rfl) (Nat.le_of_ble_eq_true rfl) dX11_throwsOff_38 (by
      refine ⟨?_, rfl⟩
      first
      | exact (if_neg (fun h => h c_30)).symm
      | exact (if_pos c_30).symm)
  · skip
    refine cb_iconst (pc := 33) (v := 1) O dX11_throwsOff_33 (by decide) ?_
    refine cb_goto (pc := 34) O 38 dX11_throwsOff_34 (by decide) ?_
    exact cb_iret (pc := 38) O Rt rfl (Nat.le_of_ble_eq_true rfl) (Nat.le_of_ble_eq_true rfl) dX11_throwsOff_38 (by
      refine ⟨?_, rfl⟩
      first
      | exact (if_neg (fun h => h c_30)).symm
      | exact (if_pos c_30).symm)

def cm_tk (w : cb_W) (B : ca_A) (s k i : Nat) : cb_W := cb_um (cb_um (cb_um (cb_um (cb_um w 1015 (64 * s + k) (nI (B 3 (16 * i + B 15 (64 * s + k))))) 1016 (64 * s + k) (nI (B 0 26))) 1017 (64 * s + k) (nI (B 17 (64 * s + k) + 1))) 1018 (64 * s + k) (nI i)) 1019 (64 * s + k) (nI (B 0 8 + B 4 i))
theorem cm_tkM {w : cb_W} {B : ca_A} {z : Int32} (s k i : Nat) (h : cm_I w B z) : cm_I (cm_tk w B s k i) (tk B s k i) z := by
  unfold cm_tk tk
  refine cm_I.um (k := 19) (cm_I.um (k := 18) (cm_I.um (k := 17) (cm_I.um (k := 16) (cm_I.um (k := 15) h (by omega) _ (fun _ => rfl)) (by omega) _ (fun _ => ?_)) (by omega) _ (fun _ => rfl)) (by omega) _ (fun _ => rfl)) (by omega) _ (fun _ => rfl)
  show nI (B 0 26) = nI (B 0 26 + 1) - 1
  rw [nI_p1]
theorem cm_tkC {w w' : cb_W} {B : ca_A} {s k i : Nat} (h : cb_C1 w w') : cb_C1 w (cm_tk w' B s k i) := ((((h.um (by omega)).um (by omega)).um (by omega)).um (by omega)).um (by omega)
theorem cm_tk5 {w : cb_W} {B : ca_A} {s k i : Nat} : (cm_tk w B s k i).2.1 1028 = w.2.1 1028 := by
  unfold cm_tk
  simp only [cb_um]
  rw [cb_u2r (by omega), cb_u2r (by omega), cb_u2r (by omega), cb_u2r (by omega), cb_u2r (by omega)]
theorem sp_S {A : ca_A} {rl : Nat → Nat} {s m : Nat} (hp : ca_p A m) : sp A rl s (m + 1) = if spc A s m (rl (m % 8)) then 1 else sp A rl s m := by
  rw [sp]
  exact ci_if ⟨fun h => h.2, fun h => ⟨hp, h⟩⟩
theorem c_X11_lay (w : cb_W) (A : ca_A) (z : Int32) (hI : ca_I A) (hM : cm_I w A z) (s : Nat) (hs : s < A 0 20) (h17 : ∀ k, k < 64 → A 17 (64 * s + k) ≤ 200) (rl : Nat → Nat) (hrl : ∀ c, rl c < 10) (hroll : ∀ c, c < 8 → w.2.1 1028 c = nI (rl c)) : cb_Con yX11_lay cX11_lay 8 (some .boolean) 1 21 0 0 (fun _ => true) [.inr (some 1000), .inl (nI s)] w (cb_pi (fun x w' => x = nI (sp A rl s 64) ∧ cm_I w' (ly A rl s 64) z ∧ w'.2.1 1028 = w.2.1 1028 ∧ cb_C1 w w')) := by
  have l := hI.1
  refine cb_con (by decide) (Nat.le_of_ble_eq_true rfl) (fun κ O Rt hnm => ?_)
  show cb_X κ w 0 0 0 [some (.inr (some 1000)), some (.inl (nI s)), none, none, none, none, none, none] []
  refine cb_iconst (pc := 0) (v := 0) O dX11_lay_0 (by decide) ?_
  refine cb_istore_n (pc := 1) O dX11_lay_1 (by decide) ?_
  dsimp only [List.set]
  refine cb_iconst (pc := 2) (v := 0) O dX11_lay_2 (by decide) ?_
  refine cb_istore_n (pc := 3) O dX11_lay_3 (by decide) ?_
  dsimp only [List.set]
  have L_4 : ∀ (n : Nat) (r : Nat) (w9 : cb_W) (x4 x5 x6 x7 : Option cb_V), r ≤ A 0 0 → cm_I w9 (ly A rl s (8 * r)) z → w9.2.1 1028 = w.2.1 1028 → cb_C1 w w9 → 9 ≤ r + n → cb_X κ w9 0 0 4 [some (.inr (some 1000)), some (.inl (nI s)), some (.inl (nI (sp A rl s (8 * r)))), some (.inl (nI r)), x4, x5, x6, x7] [] := by
    intro n
    induction n with
    | zero =>
      intro r w9 x4 x5 x6 x7 hr hM9 h59 hC9 hn
      exact absurd hn (by omega)
    | succ n ih_4 =>
      intro r w9 x4 x5 x6 x7 hr hM9 h59 hC9 hn
      have q0 : w9.2.1 1000 0 = nI (A 0 0) := by
        rw [show w9.2.1 1000 0 = nI (ly A rl s (8 * r) 0 0) from cm_at hM9 0 0 rfl (by omega), ly_o _ _ _ _ (by omega)]
      refine cb_iload_n (pc := 4) O dX11_lay_4 rfl ?_
      refine cb_aload_n (pc := 5) O dX11_lay_5 rfl ?_
      refine cb_getI (pc := 6) O fl_X11_94 rfl rfl dX11_lay_6 (by first | exact hM9.1.1 _ rfl | (simp only [cb_um]; exact hM9.1.1 _ rfl)) ?_
      refine cb_topv _ q0 ?_
      refine cb_icmp_ge (pc := 9) O 192 dX11_lay_9 (by decide) (fun c_9 => ?_) (fun c_9 => ?_)
      · skip
        rw [nI_leI (by omega) (by omega)] at c_9
        refine cb_iload_n (pc := 192) O dX11_lay_192 rfl ?_
        exact cb_iret (pc := 193) O Rt (by rcases (show sp A rl s (8 * r) = 0 ∨ sp A rl s (8 * r) = 1 by have := sp_1 A rl s (8 * r); omega) with e | e <;> rw [e] <;> rfl) (Nat.le_of_ble_eq_true rfl) (Nat.le_of_ble_eq_true rfl) dX11_lay_193 (by
          have hE := ly_E (A := A) (rl := rl) (s := s) (m := 8 * r) (m' := 64) (fun k hk => by have := hk.1.1; omega)
          rw [← hE.1, ← hE.2]
          exact ⟨rfl, hM9, h59, hC9⟩)
      · skip
        rw [nI_leI (by omega) (by omega)] at c_9
        refine cb_iconst (pc := 12) (v := 0) O dX11_lay_12 (by decide) ?_
        refine cb_istore (pc := 13) O dX11_lay_13 (by decide) ?_
        dsimp only [List.set]
        have L_15 : ∀ (n : Nat) (c : Nat) (w9 : cb_W) (x5 x6 x7 : Option cb_V), c ≤ A 0 1 → cm_I w9 (ly A rl s (8 * r + c)) z → w9.2.1 1028 = w.2.1 1028 → cb_C1 w w9 → 9 ≤ c + n → cb_X κ w9 0 0 15 [some (.inr (some 1000)), some (.inl (nI s)), some (.inl (nI (sp A rl s (8 * r + c)))), some (.inl (nI r)), some (.inl (nI c)), x5, x6, x7] [] := by
          intro n
          induction n with
          | zero =>
            intro c w9 x5 x6 x7 hc hM9 h59 hC9 hn
            exact absurd hn (by omega)
          | succ n ih_15 =>
            intro c w9 x5 x6 x7 hc hM9 h59 hC9 hn
            have q1 : w9.2.1 1000 1 = nI (A 0 1) := by
              rw [show w9.2.1 1000 1 = nI (ly A rl s (8 * r + c) 0 1) from cm_at hM9 0 1 rfl (by omega), ly_o _ _ _ _ (by omega)]
            refine cb_iload (pc := 15) O dX11_lay_15 rfl ?_
            refine cb_aload_n (pc := 17) O dX11_lay_17 rfl ?_
            refine cb_getI (pc := 18) O fl_X11_97 rfl rfl dX11_lay_18 (by first | exact hM9.1.1 _ rfl | (simp only [cb_um]; exact hM9.1.1 _ rfl)) ?_
            refine cb_topv _ q1 ?_
            refine cb_icmp_ge (pc := 21) O 186 dX11_lay_21 (by decide) (fun c_21 => ?_) (fun c_21 => ?_)
            · skip
              rw [nI_leI (by omega) (by omega)] at c_21
              refine cb_iinc (pc := 186) O (nI (r + 1)) dX11_lay_186 rfl (by decide) (ci_inc r) ?_
              dsimp only [List.set]
              refine cb_goto (pc := 189) O 4 dX11_lay_189 (by decide) ?_
              have hE := ly_E (A := A) (rl := rl) (s := s) (m := 8 * r + c) (m' := 8 * (r + 1)) (fun k hk => by have := hk.1.2; omega)
              rw [hE.2]
              exact ih_4 (r + 1) w9 _ _ _ _ (by omega) (by rw [← hE.1]; exact hM9) h59 hC9 (by omega)
            · skip
              rw [nI_leI (by omega) (by omega)] at c_21
              obtain ⟨B, hB⟩ : ∃ B, B = ly A rl s (8 * r + c) := ⟨_, rfl⟩
              have hIB : ca_I B := by rw [hB]; exact ly_I hI h17 hs hrl _ (by omega)
              have bo : ∀ q x, ¬ (15 ≤ q ∧ q ≤ 19 ∧ 64 * s ≤ x ∧ x < 64 * s + (8 * r + c)) → B q x = A q x := fun q x h => by rw [hB]; exact ly_o _ _ _ _ h
              have hk64 : 8 * r + c < 64 := by omega
              have ho : ca_o A (8 * r + c) := ⟨by omega, by omega⟩
              have em : (8 * r + c) % 8 = c := by omega
              rw [← hB] at hM9
              have l15 := hIB.2.2.2.2.1.1 (64 * s + (8 * r + c))
              have l17 := h17 (8 * r + c) hk64
              have l18 := hIB.2.2.2.2.1.2.2.1 (64 * s + (8 * r + c))
              have l19 := hIB.2.2.2.2.1.2.2.2.1 (64 * s + (8 * r + c))
              have l5 := hIB.2.2.1.2.2.1 (10 * B 18 (64 * s + (8 * r + c)) + rl c)
              have hrc := hrl c
              have p15 : w9.2.1 1015 (64 * s + (8 * r + c)) = nI (B 15 (64 * s + (8 * r + c))) := cm_at hM9 15 _ (by simp [ca_R]; omega) (by omega)
              have p17 : w9.2.1 1017 (64 * s + (8 * r + c)) = nI (B 17 (64 * s + (8 * r + c))) := cm_at hM9 17 _ (by simp [ca_R]; omega) (by omega)
              have p18 : w9.2.1 1018 (64 * s + (8 * r + c)) = nI (B 18 (64 * s + (8 * r + c))) := cm_at hM9 18 _ (by simp [ca_R]; omega) (by omega)
              have p19 : w9.2.1 1019 (64 * s + (8 * r + c)) = nI (B 19 (64 * s + (8 * r + c))) := cm_at hM9 19 _ (by simp [ca_R]; omega) (by omega)
              have p3 : w9.2.1 1003 (16 * rl c + B 15 (64 * s + (8 * r + c))) = nI (B 3 (16 * rl c + B 15 (64 * s + (8 * r + c)))) := cm_at hM9 3 _ (by simp [ca_R]; omega) (by omega)
              have p4 : w9.2.1 1004 (rl c) = nI (B 4 (rl c)) := cm_at hM9 4 _ (by simp [ca_R]; omega) (by omega)
              have p5 : w9.2.1 1005 (10 * B 18 (64 * s + (8 * r + c)) + rl c) = nI (B 5 (10 * B 18 (64 * s + (8 * r + c)) + rl c)) := cm_at hM9 5 _ (by simp [ca_R]; omega) (by omega)
              have p8 : w9.2.1 1000 8 = nI (B 0 8) := cm_at hM9 0 8 rfl (by omega)
              have p26 : w9.2.1 1000 26 = nI (B 0 26) := cm_at hM9 0 26 rfl (by omega)
              have b8 : B 0 8 = A 0 8 := bo 0 8 (by omega)
              have hrd : w9.2.1 1028 c = nI (rl c) := by rw [h59]; exact hroll c (by omega)
              have hpe : (B 10 (8 * r + c) = 0 ∧ B 12 (B 11 (8 * r + c)) = 0) ↔ ca_p A (8 * r + c) := by
                rw [bo 10 _ (by omega), bo 12 _ (by omega), bo 11 _ (by omega)]
                exact ⟨fun h => ⟨ho, h⟩, fun h => h.2⟩
              have hse : spc B s (8 * r + c) (rl c) ↔ spc A s (8 * r + c) (rl c) := by
                unfold spc
                rw [bo 0 8 (by omega), bo 19 _ (by omega), bo 18 _ (by omega), bo 5 _ (by omega)]
              have hs1 := sp_1 A rl s (8 * r + c)
              refine cb_bipush (pc := 24) (v := 8) O dX11_lay_24 (by decide) ?_
              refine cb_iload_n (pc := 26) O dX11_lay_26 rfl ?_
              refine cb_imul (pc := 27) O dX11_lay_27 ?_
              refine cb_iload (pc := 28) O dX11_lay_28 rfl ?_
              refine cb_iadd (pc := 30) O dX11_lay_30 ?_
              refine cb_topv (nI (8 * r + c)) (ci_m8 _ _) ?_
              refine cb_istore (pc := 31) O dX11_lay_31 (by decide) ?_
              dsimp only [List.set]
              refine cb_bipush (pc := 33) (v := 64) O dX11_lay_33 (by decide) ?_
              refine cb_iload_n (pc := 35) O dX11_lay_35 rfl ?_
              refine cb_imul (pc := 36) O dX11_lay_36 ?_
              refine cb_iload (pc := 37) O dX11_lay_37 rfl ?_
              refine cb_iadd (pc := 39) O dX11_lay_39 ?_
              refine cb_topv (nI (64 * s + (8 * r + c))) (ci_m64 _ _) ?_
              refine cb_istore (pc := 40) O dX11_lay_40 (by decide) ?_
              dsimp only [List.set]
              refine cb_aload_n (pc := 42) O dX11_lay_42 rfl ?_
              refine cb_getR (pc := 43) O fl_X11_68 rfl rfl dX11_lay_43 (by first | exact hM9.1.1 _ rfl | (simp only [cb_um]; exact hM9.1.1 _ rfl)) (by first | exact hM9.1.2 _ _ _ rfl | (simp only [cb_um]; exact hM9.1.2 _ _ _ rfl)) ?_
              refine cb_iload (pc := 46) O dX11_lay_46 rfl ?_
              refine cb_iald (pc := 48) O c rfl dX11_lay_48 (by decide) (by first | exact hM9.1.1 _ rfl | (simp only [cb_um]; exact hM9.1.1 _ rfl)) rfl (by omega) ?_
              refine cb_topv _ hrd ?_
              refine cb_istore (pc := 49) O dX11_lay_49 (by decide) ?_
              dsimp only [List.set]
              refine cb_aload_n (pc := 51) O dX11_lay_51 rfl ?_
              refine cb_iload (pc := 52) O dX11_lay_52 rfl ?_
              refine cb_cVp (pc := 54) O (c_X11_prints w9 B z hIB hM9 (8 * r + c) hk64) my_X11_prints mi_X11_prints mx_X11_prints ml_X11_145 dX11_lay_54 rfl ct_11 rfl rfl rfl ⟨(Nat.le_of_ble_eq_true rfl), (Nat.le_of_ble_eq_true rfl)⟩ (Nat.le_of_ble_eq_true rfl) rfl ⟨(Nat.le_of_ble_eq_true rfl), (Nat.le_of_ble_eq_true rfl)⟩ (by first | exact hM9.1.1 _ rfl | (simp only [cb_um]; exact hM9.1.1 _ rfl)) ?_
              refine cb_ifp_eq (pc := 57) O 180 dX11_lay_57 (by decide) (fun c_57 => ?_) (fun c_57 => ?_)
              · skip
                have hskip : ly A rl s (8 * r + (c + 1)) = ly A rl s (8 * r + c) ∧ sp A rl s (8 * r + (c + 1)) = sp A rl s (8 * r + c) := by
                  have hnp : ¬ ca_p A (8 * r + c) := fun h => c_57 (hpe.mpr h)
                  rw [← Nat.add_assoc]
                  exact ⟨by rw [ly, if_neg hnp], by rw [sp, if_neg (fun h => hnp h.1)]⟩
                refine cb_iinc (pc := 180) O (nI (c + 1)) dX11_lay_180 rfl (by decide) (ci_inc c) ?_
                dsimp only [List.set]
                refine cb_goto (pc := 183) O 15 dX11_lay_183 (by decide) ?_
                first
                | exact ih_15 (c + 1) (cm_tk w9 B s (8 * r + c) (rl c)) _ _ _ (by omega) (by show cm_I _ (ly A rl s (8 * r + c + 1)) z; rw [hlS]; exact cm_tkM _ _ _ hM9) (cm_tk5.trans h59) (cm_tkC hC9) (by omega)
                | (refine cb_eqX (lv' := [some (.inr (some 1000)), some (.inl (nI s)), some (.inl (nI (sp A rl s (8 * r + (c + 1))))), some (.inl (nI r)), some (.inl (nI (c + 1))), _, _, _]) rfl rfl (by rw [hskip.2]) rfl ?_
                   exact ih_15 (c + 1) w9 _ _ _ (by omega) (by rw [hskip.1, ← hB]; exact hM9) h59 hC9 (by omega))
              · skip
                have hp := hpe.mp c_57
                have hsS := sp_S (rl := rl) (s := s) hp
                rw [em] at hsS
                have hlS : ly A rl s (8 * r + c + 1) = tk B s (8 * r + c) (rl c) := by
                  rw [ly, if_pos hp, ← hB, em]
                refine cb_iload_n (pc := 60) O dX11_lay_60 rfl ?_
                refine cb_if_ne (pc := 61) O 99 dX11_lay_61 (by decide) (fun c_61 => ?_) (fun c_61 => ?_)
                · skip
                  have hsp1 : sp A rl s (8 * r + c) = 1 := by
                    rcases (show sp A rl s (8 * r + c) = 0 ∨ sp A rl s (8 * r + c) = 1 by omega) with e | e
                    · rw [e] at c_61; exact absurd rfl c_61
                    · exact e
                  have hnv : sp A rl s (8 * r + c + 1) = 1 := by
                    rw [hsS]; split
                    · rfl
                    · exact hsp1
                  refine cb_iconst (pc := 99) (v := 1) O dX11_lay_99 (by decide) ?_
                  refine cb_topv (nI (sp A rl s (8 * r + c + 1))) (by rw [hnv]; rfl) ?_
                  refine cb_goto (pc := 100) O 104 dX11_lay_100 (by decide) ?_
                  refine cb_istore_n (pc := 104) O dX11_lay_104 (by decide) ?_
                  dsimp only [List.set]
                  refine cb_aload_n (pc := 105) O dX11_lay_105 rfl ?_
                  refine cb_getR (pc := 106) O fl_X11_35 rfl rfl dX11_lay_106 (by first | exact hM9.1.1 _ rfl | (simp only [cb_um]; exact hM9.1.1 _ rfl)) (by first | exact hM9.1.2 _ _ _ rfl | (simp only [cb_um]; exact hM9.1.2 _ _ _ rfl)) ?_
                  refine cb_iload (pc := 109) O dX11_lay_109 rfl ?_
                  refine cb_aload_n (pc := 111) O dX11_lay_111 rfl ?_
                  refine cb_getR (pc := 112) O fl_X11_9 rfl rfl dX11_lay_112 (by first | exact hM9.1.1 _ rfl | (simp only [cb_um]; exact hM9.1.1 _ rfl)) (by first | exact hM9.1.2 _ _ _ rfl | (simp only [cb_um]; exact hM9.1.2 _ _ _ rfl)) ?_
                  refine cb_bipush (pc := 115) (v := 16) O dX11_lay_115 (by decide) ?_
                  refine cb_iload (pc := 117) O dX11_lay_117 rfl ?_
                  refine cb_imul (pc := 119) O dX11_lay_119 ?_
                  refine cb_aload_n (pc := 120) O dX11_lay_120 rfl ?_
                  refine cb_getR (pc := 121) O fl_X11_35 rfl rfl dX11_lay_121 (by first | exact hM9.1.1 _ rfl | (simp only [cb_um]; exact hM9.1.1 _ rfl)) (by first | exact hM9.1.2 _ _ _ rfl | (simp only [cb_um]; exact hM9.1.2 _ _ _ rfl)) ?_
                  refine cb_iload (pc := 124) O dX11_lay_124 rfl ?_
                  refine cb_iald (pc := 126) O (64 * s + (8 * r + c)) rfl dX11_lay_126 (by decide) (by first | exact hM9.1.1 _ rfl | (simp only [cb_um]; exact hM9.1.1 _ rfl)) rfl (by omega) ?_
                  refine cb_topv _ p15 ?_
                  refine cb_iadd (pc := 127) O dX11_lay_127 ?_
                  refine cb_topv _ (ci_m16 _ _) ?_
                  refine cb_iald (pc := 128) O (16 * rl c + B 15 (64 * s + (8 * r + c))) rfl dX11_lay_128 (by decide) (by first | exact hM9.1.1 _ rfl | (simp only [cb_um]; exact hM9.1.1 _ rfl)) rfl (by omega) ?_
                  refine cb_topv _ p3 ?_
                  refine cb_iast (pc := 129) O (64 * s + (8 * r + c)) rfl dX11_lay_129 (by decide) (by first | exact hM9.1.1 _ rfl | (simp only [cb_um]; exact hM9.1.1 _ rfl)) rfl (by omega) ?_
                  refine cb_aload_n (pc := 130) O dX11_lay_130 rfl ?_
                  refine cb_getR (pc := 131) O fl_X11_38 rfl rfl dX11_lay_131 (by first | exact hM9.1.1 _ rfl | (simp only [cb_um]; exact hM9.1.1 _ rfl)) (by first | exact hM9.1.2 _ _ _ rfl | (simp only [cb_um]; exact hM9.1.2 _ _ _ rfl)) ?_
                  refine cb_iload (pc := 134) O dX11_lay_134 rfl ?_
                  refine cb_aload_n (pc := 136) O dX11_lay_136 rfl ?_
                  refine cb_getI (pc := 137) O fl_X11_159 rfl rfl dX11_lay_137 (by first | exact hM9.1.1 _ rfl | (simp only [cb_um]; exact hM9.1.1 _ rfl)) ?_
                  refine cb_topv (nI (B 0 26)) (by simp only [cb_um]; rw [cb_u2n (by omega)]; exact p26) ?_
                  refine cb_iast (pc := 140) O (64 * s + (8 * r + c)) rfl dX11_lay_140 (by decide) (by first | exact hM9.1.1 _ rfl | (simp only [cb_um]; exact hM9.1.1 _ rfl)) rfl (by omega) ?_
                  refine cb_aload_n (pc := 141) O dX11_lay_141 rfl ?_
                  refine cb_getR (pc := 142) O fl_X11_41 rfl rfl dX11_lay_142 (by first | exact hM9.1.1 _ rfl | (simp only [cb_um]; exact hM9.1.1 _ rfl)) (by first | exact hM9.1.2 _ _ _ rfl | (simp only [cb_um]; exact hM9.1.2 _ _ _ rfl)) ?_
                  refine cb_iload (pc := 145) O dX11_lay_145 rfl ?_
                  refine cb_dup2 (pc := 147) O dX11_lay_147 ?_
                  refine cb_iald (pc := 148) O (64 * s + (8 * r + c)) rfl dX11_lay_148 (by decide) (by first | exact hM9.1.1 _ rfl | (simp only [cb_um]; exact hM9.1.1 _ rfl)) rfl (by omega) ?_
                  refine cb_topv (nI (B 17 (64 * s + (8 * r + c)))) (by simp only [cb_um]; rw [cb_u2n (by omega), cb_u2n (by omega)]; exact p17) ?_
                  refine cb_iconst (pc := 149) (v := 1) O dX11_lay_149 (by decide) ?_
                  refine cb_iadd (pc := 150) O dX11_lay_150 ?_
                  refine cb_topv _ (nI_add _ _) ?_
                  refine cb_iast (pc := 151) O (64 * s + (8 * r + c)) rfl dX11_lay_151 (by decide) (by first | exact hM9.1.1 _ rfl | (simp only [cb_um]; exact hM9.1.1 _ rfl)) rfl (by omega) ?_
                  refine cb_aload_n (pc := 152) O dX11_lay_152 rfl ?_
                  refine cb_getR (pc := 153) O fl_X11_44 rfl rfl dX11_lay_153 (by first | exact hM9.1.1 _ rfl | (simp only [cb_um]; exact hM9.1.1 _ rfl)) (by first | exact hM9.1.2 _ _ _ rfl | (simp only [cb_um]; exact hM9.1.2 _ _ _ rfl)) ?_
                  refine cb_iload (pc := 156) O dX11_lay_156 rfl ?_
                  refine cb_iload (pc := 158) O dX11_lay_158 rfl ?_
                  refine cb_iast (pc := 160) O (64 * s + (8 * r + c)) rfl dX11_lay_160 (by decide) (by first | exact hM9.1.1 _ rfl | (simp only [cb_um]; exact hM9.1.1 _ rfl)) rfl (by omega) ?_
                  refine cb_aload_n (pc := 161) O dX11_lay_161 rfl ?_
                  refine cb_getR (pc := 162) O fl_X11_47 rfl rfl dX11_lay_162 (by first | exact hM9.1.1 _ rfl | (simp only [cb_um]; exact hM9.1.1 _ rfl)) (by first | exact hM9.1.2 _ _ _ rfl | (simp only [cb_um]; exact hM9.1.2 _ _ _ rfl)) ?_
                  refine cb_iload (pc := 165) O dX11_lay_165 rfl ?_
                  refine cb_aload_n (pc := 167) O dX11_lay_167 rfl ?_
                  refine cb_getI (pc := 168) O fl_X11_116 rfl rfl dX11_lay_168 (by first | exact hM9.1.1 _ rfl | (simp only [cb_um]; exact hM9.1.1 _ rfl)) ?_
                  refine cb_topv (nI (B 0 8)) (by simp only [cb_um]; rw [cb_u2n (by omega), cb_u2n (by omega), cb_u2n (by omega), cb_u2n (by omega)]; exact p8) ?_
                  refine cb_aload_n (pc := 171) O dX11_lay_171 rfl ?_
                  refine cb_getR (pc := 172) O fl_X11_13 rfl rfl dX11_lay_172 (by first | exact hM9.1.1 _ rfl | (simp only [cb_um]; exact hM9.1.1 _ rfl)) (by first | exact hM9.1.2 _ _ _ rfl | (simp only [cb_um]; exact hM9.1.2 _ _ _ rfl)) ?_
                  refine cb_iload (pc := 175) O dX11_lay_175 rfl ?_
                  refine cb_iald (pc := 177) O (rl c) rfl dX11_lay_177 (by decide) (by first | exact hM9.1.1 _ rfl | (simp only [cb_um]; exact hM9.1.1 _ rfl)) rfl hrc ?_
                  refine cb_topv (nI (B 4 (rl c))) (by simp only [cb_um]; rw [cb_u2n (by omega), cb_u2n (by omega), cb_u2n (by omega), cb_u2n (by omega)]; exact p4) ?_
                  refine cb_iadd (pc := 178) O dX11_lay_178 ?_
                  refine cb_topv _ (nI_add _ _) ?_
                  refine cb_iast (pc := 179) O (64 * s + (8 * r + c)) rfl dX11_lay_179 (by decide) (by first | exact hM9.1.1 _ rfl | (simp only [cb_um]; exact hM9.1.1 _ rfl)) rfl (by omega) ?_
                  refine cb_iinc (pc := 180) O (nI (c + 1)) dX11_lay_180 rfl (by decide) (ci_inc c) ?_
                  dsimp only [List.set]
                  refine cb_goto (pc := 183) O 15 dX11_lay_183 (by decide) ?_
                  first
                  | exact ih_15 (c + 1) (cm_tk w9 B s (8 * r + c) (rl c)) _ _ _ (by omega) (by show cm_I _ (ly A rl s (8 * r + c + 1)) z; rw [hlS]; exact cm_tkM _ _ _ hM9) (cm_tk5.trans h59) (cm_tkC hC9) (by omega)
                  | (refine cb_eqX (lv' := [some (.inr (some 1000)), some (.inl (nI s)), some (.inl (nI (sp A rl s (8 * r + (c + 1))))), some (.inl (nI r)), some (.inl (nI (c + 1))), _, _, _]) rfl rfl (by rw [hskip.2]) rfl ?_
                     exact ih_15 (c + 1) w9 _ _ _ (by omega) (by rw [hskip.1, ← hB]; exact hM9) h59 hC9 (by omega))
                · skip
                  have hsp0 : sp A rl s (8 * r + c) = 0 := by
                    rcases (show sp A rl s (8 * r + c) = 0 ∨ sp A rl s (8 * r + c) = 1 by omega) with e | e
                    · exact e
                    · rw [e] at c_61; exact absurd c_61 (by decide)
                  refine cb_aload_n (pc := 64) O dX11_lay_64 rfl ?_
                  refine cb_getR (pc := 65) O fl_X11_47 rfl rfl dX11_lay_65 (by first | exact hM9.1.1 _ rfl | (simp only [cb_um]; exact hM9.1.1 _ rfl)) (by first | exact hM9.1.2 _ _ _ rfl | (simp only [cb_um]; exact hM9.1.2 _ _ _ rfl)) ?_
                  refine cb_iload (pc := 68) O dX11_lay_68 rfl ?_
                  refine cb_iald (pc := 70) O (64 * s + (8 * r + c)) rfl dX11_lay_70 (by decide) (by first | exact hM9.1.1 _ rfl | (simp only [cb_um]; exact hM9.1.1 _ rfl)) rfl (by omega) ?_
                  refine cb_topv _ p19 ?_
                  refine cb_aload_n (pc := 71) O dX11_lay_71 rfl ?_
                  refine cb_getI (pc := 72) O fl_X11_116 rfl rfl dX11_lay_72 (by first | exact hM9.1.1 _ rfl | (simp only [cb_um]; exact hM9.1.1 _ rfl)) ?_
                  refine cb_topv _ p8 ?_
                  refine cb_icmp_le (pc := 75) O 103 dX11_lay_75 (by decide) (fun c_75 => ?_) (fun c_75 => ?_)
                  · skip
                    rw [nI_leI (by omega) (by omega)] at c_75
                    have hnv : sp A rl s (8 * r + c + 1) = 0 := by
                      rw [hsS, if_neg (fun h => by have := (hse.mpr h).1; omega)]; exact hsp0
                    refine cb_iconst (pc := 103) (v := 0) O dX11_lay_103 (by decide) ?_
                    refine cb_topv (nI (sp A rl s (8 * r + c + 1))) (by rw [hnv]; rfl) ?_
                    refine cb_istore_n (pc := 104) O dX11_lay_104 (by decide) ?_
                    dsimp only [List.set]
                    refine cb_aload_n (pc := 105) O dX11_lay_105 rfl ?_
                    refine cb_getR (pc := 106) O fl_X11_35 rfl rfl dX11_lay_106 (by first | exact hM9.1.1 _ rfl | (simp only [cb_um]; exact hM9.1.1 _ rfl)) (by first | exact hM9.1.2 _ _ _ rfl | (simp only [cb_um]; exact hM9.1.2 _ _ _ rfl)) ?_
                    refine cb_iload (pc := 109) O dX11_lay_109 rfl ?_
                    refine cb_aload_n (pc := 111) O dX11_lay_111 rfl ?_
                    refine cb_getR (pc := 112) O fl_X11_9 rfl rfl dX11_lay_112 (by first | exact hM9.1.1 _ rfl | (simp only [cb_um]; exact hM9.1.1 _ rfl)) (by first | exact hM9.1.2 _ _ _ rfl | (simp only [cb_um]; exact hM9.1.2 _ _ _ rfl)) ?_
                    refine cb_bipush (pc := 115) (v := 16) O dX11_lay_115 (by decide) ?_
                    refine cb_iload (pc := 117) O dX11_lay_117 rfl ?_
                    refine cb_imul (pc := 119) O dX11_lay_119 ?_
                    refine cb_aload_n (pc := 120) O dX11_lay_120 rfl ?_
                    refine cb_getR (pc := 121) O fl_X11_35 rfl rfl dX11_lay_121 (by first | exact hM9.1.1 _ rfl | (simp only [cb_um]; exact hM9.1.1 _ rfl)) (by first | exact hM9.1.2 _ _ _ rfl | (simp only [cb_um]; exact hM9.1.2 _ _ _ rfl)) ?_
                    refine cb_iload (pc := 124) O dX11_lay_124 rfl ?_
                    refine cb_iald (pc := 126) O (64 * s + (8 * r + c)) rfl dX11_lay_126 (by decide) (by first | exact hM9.1.1 _ rfl | (simp only [cb_um]; exact hM9.1.1 _ rfl)) rfl (by omega) ?_
                    refine cb_topv _ p15 ?_
                    refine cb_iadd (pc := 127) O dX11_lay_127 ?_
                    refine cb_topv _ (ci_m16 _ _) ?_
                    refine cb_iald (pc := 128) O (16 * rl c + B 15 (64 * s + (8 * r + c))) rfl dX11_lay_128 (by decide) (by first | exact hM9.1.1 _ rfl | (simp only [cb_um]; exact hM9.1.1 _ rfl)) rfl (by omega) ?_
                    refine cb_topv _ p3 ?_
                    refine cb_iast (pc := 129) O (64 * s + (8 * r + c)) rfl dX11_lay_129 (by decide) (by first | exact hM9.1.1 _ rfl | (simp only [cb_um]; exact hM9.1.1 _ rfl)) rfl (by omega) ?_
                    refine cb_aload_n (pc := 130) O dX11_lay_130 rfl ?_
                    refine cb_getR (pc := 131) O fl_X11_38 rfl rfl dX11_lay_131 (by first | exact hM9.1.1 _ rfl | (simp only [cb_um]; exact hM9.1.1 _ rfl)) (by first | exact hM9.1.2 _ _ _ rfl | (simp only [cb_um]; exact hM9.1.2 _ _ _ rfl)) ?_
                    refine cb_iload (pc := 134) O dX11_lay_134 rfl ?_
                    refine cb_aload_n (pc := 136) O dX11_lay_136 rfl ?_
                    refine cb_getI (pc := 137) O fl_X11_159 rfl rfl dX11_lay_137 (by first | exact hM9.1.1 _ rfl | (simp only [cb_um]; exact hM9.1.1 _ rfl)) ?_
                    refine cb_topv (nI (B 0 26)) (by simp only [cb_um]; rw [cb_u2n (by omega)]; exact p26) ?_
                    refine cb_iast (pc := 140) O (64 * s + (8 * r + c)) rfl dX11_lay_140 (by decide) (by first | exact hM9.1.1 _ rfl | (simp only [cb_um]; exact hM9.1.1 _ rfl)) rfl (by omega) ?_
                    refine cb_aload_n (pc := 141) O dX11_lay_141 rfl ?_
                    refine cb_getR (pc := 142) O fl_X11_41 rfl rfl dX11_lay_142 (by first | exact hM9.1.1 _ rfl | (simp only [cb_um]; exact hM9.1.1 _ rfl)) (by first | exact hM9.1.2 _ _ _ rfl | (simp only [cb_um]; exact hM9.1.2 _ _ _ rfl)) ?_
                    refine cb_iload (pc := 145) O dX11_lay_145 rfl ?_
                    refine cb_dup2 (pc := 147) O dX11_lay_147 ?_
                    refine cb_iald (pc := 148) O (64 * s + (8 * r + c)) rfl dX11_lay_148 (by decide) (by first | exact hM9.1.1 _ rfl | (simp only [cb_um]; exact hM9.1.1 _ rfl)) rfl (by omega) ?_
                    refine cb_topv (nI (B 17 (64 * s + (8 * r + c)))) (by simp only [cb_um]; rw [cb_u2n (by omega), cb_u2n (by omega)]; exact p17) ?_
                    refine cb_iconst (pc := 149) (v := 1) O dX11_lay_149 (by decide) ?_
                    refine cb_iadd (pc := 150) O dX11_lay_150 ?_
                    refine cb_topv _ (nI_add _ _) ?_
                    refine cb_iast (pc := 151) O (64 * s + (8 * r + c)) rfl dX11_lay_151 (by decide) (by first | exact hM9.1.1 _ rfl | (simp only [cb_um]; exact hM9.1.1 _ rfl)) rfl (by omega) ?_
                    refine cb_aload_n (pc := 152) O dX11_lay_152 rfl ?_
                    refine cb_getR (pc := 153) O fl_X11_44 rfl rfl dX11_lay_153 (by first | exact hM9.1.1 _ rfl | (simp only [cb_um]; exact hM9.1.1 _ rfl)) (by first | exact hM9.1.2 _ _ _ rfl | (simp only [cb_um]; exact hM9.1.2 _ _ _ rfl)) ?_
                    refine cb_iload (pc := 156) O dX11_lay_156 rfl ?_
                    refine cb_iload (pc := 158) O dX11_lay_158 rfl ?_
                    refine cb_iast (pc := 160) O (64 * s + (8 * r + c)) rfl dX11_lay_160 (by decide) (by first | exact hM9.1.1 _ rfl | (simp only [cb_um]; exact hM9.1.1 _ rfl)) rfl (by omega) ?_
                    refine cb_aload_n (pc := 161) O dX11_lay_161 rfl ?_
                    refine cb_getR (pc := 162) O fl_X11_47 rfl rfl dX11_lay_162 (by first | exact hM9.1.1 _ rfl | (simp only [cb_um]; exact hM9.1.1 _ rfl)) (by first | exact hM9.1.2 _ _ _ rfl | (simp only [cb_um]; exact hM9.1.2 _ _ _ rfl)) ?_
                    refine cb_iload (pc := 165) O dX11_lay_165 rfl ?_
                    refine cb_aload_n (pc := 167) O dX11_lay_167 rfl ?_
                    refine cb_getI (pc := 168) O fl_X11_116 rfl rfl dX11_lay_168 (by first | exact hM9.1.1 _ rfl | (simp only [cb_um]; exact hM9.1.1 _ rfl)) ?_
                    refine cb_topv (nI (B 0 8)) (by simp only [cb_um]; rw [cb_u2n (by omega), cb_u2n (by omega), cb_u2n (by omega), cb_u2n (by omega)]; exact p8) ?_
                    refine cb_aload_n (pc := 171) O dX11_lay_171 rfl ?_
                    refine cb_getR (pc := 172) O fl_X11_13 rfl rfl dX11_lay_172 (by first | exact hM9.1.1 _ rfl | (simp only [cb_um]; exact hM9.1.1 _ rfl)) (by first | exact hM9.1.2 _ _ _ rfl | (simp only [cb_um]; exact hM9.1.2 _ _ _ rfl)) ?_
                    refine cb_iload (pc := 175) O dX11_lay_175 rfl ?_
                    refine cb_iald (pc := 177) O (rl c) rfl dX11_lay_177 (by decide) (by first | exact hM9.1.1 _ rfl | (simp only [cb_um]; exact hM9.1.1 _ rfl)) rfl hrc ?_
                    refine cb_topv (nI (B 4 (rl c))) (by simp only [cb_um]; rw [cb_u2n (by omega), cb_u2n (by omega), cb_u2n (by omega), cb_u2n (by omega)]; exact p4) ?_
                    refine cb_iadd (pc := 178) O dX11_lay_178 ?_
                    refine cb_topv _ (nI_add _ _) ?_
                    refine cb_iast (pc := 179) O (64 * s + (8 * r + c)) rfl dX11_lay_179 (by decide) (by first | exact hM9.1.1 _ rfl | (simp only [cb_um]; exact hM9.1.1 _ rfl)) rfl (by omega) ?_
                    refine cb_iinc (pc := 180) O (nI (c + 1)) dX11_lay_180 rfl (by decide) (ci_inc c) ?_
                    dsimp only [List.set]
                    refine cb_goto (pc := 183) O 15 dX11_lay_183 (by decide) ?_
                    first
                    | exact ih_15 (c + 1) (cm_tk w9 B s (8 * r + c) (rl c)) _ _ _ (by omega) (by show cm_I _ (ly A rl s (8 * r + c + 1)) z; rw [hlS]; exact cm_tkM _ _ _ hM9) (cm_tk5.trans h59) (cm_tkC hC9) (by omega)
                    | (refine cb_eqX (lv' := [some (.inr (some 1000)), some (.inl (nI s)), some (.inl (nI (sp A rl s (8 * r + (c + 1))))), some (.inl (nI r)), some (.inl (nI (c + 1))), _, _, _]) rfl rfl (by rw [hskip.2]) rfl ?_
                       exact ih_15 (c + 1) w9 _ _ _ (by omega) (by rw [hskip.1, ← hB]; exact hM9) h59 hC9 (by omega))
                  · skip
                    rw [nI_leI (by omega) (by omega)] at c_75
                    refine cb_aload_n (pc := 78) O dX11_lay_78 rfl ?_
                    refine cb_getR (pc := 79) O fl_X11_16 rfl rfl dX11_lay_79 (by first | exact hM9.1.1 _ rfl | (simp only [cb_um]; exact hM9.1.1 _ rfl)) (by first | exact hM9.1.2 _ _ _ rfl | (simp only [cb_um]; exact hM9.1.2 _ _ _ rfl)) ?_
                    refine cb_bipush (pc := 82) (v := 10) O dX11_lay_82 (by decide) ?_
                    refine cb_aload_n (pc := 84) O dX11_lay_84 rfl ?_
                    refine cb_getR (pc := 85) O fl_X11_44 rfl rfl dX11_lay_85 (by first | exact hM9.1.1 _ rfl | (simp only [cb_um]; exact hM9.1.1 _ rfl)) (by first | exact hM9.1.2 _ _ _ rfl | (simp only [cb_um]; exact hM9.1.2 _ _ _ rfl)) ?_
                    refine cb_iload (pc := 88) O dX11_lay_88 rfl ?_
                    refine cb_iald (pc := 90) O (64 * s + (8 * r + c)) rfl dX11_lay_90 (by decide) (by first | exact hM9.1.1 _ rfl | (simp only [cb_um]; exact hM9.1.1 _ rfl)) rfl (by omega) ?_
                    refine cb_topv _ p18 ?_
                    refine cb_imul (pc := 91) O dX11_lay_91 ?_
                    refine cb_iload (pc := 92) O dX11_lay_92 rfl ?_
                    refine cb_iadd (pc := 94) O dX11_lay_94 ?_
                    refine cb_topv _ (ci_m10 _ _) ?_
                    refine cb_zald (pc := 95) O (10 * B 18 (64 * s + (8 * r + c)) + rl c) rfl dX11_lay_95 (by decide) (by first | exact hM9.1.1 _ rfl | (simp only [cb_um]; exact hM9.1.1 _ rfl)) rfl (by omega) ?_
                    refine cb_topv _ p5 ?_
                    refine cb_if_eq (pc := 96) O 103 dX11_lay_96 (by decide) (fun c_96 => ?_) (fun c_96 => ?_)
                    · skip
                      have hnv : sp A rl s (8 * r + c + 1) = 0 := by
                        rw [hsS, if_neg (fun h => by have h2 := (hse.mpr h).2; rw [h2] at c_96; exact absurd c_96 (by decide))]; exact hsp0
                      refine cb_iconst (pc := 103) (v := 0) O dX11_lay_103 (by decide) ?_
                      refine cb_topv (nI (sp A rl s (8 * r + c + 1))) (by rw [hnv]; rfl) ?_
                      refine cb_istore_n (pc := 104) O dX11_lay_104 (by decide) ?_
                      dsimp only [List.set]
                      refine cb_aload_n (pc := 105) O dX11_lay_105 rfl ?_
                      refine cb_getR (pc := 106) O fl_X11_35 rfl rfl dX11_lay_106 (by first | exact hM9.1.1 _ rfl | (simp only [cb_um]; exact hM9.1.1 _ rfl)) (by first | exact hM9.1.2 _ _ _ rfl | (simp only [cb_um]; exact hM9.1.2 _ _ _ rfl)) ?_
                      refine cb_iload (pc := 109) O dX11_lay_109 rfl ?_
                      refine cb_aload_n (pc := 111) O dX11_lay_111 rfl ?_
                      refine cb_getR (pc := 112) O fl_X11_9 rfl rfl dX11_lay_112 (by first | exact hM9.1.1 _ rfl | (simp only [cb_um]; exact hM9.1.1 _ rfl)) (by first | exact hM9.1.2 _ _ _ rfl | (simp only [cb_um]; exact hM9.1.2 _ _ _ rfl)) ?_
                      refine cb_bipush (pc := 115) (v := 16) O dX11_lay_115 (by decide) ?_
                      refine cb_iload (pc := 117) O dX11_lay_117 rfl ?_
                      refine cb_imul (pc := 119) O dX11_lay_119 ?_
                      refine cb_aload_n (pc := 120) O dX11_lay_120 rfl ?_
                      refine cb_getR (pc := 121) O fl_X11_35 rfl rfl dX11_lay_121 (by first | exact hM9.1.1 _ rfl | (simp only [cb_um]; exact hM9.1.1 _ rfl)) (by first | exact hM9.1.2 _ _ _ rfl | (simp only [cb_um]; exact hM9.1.2 _ _ _ rfl)) ?_
                      refine cb_iload (pc := 124) O dX11_lay_124 rfl ?_
                      refine cb_iald (pc := 126) O (64 * s + (8 * r + c)) rfl dX11_lay_126 (by decide) (by first | exact hM9.1.1 _ rfl | (simp only [cb_um]; exact hM9.1.1 _ rfl)) rfl (by omega) ?_
                      refine cb_topv _ p15 ?_
                      refine cb_iadd (pc := 127) O dX11_lay_127 ?_
                      refine cb_topv _ (ci_m16 _ _) ?_
                      refine cb_iald (pc := 128) O (16 * rl c + B 15 (64 * s + (8 * r + c))) rfl dX11_lay_128 (by decide) (by first | exact hM9.1.1 _ rfl | (simp only [cb_um]; exact hM9.1.1 _ rfl)) rfl (by omega) ?_
                      refine cb_topv _ p3 ?_
                      refine cb_iast (pc := 129) O (64 * s + (8 * r + c)) rfl dX11_lay_129 (by decide) (by first | exact hM9.1.1 _ rfl | (simp only [cb_um]; exact hM9.1.1 _ rfl)) rfl (by omega) ?_
                      refine cb_aload_n (pc := 130) O dX11_lay_130 rfl ?_
                      refine cb_getR (pc := 131) O fl_X11_38 rfl rfl dX11_lay_131 (by first | exact hM9.1.1 _ rfl | (simp only [cb_um]; exact hM9.1.1 _ rfl)) (by first | exact hM9.1.2 _ _ _ rfl | (simp only [cb_um]; exact hM9.1.2 _ _ _ rfl)) ?_
                      refine cb_iload (pc := 134) O dX11_lay_134 rfl ?_
                      refine cb_aload_n (pc := 136) O dX11_lay_136 rfl ?_
                      refine cb_getI (pc := 137) O fl_X11_159 rfl rfl dX11_lay_137 (by first | exact hM9.1.1 _ rfl | (simp only [cb_um]; exact hM9.1.1 _ rfl)) ?_
                      refine cb_topv (nI (B 0 26)) (by simp only [cb_um]; rw [cb_u2n (by omega)]; exact p26) ?_
                      refine cb_iast (pc := 140) O (64 * s + (8 * r + c)) rfl dX11_lay_140 (by decide) (by first | exact hM9.1.1 _ rfl | (simp only [cb_um]; exact hM9.1.1 _ rfl)) rfl (by omega) ?_
                      refine cb_aload_n (pc := 141) O dX11_lay_141 rfl ?_
                      refine cb_getR (pc := 142) O fl_X11_41 rfl rfl dX11_lay_142 (by first | exact hM9.1.1 _ rfl | (simp only [cb_um]; exact hM9.1.1 _ rfl)) (by first | exact hM9.1.2 _ _ _ rfl | (simp only [cb_um]; exact hM9.1.2 _ _ _ rfl)) ?_
                      refine cb_iload (pc := 145) O dX11_lay_145 rfl ?_
                      refine cb_dup2 (pc := 147) O dX11_lay_147 ?_
                      refine cb_iald (pc := 148) O (64 * s + (8 * r + c)) rfl dX11_lay_148 (by decide) (by first | exact hM9.1.1 _ rfl | (simp only [cb_um]; exact hM9.1.1 _ rfl)) rfl (by omega) ?_
                      refine cb_topv (nI (B 17 (64 * s + (8 * r + c)))) (by simp only [cb_um]; rw [cb_u2n (by omega), cb_u2n (by omega)]; exact p17) ?_
                      refine cb_iconst (pc := 149) (v := 1) O dX11_lay_149 (by decide) ?_
                      refine cb_iadd (pc := 150) O dX11_lay_150 ?_
                      refine cb_topv _ (nI_add _ _) ?_
                      refine cb_iast (pc := 151) O (64 * s + (8 * r + c)) rfl dX11_lay_151 (by decide) (by first | exact hM9.1.1 _ rfl | (simp only [cb_um]; exact hM9.1.1 _ rfl)) rfl (by omega) ?_
                      refine cb_aload_n (pc := 152) O dX11_lay_152 rfl ?_
                      refine cb_getR (pc := 153) O fl_X11_44 rfl rfl dX11_lay_153 (by first | exact hM9.1.1 _ rfl | (simp only [cb_um]; exact hM9.1.1 _ rfl)) (by first | exact hM9.1.2 _ _ _ rfl | (simp only [cb_um]; exact hM9.1.2 _ _ _ rfl)) ?_
                      refine cb_iload (pc := 156) O dX11_lay_156 rfl ?_
                      refine cb_iload (pc := 158) O dX11_lay_158 rfl ?_
                      refine cb_iast (pc := 160) O (64 * s + (8 * r + c)) rfl dX11_lay_160 (by decide) (by first | exact hM9.1.1 _ rfl | (simp only [cb_um]; exact hM9.1.1 _ rfl)) rfl (by omega) ?_
                      refine cb_aload_n (pc := 161) O dX11_lay_161 rfl ?_
                      refine cb_getR (pc := 162) O fl_X11_47 rfl rfl dX11_lay_162 (by first | exact hM9.1.1 _ rfl | (simp only [cb_um]; exact hM9.1.1 _ rfl)) (by first | exact hM9.1.2 _ _ _ rfl | (simp only [cb_um]; exact hM9.1.2 _ _ _ rfl)) ?_
                      refine cb_iload (pc := 165) O dX11_lay_165 rfl ?_
                      refine cb_aload_n (pc := 167) O dX11_lay_167 rfl ?_
                      refine cb_getI (pc := 168) O fl_X11_116 rfl rfl dX11_lay_168 (by first | exact hM9.1.1 _ rfl | (simp only [cb_um]; exact hM9.1.1 _ rfl)) ?_
                      refine cb_topv (nI (B 0 8)) (by simp only [cb_um]; rw [cb_u2n (by omega), cb_u2n (by omega), cb_u2n (by omega), cb_u2n (by omega)]; exact p8) ?_
                      refine cb_aload_n (pc := 171) O dX11_lay_171 rfl ?_
                      refine cb_getR (pc := 172) O fl_X11_13 rfl rfl dX11_lay_172 (by first | exact hM9.1.1 _ rfl | (simp only [cb_um]; exact hM9.1.1 _ rfl)) (by first | exact hM9.1.2 _ _ _ rfl | (simp only [cb_um]; exact hM9.1.2 _ _ _ rfl)) ?_
                      refine cb_iload (pc := 175) O dX11_lay_175 rfl ?_
                      refine cb_iald (pc := 177) O (rl c) rfl dX11_lay_177 (by decide) (by first | exact hM9.1.1 _ rfl | (simp only [cb_um]; exact hM9.1.1 _ rfl)) rfl hrc ?_
                      refine cb_topv (nI (B 4 (rl c))) (by simp only [cb_um]; rw [cb_u2n (by omega), cb_u2n (by omega), cb_u2n (by omega), cb_u2n (by omega)]; exact p4) ?_
                      refine cb_iadd (pc := 178) O dX11_lay_178 ?_
                      refine cb_topv _ (nI_add _ _) ?_
                      refine cb_iast (pc := 179) O (64 * s + (8 * r + c)) rfl dX11_lay_179 (by decide) (by first | exact hM9.1.1 _ rfl | (simp only [cb_um]; exact hM9.1.1 _ rfl)) rfl (by omega) ?_
                      refine cb_iinc (pc := 180) O (nI (c + 1)) dX11_lay_180 rfl (by decide) (ci_inc c) ?_
                      dsimp only [List.set]
                      refine cb_goto (pc := 183) O 15 dX11_lay_183 (by decide) ?_
                      first
                      | exact ih_15 (c + 1) (cm_tk w9 B s (8 * r + c) (rl c)) _ _ _ (by omega) (by show cm_I _ (ly A rl s (8 * r + c + 1)) z; rw [hlS]; exact cm_tkM _ _ _ hM9) (cm_tk5.trans h59) (cm_tkC hC9) (by omega)
                      | (refine cb_eqX (lv' := [some (.inr (some 1000)), some (.inl (nI s)), some (.inl (nI (sp A rl s (8 * r + (c + 1))))), some (.inl (nI r)), some (.inl (nI (c + 1))), _, _, _]) rfl rfl (by rw [hskip.2]) rfl ?_
                         exact ih_15 (c + 1) w9 _ _ _ (by omega) (by rw [hskip.1, ← hB]; exact hM9) h59 hC9 (by omega))
                    · skip
                      have hnv : sp A rl s (8 * r + c + 1) = 1 := by
                        rw [hsS, if_pos (hse.mp ⟨by omega, by
                          rcases (show B 5 (10 * B 18 (64 * s + (8 * r + c)) + rl c) = 0 ∨ B 5 (10 * B 18 (64 * s + (8 * r + c)) + rl c) = 1 by omega) with e | e
                          · rw [e] at c_96; exact absurd rfl c_96
                          · exact e⟩)]
                      refine cb_iconst (pc := 99) (v := 1) O dX11_lay_99 (by decide) ?_
                      refine cb_topv (nI (sp A rl s (8 * r + c + 1))) (by rw [hnv]; rfl) ?_
                      refine cb_goto (pc := 100) O 104 dX11_lay_100 (by decide) ?_
                      refine cb_istore_n (pc := 104) O dX11_lay_104 (by decide) ?_
                      dsimp only [List.set]
                      refine cb_aload_n (pc := 105) O dX11_lay_105 rfl ?_
                      refine cb_getR (pc := 106) O fl_X11_35 rfl rfl dX11_lay_106 (by first | exact hM9.1.1 _ rfl | (simp only [cb_um]; exact hM9.1.1 _ rfl)) (by first | exact hM9.1.2 _ _ _ rfl | (simp only [cb_um]; exact hM9.1.2 _ _ _ rfl)) ?_
                      refine cb_iload (pc := 109) O dX11_lay_109 rfl ?_
                      refine cb_aload_n (pc := 111) O dX11_lay_111 rfl ?_
                      refine cb_getR (pc := 112) O fl_X11_9 rfl rfl dX11_lay_112 (by first | exact hM9.1.1 _ rfl | (simp only [cb_um]; exact hM9.1.1 _ rfl)) (by first | exact hM9.1.2 _ _ _ rfl | (simp only [cb_um]; exact hM9.1.2 _ _ _ rfl)) ?_
                      refine cb_bipush (pc := 115) (v := 16) O dX11_lay_115 (by decide) ?_
                      refine cb_iload (pc := 117) O dX11_lay_117 rfl ?_
                      refine cb_imul (pc := 119) O dX11_lay_119 ?_
                      refine cb_aload_n (pc := 120) O dX11_lay_120 rfl ?_
                      refine cb_getR (pc := 121) O fl_X11_35 rfl rfl dX11_lay_121 (by first | exact hM9.1.1 _ rfl | (simp only [cb_um]; exact hM9.1.1 _ rfl)) (by first | exact hM9.1.2 _ _ _ rfl | (simp only [cb_um]; exact hM9.1.2 _ _ _ rfl)) ?_
                      refine cb_iload (pc := 124) O dX11_lay_124 rfl ?_
                      refine cb_iald (pc := 126) O (64 * s + (8 * r + c)) rfl dX11_lay_126 (by decide) (by first | exact hM9.1.1 _ rfl | (simp only [cb_um]; exact hM9.1.1 _ rfl)) rfl (by omega) ?_
                      refine cb_topv _ p15 ?_
                      refine cb_iadd (pc := 127) O dX11_lay_127 ?_
                      refine cb_topv _ (ci_m16 _ _) ?_
                      refine cb_iald (pc := 128) O (16 * rl c + B 15 (64 * s + (8 * r + c))) rfl dX11_lay_128 (by decide) (by first | exact hM9.1.1 _ rfl | (simp only [cb_um]; exact hM9.1.1 _ rfl)) rfl (by omega) ?_
                      refine cb_topv _ p3 ?_
                      refine cb_iast (pc := 129) O (64 * s + (8 * r + c)) rfl dX11_lay_129 (by decide) (by first | exact hM9.1.1 _ rfl | (simp only [cb_um]; exact hM9.1.1 _ rfl)) rfl (by omega) ?_
                      refine cb_aload_n (pc := 130) O dX11_lay_130 rfl ?_
                      refine cb_getR (pc := 131) O fl_X11_38 rfl rfl dX11_lay_131 (by first | exact hM9.1.1 _ rfl | (simp only [cb_um]; exact hM9.1.1 _ rfl)) (by first | exact hM9.1.2 _ _ _ rfl | (simp only [cb_um]; exact hM9.1.2 _ _ _ rfl)) ?_
                      refine cb_iload (pc := 134) O dX11_lay_134 rfl ?_
                      refine cb_aload_n (pc := 136) O dX11_lay_136 rfl ?_
                      refine cb_getI (pc := 137) O fl_X11_159 rfl rfl dX11_lay_137 (by first | exact hM9.1.1 _ rfl | (simp only [cb_um]; exact hM9.1.1 _ rfl)) ?_
                      refine cb_topv (nI (B 0 26)) (by simp only [cb_um]; rw [cb_u2n (by omega)]; exact p26) ?_
                      refine cb_iast (pc := 140) O (64 * s + (8 * r + c)) rfl dX11_lay_140 (by decide) (by first | exact hM9.1.1 _ rfl | (simp only [cb_um]; exact hM9.1.1 _ rfl)) rfl (by omega) ?_
                      refine cb_aload_n (pc := 141) O dX11_lay_141 rfl ?_
                      refine cb_getR (pc := 142) O fl_X11_41 rfl rfl dX11_lay_142 (by first | exact hM9.1.1 _ rfl | (simp only [cb_um]; exact hM9.1.1 _ rfl)) (by first | exact hM9.1.2 _ _ _ rfl | (simp only [cb_um]; exact hM9.1.2 _ _ _ rfl)) ?_
                      refine cb_iload (pc := 145) O dX11_lay_145 rfl ?_
                      refine cb_dup2 (pc := 147) O dX11_lay_147 ?_
                      refine cb_iald (pc := 148) O (64 * s + (8 * r + c)) rfl dX11_lay_148 (by decide) (by first | exact hM9.1.1 _ rfl | (simp only [cb_um]; exact hM9.1.1 _ rfl)) rfl (by omega) ?_
                      refine cb_topv (nI (B 17 (64 * s + (8 * r + c)))) (by simp only [cb_um]; rw [cb_u2n (by omega), cb_u2n (by omega)]; exact p17) ?_
                      refine cb_iconst (pc := 149) (v := 1) O dX11_lay_149 (by decide) ?_
                      refine cb_iadd (pc := 150) O dX11_lay_150 ?_
                      refine cb_topv _ (nI_add _ _) ?_
                      refine cb_iast (pc := 151) O (64 * s + (8 * r + c)) rfl dX11_lay_151 (by decide) (by first | exact hM9.1.1 _ rfl | (simp only [cb_um]; exact hM9.1.1 _ rfl)) rfl (by omega) ?_
                      refine cb_aload_n (pc := 152) O dX11_lay_152 rfl ?_
                      refine cb_getR (pc := 153) O fl_X11_44 rfl rfl dX11_lay_153 (by first | exact hM9.1.1 _ rfl | (simp only [cb_um]; exact hM9.1.1 _ rfl)) (by first | exact hM9.1.2 _ _ _ rfl | (simp only [cb_um]; exact hM9.1.2 _ _ _ rfl)) ?_
                      refine cb_iload (pc := 156) O dX11_lay_156 rfl ?_
                      refine cb_iload (pc := 158) O dX11_lay_158 rfl ?_
                      refine cb_iast (pc := 160) O (64 * s + (8 * r + c)) rfl dX11_lay_160 (by decide) (by first | exact hM9.1.1 _ rfl | (simp only [cb_um]; exact hM9.1.1 _ rfl)) rfl (by omega) ?_
                      refine cb_aload_n (pc := 161) O dX11_lay_161 rfl ?_
                      refine cb_getR (pc := 162) O fl_X11_47 rfl rfl dX11_lay_162 (by first | exact hM9.1.1 _ rfl | (simp only [cb_um]; exact hM9.1.1 _ rfl)) (by first | exact hM9.1.2 _ _ _ rfl | (simp only [cb_um]; exact hM9.1.2 _ _ _ rfl)) ?_
                      refine cb_iload (pc := 165) O dX11_lay_165 rfl ?_
                      refine cb_aload_n (pc := 167) O dX11_lay_167 rfl ?_
                      refine cb_getI (pc := 168) O fl_X11_116 rfl rfl dX11_lay_168 (by first | exact hM9.1.1 _ rfl | (simp only [cb_um]; exact hM9.1.1 _ rfl)) ?_
                      refine cb_topv (nI (B 0 8)) (by simp only [cb_um]; rw [cb_u2n (by omega), cb_u2n (by omega), cb_u2n (by omega), cb_u2n (by omega)]; exact p8) ?_
                      refine cb_aload_n (pc := 171) O dX11_lay_171 rfl ?_
                      refine cb_getR (pc := 172) O fl_X11_13 rfl rfl dX11_lay_172 (by first | exact hM9.1.1 _ rfl | (simp only [cb_um]; exact hM9.1.1 _ rfl)) (by first | exact hM9.1.2 _ _ _ rfl | (simp only [cb_um]; exact hM9.1.2 _ _ _ rfl)) ?_
                      refine cb_iload (pc := 175) O dX11_lay_175 rfl ?_
                      refine cb_iald (pc := 177) O (rl c) rfl dX11_lay_177 (by decide) (by first | exact hM9.1.1 _ rfl | (simp only [cb_um]; exact hM9.1.1 _ rfl)) rfl hrc ?_
                      refine cb_topv (nI (B 4 (rl c))) (by simp only [cb_um]; rw [cb_u2n (by omega), cb_u2n (by omega), cb_u2n (by omega), cb_u2n (by omega)]; exact p4) ?_
                      refine cb_iadd (pc := 178) O dX11_lay_178 ?_
                      refine cb_topv _ (nI_add _ _) ?_
                      refine cb_iast (pc := 179) O (64 * s + (8 * r + c)) rfl dX11_lay_179 (by decide) (by first | exact hM9.1.1 _ rfl | (simp only [cb_um]; exact hM9.1.1 _ rfl)) rfl (by omega) ?_
                      refine cb_iinc (pc := 180) O (nI (c + 1)) dX11_lay_180 rfl (by decide) (ci_inc c) ?_
                      dsimp only [List.set]
                      refine cb_goto (pc := 183) O 15 dX11_lay_183 (by decide) ?_
                      first
                      | exact ih_15 (c + 1) (cm_tk w9 B s (8 * r + c) (rl c)) _ _ _ (by omega) (by show cm_I _ (ly A rl s (8 * r + c + 1)) z; rw [hlS]; exact cm_tkM _ _ _ hM9) (cm_tk5.trans h59) (cm_tkC hC9) (by omega)
                      | (refine cb_eqX (lv' := [some (.inr (some 1000)), some (.inl (nI s)), some (.inl (nI (sp A rl s (8 * r + (c + 1))))), some (.inl (nI r)), some (.inl (nI (c + 1))), _, _, _]) rfl rfl (by rw [hskip.2]) rfl ?_
                         exact ih_15 (c + 1) w9 _ _ _ (by omega) (by rw [hskip.1, ← hB]; exact hM9) h59 hC9 (by omega))
        exact L_15 9 0 w9 _ _ _ (by omega) hM9 h59 hC9 (by omega)
  exact L_4 9 0 w none none none none (by omega) hM rfl cb_C1.rfl' (by omega)

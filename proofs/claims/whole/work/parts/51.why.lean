def SQ (A : ca_A) (u : Nat) (R : Nat → Prop) (c i j : Nat) : Prop := (∃ i' c', c' < c ∧ i' < 10 ∧ u.testBit i' = true ∧ R c' ∧ A 3 (16 * i' + c') = j) ∨ (∃ i', i' < i ∧ u.testBit i' = true ∧ R c ∧ A 3 (16 * i' + c) = j)
theorem SQ_n {A : ca_A} {u : Nat} {R : Nat → Prop} {c j : Nat} : SQ A u R c 10 j ↔ SQ A u R (c + 1) 0 j := by
  constructor
  · rintro (⟨i', c', h1, h2⟩ | ⟨i', h1, h2, h3, h4⟩)
    · exact Or.inl ⟨i', c', by omega, h2⟩
    · exact Or.inl ⟨i', c, by omega, h1, h2, h3, h4⟩
  · rintro (⟨i', c', h1, h2, h3, h4, h5⟩ | ⟨i', h1, h2, h3, h4⟩)
    · rcases Nat.lt_or_ge c' c with h | h
      · exact Or.inl ⟨i', c', h, h2, h3, h4, h5⟩
      · have e : c' = c := by omega
        subst e
        exact Or.inr ⟨i', h2, h3, h4, h5⟩
    · exact absurd h1 (by omega)
theorem SQ_x {A : ca_A} {u : Nat} {R : Nat → Prop} {c i j : Nat} (hn : ¬ R c) : SQ A u R c i j ↔ SQ A u R (c + 1) 0 j := by
  constructor
  · rintro (⟨i', c', h1, h2⟩ | ⟨i', h1, h2, h3, h4⟩)
    · exact Or.inl ⟨i', c', by omega, h2⟩
    · exact absurd h3 hn
  · rintro (⟨i', c', h1, h2, h3, h4, h5⟩ | ⟨i', h1, h2, h3, h4⟩)
    · rcases Nat.lt_or_ge c' c with h | h
      · exact Or.inl ⟨i', c', h, h2, h3, h4, h5⟩
      · have e : c' = c := by omega
        subst e
        exact absurd h4 hn
    · exact absurd h1 (by omega)
theorem SQ_s {A : ca_A} {u : Nat} {R : Nat → Prop} {c i j : Nat} : SQ A u R c (i + 1) j ↔ (SQ A u R c i j ∨ (u.testBit i = true ∧ R c ∧ A 3 (16 * i + c) = j)) := by
  constructor
  · rintro (h | ⟨i', h1, h2, h3, h4⟩)
    · exact Or.inl (Or.inl h)
    · rcases Nat.lt_or_ge i' i with h | h
      · exact Or.inl (Or.inr ⟨i', h, h2, h3, h4⟩)
      · have e : i' = i := by omega
        subst e
        exact Or.inr ⟨h2, h3, h4⟩
  · rintro ((h | ⟨i', h1, h2⟩) | h)
    · exact Or.inl h
    · exact Or.inr ⟨i', by omega, h2⟩
    · exact Or.inr ⟨i, by omega, h⟩
def SC (A : ca_A) (u : Nat) (R : Nat → Prop) (i c j : Nat) : Prop := (∃ i' c', i' < i ∧ c' < 16 ∧ u.testBit i' = true ∧ R c' ∧ A 3 (16 * i' + c') = j) ∨ (∃ c', c' < c ∧ u.testBit i = true ∧ R c' ∧ A 3 (16 * i + c') = j)
theorem SC_n {A : ca_A} {u : Nat} {R : Nat → Prop} {i j : Nat} : SC A u R i 16 j ↔ SC A u R (i + 1) 0 j := by
  constructor
  · rintro (⟨i', c', h1, h2⟩ | ⟨c', h1, h2, h3, h4⟩)
    · exact Or.inl ⟨i', c', by omega, h2⟩
    · exact Or.inl ⟨i, c', by omega, h1, h2, h3, h4⟩
  · rintro (⟨i', c', h1, h2, h3, h4, h5⟩ | ⟨c', h1, h2, h3, h4⟩)
    · rcases Nat.lt_or_ge i' i with h | h
      · exact Or.inl ⟨i', c', h, h2, h3, h4, h5⟩
      · have e : i' = i := by omega
        subst e
        exact Or.inr ⟨c', h2, h3, h4, h5⟩
    · exact absurd h1 (by omega)
theorem SC_s {A : ca_A} {u : Nat} {R : Nat → Prop} {c i j : Nat} : SC A u R i (c + 1) j ↔ (SC A u R i c j ∨ (u.testBit i = true ∧ R c ∧ A 3 (16 * i + c) = j)) := by
  constructor
  · rintro (h | ⟨c', h1, h2, h3, h4⟩)
    · exact Or.inl (Or.inl h)
    · rcases Nat.lt_or_ge c' c with h | h
      · exact Or.inl (Or.inr ⟨c', h, h2, h3, h4⟩)
      · have e : c' = c := by omega
        subst e
        exact Or.inr ⟨h2, h3, h4⟩
  · rintro ((h | ⟨c', h1, h2⟩) | h)
    · exact Or.inl h
    · exact Or.inr ⟨c', by omega, h2⟩
    · exact Or.inr ⟨c, by omega, h⟩
theorem SQ_z {A : ca_A} {u j : Nat} {R : Nat → Prop} : (0 : Nat).testBit j = true ↔ SQ A u R 0 0 j := by
  constructor
  · intro h
    rw [Nat.zero_testBit] at h
    cases h
  · rintro (⟨_, _, h, _⟩ | ⟨_, h, _⟩)
    · exact absurd h (by omega)
    · exact absurd h (by omega)
theorem SC_z {A : ca_A} {u j : Nat} {R : Nat → Prop} : (0 : Nat).testBit j = true ↔ SC A u R 0 0 j := by
  constructor
  · intro h
    rw [Nat.zero_testBit] at h
    cases h
  · rintro (⟨_, _, h, _⟩ | ⟨_, h, _⟩)
    · exact absurd h (by omega)
    · exact absurd h (by omega)
theorem SQ_RC {A : ca_A} {u m j : Nat} (hI : ca_I A) : SQ A u (RC A u 0 m) 16 0 j ↔ RC A u 0 (m + 1) j := by
  constructor
  · rintro (⟨i', c', h1, h2, h3, h4, h5⟩ | ⟨i', h1, h2, h3, h4⟩)
    · exact ⟨i', c', h2, h3, h4, h5⟩
    · exact absurd h1 (by omega)
  · rintro ⟨i', c', h2, h3, h4, h5⟩
    exact Or.inl ⟨i', c', RC_16 hI m c' h4, h2, h3, h4, h5⟩
theorem SC_RD {A : ca_A} {u m j : Nat} (hI : ca_I A) : (RD A u m j ∨ SC A u (RD A u m) 10 0 j) ↔ RD A u (m + 1) j := by
  constructor
  · rintro (⟨k, h1, h2⟩ | (⟨i', c', h1, h2, h3, ⟨k, h4, h5⟩, h6⟩ | ⟨c', h1, h2⟩))
    · exact ⟨k, by omega, h2⟩
    · exact ⟨k + 1, by omega, i', c', h1, h3, h5, h6⟩
    · exact absurd h1 (by omega)
  · rintro ⟨k, h1, h2⟩
    cases k with
    | zero => exact Or.inl ⟨0, by omega, h2⟩
    | succ k =>
      obtain ⟨i', c', g1, g2, g3, g4⟩ := h2
      exact Or.inr (Or.inl ⟨i', c', g1, RC_16 hI k c' g3, g2, ⟨k, by omega, g3⟩, g4⟩)
theorem RD_S {A : ca_A} {u m j : Nat} : RD A u (m + 1) j ↔ (RD A u m j ∨ RC A u 0 (m + 1) j) := by
  constructor
  · rintro ⟨k, h1, h2⟩
    rcases Nat.lt_or_ge k (m + 1) with h | h
    · exact Or.inl ⟨k, by omega, h2⟩
    · have e : k = m + 1 := by omega
      subst e
      exact Or.inr h2
  · rintro (⟨k, h1, h2⟩ | h)
    · exact ⟨k, by omega, h2⟩
    · exact ⟨m + 1, by omega, h⟩
theorem RD_0 {A : ca_A} {u j : Nat} : RD A u 0 j ↔ j = 0 := by
  constructor
  · rintro ⟨k, h1, h2⟩
    have e : k = 0 := by omega
    subst e
    exact h2
  · intro h
    exact ⟨0, by omega, h⟩
theorem tb_1 {j : Nat} : Nat.testBit 1 j = true ↔ j = 0 := Nat.testBit_one_eq_true_iff_self_eq_zero
theorem tb_or {x c j : Nat} : (x ||| 2 ^ c).testBit j = true ↔ (x.testBit j = true ∨ c = j) := by
  rw [fb_bit_set, Bool.or_eq_true, decide_eq_true_iff]
  exact ⟨fun h => h.imp id Eq.symm, fun h => h.imp id Eq.symm⟩
theorem tb_oo {x y j : Nat} : (x ||| y).testBit j = true ↔ (x.testBit j = true ∨ y.testBit j = true) := by
  rw [Nat.testBit_or, Bool.or_eq_true]
theorem or_lt16 {x y : Nat} (h1 : x < 65536) (h2 : y < 65536) : x ||| y < 65536 := Nat.or_lt_two_pow (n := 16) h1 h2
theorem m_why (w : cb_W) (A : ca_A) (z : Int32) (hI : ca_I A) (hM : cm_I w A z) (u : Int32) : cb_Con yX11_why cX11_why 8 (some .int) 8 212 0 0 (fun _ => true) [.inr (some 1000), .inl u] w (cb_pi (fun x w' => x = sr_why A u ∧ cm_I w' A z ∧ cb_C1 w w')) := by
  have l := hI.1
  refine cb_con (by decide) (Nat.le_of_ble_eq_true rfl) (fun κ O Rt hnm => ?_)
  show cb_X κ w 0 0 0 [some (.inr (some 1000)), some (.inl u), none, none, none, none, none, none] []
  refine cb_aload_n (pc := 0) O dX11_why_0 rfl ?_
  refine cb_getI (pc := 1) O fl_X11_179 rfl rfl dX11_why_1 (by first | exact hM2.1.1 _ rfl | exact hM.1.1 _ rfl) ?_
  refine cb_if_eq (pc := 4) O 18 dX11_why_4 (by decide) (fun c_4 => ?_) (fun c_4 => ?_)
  · skip
    rw [show w.2.1 1000 28 = nI (A 0 28) from cm_at hM 0 28 rfl (by omega), show (0 : Int32) = nI 0 from rfl, nI_eq (by omega) (by omega)] at c_4
    have hz : ¬ 0 < A 0 28 := by omega
    refine cb_iconst (pc := 18) (v := (-1)) O dX11_why_18 (by decide) ?_
    exact cb_iret (pc := 19) O Rt rfl (Nat.le_of_ble_eq_true rfl) (Nat.le_of_ble_eq_true rfl) dX11_why_19 (by
      have hv : ¬ sv_ink A u := fun h => by
        first | exact hz h.1 | exact c_15 h.2
      exact ⟨by rw [sr_why, if_neg hv], hM, cb_C1.rfl'⟩)
  · skip
    rw [show w.2.1 1000 28 = nI (A 0 28) from cm_at hM 0 28 rfl (by omega), show (0 : Int32) = nI 0 from rfl, nI_eq (by omega) (by omega)] at c_4
    have hz : 0 < A 0 28 := by omega
    refine cb_iload_n (pc := 7) O dX11_why_7 rfl ?_
    refine cb_iconst (pc := 8) (v := 0) O dX11_why_8 (by decide) ?_
    refine cb_sipush (pc := 9) (v := 1023) O dX11_why_9 (by decide) ?_
    refine cb_cSp (pc := 12) O (c_X11_within _ _ _ _) my_X11_within mt_X11_within ml_X11_90 dX11_why_12 rfl rfl ⟨(Nat.le_of_ble_eq_true rfl), (Nat.le_of_ble_eq_true rfl)⟩ (Nat.le_of_ble_eq_true rfl) rfl ⟨(Nat.le_of_ble_eq_true rfl), (Nat.le_of_ble_eq_true rfl)⟩ ?_
    refine cb_ifp_ne (pc := 15) O 20 dX11_why_15 (by decide) (fun c_15 => ?_) (fun c_15 => ?_)
    · skip
      have hv : sv_ink A u := ⟨hz, c_15⟩
      obtain ⟨u, hu, rfl⟩ := ci_in (n := 1023) c_15 rfl
      have hcl := ci_nz (n := u) (by omega)
      refine cb_aload_n (pc := 20) O dX11_why_20 rfl ?_
      refine cb_iload_n (pc := 21) O dX11_why_21 rfl ?_
      refine cb_cVi (pc := 22) O (c_X11_least w A z hI hM u hu) my_X11_least mi_X11_least mx_X11_least ml_X11_196 dX11_why_22 rfl ct_11 rfl rfl rfl ⟨(Nat.le_of_ble_eq_true rfl), (Nat.le_of_ble_eq_true rfl)⟩ (Nat.le_of_ble_eq_true rfl) rfl ⟨(Nat.le_of_ble_eq_true rfl), (Nat.le_of_ble_eq_true rfl)⟩ (fun _ _ => rfl) (by first | exact hM2.1.1 _ rfl | exact hM.1.1 _ rfl) (fun x_22 w_22 hp_22 => ?_)
      obtain ⟨rfl, hM2, hC2, hr2⟩ := hp_22
      refine cb_if_lt (pc := 25) O 30 dX11_why_25 (by decide) (fun c_25 => ?_) (fun c_25 => ?_)
      · skip
        have h6 : ¬ ln A u (nL A) < 6 := fun h => by
          rw [if_pos h, ci_lt0, ci_n (by omega)] at c_25
          omega
        refine cb_iconst (pc := 30) (v := 1) O dX11_why_30 (by decide) ?_
        refine cb_istore_n (pc := 31) O dX11_why_31 (by decide) ?_
        dsimp only [List.set]
        refine cb_iconst (pc := 32) (v := 1) O dX11_why_32 (by decide) ?_
        refine cb_istore_n (pc := 33) O dX11_why_33 (by decide) ?_
        dsimp only [List.set]
        refine cb_iconst (pc := 34) (v := 0) O dX11_why_34 (by decide) ?_
        refine cb_istore (pc := 35) O dX11_why_35 (by decide) ?_
        dsimp only [List.set]
        have L_37 : ∀ (n : Nat) (m md nw : Nat) (x5 x6 x7 : Option cb_V), m ≤ 5 → md < 65536 → nw < 65536 → (∀ j, md.testBit j = true ↔ RD A u m j) → (∀ j, nw.testBit j = true ↔ RC A u 0 m j) → 6 ≤ m + n → cb_X κ w_22 0 0 37 [some (.inr (some 1000)), some (.inl (nI u)), some (.inl (nI md)), some (.inl (nI nw)), some (.inl (nI m)), x5, x6, x7] [] := by
          intro n
          induction n with
          | zero =>
            intro m md nw x5 x6 x7 hm hdl hwl hmd hnw hn
            exact absurd hn (by omega)
          | succ n ih_37 =>
            intro m md nw x5 x6 x7 hm hdl hwl hmd hnw hn
            refine cb_iload (pc := 37) O dX11_why_37 rfl ?_
            refine cb_iconst (pc := 39) (v := 5) O dX11_why_39 (by decide) ?_
            refine cb_icmp_ge (pc := 40) O 135 dX11_why_40 (by decide) (fun c_40 => ?_) (fun c_40 => ?_)
            · skip
              have e : m = 5 := by
                have := ci_ge (b := 5) c_40 (by omega) (by decide)
                omega
              subst e
              refine cb_aload_n (pc := 135) O dX11_why_135 rfl ?_
              refine cb_cVp (pc := 136) O (c_X11_wantedColours w_22 A z hI hM2) my_X11_wantedColours mi_X11_wantedColours mx_X11_wantedColours ml_X11_192 dX11_why_136 rfl ct_11 rfl rfl rfl ⟨(Nat.le_of_ble_eq_true rfl), (Nat.le_of_ble_eq_true rfl)⟩ (Nat.le_of_ble_eq_true rfl) (cb_kpT _ _) ⟨(Nat.le_of_ble_eq_true rfl), (Nat.le_of_ble_eq_true rfl)⟩ (by first | exact hM2.1.1 _ rfl | exact hM.1.1 _ rfl) ?_
              refine cb_iload_n (pc := 139) O dX11_why_139 rfl ?_
              refine cb_iconst (pc := 140) (v := (-1)) O dX11_why_140 (by decide) ?_
              refine cb_ixor (pc := 141) O dX11_why_141 ?_
              refine cb_iand (pc := 142) O dX11_why_142 ?_
              refine cb_topv (nI (nvm A u)) (nvm_eq hI (fun j _ => hmd j)) ?_
              refine cb_istore (pc := 143) O dX11_why_143 (by decide) ?_
              dsimp only [List.set]
              refine cb_iload (pc := 145) O dX11_why_145 rfl ?_
              refine cb_if_eq (pc := 147) O 155 dX11_why_147 (by decide) (fun c_147 => ?_) (fun c_147 => ?_)
              · skip
                rw [show (0 : Int32) = nI 0 from rfl, nI_eq (by have := nvm_lt A u; omega) (by omega)] at c_147
                refine cb_aload_n (pc := 155) O dX11_why_155 rfl ?_
                refine cb_cVp (pc := 156) O (c_X11_wantedColours w_22 A z hI hM2) my_X11_wantedColours mi_X11_wantedColours mx_X11_wantedColours ml_X11_192 dX11_why_156 rfl ct_11 rfl rfl rfl ⟨(Nat.le_of_ble_eq_true rfl), (Nat.le_of_ble_eq_true rfl)⟩ (Nat.le_of_ble_eq_true rfl) (cb_kpT _ _) ⟨(Nat.le_of_ble_eq_true rfl), (Nat.le_of_ble_eq_true rfl)⟩ (by first | exact hM2.1.1 _ rfl | exact hM.1.1 _ rfl) ?_
                refine cb_bipush (pc := 159) (v := (-2)) O dX11_why_159 (by decide) ?_
                refine cb_iand (pc := 161) O dX11_why_161 ?_
                refine cb_topv _ (ci_rm0 _) ?_
                exact cb_iret (pc := 162) O Rt rfl (Nat.le_of_ble_eq_true rfl) (Nat.le_of_ble_eq_true rfl) dX11_why_162 (by
                  refine ⟨?_, hM2, hC2⟩
                  rw [sr_why, if_pos hv, hcl, if_neg h6]
                  first | rw [if_pos c_147] | rw [if_neg c_147])
              · skip
                rw [show (0 : Int32) = nI 0 from rfl, nI_eq (by have := nvm_lt A u; omega) (by omega)] at c_147
                refine cb_iload (pc := 150) O dX11_why_150 rfl ?_
                refine cb_goto (pc := 152) O 162 dX11_why_152 (by decide) ?_
                exact cb_iret (pc := 162) O Rt rfl (Nat.le_of_ble_eq_true rfl) (Nat.le_of_ble_eq_true rfl) dX11_why_162 (by
                  refine ⟨?_, hM2, hC2⟩
                  rw [sr_why, if_pos hv, hcl, if_neg h6]
                  first | rw [if_pos c_147] | rw [if_neg c_147])
            · skip
              have hlt : m < 5 := ci_nge (b := 5) c_40 (by omega) (by decide)
              refine cb_iconst (pc := 43) (v := 0) O dX11_why_43 (by decide) ?_
              refine cb_istore (pc := 44) O dX11_why_44 (by decide) ?_
              dsimp only [List.set]
              refine cb_iconst (pc := 46) (v := 0) O dX11_why_46 (by decide) ?_
              refine cb_istore (pc := 47) O dX11_why_47 (by decide) ?_
              dsimp only [List.set]
              have L_49 : ∀ (n : Nat) (c nx : Nat) (x7 : Option cb_V), c ≤ 16 → nx < 65536 → (∀ j, nx.testBit j = true ↔ SQ A u (RC A u 0 m) c 0 j) → 17 ≤ c + n → cb_X κ w_22 0 0 49 [some (.inr (some 1000)), some (.inl (nI u)), some (.inl (nI md)), some (.inl (nI nw)), some (.inl (nI m)), some (.inl (nI nx)), some (.inl (nI c)), x7] [] := by
                intro n
                induction n with
                | zero =>
                  intro c nx x7 hc hxl hnx hn
                  exact absurd hn (by omega)
                | succ n ih_49 =>
                  intro c nx x7 hc hxl hnx hn
                  refine cb_iload (pc := 49) O dX11_why_49 rfl ?_
                  refine cb_bipush (pc := 51) (v := 16) O dX11_why_51 (by decide) ?_
                  refine cb_icmp_ge (pc := 53) O 122 dX11_why_53 (by decide) (fun c_53 => ?_) (fun c_53 => ?_)
                  · skip
                    have e : c = 16 := by
                      have := ci_ge (b := 16) c_53 (by omega) (by decide)
                      omega
                    subst e
                    refine cb_iload (pc := 122) O dX11_why_122 rfl ?_
                    refine cb_istore_n (pc := 124) O dX11_why_124 (by decide) ?_
                    dsimp only [List.set]
                    refine cb_iload_n (pc := 125) O dX11_why_125 rfl ?_
                    refine cb_iload_n (pc := 126) O dX11_why_126 rfl ?_
                    refine cb_ior (pc := 127) O dX11_why_127 ?_
                    refine cb_topv _ (fa_or _ _) ?_
                    refine cb_istore_n (pc := 128) O dX11_why_128 (by decide) ?_
                    dsimp only [List.set]
                    refine cb_iinc (pc := 129) O (nI (m + 1)) dX11_why_129 rfl (by decide) (ci_inc m) ?_
                    dsimp only [List.set]
                    refine cb_goto (pc := 132) O 37 dX11_why_132 (by decide) ?_
                    exact ih_37 (m + 1) (md ||| nx) nx _ _ _ (by omega) (or_lt16 hdl hxl) hxl (fun j => by rw [tb_oo, hmd, hnx, SQ_RC hI, RD_S]) (fun j => (hnx j).trans (SQ_RC hI)) (by omega)
                  · skip
                    have hc16 : c < 16 := ci_nge (b := 16) c_53 (by omega) (by decide)
                    refine cb_iconst (pc := 56) (v := 0) O dX11_why_56 (by decide) ?_
                    refine cb_istore (pc := 57) O dX11_why_57 (by decide) ?_
                    dsimp only [List.set]
                    have L_59 : ∀ (n : Nat) (i nx : Nat), i ≤ 10 → nx < 65536 → (∀ j, nx.testBit j = true ↔ SQ A u (RC A u 0 m) c i j) → 11 ≤ i + n → cb_X κ w_22 0 0 59 [some (.inr (some 1000)), some (.inl (nI u)), some (.inl (nI md)), some (.inl (nI nw)), some (.inl (nI m)), some (.inl (nI nx)), some (.inl (nI c)), some (.inl (nI i))] [] := by
                      intro n
                      induction n with
                      | zero =>
                        intro i nx hi hxl hnx hn
                        exact absurd hn (by omega)
                      | succ n ih_59 =>
                        intro i nx hi hxl hnx hn
                        refine cb_iload (pc := 59) O dX11_why_59 rfl ?_
                        refine cb_bipush (pc := 61) (v := 10) O dX11_why_61 (by decide) ?_
                        refine cb_icmp_ge (pc := 63) O 116 dX11_why_63 (by decide) (fun c_63 => ?_) (fun c_63 => ?_)
                        · skip
                          have e : i = 10 := by
                            have := ci_ge (b := 10) c_63 (by omega) (by decide)
                            omega
                          subst e
                          have hnx2 : ∀ j, nx.testBit j = true ↔ SQ A u (RC A u 0 m) (c + 1) 0 j := fun j => (hnx j).trans SQ_n
                          refine cb_iinc (pc := 116) O (nI (c + 1)) dX11_why_116 rfl (by decide) (ci_inc c) ?_
                          dsimp only [List.set]
                          refine cb_goto (pc := 119) O 49 dX11_why_119 (by decide) ?_
                          exact ih_49 (c + 1) nx _ (by omega) hxl hnx2 (by omega)
                        · skip
                          have hi10 : i < 10 := ci_nge (b := 10) c_63 (by omega) (by decide)
                          have h16 : (A 3 (16 * i + c)) < 16 := hI.2.2.1.1 _
                          have hp16 := p2_16 h16
                          refine cb_iload_n (pc := 66) O dX11_why_66 rfl ?_
                          refine cb_iload (pc := 67) O dX11_why_67 rfl ?_
                          refine cb_ishr (pc := 69) O dX11_why_69 ?_
                          refine cb_iconst (pc := 70) (v := 1) O dX11_why_70 (by decide) ?_
                          refine cb_iand (pc := 71) O dX11_why_71 ?_
                          refine cb_iconst (pc := 72) (v := 1) O dX11_why_72 (by decide) ?_
                          refine cb_icmp_ne (pc := 73) O 116 dX11_why_73 (by decide) (fun c_73 => ?_) (fun c_73 => ?_)
                          · skip
                            rw [ci_bit (by omega) (by omega), hnw] at c_73
                            have hnx2 : ∀ j, nx.testBit j = true ↔ SQ A u (RC A u 0 m) (c + 1) 0 j := fun j => (hnx j).trans (SQ_x c_73)
                            refine cb_iinc (pc := 116) O (nI (c + 1)) dX11_why_116 rfl (by decide) (ci_inc c) ?_
                            dsimp only [List.set]
                            refine cb_goto (pc := 119) O 49 dX11_why_119 (by decide) ?_
                            exact ih_49 (c + 1) nx _ (by omega) hxl hnx2 (by omega)
                          · skip
                            rw [ci_bit (by omega) (by omega), hnw] at c_73
                            refine cb_iload (pc := 76) O dX11_why_76 rfl ?_
                            refine cb_iload_n (pc := 78) O dX11_why_78 rfl ?_
                            refine cb_iload (pc := 79) O dX11_why_79 rfl ?_
                            refine cb_ishr (pc := 81) O dX11_why_81 ?_
                            refine cb_iconst (pc := 82) (v := 1) O dX11_why_82 (by decide) ?_
                            refine cb_iand (pc := 83) O dX11_why_83 ?_
                            refine cb_iconst (pc := 84) (v := 1) O dX11_why_84 (by decide) ?_
                            refine cb_icmp_ne (pc := 85) O 106 dX11_why_85 (by decide) (fun c_85 => ?_) (fun c_85 => ?_)
                            · skip
                              rw [ci_bit (by omega) (by omega)] at c_85
                              have hst : ∀ j, (nx ||| 0).testBit j = true ↔ SQ A u (RC A u 0 m) c (i + 1) j := fun j => by
                                rw [Nat.or_zero, SQ_s, hnx]
                                exact ⟨fun h => Or.inl h, fun h => h.elim id (fun g => absurd g.1 c_85)⟩
                              have hsl : nx ||| 0 < 65536 := or_lt16 hxl (by decide)
                              refine cb_iconst (pc := 106) (v := 0) O dX11_why_106 (by decide) ?_
                              refine cb_ior (pc := 107) O dX11_why_107 ?_
                              refine cb_topv _ (fa_or _ _) ?_
                              refine cb_istore (pc := 108) O dX11_why_108 (by decide) ?_
                              dsimp only [List.set]
                              refine cb_iinc (pc := 110) O (nI (i + 1)) dX11_why_110 rfl (by decide) (ci_inc i) ?_
                              dsimp only [List.set]
                              refine cb_goto (pc := 113) O 59 dX11_why_113 (by decide) ?_
                              exact ih_59 (i + 1) _ (by omega) hsl hst (by omega)
                            · skip
                              rw [ci_bit (by omega) (by omega)] at c_85
                              have hst : ∀ j, (nx ||| 2 ^ (A 3 (16 * i + c))).testBit j = true ↔ SQ A u (RC A u 0 m) c (i + 1) j := fun j => by
                                rw [tb_or, SQ_s, hnx]
                                exact ⟨fun h => h.imp id (fun e => ⟨c_85, c_73, e⟩), fun h => h.imp id (fun g => g.2.2)⟩
                              have hsl : nx ||| 2 ^ (A 3 (16 * i + c)) < 65536 := or_lt16 hxl hp16
                              refine cb_iconst (pc := 88) (v := 1) O dX11_why_88 (by decide) ?_
                              refine cb_aload_n (pc := 89) O dX11_why_89 rfl ?_
                              refine cb_getR (pc := 90) O fl_X11_9 rfl rfl dX11_why_90 (by first | exact hM2.1.1 _ rfl | exact hM.1.1 _ rfl) (by first | exact hM2.1.2 _ _ _ rfl | exact hM.1.2 _ _ _ rfl) ?_
                              refine cb_bipush (pc := 93) (v := 16) O dX11_why_93 (by decide) ?_
                              refine cb_iload (pc := 95) O dX11_why_95 rfl ?_
                              refine cb_imul (pc := 97) O dX11_why_97 ?_
                              refine cb_iload (pc := 98) O dX11_why_98 rfl ?_
                              refine cb_iadd (pc := 100) O dX11_why_100 ?_
                              refine cb_topv _ (ci_m16 _ _) ?_
                              refine cb_iald (pc := 101) O (16 * i + c) rfl dX11_why_101 (by decide) (by first | exact hM2.1.1 _ rfl | exact hM.1.1 _ rfl) rfl (by omega) ?_
                              refine cb_topv (nI (A 3 (16 * i + c))) (cm_at hM2 3 _ (by simp [ca_R]; omega) (by omega)) ?_
                              refine cb_ishl (pc := 102) O dX11_why_102 ?_
                              refine cb_topv _ (ci_shl h16) ?_
                              refine cb_goto (pc := 103) O 107 dX11_why_103 (by decide) ?_
                              refine cb_ior (pc := 107) O dX11_why_107 ?_
                              refine cb_topv _ (fa_or _ _) ?_
                              refine cb_istore (pc := 108) O dX11_why_108 (by decide) ?_
                              dsimp only [List.set]
                              refine cb_iinc (pc := 110) O (nI (i + 1)) dX11_why_110 rfl (by decide) (ci_inc i) ?_
                              dsimp only [List.set]
                              refine cb_goto (pc := 113) O 59 dX11_why_113 (by decide) ?_
                              exact ih_59 (i + 1) _ (by omega) hsl hst (by omega)
                    exact L_59 11 0 nx (by omega) hxl hnx (by omega)
              exact L_49 17 0 0 _ (by omega) (by omega) (fun j => SQ_z) (by omega)
        exact L_37 6 0 1 1 none none none (by omega) (by omega) (by omega) (fun j => tb_1.trans RD_0.symm) (fun j => tb_1) (by omega)
      · skip
        have h6 : ln A u (nL A) < 6 := Classical.byContradiction (fun h => c_25 (by rw [if_neg h]; decide))
        refine cb_iconst (pc := 28) (v := 0) O dX11_why_28 (by decide) ?_
        exact cb_iret (pc := 29) O Rt rfl (Nat.le_of_ble_eq_true rfl) (Nat.le_of_ble_eq_true rfl) dX11_why_29 (by
          refine ⟨?_, hM2, hC2⟩
          rw [sr_why, if_pos hv, hcl, if_pos h6])
    · skip
      refine cb_iconst (pc := 18) (v := (-1)) O dX11_why_18 (by decide) ?_
      exact cb_iret (pc := 19) O Rt rfl (Nat.le_of_ble_eq_true rfl) (Nat.le_of_ble_eq_true rfl) dX11_why_19 (by
        have hv : ¬ sv_ink A u := fun h => by
          first | exact hz h.1 | exact c_15 h.2
        exact ⟨by rw [sr_why, if_neg hv], hM, cb_C1.rfl'⟩)

theorem c_X6_colourSet (w : cb_W) (A : ca_A) (z : Int32) (hI : ca_I A) (hC : cc_I w A z)  : cb_Pu yX6_colourSet cX6_colourSet 3 (some .int) 3 65 [.inr (some 26)] w (nI (wcs A 16)) := by
  refine cb_con (by decide) (Nat.le_of_ble_eq_true rfl) (fun κ O Rt hnm => ?_)
  show cb_X κ w 0 0 0 [some (.inr (some 26)), none, none] []
  refine cb_iconst (pc := 0) (v := 0) O dX6_colourSet_0 (by decide) ?_
  refine cb_istore_n (pc := 1) O dX6_colourSet_1 (by decide) ?_
  dsimp only [List.set]
  refine cb_iconst (pc := 2) (v := 0) O dX6_colourSet_2 (by decide) ?_
  refine cb_istore_n (pc := 3) O dX6_colourSet_3 (by decide) ?_
  dsimp only [List.set]
  have L_4 : ∀ (n : Nat) (k : Nat), k ≤ 16 → 17 ≤ k + n → cb_X κ w 0 0 4 [some (.inr (some 26)), some (.inl (nI (wcs A k))), some (.inl (nI k))] [] := by
    intro n
    induction n with
    | zero =>
      intro k hk hn
      exact absurd hn (by omega)
    | succ n ih_4 =>
      intro k hk hn
      refine cb_iload_n (pc := 4) O dX6_colourSet_4 rfl ?_
      refine cb_bipush (pc := 5) (v := 16) O dX6_colourSet_5 (by decide) ?_
      refine cb_icmp_ge (pc := 7) O 35 dX6_colourSet_7 (by decide) (fun c_7 => ?_) (fun c_7 => ?_)
      · skip
        have e : k = 16 := by
          have := ci_ge (b := 16) c_7 (by omega) (by decide)
          omega
        subst e
        refine cb_iload_n (pc := 35) O dX6_colourSet_35 rfl ?_
        exact cb_iret (pc := 36) O Rt rfl (Nat.le_of_ble_eq_true rfl) (Nat.le_of_ble_eq_true rfl) dX6_colourSet_36 ⟨rfl, rfl⟩
      · skip
        have hlt : k < 16 := ci_nge (b := 16) c_7 (by omega) (by decide)
        refine cb_aload_n (pc := 10) O dX6_colourSet_10 rfl ?_
        refine cb_iload_n (pc := 11) O dX6_colourSet_11 rfl ?_
        refine cb_cVp (pc := 12) O (c_X6_hasCell w A z hI hC (nI k)) my_X6_hasCell mi_X6_hasCell mx_X6_hasCell ml_X6_30 dX6_colourSet_12 rfl ct_6 rfl rfl rfl ⟨(Nat.le_of_ble_eq_true rfl), (Nat.le_of_ble_eq_true rfl)⟩ (Nat.le_of_ble_eq_true rfl) rfl ⟨(Nat.le_of_ble_eq_true rfl), (Nat.le_of_ble_eq_true rfl)⟩ (hC.1.1 _ rfl) ?_
        refine cb_ifp_eq (pc := 15) O 29 dX6_colourSet_15 (by decide) (fun c_15 => ?_) (fun c_15 => ?_)
        · skip
          rw [ca_wn (by omega)] at c_15
          have hsame : wcs A k = wcs A (k + 1) := by
            show _ = wcs A k ||| (if _ then _ else _)
            rw [if_neg c_15, Nat.or_zero]
          refine cb_iinc (pc := 29) O (nI (k + 1)) dX6_colourSet_29 rfl (by decide) (ci_inc k) ?_
          dsimp only [List.set]
          refine cb_goto (pc := 32) O 4 dX6_colourSet_32 (by decide) ?_
          first
          | exact ih_4 (k + 1) (by omega) (by omega)
          | (rw [hsame]; exact ih_4 (k + 1) (by omega) (by omega))
        · skip
          rw [ca_wn (by omega)] at c_15
          refine cb_iload_n (pc := 18) O dX6_colourSet_18 rfl ?_
          refine cb_iconst (pc := 19) (v := 1) O dX6_colourSet_19 (by decide) ?_
          refine cb_aload_n (pc := 20) O dX6_colourSet_20 rfl ?_
          refine cb_getR (pc := 21) O fl_X6_9 rfl rfl dX6_colourSet_21 (hC.1.1 _ rfl) (hC.1.2 _ _ _ rfl) ?_
          refine cb_iload_n (pc := 24) O dX6_colourSet_24 rfl ?_
          refine cb_iald (pc := 25) O k rfl dX6_colourSet_25 (by decide) (hC.1.1 _ rfl) rfl (by omega) ?_
          refine cb_topv (nI (A 31 k)) (hC.2.2.2.2.2.2.1.2.2 k hlt) ?_
          refine cb_ishl (pc := 26) O dX6_colourSet_26 ?_
          refine cb_topv _ (ci_shl (hI.2.2.2.2.2.1.1 k)) ?_
          refine cb_ior (pc := 27) O dX6_colourSet_27 ?_
          refine cb_topv (nI (wcs A (k + 1))) (by
            show _ = nI (wcs A k ||| (if _ then _ else _))
            rw [if_pos c_15]; exact fa_or _ _) ?_
          refine cb_istore_n (pc := 28) O dX6_colourSet_28 (by decide) ?_
          dsimp only [List.set]
          refine cb_iinc (pc := 29) O (nI (k + 1)) dX6_colourSet_29 rfl (by decide) (ci_inc k) ?_
          dsimp only [List.set]
          refine cb_goto (pc := 32) O 4 dX6_colourSet_32 (by decide) ?_
          first
          | exact ih_4 (k + 1) (by omega) (by omega)
          | (rw [hsame]; exact ih_4 (k + 1) (by omega) (by omega))
  exact L_4 17 0 (by omega) (by omega)

theorem c_X4_oneInkOn (w : cb_W) (A : ca_A) (z : Int32) (hI : ca_I A) (hC : cc_I w A z) (X u : Nat) (hX : X < 65536) (hu : u ≤ 1023) : cb_Con yX4_oneInkOn cX4_oneInkOn 6 (some .int) 1 21 0 0 (fun _ => true) [.inr (some 1), .inl (nI X), .inl (nI u)] w (cb_pi (fun x w' => w' = w ∧ ∃ y, x = nI y ∧ y < 65536 ∧ ∀ j, y.testBit j = true ↔ SC A u (fun c => X.testBit c = true) 10 0 j)) := by
  refine cb_con (by decide) (Nat.le_of_ble_eq_true rfl) (fun κ O Rt hnm => ?_)
  show cb_X κ w 0 0 0 [some (.inr (some 1)), some (.inl (nI X)), some (.inl (nI u)), none, none, none] []
  refine cb_iconst (pc := 0) (v := 0) O dX4_oneInkOn_0 (by decide) ?_
  refine cb_istore_n (pc := 1) O dX4_oneInkOn_1 (by decide) ?_
  dsimp only [List.set]
  refine cb_iconst (pc := 2) (v := 0) O dX4_oneInkOn_2 (by decide) ?_
  refine cb_istore (pc := 3) O dX4_oneInkOn_3 (by decide) ?_
  dsimp only [List.set]
  have L_5 : ∀ (n : Nat) (i nx : Nat) (x5 : Option cb_V), i ≤ 10 → nx < 65536 → (∀ j, nx.testBit j = true ↔ SC A u (fun c => X.testBit c = true) i 0 j) → 11 ≤ i + n → cb_X κ w 0 0 5 [some (.inr (some 1)), some (.inl (nI X)), some (.inl (nI u)), some (.inl (nI nx)), some (.inl (nI i)), x5] [] := by
    intro n
    induction n with
    | zero =>
      intro i nx x5 hi hxl hnx hn
      exact absurd hn (by omega)
    | succ n ih_5 =>
      intro i nx x5 hi hxl hnx hn
      refine cb_iload (pc := 5) O dX4_oneInkOn_5 rfl ?_
      refine cb_bipush (pc := 7) (v := 10) O dX4_oneInkOn_7 (by decide) ?_
      refine cb_icmp_ge (pc := 9) O 67 dX4_oneInkOn_9 (by decide) (fun c_9 => ?_) (fun c_9 => ?_)
      · skip
        have e : i = 10 := by
          have := ci_ge (b := 10) c_9 (by omega) (by decide)
          omega
        subst e
        refine cb_iload_n (pc := 67) O dX4_oneInkOn_67 rfl ?_
        exact cb_iret (pc := 68) O Rt rfl (Nat.le_of_ble_eq_true rfl) (Nat.le_of_ble_eq_true rfl) dX4_oneInkOn_68 ⟨rfl, nx, rfl, hxl, hnx⟩
      · skip
        have hi10 : i < 10 := ci_nge (b := 10) c_9 (by omega) (by decide)
        refine cb_iconst (pc := 12) (v := 0) O dX4_oneInkOn_12 (by decide) ?_
        refine cb_istore (pc := 13) O dX4_oneInkOn_13 (by decide) ?_
        dsimp only [List.set]
        have L_15 : ∀ (n : Nat) (c nx : Nat), c ≤ 16 → nx < 65536 → (∀ j, nx.testBit j = true ↔ SC A u (fun c => X.testBit c = true) i c j) → 17 ≤ c + n → cb_X κ w 0 0 15 [some (.inr (some 1)), some (.inl (nI X)), some (.inl (nI u)), some (.inl (nI nx)), some (.inl (nI i)), some (.inl (nI c))] [] := by
          intro n
          induction n with
          | zero =>
            intro c nx hc hxl hnx hn
            exact absurd hn (by omega)
          | succ n ih_15 =>
            intro c nx hc hxl hnx hn
            refine cb_iload (pc := 15) O dX4_oneInkOn_15 rfl ?_
            refine cb_bipush (pc := 17) (v := 16) O dX4_oneInkOn_17 (by decide) ?_
            refine cb_icmp_ge (pc := 19) O 61 dX4_oneInkOn_19 (by decide) (fun c_19 => ?_) (fun c_19 => ?_)
            · skip
              have e : c = 16 := by
                have := ci_ge (b := 16) c_19 (by omega) (by decide)
                omega
              subst e
              refine cb_iinc (pc := 61) O (nI (i + 1)) dX4_oneInkOn_61 rfl (by decide) (ci_inc i) ?_
              dsimp only [List.set]
              refine cb_goto (pc := 64) O 5 dX4_oneInkOn_64 (by decide) ?_
              exact ih_5 (i + 1) nx _ (by omega) hxl (fun j => (hnx j).trans SC_n) (by omega)
            · skip
              have hc16 : c < 16 := ci_nge (b := 16) c_19 (by omega) (by decide)
              have h16 : (A 3 (16 * i + c)) < 16 := hI.2.2.1.1 _
              have hp16 := p2_16 h16
              refine cb_iload_n (pc := 22) O dX4_oneInkOn_22 rfl ?_
              refine cb_iload (pc := 23) O dX4_oneInkOn_23 rfl ?_
              refine cb_cSp (pc := 25) O (c_X10_has _ _ _) my_X10_has mt_X10_has ml_X4_36 dX4_oneInkOn_25 rfl rfl ⟨(Nat.le_of_ble_eq_true rfl), (Nat.le_of_ble_eq_true rfl)⟩ (Nat.le_of_ble_eq_true rfl) rfl ⟨(Nat.le_of_ble_eq_true rfl), (Nat.le_of_ble_eq_true rfl)⟩ ?_
              refine cb_ifp_eq (pc := 28) O 55 dX4_oneInkOn_28 (by decide) (fun c_28 => ?_) (fun c_28 => ?_)
              · skip
                rw [ci_has (by omega) (by omega)] at c_28
                have hsame : ∀ j, nx.testBit j = true ↔ SC A u (fun c => X.testBit c = true) i (c + 1) j := fun j => by
                  rw [SC_s, hnx]
                  exact ⟨fun h => Or.inl h, fun h => h.elim id (fun g => absurd g.1 c_28)⟩
                refine cb_iinc (pc := 55) O (nI (c + 1)) dX4_oneInkOn_55 rfl (by decide) (ci_inc c) ?_
                dsimp only [List.set]
                refine cb_goto (pc := 58) O 15 dX4_oneInkOn_58 (by decide) ?_
                first
                | exact ih_15 (c + 1) nx (by omega) hxl hsame (by omega)
                | exact ih_15 (c + 1) _ (by omega) hsl hst (by omega)
              · skip
                rw [ci_has (by omega) (by omega)] at c_28
                refine cb_iload_n (pc := 31) O dX4_oneInkOn_31 rfl ?_
                refine cb_iload (pc := 32) O dX4_oneInkOn_32 rfl ?_
                refine cb_cSp (pc := 34) O (c_X10_has _ _ _) my_X10_has mt_X10_has ml_X4_36 dX4_oneInkOn_34 rfl rfl ⟨(Nat.le_of_ble_eq_true rfl), (Nat.le_of_ble_eq_true rfl)⟩ (Nat.le_of_ble_eq_true rfl) rfl ⟨(Nat.le_of_ble_eq_true rfl), (Nat.le_of_ble_eq_true rfl)⟩ ?_
                refine cb_ifp_eq (pc := 37) O 55 dX4_oneInkOn_37 (by decide) (fun c_37 => ?_) (fun c_37 => ?_)
                · skip
                  rw [ci_has (by omega) (by omega)] at c_37
                  have hsame : ∀ j, nx.testBit j = true ↔ SC A u (fun c => X.testBit c = true) i (c + 1) j := fun j => by
                    rw [SC_s, hnx]
                    exact ⟨fun h => Or.inl h, fun h => h.elim id (fun g => absurd g.2.1 c_37)⟩
                  refine cb_iinc (pc := 55) O (nI (c + 1)) dX4_oneInkOn_55 rfl (by decide) (ci_inc c) ?_
                  dsimp only [List.set]
                  refine cb_goto (pc := 58) O 15 dX4_oneInkOn_58 (by decide) ?_
                  first
                  | exact ih_15 (c + 1) nx (by omega) hxl hsame (by omega)
                  | exact ih_15 (c + 1) _ (by omega) hsl hst (by omega)
                · skip
                  rw [ci_has (by omega) (by omega)] at c_37
                  have hst : ∀ j, (nx ||| 2 ^ (A 3 (16 * i + c))).testBit j = true ↔ SC A u (fun c => X.testBit c = true) i (c + 1) j := fun j => by
                    rw [tb_or, SC_s, hnx]
                    exact ⟨fun h => h.imp id (fun e => ⟨c_28, c_37, e⟩), fun h => h.imp id (fun g => g.2.2)⟩
                  have hsl : nx ||| 2 ^ (A 3 (16 * i + c)) < 65536 := or_lt16 hxl hp16
                  refine cb_iload_n (pc := 40) O dX4_oneInkOn_40 rfl ?_
                  refine cb_iconst (pc := 41) (v := 1) O dX4_oneInkOn_41 (by decide) ?_
                  refine cb_aload_n (pc := 42) O dX4_oneInkOn_42 rfl ?_
                  refine cb_getR (pc := 43) O fl_X4_11 rfl rfl dX4_oneInkOn_43 (hC.1.1 _ rfl) (hC.1.2 _ _ _ rfl) ?_
                  refine cb_iload (pc := 46) O dX4_oneInkOn_46 rfl ?_
                  refine cb_aald (pc := 48) O i rfl (by decide) (by decide) dX4_oneInkOn_48 (by decide) (hC.1.1 _ rfl) rfl hi10 (hC.1.2 8 i (100 + i) (by simp [cc_Rf]; omega)) ?_
                  refine cb_iload (pc := 49) O dX4_oneInkOn_49 rfl ?_
                  refine cb_iald (pc := 51) O c (sh_mk hi10) dX4_oneInkOn_51 (by decide) (hC.1.1 _ (lv_f (by omega))) rfl hc16 ?_
                  refine cb_topv (nI (A 3 (16 * i + c))) (hC.2.2.2.1.1 i c hi10 hc16) ?_
                  refine cb_ishl (pc := 52) O dX4_oneInkOn_52 ?_
                  refine cb_topv _ (ci_shl h16) ?_
                  refine cb_ior (pc := 53) O dX4_oneInkOn_53 ?_
                  refine cb_topv _ (fa_or _ _) ?_
                  refine cb_istore_n (pc := 54) O dX4_oneInkOn_54 (by decide) ?_
                  dsimp only [List.set]
                  refine cb_iinc (pc := 55) O (nI (c + 1)) dX4_oneInkOn_55 rfl (by decide) (ci_inc c) ?_
                  dsimp only [List.set]
                  refine cb_goto (pc := 58) O 15 dX4_oneInkOn_58 (by decide) ?_
                  first
                  | exact ih_15 (c + 1) nx (by omega) hxl hsame (by omega)
                  | exact ih_15 (c + 1) _ (by omega) hsl hst (by omega)
        exact L_15 17 0 nx (by omega) hxl hnx (by omega)
  exact L_5 11 0 0 none (by omega) (by omega) (fun j => SC_z) (by omega)

theorem SC_c {A : ca_A} {u i c j : Nat} {R R' : Nat → Prop} (h : ∀ c, R c ↔ R' c) : SC A u R i c j ↔ SC A u R' i c j := by
  have e : R = R' := funext fun c => propext (h c)
  rw [e]
theorem c_X4_reachedBy (w : cb_W) (A : ca_A) (z : Int32) (hI : ca_I A) (hC : cc_I w A z) (u : Nat) (hu : u ≤ 1023) : cb_Con yX4_reachedBy cX4_reachedBy 4 (some .int) 2 46 0 0 (fun _ => true) [.inr (some 1), .inl (nI u)] w (cb_pi (fun x w' => w' = w ∧ ∃ y, x = nI y ∧ y < 65536 ∧ ∀ j, y.testBit j = true ↔ RD A u 5 j)) := by
  refine cb_con (by decide) (Nat.le_of_ble_eq_true rfl) (fun κ O Rt hnm => ?_)
  show cb_X κ w 0 0 0 [some (.inr (some 1)), some (.inl (nI u)), none, none] []
  refine cb_iconst (pc := 0) (v := 1) O dX4_reachedBy_0 (by decide) ?_
  refine cb_istore_n (pc := 1) O dX4_reachedBy_1 (by decide) ?_
  dsimp only [List.set]
  refine cb_iconst (pc := 2) (v := 0) O dX4_reachedBy_2 (by decide) ?_
  refine cb_istore_n (pc := 3) O dX4_reachedBy_3 (by decide) ?_
  dsimp only [List.set]
  have L_4 : ∀ (n : Nat) (m y : Nat), m ≤ 5 → y < 65536 → (∀ j, y.testBit j = true ↔ RD A u m j) → 6 ≤ m + n → cb_X κ w 0 0 4 [some (.inr (some 1)), some (.inl (nI u)), some (.inl (nI y)), some (.inl (nI m))] [] := by
    intro n
    induction n with
    | zero =>
      intro m y hm hyl hy hn
      exact absurd hn (by omega)
    | succ n ih_4 =>
      intro m y hm hyl hy hn
      refine cb_iload_n (pc := 4) O dX4_reachedBy_4 rfl ?_
      refine cb_iconst (pc := 5) (v := 5) O dX4_reachedBy_5 (by decide) ?_
      refine cb_icmp_ge (pc := 6) O 24 dX4_reachedBy_6 (by decide) (fun c_6 => ?_) (fun c_6 => ?_)
      · skip
        have e : m = 5 := by
          have := ci_ge (b := 5) c_6 (by omega) (by decide)
          omega
        subst e
        refine cb_iload_n (pc := 24) O dX4_reachedBy_24 rfl ?_
        exact cb_iret (pc := 25) O Rt rfl (Nat.le_of_ble_eq_true rfl) (Nat.le_of_ble_eq_true rfl) dX4_reachedBy_25 ⟨rfl, y, rfl, hyl, hy⟩
      · skip
        have hlt : m < 5 := ci_nge (b := 5) c_6 (by omega) (by decide)
        refine cb_iload_n (pc := 9) O dX4_reachedBy_9 rfl ?_
        refine cb_aload_n (pc := 10) O dX4_reachedBy_10 rfl ?_
        refine cb_iload_n (pc := 11) O dX4_reachedBy_11 rfl ?_
        refine cb_iload_n (pc := 12) O dX4_reachedBy_12 rfl ?_
        refine cb_cVi (pc := 13) O (c_X4_oneInkOn w A z hI hC y u hyl hu) my_X4_oneInkOn mi_X4_oneInkOn mx_X4_oneInkOn ml_X4_32 dX4_reachedBy_13 rfl ct_4 rfl rfl rfl ⟨(Nat.le_of_ble_eq_true rfl), (Nat.le_of_ble_eq_true rfl)⟩ (Nat.le_of_ble_eq_true rfl) rfl ⟨(Nat.le_of_ble_eq_true rfl), (Nat.le_of_ble_eq_true rfl)⟩ (fun _ _ => rfl) (hC.1.1 _ rfl) (fun x_13 w_13 hp_13 => ?_)
        obtain ⟨rfl, y2, rfl, hyl2, hy2⟩ := hp_13
        refine cb_ior (pc := 16) O dX4_reachedBy_16 ?_
        refine cb_topv _ (fa_or _ _) ?_
        refine cb_istore_n (pc := 17) O dX4_reachedBy_17 (by decide) ?_
        dsimp only [List.set]
        refine cb_iinc (pc := 18) O (nI (m + 1)) dX4_reachedBy_18 rfl (by decide) (ci_inc m) ?_
        dsimp only [List.set]
        refine cb_goto (pc := 21) O 4 dX4_reachedBy_21 (by decide) ?_
        exact ih_4 (m + 1) (y ||| y2) (by omega) (or_lt16 hyl hyl2) (fun j => by rw [tb_oo, hy, hy2, SC_c hy, SC_RD hI]) (by omega)
  exact L_4 6 0 1 (by omega) (by omega) (fun j => tb_1.trans RD_0.symm) (by omega)

theorem c_bitCount (w : cb_W) (n9 : Nat) (hn9 : n9 < 65536) : cb_Pu yJ6_bitCount_0f7a4 cJ6_bitCount_0f7a4 1 (some .int) 0 0 [.inl (nI n9)] w (nI (fb_ct (Nat.testBit n9) 16)) := by
  have a1 : (n9 / 2 ^ 1 &&& 1431655765) ≤ n9 := Nat.le_trans Nat.and_le_left (Nat.div_le_self _ _)
  have a2 : bc1 n9 ≤ n9 := Nat.sub_le _ _
  have a3 : bc2 (bc1 n9) ≤ 1717986918 := Nat.add_le_add Nat.and_le_right Nat.and_le_right
  have a4 : bc3 (bc2 (bc1 n9)) ≤ 252645135 := Nat.and_le_right
  refine cb_con (by decide) (Nat.le_of_ble_eq_true rfl) (fun κ O Rt hnm => ?_)
  show cb_X κ w 0 0 0 [some (.inl (nI n9))] []
  refine cb_iload_n (pc := 0) O dJ6_bitCount_0f7a4_0 rfl ?_
  refine cb_iload_n (pc := 1) O dJ6_bitCount_0f7a4_1 rfl ?_
  refine cb_iconst (pc := 2) (v := 1) O dJ6_bitCount_0f7a4_2 (by decide) ?_
  refine cb_iushr (pc := 3) O dJ6_bitCount_0f7a4_3 ?_
  refine cb_topv _ (ci_ush (m := 1) (by omega) (by decide)) ?_
  refine cb_ldcw (pc := 4) O dJ6_bitCount_0f7a4_4 kc_J6_265 ?_
  refine cb_iand (pc := 7) O dJ6_bitCount_0f7a4_7 ?_
  refine cb_topv _ (fa_and _ _) ?_
  refine cb_isub (pc := 8) O dJ6_bitCount_0f7a4_8 ?_
  refine cb_topv (nI (bc1 n9)) (ci_sub a1) ?_
  refine cb_istore_n (pc := 9) O dJ6_bitCount_0f7a4_9 (by decide) ?_
  dsimp only [List.set]
  refine cb_iload_n (pc := 10) O dJ6_bitCount_0f7a4_10 rfl ?_
  refine cb_ldcw (pc := 11) O dJ6_bitCount_0f7a4_11 kc_J6_266 ?_
  refine cb_iand (pc := 14) O dJ6_bitCount_0f7a4_14 ?_
  refine cb_topv _ (fa_and _ _) ?_
  refine cb_iload_n (pc := 15) O dJ6_bitCount_0f7a4_15 rfl ?_
  refine cb_iconst (pc := 16) (v := 2) O dJ6_bitCount_0f7a4_16 (by decide) ?_
  refine cb_iushr (pc := 17) O dJ6_bitCount_0f7a4_17 ?_
  refine cb_topv _ (ci_ush (m := 2) (by omega) (by decide)) ?_
  refine cb_ldcw (pc := 18) O dJ6_bitCount_0f7a4_18 kc_J6_266 ?_
  refine cb_iand (pc := 21) O dJ6_bitCount_0f7a4_21 ?_
  refine cb_topv _ (fa_and _ _) ?_
  refine cb_iadd (pc := 22) O dJ6_bitCount_0f7a4_22 ?_
  refine cb_topv (nI (bc2 (bc1 n9))) (nI_add _ _) ?_
  refine cb_istore_n (pc := 23) O dJ6_bitCount_0f7a4_23 (by decide) ?_
  dsimp only [List.set]
  refine cb_iload_n (pc := 24) O dJ6_bitCount_0f7a4_24 rfl ?_
  refine cb_iload_n (pc := 25) O dJ6_bitCount_0f7a4_25 rfl ?_
  refine cb_iconst (pc := 26) (v := 4) O dJ6_bitCount_0f7a4_26 (by decide) ?_
  refine cb_iushr (pc := 27) O dJ6_bitCount_0f7a4_27 ?_
  refine cb_topv _ (ci_ush (m := 4) (by omega) (by decide)) ?_
  refine cb_iadd (pc := 28) O dJ6_bitCount_0f7a4_28 ?_
  refine cb_topv _ (nI_add _ _) ?_
  refine cb_ldcw (pc := 29) O dJ6_bitCount_0f7a4_29 kc_J6_267 ?_
  refine cb_iand (pc := 32) O dJ6_bitCount_0f7a4_32 ?_
  refine cb_topv (nI (bc3 (bc2 (bc1 n9)))) (fa_and _ _) ?_
  refine cb_istore_n (pc := 33) O dJ6_bitCount_0f7a4_33 (by decide) ?_
  dsimp only [List.set]
  refine cb_iload_n (pc := 34) O dJ6_bitCount_0f7a4_34 rfl ?_
  refine cb_iload_n (pc := 35) O dJ6_bitCount_0f7a4_35 rfl ?_
  refine cb_bipush (pc := 36) (v := 8) O dJ6_bitCount_0f7a4_36 (by decide) ?_
  refine cb_iushr (pc := 38) O dJ6_bitCount_0f7a4_38 ?_
  refine cb_topv _ (ci_ush (m := 8) (by omega) (by decide)) ?_
  refine cb_iadd (pc := 39) O dJ6_bitCount_0f7a4_39 ?_
  refine cb_topv _ (nI_add _ _) ?_
  refine cb_istore_n (pc := 40) O dJ6_bitCount_0f7a4_40 (by decide) ?_
  dsimp only [List.set]
  refine cb_iload_n (pc := 41) O dJ6_bitCount_0f7a4_41 rfl ?_
  refine cb_iload_n (pc := 42) O dJ6_bitCount_0f7a4_42 rfl ?_
  refine cb_bipush (pc := 43) (v := 16) O dJ6_bitCount_0f7a4_43 (by decide) ?_
  refine cb_iushr (pc := 45) O dJ6_bitCount_0f7a4_45 ?_
  refine cb_topv _ (ci_ush (m := 16) (by omega) (by decide)) ?_
  refine cb_iadd (pc := 46) O dJ6_bitCount_0f7a4_46 ?_
  refine cb_topv _ (nI_add _ _) ?_
  refine cb_istore_n (pc := 47) O dJ6_bitCount_0f7a4_47 (by decide) ?_
  dsimp only [List.set]
  refine cb_iload_n (pc := 48) O dJ6_bitCount_0f7a4_48 rfl ?_
  refine cb_bipush (pc := 49) (v := 63) O dJ6_bitCount_0f7a4_49 (by decide) ?_
  refine cb_iand (pc := 51) O dJ6_bitCount_0f7a4_51 ?_
  refine cb_topv (nI (bcn n9)) (fa_and _ _) ?_
  exact cb_iret (pc := 52) O Rt rfl (Nat.le_of_ble_eq_true rfl) (Nat.le_of_ble_eq_true rfl) dJ6_bitCount_0f7a4_52 (by
    refine ⟨?_, rfl⟩
    rw [fb_ct16, bc_eq hn9])

theorem cm_I.u20 {w : cb_W} {A : ca_A} {z : Int32} (s : Nat) {x : Int32} {a : Nat} (h : cm_I w A z) (hx : x = nI a) : cm_I (cb_um w 1020 s x) (cb_u2 A 20 s a) z := cm_I.um (k := 20) h (by omega) x (fun _ => by rw [hx]; rfl)
theorem cm_I.e9m {w : cb_W} {B : ca_A} {z : Int32} {p a b c d e : Nat} {y : Int32} (h : cm_I w B z) (hy : y = nI c - 1) : cm_I (cb_um (cb_um (cb_um (cb_um (cb_um (cb_um w 1022 p (nI a)) 1023 p (nI b)) 1024 p y) 1025 p (nI d)) 1026 p (nI e)) 1000 26 (nI (p + 1))) (en B p a b c d e) z := by
  unfold en
  exact cm_I.um (k := 0) (cm_I.um (k := 26) (cm_I.um (k := 25) (cm_I.um (k := 24) (cm_I.um (k := 23) (cm_I.um (k := 22) h (by omega) _ (fun _ => rfl)) (by omega) _ (fun _ => rfl)) (by omega) _ (fun _ => hy)) (by omega) _ (fun _ => rfl)) (by omega) _ (fun _ => rfl)) (by omega) _ (fun _ => rfl)
theorem c_X11_pulled (w : cb_W) (A : ca_A) (z : Int32) (hI : ca_I A) (hM : cm_I w A z) (t : Int32) (ib : Nat) (hv : sv_pl A t) (h200 : ¬ A 0 26 = 200) (h17 : ∀ i, A 17 i ≤ 200) (rl : Nat → Nat) (hrl : ∀ c, rl c < 10) (hroll : ∀ c, c < 8 → w.2.1 1028 c = nI (rl c)) : cb_Con yX11_pulled cX11_pulled 7 (some .int) 2 48 0 0 (fun _ => true) [.inr (some 1000), .inl t, .inl (nI ib)] w (cb_pi (fun x w' => x = nI (A 0 26) ∧ cm_I w' (plA A z rl t ib) (pls A z rl t).2.1 ∧ cb_C1 w w')) := by
  have l := hI.1
  have hlt : t < 0 → t = -1 := fun h => by
    rcases hv.2 with e | e
    · exact e
    · rw [ci_lt0] at h
      have := e.1
      omega
  refine cb_con (by decide) (Nat.le_of_ble_eq_true rfl) (fun κ O Rt hnm => ?_)
  show cb_X κ w 0 0 0 [some (.inr (some 1000)), some (.inl t), some (.inl (nI ib)), none, none, none, none] []
  have J_146 : ∀ (w9 : cb_W) (x5 x6 : Option cb_V) (hM9 : cm_I w9 (pls A z rl t).1 (pls A z rl t).2.1) (hC9 : cb_C1 w w9), cb_X κ w9 0 0 146 [some (.inr (some 1000)), some (.inl t), some (.inl (nI ib)), some (.inl (nI (plc A t))), some (.inl (nI (pls A z rl t).2.2)), x5, x6] [] := by
    intro w9 x5 x6 hM9 hC9
    obtain ⟨a9, j9, hpi, hj9⟩ := pls_I (z := z) hI h17 hrl hv.2
    have e26 : (pls A z rl t).1 0 26 = A 0 26 := hpi.1 0 26 (by omega)
    have e8 : (pls A z rl t).1 0 8 = A 0 8 := hpi.1 0 8 (by omega)
    have hp2 : A 0 26 < 200 := by omega
    have q26 : w9.2.1 1000 26 = nI (A 0 26) := by rw [← e26]; exact cm_at hM9 0 26 rfl (by omega)
    have q8 : w9.2.1 1000 8 = nI (A 0 8) := by rw [← e8]; exact cm_at hM9 0 8 rfl (by omega)
    refine cb_aload_n (pc := 146) O dX11_pulled_146 rfl ?_
    refine cb_getR (pc := 147) O fl_X11_53 rfl rfl dX11_pulled_147 (by first | exact hM.1.1 _ rfl | exact hM9.1.1 _ rfl | (simp only [cb_um]; exact hM9.1.1 _ rfl)) (by first | exact hM.1.2 _ _ _ rfl | exact hM9.1.2 _ _ _ rfl | (simp only [cb_um]; exact hM9.1.2 _ _ _ rfl)) ?_
    refine cb_aload_n (pc := 150) O dX11_pulled_150 rfl ?_
    refine cb_getI (pc := 151) O fl_X11_159 rfl rfl dX11_pulled_151 (by first | exact hM.1.1 _ rfl | exact hM9.1.1 _ rfl | (simp only [cb_um]; exact hM9.1.1 _ rfl)) ?_
    refine cb_topv _ q26 ?_
    refine cb_iload_n (pc := 154) O dX11_pulled_154 rfl ?_
    refine cb_iast (pc := 155) O (A 0 26) rfl dX11_pulled_155 (by decide) (by first | exact hM.1.1 _ rfl | exact hM9.1.1 _ rfl | (simp only [cb_um]; exact hM9.1.1 _ rfl)) rfl (by omega) ?_
    refine cb_aload_n (pc := 156) O dX11_pulled_156 rfl ?_
    refine cb_getR (pc := 157) O fl_X11_56 rfl rfl dX11_pulled_157 (by first | exact hM.1.1 _ rfl | exact hM9.1.1 _ rfl | (simp only [cb_um]; exact hM9.1.1 _ rfl)) (by first | exact hM.1.2 _ _ _ rfl | exact hM9.1.2 _ _ _ rfl | (simp only [cb_um]; exact hM9.1.2 _ _ _ rfl)) ?_
    refine cb_aload_n (pc := 160) O dX11_pulled_160 rfl ?_
    refine cb_getI (pc := 161) O fl_X11_159 rfl rfl dX11_pulled_161 (by first | exact hM.1.1 _ rfl | exact hM9.1.1 _ rfl | (simp only [cb_um]; exact hM9.1.1 _ rfl)) ?_
    refine cb_topv (nI (A 0 26)) (by
      simp only [cb_um]
      rw [cb_u2n (by omega)]
      exact q26) ?_
    refine cb_aload_n (pc := 164) O dX11_pulled_164 rfl ?_
    refine cb_getI (pc := 165) O fl_X11_116 rfl rfl dX11_pulled_165 (by first | exact hM.1.1 _ rfl | exact hM9.1.1 _ rfl | (simp only [cb_um]; exact hM9.1.1 _ rfl)) ?_
    refine cb_topv (nI (A 0 8)) (by
      simp only [cb_um]
      rw [cb_u2n (by omega)]
      exact q8) ?_
    refine cb_iast (pc := 168) O (A 0 26) rfl dX11_pulled_168 (by decide) (by first | exact hM.1.1 _ rfl | exact hM9.1.1 _ rfl | (simp only [cb_um]; exact hM9.1.1 _ rfl)) rfl (by omega) ?_
    refine cb_aload_n (pc := 169) O dX11_pulled_169 rfl ?_
    refine cb_getR (pc := 170) O fl_X11_59 rfl rfl dX11_pulled_170 (by first | exact hM.1.1 _ rfl | exact hM9.1.1 _ rfl | (simp only [cb_um]; exact hM9.1.1 _ rfl)) (by first | exact hM.1.2 _ _ _ rfl | exact hM9.1.2 _ _ _ rfl | (simp only [cb_um]; exact hM9.1.2 _ _ _ rfl)) ?_
    refine cb_aload_n (pc := 173) O dX11_pulled_173 rfl ?_
    refine cb_getI (pc := 174) O fl_X11_159 rfl rfl dX11_pulled_174 (by first | exact hM.1.1 _ rfl | exact hM9.1.1 _ rfl | (simp only [cb_um]; exact hM9.1.1 _ rfl)) ?_
    refine cb_topv (nI (A 0 26)) (by
      simp only [cb_um]
      rw [cb_u2n (by omega), cb_u2n (by omega)]
      exact q26) ?_
    refine cb_iload_n (pc := 177) O dX11_pulled_177 rfl ?_
    refine cb_iast (pc := 178) O (A 0 26) rfl dX11_pulled_178 (by decide) (by first | exact hM.1.1 _ rfl | exact hM9.1.1 _ rfl | (simp only [cb_um]; exact hM9.1.1 _ rfl)) rfl (by omega) ?_
    refine cb_aload_n (pc := 179) O dX11_pulled_179 rfl ?_
    refine cb_getR (pc := 180) O fl_X11_62 rfl rfl dX11_pulled_180 (by first | exact hM.1.1 _ rfl | exact hM9.1.1 _ rfl | (simp only [cb_um]; exact hM9.1.1 _ rfl)) (by first | exact hM.1.2 _ _ _ rfl | exact hM9.1.2 _ _ _ rfl | (simp only [cb_um]; exact hM9.1.2 _ _ _ rfl)) ?_
    refine cb_aload_n (pc := 183) O dX11_pulled_183 rfl ?_
    refine cb_getI (pc := 184) O fl_X11_159 rfl rfl dX11_pulled_184 (by first | exact hM.1.1 _ rfl | exact hM9.1.1 _ rfl | (simp only [cb_um]; exact hM9.1.1 _ rfl)) ?_
    refine cb_topv (nI (A 0 26)) (by
      simp only [cb_um]
      rw [cb_u2n (by omega), cb_u2n (by omega), cb_u2n (by omega)]
      exact q26) ?_
    refine cb_iload_n (pc := 187) O dX11_pulled_187 rfl ?_
    refine cb_iast (pc := 188) O (A 0 26) rfl dX11_pulled_188 (by decide) (by first | exact hM.1.1 _ rfl | exact hM9.1.1 _ rfl | (simp only [cb_um]; exact hM9.1.1 _ rfl)) rfl (by omega) ?_
    refine cb_aload_n (pc := 189) O dX11_pulled_189 rfl ?_
    refine cb_getR (pc := 190) O fl_X11_65 rfl rfl dX11_pulled_190 (by first | exact hM.1.1 _ rfl | exact hM9.1.1 _ rfl | (simp only [cb_um]; exact hM9.1.1 _ rfl)) (by first | exact hM.1.2 _ _ _ rfl | exact hM9.1.2 _ _ _ rfl | (simp only [cb_um]; exact hM9.1.2 _ _ _ rfl)) ?_
    refine cb_aload_n (pc := 193) O dX11_pulled_193 rfl ?_
    refine cb_getI (pc := 194) O fl_X11_159 rfl rfl dX11_pulled_194 (by first | exact hM.1.1 _ rfl | exact hM9.1.1 _ rfl | (simp only [cb_um]; exact hM9.1.1 _ rfl)) ?_
    refine cb_topv (nI (A 0 26)) (by
      simp only [cb_um]
      rw [cb_u2n (by omega), cb_u2n (by omega), cb_u2n (by omega), cb_u2n (by omega)]
      exact q26) ?_
    refine cb_iload (pc := 197) O dX11_pulled_197 rfl ?_
    refine cb_iast (pc := 199) O (A 0 26) rfl dX11_pulled_199 (by decide) (by first | exact hM.1.1 _ rfl | exact hM9.1.1 _ rfl | (simp only [cb_um]; exact hM9.1.1 _ rfl)) rfl (by omega) ?_
    refine cb_aload_n (pc := 200) O dX11_pulled_200 rfl ?_
    refine cb_dup (pc := 201) O dX11_pulled_201 ?_
    refine cb_getI (pc := 202) O fl_X11_159 rfl rfl dX11_pulled_202 (by first | exact hM.1.1 _ rfl | exact hM9.1.1 _ rfl | (simp only [cb_um]; exact hM9.1.1 _ rfl)) ?_
    refine cb_topv (nI (A 0 26)) (by
      simp only [cb_um]
      rw [cb_u2n (by omega), cb_u2n (by omega), cb_u2n (by omega), cb_u2n (by omega), cb_u2n (by omega)]
      exact q26) ?_
    refine cb_iconst (pc := 205) (v := 1) O dX11_pulled_205 (by decide) ?_
    refine cb_iadd (pc := 206) O dX11_pulled_206 ?_
    refine cb_topv (nI (A 0 26 + 1)) (nI_add _ _) ?_
    refine cb_putIc (pc := 207) O fl_X11_159 (Or.inl rfl) rfl rfl dX11_pulled_207 rfl rfl (by first | exact hM.1.1 _ rfl | exact hM9.1.1 _ rfl | (simp only [cb_um]; exact hM9.1.1 _ rfl)) ?_
    refine cb_aload_n (pc := 210) O dX11_pulled_210 rfl ?_
    refine cb_getI (pc := 211) O fl_X11_159 rfl rfl dX11_pulled_211 (by first | exact hM.1.1 _ rfl | exact hM9.1.1 _ rfl | (simp only [cb_um]; exact hM9.1.1 _ rfl)) ?_
    refine cb_topv (nI (A 0 26 + 1)) (by simp only [cb_um]; rw [cb_u2s]) ?_
    refine cb_iconst (pc := 214) (v := 1) O dX11_pulled_214 (by decide) ?_
    refine cb_isub (pc := 215) O dX11_pulled_215 ?_
    refine cb_topv (nI (A 0 26)) (nI_p1 _) ?_
    exact cb_iret (pc := 216) O Rt rfl (Nat.le_of_ble_eq_true rfl) (Nat.le_of_ble_eq_true rfl) dX11_pulled_216 (by
      refine ⟨rfl, ?_, (((((hC9.um (by omega)).um (by omega)).um (by omega)).um (by omega)).um (by omega)).um (by omega)⟩
      exact hM9.e9m (pt_y hv.2))
  have J_51 : ∀ (x5 : Option cb_V), cb_X κ w 0 0 51 [some (.inr (some 1000)), some (.inl t), some (.inl (nI ib)), some (.inl (nI (plc A t))), some (.inl 0), x5, none] [] := by
    intro x5
    refine cb_iload_n (pc := 51) O dX11_pulled_51 rfl ?_
    refine cb_if_ge (pc := 52) O 59 dX11_pulled_52 (by decide) (fun c_52 => ?_) (fun c_52 => ?_)
    · skip
      have hneg : ¬ t = -1 := fun e => absurd c_52 (by rw [e]; decide)
      obtain ⟨T9, hT9, htj, h1, h2⟩ := ca_sN (hv.2.resolve_left hneg)
      refine cb_iload_n (pc := 59) O dX11_pulled_59 rfl ?_
      refine cb_bipush (pc := 60) (v := 100) O dX11_pulled_60 (by decide) ?_
      refine cb_idiv (pc := 62) O dX11_pulled_62 (by decide) ?_
      refine cb_topv (nI (T9 / 100)) (by rw [htj]; exact ci_d100 hT9) ?_
      refine cb_istore (pc := 63) O dX11_pulled_63 (by decide) ?_
      dsimp only [List.set]
      obtain ⟨a, ha⟩ : ∃ a, a = T9 / 100 := ⟨_, rfl⟩
      obtain ⟨b, hb⟩ : ∃ b, b = T9 % 100 := ⟨_, rfl⟩
      rw [← ha, ← hb] at h1
      rw [← hb] at h2
      have L_65 : ∀ (n : Nat) (j : Nat) (T : pT) (w9 : cb_W) (x6 : Option cb_V), a + j ≤ b + 1 → T = pst A z rl a j → cm_I w9 T.1 T.2.1 → w9.2.1 1028 = w.2.1 1028 → cb_C1 w w9 → b + 2 ≤ a + j + n → cb_X κ w9 0 0 65 [some (.inr (some 1000)), some (.inl t), some (.inl (nI ib)), some (.inl (nI (plc A t))), some (.inl (nI T.2.2)), some (.inl (nI (a + j))), x6] [] := by
        intro n
        induction n with
        | zero =>
          intro j T w9 x6 hj ht hM9 h59 hC9 hn
          exact absurd hn (by omega)
        | succ n ih_65 =>
          intro j T w9 x6 hj ht hM9 h59 hC9 hn
          refine cb_iload_n (pc := 65) O dX11_pulled_65 rfl ?_
          refine cb_if_lt (pc := 66) O 146 dX11_pulled_66 (by decide) (fun c_66 => ?_) (fun c_66 => ?_)
          · skip
            exact absurd c_66 (fun h => hneg (hlt h))
            skip
          · skip
            refine cb_iload (pc := 69) O dX11_pulled_69 rfl ?_
            refine cb_iload_n (pc := 71) O dX11_pulled_71 rfl ?_
            refine cb_bipush (pc := 72) (v := 100) O dX11_pulled_72 (by decide) ?_
            refine cb_irem (pc := 74) O dX11_pulled_74 (by decide) ?_
            refine cb_topv (nI b) (by rw [htj, ci_r100 hT9, hb]) ?_
            refine cb_icmp_gt (pc := 75) O 146 dX11_pulled_75 (by decide) (fun c_75 => ?_) (fun c_75 => ?_)
            · skip
              rw [nI_ltI (by omega) (by omega)] at c_75
              have ep : pls A z rl t = T := by
                rw [pls, if_neg hneg, htj, ci_tn hT9, ← ha, ← hb, show b + 1 - a = j by omega, ht]
              have hM8 : cm_I w9 (pls A z rl t).1 (pls A z rl t).2.1 := by rw [ep]; exact hM9
              rw [← ep]
              exact J_146 _ _ _ hM8 hC9
            · skip
              rw [nI_ltI (by omega) (by omega)] at c_75
              have hpi := pst_I hI h17 hrl (z := z) (a := a) j (by omega)
              rw [← ht] at hpi
              have hIt := hpi.2.2.1
              have e20 : T.1 0 20 = A 0 20 := hpi.1 0 20 (by omega)
              have hs : a + j < T.1 0 20 := by omega
              have p20 : w9.2.1 1020 (a + j) = nI (T.1 20 (a + j)) := cm_at hM9 20 _ (by simp [ca_R]; omega) (by omega)
              have l1 := hIt.2.2.2.2.1.2.2.2.2 (a + j)
              have hps : pst A z rl a (j + 1) = ps rl T (a + j) := by rw [ht]; rfl
              refine cb_aload_n (pc := 78) O dX11_pulled_78 rfl ?_
              refine cb_getR (pc := 79) O fl_X11_50 rfl rfl dX11_pulled_79 (by first | exact hM.1.1 _ rfl | exact hM9.1.1 _ rfl | (simp only [cb_um]; exact hM9.1.1 _ rfl)) (by first | exact hM.1.2 _ _ _ rfl | exact hM9.1.2 _ _ _ rfl | (simp only [cb_um]; exact hM9.1.2 _ _ _ rfl)) ?_
              refine cb_iload (pc := 82) O dX11_pulled_82 rfl ?_
              refine cb_zald (pc := 84) O (a + j) rfl dX11_pulled_84 (by decide) (by first | exact hM.1.1 _ rfl | exact hM9.1.1 _ rfl | (simp only [cb_um]; exact hM9.1.1 _ rfl)) rfl (by omega) ?_
              refine cb_topv _ p20 ?_
              refine cb_if_ne (pc := 85) O 140 dX11_pulled_85 (by decide) (fun c_85 => ?_) (fun c_85 => ?_)
              · skip
                have hkeep : T = pst A z rl a (j + 1) := by
                  rw [hps, ps, if_neg (fun e => by rw [e] at c_85; exact c_85 rfl)]
                refine cb_iinc (pc := 140) O (nI (a + (j + 1))) dX11_pulled_140 rfl (by decide) (by rw [ci_inc]; rfl) ?_
                dsimp only [List.set]
                refine cb_goto (pc := 143) O 65 dX11_pulled_143 (by decide) ?_
                first
                | exact ih_65 (j + 1) T w9 _ (by omega) hkeep hM9 h59 hC9 (by omega)
                | exact ih_65 (j + 1) _ _ _ (by omega) hnew hMn h5n hCn (by omega)
              · skip
                have h0 : T.1 20 (a + j) = 0 := by
                  rcases (show T.1 20 (a + j) = 0 ∨ T.1 20 (a + j) = 1 by omega) with e | e
                  · exact e
                  · rw [e] at c_85; exact absurd c_85 (by decide)
                refine cb_aload_n (pc := 88) O dX11_pulled_88 rfl ?_
                refine cb_cVi (pc := 89) O (c_X11_throwsOff w9 T.1 T.2.1 hIt hM9) my_X11_throwsOff mi_X11_throwsOff mx_X11_throwsOff ml_X11_162 dX11_pulled_89 rfl ct_11 rfl rfl rfl ⟨(Nat.le_of_ble_eq_true rfl), (Nat.le_of_ble_eq_true rfl)⟩ (Nat.le_of_ble_eq_true rfl) (cb_kpT _ _) ⟨(Nat.le_of_ble_eq_true rfl), (Nat.le_of_ble_eq_true rfl)⟩ (fun _ _ => rfl) (hM9.1.1 _ rfl) (fun x_89 w_89 hp_89 => ?_)
                obtain ⟨rfl, rfl⟩ := hp_89
                have hM2 : cm_I (cb_um w9 1000 7 (pz T.2.1)) T.1 (pz T.2.1) := hM9.zz
                refine cb_istore (pc := 92) O dX11_pulled_92 (by decide) ?_
                dsimp only [List.set]
                refine cb_aload_n (pc := 94) O dX11_pulled_94 rfl ?_
                refine cb_getR (pc := 95) O fl_X11_50 rfl rfl dX11_pulled_95 (by first | exact hM.1.1 _ rfl | exact hM9.1.1 _ rfl | (simp only [cb_um]; exact hM9.1.1 _ rfl)) (by first | exact hM.1.2 _ _ _ rfl | exact hM9.1.2 _ _ _ rfl | (simp only [cb_um]; exact hM9.1.2 _ _ _ rfl)) ?_
                refine cb_iload (pc := 98) O dX11_pulled_98 rfl ?_
                refine cb_iload (pc := 100) O dX11_pulled_100 rfl ?_
                refine cb_ifp_ne (pc := 102) O 114 dX11_pulled_102 (by decide) (fun c_102 => ?_) (fun c_102 => ?_)
                · skip
                  refine cb_iconst (pc := 114) (v := 1) O dX11_pulled_114 (by decide) ?_
                  refine cb_goto (pc := 115) O 119 dX11_pulled_115 (by decide) ?_
                  refine cb_zast (pc := 119) O (a + j) rfl dX11_pulled_119 (by decide) (by first | exact hM3.1.1 _ rfl | exact hM2.1.1 _ rfl) rfl (by omega) rfl ?_
                  first
                  | (have hMn := hM2.u20 (a + j) (x := 1) (a := 1) rfl
                     obtain ⟨q9, hv9⟩ : ∃ q : Nat, q = 1 := ⟨_, rfl⟩
                     have hnew : (cb_u2 T.1 20 (a + j) 1, pz T.2.1, T.2.2 + q9) = pst A z rl a (j + 1) := by
                       rw [hv9, hps, ps, if_pos h0, if_pos c_102]
                     have h5n : (cb_um (cb_um w9 1000 7 (pz T.2.1)) 1020 (a + j) 1).2.1 1028 = w.2.1 1028 := by
                       rw [← h59]
                       funext i
                       simp only [cb_um]
                       rw [cb_u2n (by omega), cb_u2n (by omega)]
                     have hCn : cb_C1 w (cb_um (cb_um w9 1000 7 (pz T.2.1)) 1020 (a + j) 1) := (hC9.um (by omega)).um (by omega))
                  | (have hMn := hM3.u20 (a + j) (x := 1) (a := sp T.1 rl (a + j) 64) (by rw [hs9]; rfl)
                     obtain ⟨q9, hq9⟩ : ∃ q : Nat, q = sp T.1 rl (a + j) 64 := ⟨_, rfl⟩
                     have hv9 : q9 = 1 := hq9.trans hs9
                     have hnew : (cb_u2 (ly T.1 rl (a + j) 64) 20 (a + j) (sp T.1 rl (a + j) 64), pz T.2.1, T.2.2 + q9) = pst A z rl a (j + 1) := by
                       rw [hq9, hps, ps, if_pos h0, if_neg c_102]
                     have h5n : (cb_um w_108 1020 (a + j) 1).2.1 1028 = w.2.1 1028 := by
                       rw [← h5m]
                       funext i
                       simp only [cb_um]
                       rw [cb_u2n (by omega)]
                     have hCn : cb_C1 w (cb_um w_108 1020 (a + j) 1) := hC3.um (by omega))
                  | (have hMn := hM3.u20 (a + j) (x := 0) (a := sp T.1 rl (a + j) 64) (by rw [hs9]; rfl)
                     obtain ⟨q9, hq9⟩ : ∃ q : Nat, q = sp T.1 rl (a + j) 64 := ⟨_, rfl⟩
                     have hv9 : q9 = 0 := hq9.trans hs9
                     have hnew : (cb_u2 (ly T.1 rl (a + j) 64) 20 (a + j) (sp T.1 rl (a + j) 64), pz T.2.1, T.2.2 + q9) = pst A z rl a (j + 1) := by
                       rw [hq9, hps, ps, if_pos h0, if_neg c_102]
                     have h5n : (cb_um w_108 1020 (a + j) 0).2.1 1028 = w.2.1 1028 := by
                       rw [← h5m]
                       funext i
                       simp only [cb_um]
                       rw [cb_u2n (by omega)]
                     have hCn : cb_C1 w (cb_um w_108 1020 (a + j) 0) := hC3.um (by omega))
                  refine cb_iload (pc := 120) O dX11_pulled_120 rfl ?_
                  refine cb_aload_n (pc := 122) O dX11_pulled_122 rfl ?_
                  refine cb_getR (pc := 123) O fl_X11_50 rfl rfl dX11_pulled_123 (hMn.1.1 _ rfl) (hMn.1.2 _ _ _ rfl) ?_
                  refine cb_iload (pc := 126) O dX11_pulled_126 rfl ?_
                  refine cb_zald (pc := 128) O (a + j) rfl dX11_pulled_128 (by decide) (hMn.1.1 _ rfl) rfl (by omega) ?_
                  refine cb_topv _ (by simp only [cb_um]; rw [cb_u2s]) ?_
                  refine cb_if_eq (pc := 129) O 136 dX11_pulled_129 (by decide) (fun c_129 => ?_) (fun c_129 => ?_)
                  · skip
                    refine cb_iconst (pc := 136) (v := 0) O dX11_pulled_136 (by decide) ?_
                    refine cb_iadd (pc := 137) O dX11_pulled_137 ?_
                    refine cb_topv (nI (T.2.2 + q9)) (by rw [hv9, ← nI_add]; first | rfl | (exfalso; exact absurd c_129 (by decide)) | (exfalso; exact c_129 rfl)) ?_
                    refine cb_istore (pc := 138) O dX11_pulled_138 (by decide) ?_
                    dsimp only [List.set]
                    refine cb_iinc (pc := 140) O (nI (a + (j + 1))) dX11_pulled_140 rfl (by decide) (by rw [ci_inc]; rfl) ?_
                    dsimp only [List.set]
                    refine cb_goto (pc := 143) O 65 dX11_pulled_143 (by decide) ?_
                    first
                    | exact ih_65 (j + 1) T w9 _ (by omega) hkeep hM9 h59 hC9 (by omega)
                    | exact ih_65 (j + 1) _ _ _ (by omega) hnew hMn h5n hCn (by omega)
                  · skip
                    refine cb_iconst (pc := 132) (v := 1) O dX11_pulled_132 (by decide) ?_
                    refine cb_goto (pc := 133) O 137 dX11_pulled_133 (by decide) ?_
                    refine cb_iadd (pc := 137) O dX11_pulled_137 ?_
                    refine cb_topv (nI (T.2.2 + q9)) (by rw [hv9, ← nI_add]; first | rfl | (exfalso; exact absurd c_129 (by decide)) | (exfalso; exact c_129 rfl)) ?_
                    refine cb_istore (pc := 138) O dX11_pulled_138 (by decide) ?_
                    dsimp only [List.set]
                    refine cb_iinc (pc := 140) O (nI (a + (j + 1))) dX11_pulled_140 rfl (by decide) (by rw [ci_inc]; rfl) ?_
                    dsimp only [List.set]
                    refine cb_goto (pc := 143) O 65 dX11_pulled_143 (by decide) ?_
                    first
                    | exact ih_65 (j + 1) T w9 _ (by omega) hkeep hM9 h59 hC9 (by omega)
                    | exact ih_65 (j + 1) _ _ _ (by omega) hnew hMn h5n hCn (by omega)
                · skip
                  refine cb_aload_n (pc := 105) O dX11_pulled_105 rfl ?_
                  refine cb_iload (pc := 106) O dX11_pulled_106 rfl ?_
                  refine cb_cVi (pc := 108) O (c_X11_lay (cb_um w9 1000 7 (pz T.2.1)) T.1 (pz T.2.1) hIt hM2 (a + j) hs (fun k hk => by rw [(hpi.2.1 (a + j) (by omega)).1 17 k (by omega) (by omega)]; exact h17 _) rl hrl (fun c hc => by show cb_u2 w9.2.1 1000 7 (pz T.2.1) 1028 c = _; rw [cb_u2n (by omega), h59]; exact hroll c hc)) my_X11_lay mi_X11_lay mx_X11_lay ml_X11_166 dX11_pulled_108 rfl ct_11 rfl rfl rfl ⟨(Nat.le_of_ble_eq_true rfl), (Nat.le_of_ble_eq_true rfl)⟩ (Nat.le_of_ble_eq_true rfl) rfl ⟨(Nat.le_of_ble_eq_true rfl), (Nat.le_of_ble_eq_true rfl)⟩ (fun _ _ => rfl) (hM2.1.1 _ rfl) (fun x_108 w_108 hp_108 => ?_)
                  obtain ⟨rfl, hM3, h5l, hC3l⟩ := hp_108
                  have h5m : w_108.2.1 1028 = w.2.1 1028 := by
                    rw [h5l, ← h59]
                    funext i
                    show cb_u2 w9.2.1 1000 7 (pz T.2.1) 1028 i = _
                    rw [cb_u2n (by omega)]
                  have hC3 : cb_C1 w w_108 := (hC9.um (by omega)).trans hC3l
                  have hs1 := sp_1 T.1 rl (a + j) 64
                  refine cb_if_eq (pc := 111) O 118 dX11_pulled_111 (by decide) (fun c_111 => ?_) (fun c_111 => ?_)
                  · skip
                    have hs9 : sp T.1 rl (a + j) 64 = 0 := by
                      rcases (show sp T.1 rl (a + j) 64 = 0 ∨ sp T.1 rl (a + j) 64 = 1 by omega) with e | e
                      · exact e
                      · rw [e] at c_111; exact absurd c_111 (by decide)
                    refine cb_iconst (pc := 118) (v := 0) O dX11_pulled_118 (by decide) ?_
                    refine cb_zast (pc := 119) O (a + j) rfl dX11_pulled_119 (by decide) (by first | exact hM3.1.1 _ rfl | exact hM2.1.1 _ rfl) rfl (by omega) rfl ?_
                    first
                    | (have hMn := hM2.u20 (a + j) (x := 1) (a := 1) rfl
                       obtain ⟨q9, hv9⟩ : ∃ q : Nat, q = 1 := ⟨_, rfl⟩
                       have hnew : (cb_u2 T.1 20 (a + j) 1, pz T.2.1, T.2.2 + q9) = pst A z rl a (j + 1) := by
                         rw [hv9, hps, ps, if_pos h0, if_pos c_102]
                       have h5n : (cb_um (cb_um w9 1000 7 (pz T.2.1)) 1020 (a + j) 1).2.1 1028 = w.2.1 1028 := by
                         rw [← h59]
                         funext i
                         simp only [cb_um]
                         rw [cb_u2n (by omega), cb_u2n (by omega)]
                       have hCn : cb_C1 w (cb_um (cb_um w9 1000 7 (pz T.2.1)) 1020 (a + j) 1) := (hC9.um (by omega)).um (by omega))
                    | (have hMn := hM3.u20 (a + j) (x := 1) (a := sp T.1 rl (a + j) 64) (by rw [hs9]; rfl)
                       obtain ⟨q9, hq9⟩ : ∃ q : Nat, q = sp T.1 rl (a + j) 64 := ⟨_, rfl⟩
                       have hv9 : q9 = 1 := hq9.trans hs9
                       have hnew : (cb_u2 (ly T.1 rl (a + j) 64) 20 (a + j) (sp T.1 rl (a + j) 64), pz T.2.1, T.2.2 + q9) = pst A z rl a (j + 1) := by
                         rw [hq9, hps, ps, if_pos h0, if_neg c_102]
                       have h5n : (cb_um w_108 1020 (a + j) 1).2.1 1028 = w.2.1 1028 := by
                         rw [← h5m]
                         funext i
                         simp only [cb_um]
                         rw [cb_u2n (by omega)]
                       have hCn : cb_C1 w (cb_um w_108 1020 (a + j) 1) := hC3.um (by omega))
                    | (have hMn := hM3.u20 (a + j) (x := 0) (a := sp T.1 rl (a + j) 64) (by rw [hs9]; rfl)
                       obtain ⟨q9, hq9⟩ : ∃ q : Nat, q = sp T.1 rl (a + j) 64 := ⟨_, rfl⟩
                       have hv9 : q9 = 0 := hq9.trans hs9
                       have hnew : (cb_u2 (ly T.1 rl (a + j) 64) 20 (a + j) (sp T.1 rl (a + j) 64), pz T.2.1, T.2.2 + q9) = pst A z rl a (j + 1) := by
                         rw [hq9, hps, ps, if_pos h0, if_neg c_102]
                       have h5n : (cb_um w_108 1020 (a + j) 0).2.1 1028 = w.2.1 1028 := by
                         rw [← h5m]
                         funext i
                         simp only [cb_um]
                         rw [cb_u2n (by omega)]
                       have hCn : cb_C1 w (cb_um w_108 1020 (a + j) 0) := hC3.um (by omega))
                    refine cb_iload (pc := 120) O dX11_pulled_120 rfl ?_
                    refine cb_aload_n (pc := 122) O dX11_pulled_122 rfl ?_
                    refine cb_getR (pc := 123) O fl_X11_50 rfl rfl dX11_pulled_123 (hMn.1.1 _ rfl) (hMn.1.2 _ _ _ rfl) ?_
                    refine cb_iload (pc := 126) O dX11_pulled_126 rfl ?_
                    refine cb_zald (pc := 128) O (a + j) rfl dX11_pulled_128 (by decide) (hMn.1.1 _ rfl) rfl (by omega) ?_
                    refine cb_topv _ (by simp only [cb_um]; rw [cb_u2s]) ?_
                    refine cb_if_eq (pc := 129) O 136 dX11_pulled_129 (by decide) (fun c_129 => ?_) (fun c_129 => ?_)
                    · skip
                      refine cb_iconst (pc := 136) (v := 0) O dX11_pulled_136 (by decide) ?_
                      refine cb_iadd (pc := 137) O dX11_pulled_137 ?_
                      refine cb_topv (nI (T.2.2 + q9)) (by rw [hv9, ← nI_add]; first | rfl | (exfalso; exact absurd c_129 (by decide)) | (exfalso; exact c_129 rfl)) ?_
                      refine cb_istore (pc := 138) O dX11_pulled_138 (by decide) ?_
                      dsimp only [List.set]
                      refine cb_iinc (pc := 140) O (nI (a + (j + 1))) dX11_pulled_140 rfl (by decide) (by rw [ci_inc]; rfl) ?_
                      dsimp only [List.set]
                      refine cb_goto (pc := 143) O 65 dX11_pulled_143 (by decide) ?_
                      first
                      | exact ih_65 (j + 1) T w9 _ (by omega) hkeep hM9 h59 hC9 (by omega)
                      | exact ih_65 (j + 1) _ _ _ (by omega) hnew hMn h5n hCn (by omega)
                    · skip
                      refine cb_iconst (pc := 132) (v := 1) O dX11_pulled_132 (by decide) ?_
                      refine cb_goto (pc := 133) O 137 dX11_pulled_133 (by decide) ?_
                      refine cb_iadd (pc := 137) O dX11_pulled_137 ?_
                      refine cb_topv (nI (T.2.2 + q9)) (by rw [hv9, ← nI_add]; first | rfl | (exfalso; exact absurd c_129 (by decide)) | (exfalso; exact c_129 rfl)) ?_
                      refine cb_istore (pc := 138) O dX11_pulled_138 (by decide) ?_
                      dsimp only [List.set]
                      refine cb_iinc (pc := 140) O (nI (a + (j + 1))) dX11_pulled_140 rfl (by decide) (by rw [ci_inc]; rfl) ?_
                      dsimp only [List.set]
                      refine cb_goto (pc := 143) O 65 dX11_pulled_143 (by decide) ?_
                      first
                      | exact ih_65 (j + 1) T w9 _ (by omega) hkeep hM9 h59 hC9 (by omega)
                      | exact ih_65 (j + 1) _ _ _ (by omega) hnew hMn h5n hCn (by omega)
                  · skip
                    have hs9 : sp T.1 rl (a + j) 64 = 1 := by
                      rcases (show sp T.1 rl (a + j) 64 = 0 ∨ sp T.1 rl (a + j) 64 = 1 by omega) with e | e
                      · rw [e] at c_111; exact absurd rfl c_111
                      · exact e
                    refine cb_iconst (pc := 114) (v := 1) O dX11_pulled_114 (by decide) ?_
                    refine cb_goto (pc := 115) O 119 dX11_pulled_115 (by decide) ?_
                    refine cb_zast (pc := 119) O (a + j) rfl dX11_pulled_119 (by decide) (by first | exact hM3.1.1 _ rfl | exact hM2.1.1 _ rfl) rfl (by omega) rfl ?_
                    first
                    | (have hMn := hM2.u20 (a + j) (x := 1) (a := 1) rfl
                       obtain ⟨q9, hv9⟩ : ∃ q : Nat, q = 1 := ⟨_, rfl⟩
                       have hnew : (cb_u2 T.1 20 (a + j) 1, pz T.2.1, T.2.2 + q9) = pst A z rl a (j + 1) := by
                         rw [hv9, hps, ps, if_pos h0, if_pos c_102]
                       have h5n : (cb_um (cb_um w9 1000 7 (pz T.2.1)) 1020 (a + j) 1).2.1 1028 = w.2.1 1028 := by
                         rw [← h59]
                         funext i
                         simp only [cb_um]
                         rw [cb_u2n (by omega), cb_u2n (by omega)]
                       have hCn : cb_C1 w (cb_um (cb_um w9 1000 7 (pz T.2.1)) 1020 (a + j) 1) := (hC9.um (by omega)).um (by omega))
                    | (have hMn := hM3.u20 (a + j) (x := 1) (a := sp T.1 rl (a + j) 64) (by rw [hs9]; rfl)
                       obtain ⟨q9, hq9⟩ : ∃ q : Nat, q = sp T.1 rl (a + j) 64 := ⟨_, rfl⟩
                       have hv9 : q9 = 1 := hq9.trans hs9
                       have hnew : (cb_u2 (ly T.1 rl (a + j) 64) 20 (a + j) (sp T.1 rl (a + j) 64), pz T.2.1, T.2.2 + q9) = pst A z rl a (j + 1) := by
                         rw [hq9, hps, ps, if_pos h0, if_neg c_102]
                       have h5n : (cb_um w_108 1020 (a + j) 1).2.1 1028 = w.2.1 1028 := by
                         rw [← h5m]
                         funext i
                         simp only [cb_um]
                         rw [cb_u2n (by omega)]
                       have hCn : cb_C1 w (cb_um w_108 1020 (a + j) 1) := hC3.um (by omega))
                    | (have hMn := hM3.u20 (a + j) (x := 0) (a := sp T.1 rl (a + j) 64) (by rw [hs9]; rfl)
                       obtain ⟨q9, hq9⟩ : ∃ q : Nat, q = sp T.1 rl (a + j) 64 := ⟨_, rfl⟩
                       have hv9 : q9 = 0 := hq9.trans hs9
                       have hnew : (cb_u2 (ly T.1 rl (a + j) 64) 20 (a + j) (sp T.1 rl (a + j) 64), pz T.2.1, T.2.2 + q9) = pst A z rl a (j + 1) := by
                         rw [hq9, hps, ps, if_pos h0, if_neg c_102]
                       have h5n : (cb_um w_108 1020 (a + j) 0).2.1 1028 = w.2.1 1028 := by
                         rw [← h5m]
                         funext i
                         simp only [cb_um]
                         rw [cb_u2n (by omega)]
                       have hCn : cb_C1 w (cb_um w_108 1020 (a + j) 0) := hC3.um (by omega))
                    refine cb_iload (pc := 120) O dX11_pulled_120 rfl ?_
                    refine cb_aload_n (pc := 122) O dX11_pulled_122 rfl ?_
                    refine cb_getR (pc := 123) O fl_X11_50 rfl rfl dX11_pulled_123 (hMn.1.1 _ rfl) (hMn.1.2 _ _ _ rfl) ?_
                    refine cb_iload (pc := 126) O dX11_pulled_126 rfl ?_
                    refine cb_zald (pc := 128) O (a + j) rfl dX11_pulled_128 (by decide) (hMn.1.1 _ rfl) rfl (by omega) ?_
                    refine cb_topv _ (by simp only [cb_um]; rw [cb_u2s]) ?_
                    refine cb_if_eq (pc := 129) O 136 dX11_pulled_129 (by decide) (fun c_129 => ?_) (fun c_129 => ?_)
                    · skip
                      refine cb_iconst (pc := 136) (v := 0) O dX11_pulled_136 (by decide) ?_
                      refine cb_iadd (pc := 137) O dX11_pulled_137 ?_
                      refine cb_topv (nI (T.2.2 + q9)) (by rw [hv9, ← nI_add]; first | rfl | (exfalso; exact absurd c_129 (by decide)) | (exfalso; exact c_129 rfl)) ?_
                      refine cb_istore (pc := 138) O dX11_pulled_138 (by decide) ?_
                      dsimp only [List.set]
                      refine cb_iinc (pc := 140) O (nI (a + (j + 1))) dX11_pulled_140 rfl (by decide) (by rw [ci_inc]; rfl) ?_
                      dsimp only [List.set]
                      refine cb_goto (pc := 143) O 65 dX11_pulled_143 (by decide) ?_
                      first
                      | exact ih_65 (j + 1) T w9 _ (by omega) hkeep hM9 h59 hC9 (by omega)
                      | exact ih_65 (j + 1) _ _ _ (by omega) hnew hMn h5n hCn (by omega)
                    · skip
                      refine cb_iconst (pc := 132) (v := 1) O dX11_pulled_132 (by decide) ?_
                      refine cb_goto (pc := 133) O 137 dX11_pulled_133 (by decide) ?_
                      refine cb_iadd (pc := 137) O dX11_pulled_137 ?_
                      refine cb_topv (nI (T.2.2 + q9)) (by rw [hv9, ← nI_add]; first | rfl | (exfalso; exact absurd c_129 (by decide)) | (exfalso; exact c_129 rfl)) ?_
                      refine cb_istore (pc := 138) O dX11_pulled_138 (by decide) ?_
                      dsimp only [List.set]
                      refine cb_iinc (pc := 140) O (nI (a + (j + 1))) dX11_pulled_140 rfl (by decide) (by rw [ci_inc]; rfl) ?_
                      dsimp only [List.set]
                      refine cb_goto (pc := 143) O 65 dX11_pulled_143 (by decide) ?_
                      first
                      | exact ih_65 (j + 1) T w9 _ (by omega) hkeep hM9 h59 hC9 (by omega)
                      | exact ih_65 (j + 1) _ _ _ (by omega) hnew hMn h5n hCn (by omega)
      rw [← ha]
      exact L_65 (b + 2) 0 (A, z, 0) w none (by omega) rfl hM rfl cb_C1.rfl' (by omega)
    · skip
      have e1 : t = -1 := hlt (by rw [ci_lt0]; rw [ci_0le] at c_52; omega)
      refine cb_iconst (pc := 55) (v := 1) O dX11_pulled_55 (by decide) ?_
      refine cb_goto (pc := 56) O 63 dX11_pulled_56 (by decide) ?_
      refine cb_istore (pc := 63) O dX11_pulled_63 (by decide) ?_
      dsimp only [List.set]
      refine cb_iload_n (pc := 65) O dX11_pulled_65 rfl ?_
      refine cb_if_lt (pc := 66) O 146 dX11_pulled_66 (by decide) (fun _ => ?_) (fun c => absurd (by rw [e1]; decide) c)
      have ep : pls A z rl t = (A, z, 0) := by rw [pls, if_pos e1]
      have hj := J_146 w (some (.inl 1)) none (by rw [ep]; exact hM) cb_C1.rfl'
      rw [ep] at hj
      exact hj
  refine cb_iconst (pc := 0) (v := 0) O dX11_pulled_0 (by decide) ?_
  refine cb_istore_n (pc := 1) O dX11_pulled_1 (by decide) ?_
  dsimp only [List.set]
  refine cb_iconst (pc := 2) (v := 0) O dX11_pulled_2 (by decide) ?_
  refine cb_istore (pc := 3) O dX11_pulled_3 (by decide) ?_
  dsimp only [List.set]
  refine cb_iconst (pc := 5) (v := 0) O dX11_pulled_5 (by decide) ?_
  refine cb_istore (pc := 6) O dX11_pulled_6 (by decide) ?_
  dsimp only [List.set]
  have L_8 : ∀ (n : Nat) (k : Nat), k ≤ 64 → (t = -1 → k = 0) → 65 ≤ k + n → cb_X κ w 0 0 8 [some (.inr (some 1000)), some (.inl t), some (.inl (nI ib)), some (.inl (nI (fb_ct (ca_pt A) k))), some (.inl 0), some (.inl (nI k)), none] [] := by
    intro n
    induction n with
    | zero =>
      intro k hk hk0 hn
      exact absurd hn (by omega)
    | succ n ih_8 =>
      intro k hk hk0 hn
      refine cb_iload (pc := 8) O dX11_pulled_8 rfl ?_
      refine cb_bipush (pc := 10) (v := 64) O dX11_pulled_10 (by decide) ?_
      refine cb_icmp_ge (pc := 12) O 51 dX11_pulled_12 (by decide) (fun c_12 => ?_) (fun c_12 => ?_)
      · skip
        have e : k = 64 := by
          have := ci_ge (b := 64) c_12 (by omega) (by decide)
          omega
        subst e
        have hplc : nI (fb_ct (ca_pt A) 64) = nI (plc A t) := by
          rw [plc, if_neg (fun e => by have := hk0 e; omega)]
        rw [hplc]
        exact J_51 _
      · skip
        have hlt64 : k < 64 := ci_nge (b := 64) c_12 (by omega) (by decide)
        refine cb_iload_n (pc := 15) O dX11_pulled_15 rfl ?_
        refine cb_if_lt (pc := 16) O 51 dX11_pulled_16 (by decide) (fun c_16 => ?_) (fun c_16 => ?_)
        · skip
          have e1 := hlt c_16
          have e0 := hk0 e1
          subst e0
          have hplc : nI (fb_ct (ca_pt A) 0) = nI (plc A t) := by
            rw [plc, if_pos e1]
            rfl
          rw [hplc]
          exact J_51 _
        · skip
          refine cb_iload_n (pc := 19) O dX11_pulled_19 rfl ?_
          refine cb_aload_n (pc := 20) O dX11_pulled_20 rfl ?_
          refine cb_iload (pc := 21) O dX11_pulled_21 rfl ?_
          refine cb_cVp (pc := 23) O (c_X11_isCell w A z hI hM (nI k)) my_X11_isCell mi_X11_isCell mx_X11_isCell ml_X11_142 dX11_pulled_23 rfl ct_11 rfl rfl rfl ⟨(Nat.le_of_ble_eq_true rfl), (Nat.le_of_ble_eq_true rfl)⟩ (Nat.le_of_ble_eq_true rfl) rfl ⟨(Nat.le_of_ble_eq_true rfl), (Nat.le_of_ble_eq_true rfl)⟩ (by first | exact hM.1.1 _ rfl | exact hM9.1.1 _ rfl | (simp only [cb_um]; exact hM9.1.1 _ rfl)) ?_
          refine cb_ifp_eq (pc := 26) O 42 dX11_pulled_26 (by decide) (fun c_26 => ?_) (fun c_26 => ?_)
          · skip
            refine cb_iconst (pc := 42) (v := 0) O dX11_pulled_42 (by decide) ?_
            refine cb_iadd (pc := 43) O dX11_pulled_43 ?_
            refine cb_topv (nI (fb_ct (ca_pt A) (k + 1))) (by
              rw [ca_ptS, ← nI_add]
              congr 1
              first
              | (rw [if_pos ⟨(ca_cn (by omega)).mp c_26, c_35⟩]; rfl)
              | (rw [if_neg (fun h => c_26 ((ca_cn (by omega)).mpr h.1))]; rfl)
              | (rw [if_neg (fun h => c_35 h.2)]; rfl)) ?_
            refine cb_istore_n (pc := 44) O dX11_pulled_44 (by decide) ?_
            dsimp only [List.set]
            refine cb_iinc (pc := 45) O (nI (k + 1)) dX11_pulled_45 rfl (by decide) (ci_inc k) ?_
            dsimp only [List.set]
            refine cb_goto (pc := 48) O 8 dX11_pulled_48 (by decide) ?_
            exact ih_8 (k + 1) (by omega) (fun e => absurd (by rw [e]; decide) c_16) (by omega)
          · skip
            refine cb_aload_n (pc := 29) O dX11_pulled_29 rfl ?_
            refine cb_iload (pc := 30) O dX11_pulled_30 rfl ?_
            refine cb_cVp (pc := 32) O (c_X11_prints w A z hI hM k hlt64) my_X11_prints mi_X11_prints mx_X11_prints ml_X11_145 dX11_pulled_32 rfl ct_11 rfl rfl rfl ⟨(Nat.le_of_ble_eq_true rfl), (Nat.le_of_ble_eq_true rfl)⟩ (Nat.le_of_ble_eq_true rfl) rfl ⟨(Nat.le_of_ble_eq_true rfl), (Nat.le_of_ble_eq_true rfl)⟩ (by first | exact hM.1.1 _ rfl | exact hM9.1.1 _ rfl | (simp only [cb_um]; exact hM9.1.1 _ rfl)) ?_
            refine cb_ifp_eq (pc := 35) O 42 dX11_pulled_35 (by decide) (fun c_35 => ?_) (fun c_35 => ?_)
            · skip
              refine cb_iconst (pc := 42) (v := 0) O dX11_pulled_42 (by decide) ?_
              refine cb_iadd (pc := 43) O dX11_pulled_43 ?_
              refine cb_topv (nI (fb_ct (ca_pt A) (k + 1))) (by
                rw [ca_ptS, ← nI_add]
                congr 1
                first
                | (rw [if_pos ⟨(ca_cn (by omega)).mp c_26, c_35⟩]; rfl)
                | (rw [if_neg (fun h => c_26 ((ca_cn (by omega)).mpr h.1))]; rfl)
                | (rw [if_neg (fun h => c_35 h.2)]; rfl)) ?_
              refine cb_istore_n (pc := 44) O dX11_pulled_44 (by decide) ?_
              dsimp only [List.set]
              refine cb_iinc (pc := 45) O (nI (k + 1)) dX11_pulled_45 rfl (by decide) (ci_inc k) ?_
              dsimp only [List.set]
              refine cb_goto (pc := 48) O 8 dX11_pulled_48 (by decide) ?_
              exact ih_8 (k + 1) (by omega) (fun e => absurd (by rw [e]; decide) c_16) (by omega)
            · skip
              refine cb_iconst (pc := 38) (v := 1) O dX11_pulled_38 (by decide) ?_
              refine cb_goto (pc := 39) O 43 dX11_pulled_39 (by decide) ?_
              refine cb_iadd (pc := 43) O dX11_pulled_43 ?_
              refine cb_topv (nI (fb_ct (ca_pt A) (k + 1))) (by
                rw [ca_ptS, ← nI_add]
                congr 1
                first
                | (rw [if_pos ⟨(ca_cn (by omega)).mp c_26, c_35⟩]; rfl)
                | (rw [if_neg (fun h => c_26 ((ca_cn (by omega)).mpr h.1))]; rfl)
                | (rw [if_neg (fun h => c_35 h.2)]; rfl)) ?_
              refine cb_istore_n (pc := 44) O dX11_pulled_44 (by decide) ?_
              dsimp only [List.set]
              refine cb_iinc (pc := 45) O (nI (k + 1)) dX11_pulled_45 rfl (by decide) (ci_inc k) ?_
              dsimp only [List.set]
              refine cb_goto (pc := 48) O 8 dX11_pulled_48 (by decide) ?_
              exact ih_8 (k + 1) (by omega) (fun e => absurd (by rw [e]; decide) c_16) (by omega)
  exact L_8 65 0 (by omega) (fun _ => rfl) (by omega)

theorem cm_I.in {w w' : cb_W} {A : ca_A} {z : Int32} (h : cm_I w A z) (h1 : w'.1 = w.1) (h2 : w'.2.2 = w.2.2) (h3 : ∀ r k, r ≠ 1028 → w'.2.1 r k = w.2.1 r k) : cm_I w' A z ∧ cb_C1 w w' := by
  obtain ⟨⟨a1, a2⟩, a3, a4⟩ := h
  refine ⟨⟨⟨by rw [h1]; exact a1, by rw [h2]; exact a2⟩, fun k i hk => ?_, ?_⟩, h1, h2, fun r hr => funext fun k => h3 r k (by omega)⟩
  · rw [h3 _ _ (fun e => by
      have e2 : k = 28 := by omega
      rw [e2] at hk
      exact absurd hk (by simp [ca_R]))]
    exact a3 k i hk
  · rw [h3 _ _ (by decide)]; exact a4
theorem m_pull (w : cb_W) (A : ca_A) (z : Int32) (hI : ca_I A) (hM : cm_I w A z) (t i : Int32) (h17 : ∀ i, A 17 i ≤ 200) : cb_Con yX11_pull cX11_pull 4 (some .int) 3 74 0 0 (fun _ => true) [.inr (some 1000), .inl t, .inl i] w (cb_pi (fun x w' => x = sr_pull A t i ∧ cm_I w' (sA_pull A z t i) (sz_pull A z t i) ∧ cb_C1 w w')) := by
  have l := hI.1
  refine cb_con (by decide) (Nat.le_of_ble_eq_true rfl) (fun κ O Rt hnm => ?_)
  show cb_X κ w 0 0 0 [some (.inr (some 1000)), some (.inl t), some (.inl i), none] []
  have J_20 : ∀ (hz : 0 < A 0 0) (ht : t = -1 ∨ ca_s A t), cb_X κ w 0 0 20 [some (.inr (some 1000)), some (.inl t), some (.inl i), none] [] := by
    intro hz ht
    refine cb_iload_n (pc := 20) O dX11_pull_20 rfl ?_
    refine cb_cSp (pc := 21) O (c_X11_isInk _ _) my_X11_isInk mt_X11_isInk ml_X11_103 dX11_pull_21 rfl rfl ⟨(Nat.le_of_ble_eq_true rfl), (Nat.le_of_ble_eq_true rfl)⟩ (Nat.le_of_ble_eq_true rfl) rfl ⟨(Nat.le_of_ble_eq_true rfl), (Nat.le_of_ble_eq_true rfl)⟩ ?_
    refine cb_ifp_ne (pc := 24) O 29 dX11_pull_24 (by decide) (fun c_24 => ?_) (fun c_24 => ?_)
    · skip
      have hv : sv_pl A t := ⟨hz, ht⟩
      obtain ⟨e1, e2, e3⟩ := pull_eq (A := A) (z := z) (t := t) c_24
      obtain ⟨i, hi, rfl⟩ := ci_in (n := 9) c_24 rfl
      rw [ci_nz (by omega)] at e2 e3
      refine cb_aload_n (pc := 29) O dX11_pull_29 rfl ?_
      refine cb_getI (pc := 30) O fl_X11_159 rfl rfl dX11_pull_30 (hM.1.1 _ rfl) ?_
      refine cb_topv (nI (A 0 26)) (cm_at hM 0 26 rfl (by omega)) ?_
      refine cb_sipush (pc := 33) (v := 200) O dX11_pull_33 (by decide) ?_
      refine cb_icmp_ne (pc := 36) O 42 dX11_pull_36 (by decide) (fun c_36 => ?_) (fun c_36 => ?_)
      · skip
        have h200 : ¬ A 0 26 = 200 := fun e => c_36 (by rw [e]; rfl)
        refine cb_iconst (pc := 42) (v := 0) O dX11_pull_42 (by decide) ?_
        refine cb_istore_n (pc := 43) O dX11_pull_43 (by decide) ?_
        dsimp only [List.set]
        have L_44 : ∀ (n : Nat) (k : Nat), k ≤ 8 → 9 ≤ k + n → cb_X κ (cb_fl w 1028 0 k (nI i)) 0 0 44 [some (.inr (some 1000)), some (.inl t), some (.inl (nI i)), some (.inl (nI k))] [] := by
          intro n
          induction n with
          | zero =>
            intro k hk hn
            exact absurd hn (by omega)
          | succ n ih_44 =>
            intro k hk hn
            refine cb_iload_n (pc := 44) O dX11_pull_44 rfl ?_
            refine cb_bipush (pc := 45) (v := 8) O dX11_pull_45 (by decide) ?_
            refine cb_icmp_ge (pc := 47) O 63 dX11_pull_47 (by decide) (fun c_47 => ?_) (fun c_47 => ?_)
            · skip
              have e : k = 8 := by
                have := ci_ge (b := 8) c_47 (by omega) (by decide)
                omega
              subst e
              obtain ⟨hM5, hC5⟩ := cm_I.in (w' := cb_fl w 1028 0 8 (nI i)) hM rfl rfl (fun r k h => if_neg (fun e => h e.1))
              refine cb_aload_n (pc := 63) O dX11_pull_63 rfl ?_
              refine cb_iload_n (pc := 64) O dX11_pull_64 rfl ?_
              refine cb_iload_n (pc := 65) O dX11_pull_65 rfl ?_
              refine cb_cVi (pc := 66) O (c_X11_pulled (cb_fl w 1028 0 8 (nI i)) A z hI hM5 t i hv h200 h17 (fun _ => i) (fun _ => by omega) (fun c hc => if_pos ⟨rfl, by omega, hc⟩)) my_X11_pulled mi_X11_pulled mx_X11_pulled ml_X11_172 dX11_pull_66 rfl ct_11 rfl rfl rfl ⟨(Nat.le_of_ble_eq_true rfl), (Nat.le_of_ble_eq_true rfl)⟩ (Nat.le_of_ble_eq_true rfl) rfl ⟨(Nat.le_of_ble_eq_true rfl), (Nat.le_of_ble_eq_true rfl)⟩ (fun _ _ => rfl) (hM5.1.1 _ rfl) (fun x_66 w_66 hp_66 => ?_)
              obtain ⟨hx, hM9, hC9⟩ := hp_66
              exact cb_iret (pc := 69) O Rt rfl (Nat.le_of_ble_eq_true rfl) (Nat.le_of_ble_eq_true rfl) dX11_pull_69 (by
                rw [e1, e2, e3, pr_x, pr_A, pr_z, if_pos hv, if_neg h200, if_pos ⟨hv, h200⟩, if_pos ⟨hv, h200⟩]
                exact ⟨hx, hM9, hC5.trans hC9⟩)
            · skip
              have hlt : k < 8 := ci_nge (b := 8) c_47 (by omega) (by decide)
              refine cb_aload_n (pc := 50) O dX11_pull_50 rfl ?_
              refine cb_getR (pc := 51) O fl_X11_68 rfl rfl dX11_pull_51 (hM.1.1 _ rfl) (hM.1.2 _ _ _ rfl) ?_
              refine cb_iload_n (pc := 54) O dX11_pull_54 rfl ?_
              refine cb_iload_n (pc := 55) O dX11_pull_55 rfl ?_
              refine cb_iast (pc := 56) O k rfl dX11_pull_56 (by decide) (hM.1.1 _ rfl) rfl (by omega) ?_
              refine cb_iinc (pc := 57) O (nI (k + 1)) dX11_pull_57 rfl (by decide) (ci_inc k) ?_
              dsimp only [List.set]
              refine cb_goto (pc := 60) O 44 dX11_pull_60 (by decide) ?_
              rw [cb_flS _ _ _ _ _ (by omega)]
              exact ih_44 (k + 1) (by omega) (by omega)
        rw [← cb_fl0 w 1028 0 (nI i)]
        exact L_44 9 0 (by omega) (by omega)
      · skip
        rw [show (200 : Int32) = nI 200 from rfl, nI_eq (by omega) (by omega)] at c_36
        refine cb_bipush (pc := 39) (v := (-2)) O dX11_pull_39 (by decide) ?_
        exact cb_iret (pc := 41) O Rt rfl (Nat.le_of_ble_eq_true rfl) (Nat.le_of_ble_eq_true rfl) dX11_pull_41 (by
          rw [e1, e2, e3]
          exact ⟨by rw [pr_x, if_pos hv, if_pos c_36], by rw [pr_A, pr_z, if_neg (fun h => h.2 c_36), if_neg (fun h => h.2 c_36)]; exact hM, cb_C1.rfl'⟩)
    · skip
      refine cb_iconst (pc := 27) (v := (-1)) O dX11_pull_27 (by decide) ?_
      exact cb_iret (pc := 28) O Rt rfl (Nat.le_of_ble_eq_true rfl) (Nat.le_of_ble_eq_true rfl) dX11_pull_28 (by
        have hv : ¬ sv_pull A t i := fun h => by
          first
          | exact hz h.2.1
          | (rcases h.2.2 with h2 | h2
             · exact c_9 h2
             · exact c_17 h2)
          | exact c_24 h.1
        exact ⟨by rw [sr_pull, if_neg hv], by rw [sA_pull, sz_pull, if_neg (fun h => hv h.1), if_neg (fun h => hv h.1)]; exact hM, cb_C1.rfl'⟩)
  refine cb_aload_n (pc := 0) O dX11_pull_0 rfl ?_
  refine cb_getI (pc := 1) O fl_X11_94 rfl rfl dX11_pull_1 (hM.1.1 _ rfl) ?_
  refine cb_if_eq (pc := 4) O 27 dX11_pull_4 (by decide) (fun c_4 => ?_) (fun c_4 => ?_)
  · skip
    have hz : ¬ 0 < A 0 0 := by
      rw [show w.2.1 1000 0 = nI (A 0 0) from cm_at hM 0 0 rfl (by omega), show (0 : Int32) = nI 0 from rfl, nI_eq (by omega) (by omega)] at c_4
      omega
    refine cb_iconst (pc := 27) (v := (-1)) O dX11_pull_27 (by decide) ?_
    exact cb_iret (pc := 28) O Rt rfl (Nat.le_of_ble_eq_true rfl) (Nat.le_of_ble_eq_true rfl) dX11_pull_28 (by
      have hv : ¬ sv_pull A t i := fun h => by
        first
        | exact hz h.2.1
        | (rcases h.2.2 with h2 | h2
           · exact c_9 h2
           · exact c_17 h2)
        | exact c_24 h.1
      exact ⟨by rw [sr_pull, if_neg hv], by rw [sA_pull, sz_pull, if_neg (fun h => hv h.1), if_neg (fun h => hv h.1)]; exact hM, cb_C1.rfl'⟩)
  · skip
    have hz : 0 < A 0 0 := by
      rw [show w.2.1 1000 0 = nI (A 0 0) from cm_at hM 0 0 rfl (by omega), show (0 : Int32) = nI 0 from rfl, nI_eq (by omega) (by omega)] at c_4
      omega
    refine cb_iload_n (pc := 7) O dX11_pull_7 rfl ?_
    refine cb_iconst (pc := 8) (v := (-1)) O dX11_pull_8 (by decide) ?_
    refine cb_icmp_eq (pc := 9) O 20 dX11_pull_9 (by decide) (fun c_9 => ?_) (fun c_9 => ?_)
    · skip
      exact J_20 hz (by first | exact Or.inl c_9 | exact Or.inr c_17)
    · skip
      refine cb_aload_n (pc := 12) O dX11_pull_12 rfl ?_
      refine cb_iload_n (pc := 13) O dX11_pull_13 rfl ?_
      refine cb_cVp (pc := 14) O (c_X11_areSheets w A z hI hM t) my_X11_areSheets mi_X11_areSheets mx_X11_areSheets ml_X11_169 dX11_pull_14 rfl ct_11 rfl rfl rfl ⟨(Nat.le_of_ble_eq_true rfl), (Nat.le_of_ble_eq_true rfl)⟩ (Nat.le_of_ble_eq_true rfl) rfl ⟨(Nat.le_of_ble_eq_true rfl), (Nat.le_of_ble_eq_true rfl)⟩ (hM.1.1 _ rfl) ?_
      refine cb_ifp_eq (pc := 17) O 27 dX11_pull_17 (by decide) (fun c_17 => ?_) (fun c_17 => ?_)
      · skip
        refine cb_iconst (pc := 27) (v := (-1)) O dX11_pull_27 (by decide) ?_
        exact cb_iret (pc := 28) O Rt rfl (Nat.le_of_ble_eq_true rfl) (Nat.le_of_ble_eq_true rfl) dX11_pull_28 (by
          have hv : ¬ sv_pull A t i := fun h => by
            first
            | exact hz h.2.1
            | (rcases h.2.2 with h2 | h2
               · exact c_9 h2
               · exact c_17 h2)
            | exact c_24 h.1
          exact ⟨by rw [sr_pull, if_neg hv], by rw [sA_pull, sz_pull, if_neg (fun h => hv h.1), if_neg (fun h => hv h.1)]; exact hM, cb_C1.rfl'⟩)
      · skip
        exact J_20 hz (by first | exact Or.inl c_9 | exact Or.inr c_17)

theorem m_blend (w : cb_W) (A : ca_A) (z : Int32) (hI : ca_I A) (hM : cm_I w A z) (t x : Int32) (h17 : ∀ i, A 17 i ≤ 200) : cb_Con yX11_blend cX11_blend 6 (some .int) 3 74 0 0 (fun _ => true) [.inr (some 1000), .inl t, .inl x] w (cb_pi (fun y w' => y = sr_blend A t x ∧ cm_I w' (sA_blend A z t x) (sz_blend A z t x) ∧ cb_C1 w w')) := by
  have l := hI.1
  refine cb_con (by decide) (Nat.le_of_ble_eq_true rfl) (fun κ O Rt hnm => ?_)
  show cb_X κ w 0 0 0 [some (.inr (some 1000)), some (.inl t), some (.inl x), none, none, none] []
  have J_20 : ∀ (hz : 0 < A 0 0) (ht : t = -1 ∨ ca_s A t), cb_X κ w 0 0 20 [some (.inr (some 1000)), some (.inl t), some (.inl x), none, none, none] [] := by
    intro hz ht
    refine cb_iload_n (pc := 20) O dX11_blend_20 rfl ?_
    refine cb_if_lt (pc := 21) O 59 dX11_blend_21 (by decide) (fun c_21 => ?_) (fun c_21 => ?_)
    · skip
      refine cb_iconst (pc := 59) (v := (-1)) O dX11_blend_59 (by decide) ?_
      exact cb_iret (pc := 60) O Rt rfl (Nat.le_of_ble_eq_true rfl) (Nat.le_of_ble_eq_true rfl) dX11_blend_60 (by
        first
        | (have hv : ¬ sv_blend A t x := fun h => by
             first
             | exact hz h.2.1
             | (rcases h.2.2 with h2 | h2
                · exact c_9 h2
                · exact c_17 h2)
             | (have h3 := h.1.1.1
                rw [ci_le, ci_z0] at h3
                rw [ci_lt0] at c_21
                omega)
           exact ⟨by rw [sr_blend, if_neg hv], by rw [sA_blend, sz_blend, if_neg (fun h => hv h.1), if_neg (fun h => hv h.1)]; exact hM, cb_C1.rfl'⟩)
        | (have hv : ¬ sv_blend A t (nI x) := fun h => by
             have h4 := h.1
             have h3 := h4.1.2
             rw [ci_le, ci_n hx] at h3
             have h5 : (999 : Int32).toInt = 999 := rfl
             rw [ci_nz hx] at h4
             first
             | (apply h999; omega)
             | exact h4.2.1 c_45
             | exact c_56 h4.2.2
           exact ⟨by rw [sr_blend, if_neg hv], by rw [sA_blend, sz_blend, if_neg (fun h => hv h.1), if_neg (fun h => hv h.1)]; exact hM, cb_C1.rfl'⟩))
    · skip
      obtain ⟨x, hx, rfl⟩ : ∃ j : Nat, j < 2147483648 ∧ x = nI j := by
        have hb := fb_rng x
        rw [ci_lt0] at c_21
        refine ⟨x.toInt.toNat, by omega, ?_⟩
        rw [ci_eq, ci_n (by omega)]
        omega
      refine cb_iload_n (pc := 24) O dX11_blend_24 rfl ?_
      refine cb_bipush (pc := 25) (v := 100) O dX11_blend_25 (by decide) ?_
      refine cb_idiv (pc := 27) O dX11_blend_27 (by decide) ?_
      refine cb_topv (nI (x / 100)) (ci_d100 hx) ?_
      refine cb_cSp (pc := 28) O (c_X11_isInk _ _) my_X11_isInk mt_X11_isInk ml_X11_103 dX11_blend_28 rfl rfl ⟨(Nat.le_of_ble_eq_true rfl), (Nat.le_of_ble_eq_true rfl)⟩ (Nat.le_of_ble_eq_true rfl) rfl ⟨(Nat.le_of_ble_eq_true rfl), (Nat.le_of_ble_eq_true rfl)⟩ ?_
      refine cb_ifp_eq (pc := 31) O 59 dX11_blend_31 (by decide) (fun c_31 => ?_) (fun c_31 => ?_)
      · skip
        have h999 : ¬ x ≤ 999 := fun h => c_31 ⟨by rw [ci_0le, ci_n (by omega)]; omega, by rw [ci_le, ci_n (by omega)]; show ((x / 100 : Nat) : Int) ≤ 9; omega⟩
        refine cb_iconst (pc := 59) (v := (-1)) O dX11_blend_59 (by decide) ?_
        exact cb_iret (pc := 60) O Rt rfl (Nat.le_of_ble_eq_true rfl) (Nat.le_of_ble_eq_true rfl) dX11_blend_60 (by
          first
          | (have hv : ¬ sv_blend A t x := fun h => by
               first
               | exact hz h.2.1
               | (rcases h.2.2 with h2 | h2
                  · exact c_9 h2
                  · exact c_17 h2)
               | (have h3 := h.1.1.1
                  rw [ci_le, ci_z0] at h3
                  rw [ci_lt0] at c_21
                  omega)
             exact ⟨by rw [sr_blend, if_neg hv], by rw [sA_blend, sz_blend, if_neg (fun h => hv h.1), if_neg (fun h => hv h.1)]; exact hM, cb_C1.rfl'⟩)
          | (have hv : ¬ sv_blend A t (nI x) := fun h => by
               have h4 := h.1
               have h3 := h4.1.2
               rw [ci_le, ci_n hx] at h3
               have h5 : (999 : Int32).toInt = 999 := rfl
               rw [ci_nz hx] at h4
               first
               | (apply h999; omega)
               | exact h4.2.1 c_45
               | exact c_56 h4.2.2
             exact ⟨by rw [sr_blend, if_neg hv], by rw [sA_blend, sz_blend, if_neg (fun h => hv h.1), if_neg (fun h => hv h.1)]; exact hM, cb_C1.rfl'⟩))
      · skip
        have h999 : x ≤ 999 := by
          have h3 := c_31.2
          rw [ci_le, ci_n (by omega)] at h3
          have h4 : (9 : Int32).toInt = 9 := rfl
          omega
        refine cb_iload_n (pc := 34) O dX11_blend_34 rfl ?_
        refine cb_bipush (pc := 35) (v := 100) O dX11_blend_35 (by decide) ?_
        refine cb_idiv (pc := 37) O dX11_blend_37 (by decide) ?_
        refine cb_topv (nI (x / 100)) (ci_d100 hx) ?_
        refine cb_iload_n (pc := 38) O dX11_blend_38 rfl ?_
        refine cb_bipush (pc := 39) (v := 10) O dX11_blend_39 (by decide) ?_
        refine cb_idiv (pc := 41) O dX11_blend_41 (by decide) ?_
        refine cb_topv (nI (x / 10)) (ci_dl 10 rfl hx (by omega) (by omega)) ?_
        refine cb_bipush (pc := 42) (v := 10) O dX11_blend_42 (by decide) ?_
        refine cb_irem (pc := 44) O dX11_blend_44 (by decide) ?_
        refine cb_topv (nI (x / 10 % 10)) (ci_rl 10 rfl (by omega) (by omega) (by omega)) ?_
        refine cb_icmp_eq (pc := 45) O 59 dX11_blend_45 (by decide) (fun c_45 => ?_) (fun c_45 => ?_)
        · skip
          rw [nI_eq (by omega) (by omega)] at c_45
          refine cb_iconst (pc := 59) (v := (-1)) O dX11_blend_59 (by decide) ?_
          exact cb_iret (pc := 60) O Rt rfl (Nat.le_of_ble_eq_true rfl) (Nat.le_of_ble_eq_true rfl) dX11_blend_60 (by
            first
            | (have hv : ¬ sv_blend A t x := fun h => by
                 first
                 | exact hz h.2.1
                 | (rcases h.2.2 with h2 | h2
                    · exact c_9 h2
                    · exact c_17 h2)
                 | (have h3 := h.1.1.1
                    rw [ci_le, ci_z0] at h3
                    rw [ci_lt0] at c_21
                    omega)
               exact ⟨by rw [sr_blend, if_neg hv], by rw [sA_blend, sz_blend, if_neg (fun h => hv h.1), if_neg (fun h => hv h.1)]; exact hM, cb_C1.rfl'⟩)
            | (have hv : ¬ sv_blend A t (nI x) := fun h => by
                 have h4 := h.1
                 have h3 := h4.1.2
                 rw [ci_le, ci_n hx] at h3
                 have h5 : (999 : Int32).toInt = 999 := rfl
                 rw [ci_nz hx] at h4
                 first
                 | (apply h999; omega)
                 | exact h4.2.1 c_45
                 | exact c_56 h4.2.2
               exact ⟨by rw [sr_blend, if_neg hv], by rw [sA_blend, sz_blend, if_neg (fun h => hv h.1), if_neg (fun h => hv h.1)]; exact hM, cb_C1.rfl'⟩))
        · skip
          rw [nI_eq (by omega) (by omega)] at c_45
          refine cb_iload_n (pc := 48) O dX11_blend_48 rfl ?_
          refine cb_bipush (pc := 49) (v := 10) O dX11_blend_49 (by decide) ?_
          refine cb_irem (pc := 51) O dX11_blend_51 (by decide) ?_
          refine cb_topv (nI (x % 10)) (ci_rl 10 rfl hx (by omega) (by omega)) ?_
          refine cb_aload_n (pc := 52) O dX11_blend_52 rfl ?_
          refine cb_getI (pc := 53) O fl_X11_97 rfl rfl dX11_blend_53 (hM.1.1 _ rfl) ?_
          refine cb_topv (nI (A 0 1)) (cm_at hM 0 1 rfl (by omega)) ?_
          refine cb_icmp_lt (pc := 56) O 61 dX11_blend_56 (by decide) (fun c_56 => ?_) (fun c_56 => ?_)
          · skip
            rw [nI_ltI (by omega) (by omega)] at c_56
            have hb := ci_nz (n := x) (by omega)
            have hv : sv_pl A t := ⟨hz, ht⟩
            obtain ⟨e1, e2, e3⟩ := blend_eq (A := A) (z := z) (t := t) (x := nI x) ⟨⟨by rw [ci_0le, ci_n hx]; omega, by rw [ci_le, ci_n hx]; show (x : Int) ≤ 999; omega⟩, by rw [hb]; exact c_45, by rw [hb]; exact c_56⟩
            rw [hb] at e2 e3
            refine cb_aload_n (pc := 61) O dX11_blend_61 rfl ?_
            refine cb_getI (pc := 62) O fl_X11_159 rfl rfl dX11_blend_62 (hM.1.1 _ rfl) ?_
            refine cb_topv (nI (A 0 26)) (cm_at hM 0 26 rfl (by omega)) ?_
            refine cb_sipush (pc := 65) (v := 200) O dX11_blend_65 (by decide) ?_
            refine cb_icmp_ne (pc := 68) O 74 dX11_blend_68 (by decide) (fun c_68 => ?_) (fun c_68 => ?_)
            · skip
              have h200 : ¬ A 0 26 = 200 := fun e => c_68 (by rw [e]; rfl)
              refine cb_iload_n (pc := 74) O dX11_blend_74 rfl ?_
              refine cb_bipush (pc := 75) (v := 100) O dX11_blend_75 (by decide) ?_
              refine cb_idiv (pc := 77) O dX11_blend_77 (by decide) ?_
              refine cb_topv (nI (x / 100)) (ci_d100 hx) ?_
              refine cb_istore_n (pc := 78) O dX11_blend_78 (by decide) ?_
              dsimp only [List.set]
              refine cb_iload_n (pc := 79) O dX11_blend_79 rfl ?_
              refine cb_bipush (pc := 80) (v := 10) O dX11_blend_80 (by decide) ?_
              refine cb_idiv (pc := 82) O dX11_blend_82 (by decide) ?_
              refine cb_topv (nI (x / 10)) (ci_dl 10 rfl hx (by omega) (by omega)) ?_
              refine cb_bipush (pc := 83) (v := 10) O dX11_blend_83 (by decide) ?_
              refine cb_irem (pc := 85) O dX11_blend_85 (by decide) ?_
              refine cb_topv (nI (x / 10 % 10)) (ci_rl 10 rfl (by omega) (by omega) (by omega)) ?_
              refine cb_istore (pc := 86) O dX11_blend_86 (by decide) ?_
              dsimp only [List.set]
              refine cb_iconst (pc := 88) (v := 0) O dX11_blend_88 (by decide) ?_
              refine cb_istore (pc := 89) O dX11_blend_89 (by decide) ?_
              dsimp only [List.set]
              have L_91 : ∀ (n : Nat) (k : Nat) (w9 : cb_W), k ≤ 8 → w9.1 = w.1 → w9.2.2 = w.2.2 → (∀ r k, r ≠ 1028 → w9.2.1 r k = w.2.1 r k) → (∀ c, c < k → w9.2.1 1028 c = nI (bl_rl A x c)) → 9 ≤ k + n → cb_X κ w9 0 0 91 [some (.inr (some 1000)), some (.inl t), some (.inl (nI x)), some (.inl (nI (x / 100))), some (.inl (nI (x / 10 % 10))), some (.inl (nI k))] [] := by
                intro n
                induction n with
                | zero =>
                  intro k w9 hk hw1 hw2 hw3 hw4 hn
                  exact absurd hn (by omega)
                | succ n ih_91 =>
                  intro k w9 hk hw1 hw2 hw3 hw4 hn
                  refine cb_iload (pc := 91) O dX11_blend_91 rfl ?_
                  refine cb_bipush (pc := 93) (v := 8) O dX11_blend_93 (by decide) ?_
                  refine cb_icmp_ge (pc := 95) O 150 dX11_blend_95 (by decide) (fun c_95 => ?_) (fun c_95 => ?_)
                  · skip
                    have e : k = 8 := by
                      have := ci_ge (b := 8) c_95 (by omega) (by decide)
                      omega
                    subst e
                    obtain ⟨hM5, hC5⟩ := cm_I.in hM hw1 hw2 hw3
                    refine cb_aload_n (pc := 150) O dX11_blend_150 rfl ?_
                    refine cb_iload_n (pc := 151) O dX11_blend_151 rfl ?_
                    refine cb_bipush (pc := 152) (v := 10) O dX11_blend_152 (by decide) ?_
                    refine cb_cVi (pc := 154) O (c_X11_pulled w9 A z hI hM5 t 10 hv h200 h17 (bl_rl A x) (fun c => bl_10 hI x c) hw4) my_X11_pulled mi_X11_pulled mx_X11_pulled ml_X11_172 dX11_blend_154 rfl ct_11 rfl rfl rfl ⟨(Nat.le_of_ble_eq_true rfl), (Nat.le_of_ble_eq_true rfl)⟩ (Nat.le_of_ble_eq_true rfl) rfl ⟨(Nat.le_of_ble_eq_true rfl), (Nat.le_of_ble_eq_true rfl)⟩ (fun _ _ => rfl) (hM5.1.1 _ rfl) (fun x_154 w_154 hp_154 => ?_)
                    obtain ⟨hx9, hM9, hC9⟩ := hp_154
                    exact cb_iret (pc := 157) O Rt rfl (Nat.le_of_ble_eq_true rfl) (Nat.le_of_ble_eq_true rfl) dX11_blend_157 (by
                      rw [e1, e2, e3, pr_x, pr_A, pr_z, if_pos hv, if_neg h200, if_pos ⟨hv, h200⟩, if_pos ⟨hv, h200⟩]
                      exact ⟨hx9, hM9, hC5.trans hC9⟩)
                  · skip
                    have hlt : k < 8 := ci_nge (b := 8) c_95 (by omega) (by decide)
                    refine cb_aload_n (pc := 98) O dX11_blend_98 rfl ?_
                    refine cb_getR (pc := 99) O fl_X11_68 rfl rfl dX11_blend_99 (by rw [hw1]; exact hM.1.1 _ rfl) (by rw [hw2]; exact hM.1.2 _ _ _ rfl) ?_
                    refine cb_iload (pc := 102) O dX11_blend_102 rfl ?_
                    refine cb_iload (pc := 104) O dX11_blend_104 rfl ?_
                    refine cb_iload_n (pc := 106) O dX11_blend_106 rfl ?_
                    refine cb_bipush (pc := 107) (v := 10) O dX11_blend_107 (by decide) ?_
                    refine cb_irem (pc := 109) O dX11_blend_109 (by decide) ?_
                    refine cb_topv (nI (x % 10)) (ci_rl 10 rfl hx (by omega) (by omega)) ?_
                    refine cb_icmp_ge (pc := 110) O 117 dX11_blend_110 (by decide) (fun c_110 => ?_) (fun c_110 => ?_)
                    · skip
                      rw [nI_leI (by omega) (by omega)] at c_110
                      refine cb_iload (pc := 117) O dX11_blend_117 rfl ?_
                      refine cb_iload_n (pc := 119) O dX11_blend_119 rfl ?_
                      refine cb_bipush (pc := 120) (v := 10) O dX11_blend_120 (by decide) ?_
                      refine cb_irem (pc := 122) O dX11_blend_122 (by decide) ?_
                      refine cb_topv (nI (x % 10)) (ci_rl 10 rfl hx (by omega) (by omega)) ?_
                      refine cb_icmp_le (pc := 123) O 131 dX11_blend_123 (by decide) (fun c_123 => ?_) (fun c_123 => ?_)
                      · skip
                        rw [nI_leI (by omega) (by omega)] at c_123
                        refine cb_aload_n (pc := 131) O dX11_blend_131 rfl ?_
                        refine cb_getR (pc := 132) O fl_X11_20 rfl rfl dX11_blend_132 (by rw [hw1]; exact hM.1.1 _ rfl) (by rw [hw2]; exact hM.1.2 _ _ _ rfl) ?_
                        refine cb_bipush (pc := 135) (v := 10) O dX11_blend_135 (by decide) ?_
                        refine cb_iload_n (pc := 137) O dX11_blend_137 rfl ?_
                        refine cb_imul (pc := 138) O dX11_blend_138 ?_
                        refine cb_iload (pc := 139) O dX11_blend_139 rfl ?_
                        refine cb_iadd (pc := 141) O dX11_blend_141 ?_
                        refine cb_topv (nI (10 * (x / 100) + x / 10 % 10)) (ci_m10 _ _) ?_
                        refine cb_iald (pc := 142) O (10 * (x / 100) + x / 10 % 10) rfl dX11_blend_142 (by decide) (by rw [hw1]; exact hM.1.1 _ rfl) rfl (by omega) ?_
                        refine cb_topv (nI (bl_rl A x k)) (by
                          unfold bl_rl
                          rw [if_neg (by omega), if_neg (by omega), hw3 1006 _ (by decide)]
                          exact cm_at hM 6 _ (by simp [ca_R]; omega) (by omega)) ?_
                        refine cb_iast (pc := 143) O k rfl dX11_blend_143 (by decide) (by rw [hw1]; exact hM.1.1 _ rfl) rfl (by omega) ?_
                        refine cb_iinc (pc := 144) O (nI (k + 1)) dX11_blend_144 rfl (by decide) (ci_inc k) ?_
                        dsimp only [List.set]
                        refine cb_goto (pc := 147) O 91 dX11_blend_147 (by decide) ?_
                        exact ih_91 (k + 1) _ (by omega) hw1 hw2 (fun r k h => by show cb_u2 w9.2.1 _ _ _ r k = _; rw [cb_u2n (Or.inl h)]; exact hw3 r k h) (fun c hc => by
                          show cb_u2 w9.2.1 1028 k (nI (bl_rl A x k)) 1028 c = _
                          by_cases e : c = k
                          · rw [e, cb_u2s]
                          · rw [cb_u2n (Or.inr e)]; exact hw4 c (by omega)) (by omega)
                      · skip
                        rw [nI_leI (by omega) (by omega)] at c_123
                        refine cb_iload (pc := 126) O dX11_blend_126 rfl ?_
                        refine cb_topv (nI (bl_rl A x k)) (by
                          unfold bl_rl
                          rw [if_neg (by omega), if_pos (by omega)]) ?_
                        refine cb_goto (pc := 128) O 143 dX11_blend_128 (by decide) ?_
                        refine cb_iast (pc := 143) O k rfl dX11_blend_143 (by decide) (by rw [hw1]; exact hM.1.1 _ rfl) rfl (by omega) ?_
                        refine cb_iinc (pc := 144) O (nI (k + 1)) dX11_blend_144 rfl (by decide) (ci_inc k) ?_
                        dsimp only [List.set]
                        refine cb_goto (pc := 147) O 91 dX11_blend_147 (by decide) ?_
                        exact ih_91 (k + 1) _ (by omega) hw1 hw2 (fun r k h => by show cb_u2 w9.2.1 _ _ _ r k = _; rw [cb_u2n (Or.inl h)]; exact hw3 r k h) (fun c hc => by
                          show cb_u2 w9.2.1 1028 k (nI (bl_rl A x k)) 1028 c = _
                          by_cases e : c = k
                          · rw [e, cb_u2s]
                          · rw [cb_u2n (Or.inr e)]; exact hw4 c (by omega)) (by omega)
                    · skip
                      rw [nI_leI (by omega) (by omega)] at c_110
                      refine cb_iload_n (pc := 113) O dX11_blend_113 rfl ?_
                      refine cb_topv (nI (bl_rl A x k)) (by
                        unfold bl_rl
                        rw [if_pos (by omega), show x / 100 % 10 = x / 100 by omega]) ?_
                      refine cb_goto (pc := 114) O 143 dX11_blend_114 (by decide) ?_
                      refine cb_iast (pc := 143) O k rfl dX11_blend_143 (by decide) (by rw [hw1]; exact hM.1.1 _ rfl) rfl (by omega) ?_
                      refine cb_iinc (pc := 144) O (nI (k + 1)) dX11_blend_144 rfl (by decide) (ci_inc k) ?_
                      dsimp only [List.set]
                      refine cb_goto (pc := 147) O 91 dX11_blend_147 (by decide) ?_
                      exact ih_91 (k + 1) _ (by omega) hw1 hw2 (fun r k h => by show cb_u2 w9.2.1 _ _ _ r k = _; rw [cb_u2n (Or.inl h)]; exact hw3 r k h) (fun c hc => by
                        show cb_u2 w9.2.1 1028 k (nI (bl_rl A x k)) 1028 c = _
                        by_cases e : c = k
                        · rw [e, cb_u2s]
                        · rw [cb_u2n (Or.inr e)]; exact hw4 c (by omega)) (by omega)
              exact L_91 9 0 w (by omega) rfl rfl (fun _ _ _ => rfl) (fun c hc => absurd hc (by omega)) (by omega)
            · skip
              rw [show (200 : Int32) = nI 200 from rfl, nI_eq (by omega) (by omega)] at c_68
              refine cb_bipush (pc := 71) (v := (-2)) O dX11_blend_71 (by decide) ?_
              exact cb_iret (pc := 73) O Rt rfl (Nat.le_of_ble_eq_true rfl) (Nat.le_of_ble_eq_true rfl) dX11_blend_73 (by
                rw [e1, e2, e3]
                exact ⟨by rw [pr_x, if_pos hv, if_pos c_68], by rw [pr_A, pr_z, if_neg (fun h => h.2 c_68), if_neg (fun h => h.2 c_68)]; exact hM, cb_C1.rfl'⟩)
          · skip
            rw [nI_ltI (by omega) (by omega)] at c_56
            refine cb_iconst (pc := 59) (v := (-1)) O dX11_blend_59 (by decide) ?_
            exact cb_iret (pc := 60) O Rt rfl (Nat.le_of_ble_eq_true rfl) (Nat.le_of_ble_eq_true rfl) dX11_blend_60 (by
              first
              | (have hv : ¬ sv_blend A t x := fun h => by
                   first
                   | exact hz h.2.1
                   | (rcases h.2.2 with h2 | h2
                      · exact c_9 h2
                      · exact c_17 h2)
                   | (have h3 := h.1.1.1
                      rw [ci_le, ci_z0] at h3
                      rw [ci_lt0] at c_21
                      omega)
                 exact ⟨by rw [sr_blend, if_neg hv], by rw [sA_blend, sz_blend, if_neg (fun h => hv h.1), if_neg (fun h => hv h.1)]; exact hM, cb_C1.rfl'⟩)
              | (have hv : ¬ sv_blend A t (nI x) := fun h => by
                   have h4 := h.1
                   have h3 := h4.1.2
                   rw [ci_le, ci_n hx] at h3
                   have h5 : (999 : Int32).toInt = 999 := rfl
                   rw [ci_nz hx] at h4
                   first
                   | (apply h999; omega)
                   | exact h4.2.1 c_45
                   | exact c_56 h4.2.2
                 exact ⟨by rw [sr_blend, if_neg hv], by rw [sA_blend, sz_blend, if_neg (fun h => hv h.1), if_neg (fun h => hv h.1)]; exact hM, cb_C1.rfl'⟩))
  refine cb_aload_n (pc := 0) O dX11_blend_0 rfl ?_
  refine cb_getI (pc := 1) O fl_X11_94 rfl rfl dX11_blend_1 (hM.1.1 _ rfl) ?_
  refine cb_if_eq (pc := 4) O 59 dX11_blend_4 (by decide) (fun c_4 => ?_) (fun c_4 => ?_)
  · skip
    have hz : ¬ 0 < A 0 0 := by
      rw [show w.2.1 1000 0 = nI (A 0 0) from cm_at hM 0 0 rfl (by omega), show (0 : Int32) = nI 0 from rfl, nI_eq (by omega) (by omega)] at c_4
      omega
    refine cb_iconst (pc := 59) (v := (-1)) O dX11_blend_59 (by decide) ?_
    exact cb_iret (pc := 60) O Rt rfl (Nat.le_of_ble_eq_true rfl) (Nat.le_of_ble_eq_true rfl) dX11_blend_60 (by
      first
      | (have hv : ¬ sv_blend A t x := fun h => by
           first
           | exact hz h.2.1
           | (rcases h.2.2 with h2 | h2
              · exact c_9 h2
              · exact c_17 h2)
           | (have h3 := h.1.1.1
              rw [ci_le, ci_z0] at h3
              rw [ci_lt0] at c_21
              omega)
         exact ⟨by rw [sr_blend, if_neg hv], by rw [sA_blend, sz_blend, if_neg (fun h => hv h.1), if_neg (fun h => hv h.1)]; exact hM, cb_C1.rfl'⟩)
      | (have hv : ¬ sv_blend A t (nI x) := fun h => by
           have h4 := h.1
           have h3 := h4.1.2
           rw [ci_le, ci_n hx] at h3
           have h5 : (999 : Int32).toInt = 999 := rfl
           rw [ci_nz hx] at h4
           first
           | (apply h999; omega)
           | exact h4.2.1 c_45
           | exact c_56 h4.2.2
         exact ⟨by rw [sr_blend, if_neg hv], by rw [sA_blend, sz_blend, if_neg (fun h => hv h.1), if_neg (fun h => hv h.1)]; exact hM, cb_C1.rfl'⟩))
  · skip
    have hz : 0 < A 0 0 := by
      rw [show w.2.1 1000 0 = nI (A 0 0) from cm_at hM 0 0 rfl (by omega), show (0 : Int32) = nI 0 from rfl, nI_eq (by omega) (by omega)] at c_4
      omega
    refine cb_iload_n (pc := 7) O dX11_blend_7 rfl ?_
    refine cb_iconst (pc := 8) (v := (-1)) O dX11_blend_8 (by decide) ?_
    refine cb_icmp_eq (pc := 9) O 20 dX11_blend_9 (by decide) (fun c_9 => ?_) (fun c_9 => ?_)
    · skip
      exact J_20 hz (by first | exact Or.inl c_9 | exact Or.inr c_17)
    · skip
      refine cb_aload_n (pc := 12) O dX11_blend_12 rfl ?_
      refine cb_iload_n (pc := 13) O dX11_blend_13 rfl ?_
      refine cb_cVp (pc := 14) O (c_X11_areSheets w A z hI hM t) my_X11_areSheets mi_X11_areSheets mx_X11_areSheets ml_X11_169 dX11_blend_14 rfl ct_11 rfl rfl rfl ⟨(Nat.le_of_ble_eq_true rfl), (Nat.le_of_ble_eq_true rfl)⟩ (Nat.le_of_ble_eq_true rfl) rfl ⟨(Nat.le_of_ble_eq_true rfl), (Nat.le_of_ble_eq_true rfl)⟩ (hM.1.1 _ rfl) ?_
      refine cb_ifp_eq (pc := 17) O 59 dX11_blend_17 (by decide) (fun c_17 => ?_) (fun c_17 => ?_)
      · skip
        refine cb_iconst (pc := 59) (v := (-1)) O dX11_blend_59 (by decide) ?_
        exact cb_iret (pc := 60) O Rt rfl (Nat.le_of_ble_eq_true rfl) (Nat.le_of_ble_eq_true rfl) dX11_blend_60 (by
          first
          | (have hv : ¬ sv_blend A t x := fun h => by
               first
               | exact hz h.2.1
               | (rcases h.2.2 with h2 | h2
                  · exact c_9 h2
                  · exact c_17 h2)
               | (have h3 := h.1.1.1
                  rw [ci_le, ci_z0] at h3
                  rw [ci_lt0] at c_21
                  omega)
             exact ⟨by rw [sr_blend, if_neg hv], by rw [sA_blend, sz_blend, if_neg (fun h => hv h.1), if_neg (fun h => hv h.1)]; exact hM, cb_C1.rfl'⟩)
          | (have hv : ¬ sv_blend A t (nI x) := fun h => by
               have h4 := h.1
               have h3 := h4.1.2
               rw [ci_le, ci_n hx] at h3
               have h5 : (999 : Int32).toInt = 999 := rfl
               rw [ci_nz hx] at h4
               first
               | (apply h999; omega)
               | exact h4.2.1 c_45
               | exact c_56 h4.2.2
             exact ⟨by rw [sr_blend, if_neg hv], by rw [sA_blend, sz_blend, if_neg (fun h => hv h.1), if_neg (fun h => hv h.1)]; exact hM, cb_C1.rfl'⟩))
      · skip
        exact J_20 hz (by first | exact Or.inl c_9 | exact Or.inr c_17)

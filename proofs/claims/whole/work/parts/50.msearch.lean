theorem c_X11_wantedColours (w : cb_W) (A : ca_A) (z : Int32) (hI : ca_I A) (hM : cm_I w A z)  : cb_Pu yX11_wantedColours cX11_wantedColours 3 (some .int) 1 21 [.inr (some 1000)] w (nI (wcs A 16)) := by
  refine cb_con (by decide) (Nat.le_of_ble_eq_true rfl) (fun κ O Rt hnm => ?_)
  show cb_X κ w 0 0 0 [some (.inr (some 1000)), none, none] []
  refine cb_iconst (pc := 0) (v := 0) O dX11_wantedColours_0 (by decide) ?_
  refine cb_istore_n (pc := 1) O dX11_wantedColours_1 (by decide) ?_
  dsimp only [List.set]
  refine cb_iconst (pc := 2) (v := 0) O dX11_wantedColours_2 (by decide) ?_
  refine cb_istore_n (pc := 3) O dX11_wantedColours_3 (by decide) ?_
  dsimp only [List.set]
  have L_4 : ∀ (n : Nat) (k : Nat), k ≤ 16 → 17 ≤ k + n → cb_X κ w 0 0 4 [some (.inr (some 1000)), some (.inl (nI (wcs A k))), some (.inl (nI k))] [] := by
    intro n
    induction n with
    | zero =>
      intro k hk hn
      exact absurd hn (by omega)
    | succ n ih_4 =>
      intro k hk hn
      refine cb_iload_n (pc := 4) O dX11_wantedColours_4 rfl ?_
      refine cb_bipush (pc := 5) (v := 16) O dX11_wantedColours_5 (by decide) ?_
      refine cb_icmp_ge (pc := 7) O 39 dX11_wantedColours_7 (by decide) (fun c_7 => ?_) (fun c_7 => ?_)
      · skip
        have e : k = 16 := by
          have := ci_ge (b := 16) c_7 (by omega) (by decide)
          omega
        subst e
        refine cb_iload_n (pc := 39) O dX11_wantedColours_39 rfl ?_
        exact cb_iret (pc := 40) O Rt rfl (Nat.le_of_ble_eq_true rfl) (Nat.le_of_ble_eq_true rfl) dX11_wantedColours_40 ⟨rfl, rfl⟩
      · skip
        have hlt : k < 16 := ci_nge (b := 16) c_7 (by omega) (by decide)
        refine cb_iload_n (pc := 10) O dX11_wantedColours_10 rfl ?_
        refine cb_aload_n (pc := 11) O dX11_wantedColours_11 rfl ?_
        refine cb_iload_n (pc := 12) O dX11_wantedColours_12 rfl ?_
        refine cb_cVp (pc := 13) O (c_X11_isWanted w A z hI hM (nI k)) my_X11_isWanted mi_X11_isWanted mx_X11_isWanted ml_X11_185 dX11_wantedColours_13 rfl ct_11 rfl rfl rfl ⟨(Nat.le_of_ble_eq_true rfl), (Nat.le_of_ble_eq_true rfl)⟩ (Nat.le_of_ble_eq_true rfl) rfl ⟨(Nat.le_of_ble_eq_true rfl), (Nat.le_of_ble_eq_true rfl)⟩ (hM.1.1 _ rfl) ?_
        refine cb_ifp_eq (pc := 16) O 30 dX11_wantedColours_16 (by decide) (fun c_16 => ?_) (fun c_16 => ?_)
        · skip
          rw [ca_wn (by omega)] at c_16
          refine cb_iconst (pc := 30) (v := 0) O dX11_wantedColours_30 (by decide) ?_
          refine cb_ior (pc := 31) O dX11_wantedColours_31 ?_
          refine cb_topv (nI (wcs A (k + 1))) (by
            show _ = nI (wcs A k ||| (if _ then _ else _))
            first
            | (rw [if_pos c_16]; exact fa_or _ _)
            | (rw [if_neg c_16]; exact fa_or _ 0)) ?_
          refine cb_istore_n (pc := 32) O dX11_wantedColours_32 (by decide) ?_
          dsimp only [List.set]
          refine cb_iinc (pc := 33) O (nI (k + 1)) dX11_wantedColours_33 rfl (by decide) (ci_inc k) ?_
          dsimp only [List.set]
          refine cb_goto (pc := 36) O 4 dX11_wantedColours_36 (by decide) ?_
          exact ih_4 (k + 1) (by omega) (by omega)
        · skip
          rw [ca_wn (by omega)] at c_16
          refine cb_iconst (pc := 19) (v := 1) O dX11_wantedColours_19 (by decide) ?_
          refine cb_aload_n (pc := 20) O dX11_wantedColours_20 rfl ?_
          refine cb_getR (pc := 21) O fl_X11_71 rfl rfl dX11_wantedColours_21 (hM.1.1 _ rfl) (hM.1.2 _ _ _ rfl) ?_
          refine cb_iload_n (pc := 24) O dX11_wantedColours_24 rfl ?_
          refine cb_iald (pc := 25) O k rfl dX11_wantedColours_25 (by decide) (hM.1.1 _ rfl) rfl (by omega) ?_
          refine cb_topv (nI (A 31 k)) (cm_at hM 31 _ (by simp [ca_R]; omega) (by omega)) ?_
          refine cb_ishl (pc := 26) O dX11_wantedColours_26 ?_
          refine cb_topv _ (ci_shl (hI.2.2.2.2.2.1.1 k)) ?_
          refine cb_goto (pc := 27) O 31 dX11_wantedColours_27 (by decide) ?_
          refine cb_ior (pc := 31) O dX11_wantedColours_31 ?_
          refine cb_topv (nI (wcs A (k + 1))) (by
            show _ = nI (wcs A k ||| (if _ then _ else _))
            first
            | (rw [if_pos c_16]; exact fa_or _ _)
            | (rw [if_neg c_16]; exact fa_or _ 0)) ?_
          refine cb_istore_n (pc := 32) O dX11_wantedColours_32 (by decide) ?_
          dsimp only [List.set]
          refine cb_iinc (pc := 33) O (nI (k + 1)) dX11_wantedColours_33 rfl (by decide) (ci_inc k) ?_
          dsimp only [List.set]
          refine cb_goto (pc := 36) O 4 dX11_wantedColours_36 (by decide) ?_
          exact ih_4 (k + 1) (by omega) (by omega)
  exact L_4 17 0 (by omega) (by omega)

def mkP (A : ca_A) (z : Int32) (u d k c l : Nat) (w : cb_W) (x : Int32) (w' : cb_W) : Prop := x = (if mkb A u d c (Nat.testBit l) = true then 1 else 0) ∧ cm_I w' A z ∧ cb_C1 w w' ∧ (∀ i, i < k → w'.2.1 1032 i = w.2.1 1032 i) ∧ (mkb A u d c (Nat.testBit l) = true → ∀ j, j < d → w'.2.1 1032 (k + j) = nI (rwf A u d c (Nat.testBit l) j))
def MkC (A : ca_A) (z : Int32) (u d : Nat) : Prop := ∀ (w : cb_W) (_ : cm_I w A z) (k N c l : Nat), N = k + d → N ≤ 5 → c < 16 → l < 65536 → cb_Con yX11_makes cX11_makes 8 (some .boolean) d (27 * d) 0 0 (fun _ => true) [.inr (some 1000), .inl (nI k), .inl (nI N), .inl (nI u), .inl (nI c), .inl (nI l)] w (cb_pi (mkP A z u d k c l w))
theorem c_mk_0 (w : cb_W) (A : ca_A) (z : Int32) (hI : ca_I A) (hM : cm_I w A z) (u k N c l : Nat) (hu : u ≤ 1023) (hN : N = k) (h5 : N ≤ 5) (hc : c < 16) (hl : l < 65536) : cb_Con yX11_makes cX11_makes 8 (some .boolean) 0 (27 * 0) 0 0 (fun _ => true) [.inr (some 1000), .inl (nI k), .inl (nI N), .inl (nI u), .inl (nI c), .inl (nI l)] w (cb_pi (mkP A z u 0 k c l w)) := by
  refine cb_con (by decide) (Nat.le_of_ble_eq_true rfl) (fun κ O Rt hnm => ?_)
  show cb_X κ w 0 0 0 [some (.inr (some 1000)), some (.inl (nI k)), some (.inl (nI N)), some (.inl (nI u)), some (.inl (nI c)), some (.inl (nI l)), none, none] []
  refine cb_iload_n (pc := 0) O dX11_makes_0 rfl ?_
  refine cb_iload_n (pc := 1) O dX11_makes_1 rfl ?_
  refine cb_icmp_ne (pc := 2) O 16 dX11_makes_2 (by decide) (fun c_2 => ?_) (fun c_2 => ?_)
  · skip
    exact absurd (by rw [hN]) c_2
  · skip
    refine cb_iload (pc := 5) O dX11_makes_5 rfl ?_
    refine cb_if_ne (pc := 7) O 14 dX11_makes_7 (by decide) (fun c_7 => ?_) (fun c_7 => ?_)
    · skip
      have hm : ¬ mkb A u 0 c (Nat.testBit l) = true := fun h => c_7 (by rw [(mkb_z hl).mp h]; rfl)
      refine cb_iconst (pc := 14) (v := 0) O dX11_makes_14 (by decide) ?_
      exact cb_iret (pc := 15) O Rt rfl (Nat.le_of_ble_eq_true rfl) (Nat.le_of_ble_eq_true rfl) dX11_makes_15 (by
        refine ⟨?_, hM, cb_C1.rfl', fun _ _ => rfl, fun _ j hj => absurd hj (by omega)⟩
        first | rw [if_pos hm] | rw [if_neg hm])
    · skip
      have hm : mkb A u 0 c (Nat.testBit l) = true := (mkb_z hl).mpr (by
        rw [show (0 : Int32) = nI 0 from rfl, nI_eq (by omega) (by omega)] at c_7
        exact c_7)
      refine cb_iconst (pc := 10) (v := 1) O dX11_makes_10 (by decide) ?_
      refine cb_goto (pc := 11) O 15 dX11_makes_11 (by decide) ?_
      exact cb_iret (pc := 15) O Rt rfl (Nat.le_of_ble_eq_true rfl) (Nat.le_of_ble_eq_true rfl) dX11_makes_15 (by
        refine ⟨?_, hM, cb_C1.rfl', fun _ _ => rfl, fun _ j hj => absurd hj (by omega)⟩
        first | rw [if_pos hm] | rw [if_neg hm])

theorem c_mk_S (w : cb_W) (A : ca_A) (z : Int32) (hI : ca_I A) (hM : cm_I w A z) (u k N c l : Nat) (hu : u ≤ 1023) (d : Nat) (ih : MkC A z u d) (hN : N = k + (d + 1)) (h5 : N ≤ 5) (hc : c < 16) (hl : l < 65536) : cb_Con yX11_makes cX11_makes 8 (some .boolean) (d + 1) (27 * (d + 1)) 0 0 (fun _ => true) [.inr (some 1000), .inl (nI k), .inl (nI N), .inl (nI u), .inl (nI c), .inl (nI l)] w (cb_pi (mkP A z u (d + 1) k c l w)) := by
  refine cb_con (by decide) (Nat.le_of_ble_eq_true rfl) (fun κ O Rt hnm => ?_)
  show cb_X κ w 0 0 0 [some (.inr (some 1000)), some (.inl (nI k)), some (.inl (nI N)), some (.inl (nI u)), some (.inl (nI c)), some (.inl (nI l)), none, none] []
  refine cb_iload_n (pc := 0) O dX11_makes_0 rfl ?_
  refine cb_iload_n (pc := 1) O dX11_makes_1 rfl ?_
  refine cb_icmp_ne (pc := 2) O 16 dX11_makes_2 (by decide) (fun c_2 => ?_) (fun c_2 => ?_)
  · skip
    refine cb_iconst (pc := 16) (v := 0) O dX11_makes_16 (by decide) ?_
    refine cb_istore (pc := 17) O dX11_makes_17 (by decide) ?_
    dsimp only [List.set]
    have L_19 : ∀ (n : Nat) (i : Nat) (w9 : cb_W) (x7 : Option cb_V), i ≤ 10 → cm_I w9 A z → cb_C1 w w9 → (∀ j, j < k → w9.2.1 1032 j = w.2.1 1032 j) → (∀ j, j < i → fib A u d c (Nat.testBit l) j = false) → 11 ≤ i + n → cb_X κ w9 0 0 19 [some (.inr (some 1000)), some (.inl (nI k)), some (.inl (nI N)), some (.inl (nI u)), some (.inl (nI c)), some (.inl (nI l)), some (.inl (nI i)), x7] [] := by
      intro n
      induction n with
      | zero =>
        intro i w9 x7 hi hM9 hC9 hk9 hf9 hn
        exact absurd hn (by omega)
      | succ n ih_19 =>
        intro i w9 x7 hi hM9 hC9 hk9 hf9 hn
        refine cb_iload (pc := 19) O dX11_makes_19 rfl ?_
        refine cb_bipush (pc := 21) (v := 10) O dX11_makes_21 (by decide) ?_
        refine cb_icmp_ge (pc := 23) O 90 dX11_makes_23 (by decide) (fun c_23 => ?_) (fun c_23 => ?_)
        · skip
          have e : i = 10 := by
            have := ci_ge (b := 10) c_23 (by omega) (by decide)
            omega
          subst e
          refine cb_iconst (pc := 90) (v := 0) O dX11_makes_90 (by decide) ?_
          exact cb_iret (pc := 91) O Rt rfl (Nat.le_of_ble_eq_true rfl) (Nat.le_of_ble_eq_true rfl) dX11_makes_91 (by
            have hno : ¬ mkb A u (d + 1) c (Nat.testBit l) = true := fi_no hf9
            exact ⟨by rw [if_neg hno], hM9, hC9, hk9, fun h => absurd h hno⟩)
        · skip
          have hlt : i < 10 := ci_nge (b := 10) c_23 (by omega) (by decide)
          have h16 : (A 3 (16 * i + c)) < 16 := hI.2.2.1.1 _
          have hrl := rmb_le l (A 3 (16 * i + c))
          refine cb_iload_n (pc := 26) O dX11_makes_26 rfl ?_
          refine cb_iload (pc := 27) O dX11_makes_27 rfl ?_
          refine cb_ishr (pc := 29) O dX11_makes_29 ?_
          refine cb_iconst (pc := 30) (v := 1) O dX11_makes_30 (by decide) ?_
          refine cb_iand (pc := 31) O dX11_makes_31 ?_
          refine cb_iconst (pc := 32) (v := 1) O dX11_makes_32 (by decide) ?_
          refine cb_icmp_ne (pc := 33) O 84 dX11_makes_33 (by decide) (fun c_33 => ?_) (fun c_33 => ?_)
          · skip
            rw [ci_bit (by omega) (by omega)] at c_33
            have hfn : fib A u d c (Nat.testBit l) i = false := by
              cases e : fib A u d c (Nat.testBit l) i
              · rfl
              · exact absurd (fib_t.mp e).1 c_33
            refine cb_iinc (pc := 84) O (nI (i + 1)) dX11_makes_84 rfl (by decide) (ci_inc i) ?_
            dsimp only [List.set]
            refine cb_goto (pc := 87) O 19 dX11_makes_87 (by decide) ?_
            first
            | exact ih_19 (i + 1) w9 _ (by omega) hM9 hC9 hk9 (fun j h => by
                rcases Nat.lt_or_ge j i with h1 | h1
                · exact hf9 j h1
                · rw [show j = i by omega]; exact hfn) (by omega)
            | exact ih_19 (i + 1) w_76 _ (by omega) hM2 hC3 hk3 (fun j h => by
                rcases Nat.lt_or_ge j i with h1 | h1
                · exact hf9 j h1
                · rw [show j = i by omega]; exact hfn) (by omega)
          · skip
            rw [ci_bit (by omega) (by omega)] at c_33
            refine cb_aload_n (pc := 36) O dX11_makes_36 rfl ?_
            refine cb_getR (pc := 37) O fl_X11_74 rfl rfl dX11_makes_37 (by first | exact hM9.1.1 _ rfl | (simp only [cb_um]; exact hM9.1.1 _ rfl)) (by first | exact hM9.1.2 _ _ _ rfl | (simp only [cb_um]; exact hM9.1.2 _ _ _ rfl)) ?_
            refine cb_iload_n (pc := 40) O dX11_makes_40 rfl ?_
            refine cb_iload (pc := 41) O dX11_makes_41 rfl ?_
            refine cb_iast (pc := 43) O k rfl dX11_makes_43 (by decide) (by first | exact hM9.1.1 _ rfl | (simp only [cb_um]; exact hM9.1.1 _ rfl)) rfl (by omega) ?_
            refine cb_aload_n (pc := 44) O dX11_makes_44 rfl ?_
            refine cb_getR (pc := 45) O fl_X11_9 rfl rfl dX11_makes_45 (by first | exact hM9.1.1 _ rfl | (simp only [cb_um]; exact hM9.1.1 _ rfl)) (by first | exact hM9.1.2 _ _ _ rfl | (simp only [cb_um]; exact hM9.1.2 _ _ _ rfl)) ?_
            refine cb_bipush (pc := 48) (v := 16) O dX11_makes_48 (by decide) ?_
            refine cb_iload (pc := 50) O dX11_makes_50 rfl ?_
            refine cb_imul (pc := 52) O dX11_makes_52 ?_
            refine cb_iload (pc := 53) O dX11_makes_53 rfl ?_
            refine cb_iadd (pc := 55) O dX11_makes_55 ?_
            refine cb_topv _ (ci_m16 _ _) ?_
            refine cb_iald (pc := 56) O (16 * i + c) rfl dX11_makes_56 (by decide) (by first | exact hM9.1.1 _ rfl | (simp only [cb_um]; exact hM9.1.1 _ rfl)) rfl (by omega) ?_
            refine cb_topv (nI (A 3 (16 * i + c))) (by
              simp only [cb_um]
              rw [cb_u2n (by omega)]
              exact cm_at hM9 3 _ (by simp [ca_R]; omega) (by omega)) ?_
            refine cb_istore (pc := 57) O dX11_makes_57 (by decide) ?_
            dsimp only [List.set]
            refine cb_aload_n (pc := 59) O dX11_makes_59 rfl ?_
            refine cb_iload_n (pc := 60) O dX11_makes_60 rfl ?_
            refine cb_iconst (pc := 61) (v := 1) O dX11_makes_61 (by decide) ?_
            refine cb_iadd (pc := 62) O dX11_makes_62 ?_
            refine cb_topv (nI (k + 1)) (nI_add _ _) ?_
            refine cb_iload_n (pc := 63) O dX11_makes_63 rfl ?_
            refine cb_iload_n (pc := 64) O dX11_makes_64 rfl ?_
            refine cb_iload (pc := 65) O dX11_makes_65 rfl ?_
            refine cb_iload (pc := 67) O dX11_makes_67 rfl ?_
            refine cb_iconst (pc := 69) (v := 1) O dX11_makes_69 (by decide) ?_
            refine cb_iload (pc := 70) O dX11_makes_70 rfl ?_
            refine cb_ishl (pc := 72) O dX11_makes_72 ?_
            refine cb_topv _ (ci_shl h16) ?_
            refine cb_iconst (pc := 73) (v := (-1)) O dX11_makes_73 (by decide) ?_
            refine cb_ixor (pc := 74) O dX11_makes_74 ?_
            refine cb_iand (pc := 75) O dX11_makes_75 ?_
            refine cb_topv _ (ci_rm l (A 3 (16 * i + c))) ?_
            refine cb_cVi (pc := 76) O (ih (cb_um w9 1032 k (nI i)) (hM9.sc (k := 32) (by omega) _ (by simp [ca_R])) (k + 1) N (A 3 (16 * i + c)) (rmb l (A 3 (16 * i + c))) (by omega) h5 h16 (by omega)) my_X11_makes mi_X11_makes mx_X11_makes ml_X11_188 dX11_makes_76 rfl ct_11 rfl rfl rfl ⟨by show d + 1 ≤ d + 1; omega, by show 8 + (8 + 11) + 27 * d ≤ 27 * (d + 1); omega⟩ (Nat.le_of_ble_eq_true rfl) rfl ⟨(Nat.le_of_ble_eq_true rfl), (Nat.le_of_ble_eq_true rfl)⟩ (fun _ _ => rfl) (by first | exact hM9.1.1 _ rfl | (simp only [cb_um]; exact hM9.1.1 _ rfl)) (fun x_76 w_76 hp_76 => ?_)
            obtain ⟨rfl, hM2, hC2, hk2, hr2⟩ := hp_76
            have hC3 : cb_C1 w w_76 := (hC9.um (by omega)).trans hC2
            have hk3 : ∀ j, j < k → w_76.2.1 1032 j = w.2.1 1032 j := fun j hj => by
              rw [hk2 j (by omega), ← hk9 j hj]
              simp only [cb_um]
              rw [cb_u2n (by omega)]
            refine cb_ifp_eq (pc := 79) O 84 dX11_makes_79 (by decide) (fun c_79 => ?_) (fun c_79 => ?_)
            · skip
              have hfn : fib A u d c (Nat.testBit l) i = false := by
                cases e : fib A u d c (Nat.testBit l) i
                · rfl
                · exact absurd (by rw [rmb_rv hl]; exact (fib_t.mp e).2) c_79
              refine cb_iinc (pc := 84) O (nI (i + 1)) dX11_makes_84 rfl (by decide) (ci_inc i) ?_
              dsimp only [List.set]
              refine cb_goto (pc := 87) O 19 dX11_makes_87 (by decide) ?_
              first
              | exact ih_19 (i + 1) w9 _ (by omega) hM9 hC9 hk9 (fun j h => by
                  rcases Nat.lt_or_ge j i with h1 | h1
                  · exact hf9 j h1
                  · rw [show j = i by omega]; exact hfn) (by omega)
              | exact ih_19 (i + 1) w_76 _ (by omega) hM2 hC3 hk3 (fun j h => by
                  rcases Nat.lt_or_ge j i with h1 | h1
                  · exact hf9 j h1
                  · rw [show j = i by omega]; exact hfn) (by omega)
            · skip
              have hfy : fib A u d c (Nat.testBit l) i = true := fib_t.mpr ⟨c_33, by rw [← rmb_rv hl]; exact c_79⟩
              have hfi := fi_eq hlt hfy hf9
              have hmk : mkb A u (d + 1) c (Nat.testBit l) = true := mkb_S.mpr ⟨i, hlt, fib_t.mp hfy⟩
              refine cb_iconst (pc := 82) (v := 1) O dX11_makes_82 (by decide) ?_
              exact cb_iret (pc := 83) O Rt rfl (Nat.le_of_ble_eq_true rfl) (Nat.le_of_ble_eq_true rfl) dX11_makes_83 (by
                refine ⟨by rw [if_pos hmk], hM2, hC3, hk3, fun _ j hj => ?_⟩
                cases j with
                | zero =>
                  rw [show k + 0 = k from rfl, hk2 k (by omega)]
                  simp only [cb_um]
                  rw [cb_u2s]
                  show nI i = nI (fi A u d c (Nat.testBit l))
                  rw [hfi]
                | succ j =>
                  have h9 := hr2 c_79 j (by omega)
                  rw [show k + 1 + j = k + (j + 1) by omega] at h9
                  rw [h9]
                  show _ = nI (rwf A u d (A 3 (16 * fi A u d c (Nat.testBit l) + c)) (rv (Nat.testBit l) (A 3 (16 * fi A u d c (Nat.testBit l) + c))) j)
                  rw [hfi, rmb_rv hl])
    exact L_19 11 0 w none (by omega) hM cb_C1.rfl' (fun _ _ => rfl) (fun j h => absurd h (by omega)) (by omega)
  · skip
    rw [nI_eq (by omega) (by omega)] at c_2
    exfalso
    omega

theorem c_X11_makes {A : ca_A} {z : Int32} (hI : ca_I A) {u : Nat} (hu : u ≤ 1023) : ∀ d, MkC A z u d
  | 0 => fun w hM k N c l hN h5 hc hl => c_mk_0 w A z hI hM u k N c l hu (by omega) h5 hc hl
  | d + 1 => fun w hM k N c l hN h5 hc hl => c_mk_S w A z hI hM u k N c l hu d (c_X11_makes hI hu d) hN h5 hc hl
theorem c_X11_least (w : cb_W) (A : ca_A) (z : Int32) (hI : ca_I A) (hM : cm_I w A z) (u : Nat) (hu : u ≤ 1023) : cb_Con yX11_least cX11_least 4 (some .int) 7 189 0 0 (fun _ => true) [.inr (some 1000), .inl (nI u)] w (cb_pi (fun x w' => x = (if ln A u (nL A) < 6 then nI (ln A u (nL A)) else -4) ∧ cm_I w' A z ∧ cb_C1 w w' ∧ (ln A u (nL A) < 6 → ∀ j, j < ln A u (nL A) → w'.2.1 1032 j = nI (rwf A u (ln A u (nL A)) 0 (nL A) j)))) := by
  have hwl := wcs_lt hI 16
  have hrl := rmb_le (wcs A 16) 0
  refine cb_con (by decide) (Nat.le_of_ble_eq_true rfl) (fun κ O Rt hnm => ?_)
  show cb_X κ w 0 0 0 [some (.inr (some 1000)), some (.inl (nI u)), none, none] []
  refine cb_aload_n (pc := 0) O dX11_least_0 rfl ?_
  refine cb_cVp (pc := 1) O (c_X11_wantedColours w A z hI hM) my_X11_wantedColours mi_X11_wantedColours mx_X11_wantedColours ml_X11_192 dX11_least_1 rfl ct_11 rfl rfl rfl ⟨(Nat.le_of_ble_eq_true rfl), (Nat.le_of_ble_eq_true rfl)⟩ (Nat.le_of_ble_eq_true rfl) rfl ⟨(Nat.le_of_ble_eq_true rfl), (Nat.le_of_ble_eq_true rfl)⟩ (by first | exact hM9.1.1 _ rfl | exact hM.1.1 _ rfl) ?_
  refine cb_bipush (pc := 4) (v := (-2)) O dX11_least_4 (by decide) ?_
  refine cb_iand (pc := 6) O dX11_least_6 ?_
  refine cb_topv _ (ci_rm0 _) ?_
  refine cb_istore_n (pc := 7) O dX11_least_7 (by decide) ?_
  dsimp only [List.set]
  refine cb_iconst (pc := 8) (v := 0) O dX11_least_8 (by decide) ?_
  refine cb_istore_n (pc := 9) O dX11_least_9 (by decide) ?_
  dsimp only [List.set]
  have L_10 : ∀ (n : Nat) (m : Nat) (w9 : cb_W), m ≤ 6 → cm_I w9 A z → cb_C1 w w9 → (∀ j, j < m → ¬ mkb A u j 0 (nL A) = true) → 7 ≤ m + n → cb_X κ w9 0 0 10 [some (.inr (some 1000)), some (.inl (nI u)), some (.inl (nI (rmb (wcs A 16) 0))), some (.inl (nI m))] [] := by
    intro n
    induction n with
    | zero =>
      intro m w9 hm hM9 hC9 hf9 hn
      exact absurd hn (by omega)
    | succ n ih_10 =>
      intro m w9 hm hM9 hC9 hf9 hn
      refine cb_iload_n (pc := 10) O dX11_least_10 rfl ?_
      refine cb_iconst (pc := 11) (v := 5) O dX11_least_11 (by decide) ?_
      refine cb_icmp_gt (pc := 12) O 35 dX11_least_12 (by decide) (fun c_12 => ?_) (fun c_12 => ?_)
      · skip
        rw [show (5 : Int32) = nI 5 from rfl, nI_ltI (by omega) (by omega)] at c_12
        have e : m = 6 := by omega
        subst e
        have hln := ln_no hf9
        refine cb_bipush (pc := 35) (v := (-4)) O dX11_least_35 (by decide) ?_
        exact cb_iret (pc := 37) O Rt rfl (Nat.le_of_ble_eq_true rfl) (Nat.le_of_ble_eq_true rfl) dX11_least_37 (by
          rw [hln]
          exact ⟨by rw [if_neg (by omega)], hM9, hC9, fun h => absurd h (by omega)⟩)
      · skip
        rw [show (5 : Int32) = nI 5 from rfl, nI_ltI (by omega) (by omega)] at c_12
        refine cb_aload_n (pc := 15) O dX11_least_15 rfl ?_
        refine cb_iconst (pc := 16) (v := 0) O dX11_least_16 (by decide) ?_
        refine cb_iload_n (pc := 17) O dX11_least_17 rfl ?_
        refine cb_iload_n (pc := 18) O dX11_least_18 rfl ?_
        refine cb_iconst (pc := 19) (v := 0) O dX11_least_19 (by decide) ?_
        refine cb_iload_n (pc := 20) O dX11_least_20 rfl ?_
        refine cb_cVi (pc := 21) O (c_X11_makes hI hu m w9 hM9 0 m 0 (rmb (wcs A 16) 0) (by omega) (by omega) (by omega) (by omega)) my_X11_makes mi_X11_makes mx_X11_makes ml_X11_188 dX11_least_21 rfl ct_11 rfl rfl rfl ⟨by show m + 1 ≤ 7; omega, by show 8 + (8 + 11) + 27 * m ≤ 189; omega⟩ (Nat.le_of_ble_eq_true rfl) rfl ⟨(Nat.le_of_ble_eq_true rfl), (Nat.le_of_ble_eq_true rfl)⟩ (fun _ _ => rfl) (by first | exact hM9.1.1 _ rfl | exact hM.1.1 _ rfl) (fun x_21 w_21 hp_21 => ?_)
        obtain ⟨rfl, hM2, hC2, -, hr2⟩ := hp_21
        refine cb_ifp_eq (pc := 24) O 29 dX11_least_24 (by decide) (fun c_24 => ?_) (fun c_24 => ?_)
        · skip
          refine cb_iinc (pc := 29) O (nI (m + 1)) dX11_least_29 rfl (by decide) (ci_inc m) ?_
          dsimp only [List.set]
          refine cb_goto (pc := 32) O 10 dX11_least_32 (by decide) ?_
          exact ih_10 (m + 1) w_21 (by omega) hM2 (hC9.trans hC2) (fun j h => by
            rcases Nat.lt_or_ge j m with h1 | h1
            · exact hf9 j h1
            · rw [show j = m by omega]; exact c_24) (by omega)
        · skip
          have hln := ln_yes (by omega) c_24 hf9
          refine cb_iload_n (pc := 27) O dX11_least_27 rfl ?_
          exact cb_iret (pc := 28) O Rt rfl (Nat.le_of_ble_eq_true rfl) (Nat.le_of_ble_eq_true rfl) dX11_least_28 (by
            rw [hln]
            refine ⟨by rw [if_pos (by omega)], hM2, hC9.trans hC2, fun _ j hj => ?_⟩
            have h9 := hr2 c_24 j hj
            rw [Nat.zero_add] at h9
            exact h9)
  exact L_10 7 0 w (by omega) hM cb_C1.rfl' (fun j h => absurd h (by omega)) (by omega)

def fwB (A : ca_A) (U k m : Nat) : ca_A := fun q i => if q = 0 ∧ i = 33 then ln A U (nL A) + 1 else if q = 33 ∧ i < k then rwf A U (ln A U (nL A)) 0 (nL A) i else if q = 35 ∧ i < m then (if i / 4 < A 0 28 ∧ i % 4 < A 0 29 then fp A (rwf A U (ln A U (nL A)) 0 (nL A)) (A 31 i) (ln A U (nL A) + 1) else 0) else A q i
theorem fwB_0 (A : ca_A) (U : Nat) : cb_u2 A 0 33 (ln A U (nL A) + 1) = fwB A U 0 0 := by
  funext q i
  unfold fwB
  by_cases e : q = 0 ∧ i = 33
  · obtain ⟨rfl, rfl⟩ := e
    rw [cb_u2s, if_pos ⟨rfl, rfl⟩]
  · rw [cb_u2n (by omega), if_neg e, if_neg (by omega), if_neg (by omega)]
theorem fwB_k (A : ca_A) (U k : Nat) : cb_u2 (fwB A U k 0) 33 k (rwf A U (ln A U (nL A)) 0 (nL A) k) = fwB A U (k + 1) 0 := by
  funext q i
  by_cases e : q = 33 ∧ i = k
  · obtain ⟨rfl, rfl⟩ := e
    rw [cb_u2s]
    unfold fwB
    rw [if_neg (by omega), if_pos (by omega)]
  · rw [cb_u2n (by omega)]
    unfold fwB
    by_cases e1 : q = 0 ∧ i = 33
    · rw [if_pos e1, if_pos e1]
    · rw [if_neg e1, if_neg e1]
      by_cases e2 : q = 33 ∧ i < k
      · rw [if_pos e2, if_pos (c := q = 33 ∧ i < k + 1) (by omega)]
      · rw [if_neg e2, if_neg (c := q = 33 ∧ i < k + 1) (by omega)]
theorem fwB_m (A : ca_A) (U k m : Nat) : cb_u2 (fwB A U k m) 35 m (if m / 4 < A 0 28 ∧ m % 4 < A 0 29 then fp A (rwf A U (ln A U (nL A)) 0 (nL A)) (A 31 m) (ln A U (nL A) + 1) else 0) = fwB A U k (m + 1) := by
  funext q i
  by_cases e : q = 35 ∧ i = m
  · obtain ⟨rfl, rfl⟩ := e
    rw [cb_u2s]
    unfold fwB
    rw [if_neg (c := 35 = 0 ∧ i = 33) (by omega), if_neg (c := 35 = 33 ∧ i < k) (by omega), if_pos (c := 35 = 35 ∧ i < i + 1) (by omega)]
  · rw [cb_u2n (by omega)]
    unfold fwB
    by_cases e1 : q = 0 ∧ i = 33
    · rw [if_pos e1, if_pos e1]
    · rw [if_neg e1, if_neg e1]
      by_cases e2 : q = 33 ∧ i < k
      · rw [if_pos e2, if_pos e2]
      · rw [if_neg e2, if_neg e2]
        by_cases e3 : q = 35 ∧ i < m
        · rw [if_pos e3, if_pos (c := q = 35 ∧ i < m + 1) (by omega)]
        · rw [if_neg e3, if_neg (c := q = 35 ∧ i < m + 1) (by omega)]
theorem fwB_o {A : ca_A} {U k m q i : Nat} (h : ¬ (q = 0 ∧ i = 33) ∧ q ≠ 33 ∧ q ≠ 35) : fwB A U k m q i = A q i := by
  unfold fwB
  rw [if_neg h.1, if_neg (fun e => h.2.1 e.1), if_neg (fun e => h.2.2 e.1)]
theorem fwB_33 {A : ca_A} {U k m i : Nat} (h : i < k) : fwB A U k m 33 i = rwf A U (ln A U (nL A)) 0 (nL A) i := by
  unfold fwB
  rw [if_neg (by omega), if_pos ⟨rfl, h⟩]
theorem fp_st {A : ca_A} {r : Nat → Nat} {c p : Nat} (h : fp A r c p ≠ 0) : ∀ d, fp A r c (p + d) = fp A r c p
  | 0 => rfl
  | d + 1 => by
    have ih := fp_st h d
    show fp A r c (p + d + 1) = _
    rw [fp, ih, if_pos h]
theorem c_X11_isWantedB (w : cb_W) (A : ca_A) (hI : ca_I A) (hW : cb_MW w) (h28 : w.2.1 1000 28 = nI (A 0 28)) (h29 : w.2.1 1000 29 = nI (A 0 29)) (k : Nat) (hk : k < 1000) : cb_Pu yX11_isWanted cX11_isWanted 2 (some .boolean) 0 0 [.inr (some 1000), .inl (nI k)] w (if k / 4 < A 0 28 ∧ k % 4 < A 0 29 then 1 else 0) := by
  have l := hI.1
  refine cb_con (by decide) (Nat.le_of_ble_eq_true rfl) (fun κ O Rt hnm => ?_)
  show cb_X κ w 0 0 0 [some (.inr (some 1000)), some (.inl (nI k))] []
  refine cb_iload_n (pc := 0) O dX11_isWanted_0 rfl ?_
  refine cb_if_lt (pc := 1) O 28 dX11_isWanted_1 (by decide) (fun c_1 => ?_) (fun c_1 => ?_)
  · skip
    rw [ci_lt0, ci_n (by omega)] at c_1
    exfalso
    omega
    skip
  · skip
    refine cb_iload_n (pc := 4) O dX11_isWanted_4 rfl ?_
    refine cb_iconst (pc := 5) (v := 4) O dX11_isWanted_5 (by decide) ?_
    refine cb_idiv (pc := 6) O dX11_isWanted_6 (by decide) ?_
    refine cb_topv (nI (k / 4)) (ci_d4 (by omega)) ?_
    refine cb_aload_n (pc := 7) O dX11_isWanted_7 rfl ?_
    refine cb_getI (pc := 8) O fl_X11_179 rfl rfl dX11_isWanted_8 (by exact hW.1 _ rfl) ?_
    refine cb_topv _ h28 ?_
    refine cb_icmp_ge (pc := 11) O 28 dX11_isWanted_11 (by decide) (fun c_11 => ?_) (fun c_11 => ?_)
    · skip
      rw [nI_leI (by omega) (by omega)] at c_11
      refine cb_iconst (pc := 28) (v := 0) O dX11_isWanted_28 (by decide) ?_
      exact cb_iret (pc := 29) O Rt rfl (Nat.le_of_ble_eq_true rfl) (Nat.le_of_ble_eq_true rfl) dX11_isWanted_29 (by
        refine ⟨?_, rfl⟩
        split
        · first | rfl | (exfalso; omega)
        · first | rfl | (exfalso; omega))
    · skip
      rw [nI_leI (by omega) (by omega)] at c_11
      refine cb_iload_n (pc := 14) O dX11_isWanted_14 rfl ?_
      refine cb_iconst (pc := 15) (v := 4) O dX11_isWanted_15 (by decide) ?_
      refine cb_irem (pc := 16) O dX11_isWanted_16 (by decide) ?_
      refine cb_topv (nI (k % 4)) (ci_r4 (by omega)) ?_
      refine cb_aload_n (pc := 17) O dX11_isWanted_17 rfl ?_
      refine cb_getI (pc := 18) O fl_X11_182 rfl rfl dX11_isWanted_18 (by exact hW.1 _ rfl) ?_
      refine cb_topv _ h29 ?_
      refine cb_icmp_ge (pc := 21) O 28 dX11_isWanted_21 (by decide) (fun c_21 => ?_) (fun c_21 => ?_)
      · skip
        rw [nI_leI (by omega) (by omega)] at c_21
        refine cb_iconst (pc := 28) (v := 0) O dX11_isWanted_28 (by decide) ?_
        exact cb_iret (pc := 29) O Rt rfl (Nat.le_of_ble_eq_true rfl) (Nat.le_of_ble_eq_true rfl) dX11_isWanted_29 (by
          refine ⟨?_, rfl⟩
          split
          · first | rfl | (exfalso; omega)
          · first | rfl | (exfalso; omega))
      · skip
        rw [nI_leI (by omega) (by omega)] at c_21
        refine cb_iconst (pc := 24) (v := 1) O dX11_isWanted_24 (by decide) ?_
        refine cb_goto (pc := 25) O 29 dX11_isWanted_25 (by decide) ?_
        exact cb_iret (pc := 29) O Rt rfl (Nat.le_of_ble_eq_true rfl) (Nat.le_of_ble_eq_true rfl) dX11_isWanted_29 (by
          refine ⟨?_, rfl⟩
          split
          · first | rfl | (exfalso; omega)
          · first | rfl | (exfalso; omega))

theorem m_fewest (w : cb_W) (A : ca_A) (z : Int32) (hI : ca_I A) (hM : cm_I w A z) (u : Int32) : cb_Con yX11_fewest cX11_fewest 6 (some .int) 8 212 0 0 (fun _ => true) [.inr (some 1000), .inl u] w (cb_pi (fun x w' => x = sr_fewest A u ∧ cm_I w' (sA_fewest A u) z ∧ cb_C1 w w')) := by
  have l := hI.1
  refine cb_con (by decide) (Nat.le_of_ble_eq_true rfl) (fun κ O Rt hnm => ?_)
  show cb_X κ w 0 0 0 [some (.inr (some 1000)), some (.inl u), none, none, none, none] []
  refine cb_aload_n (pc := 0) O dX11_fewest_0 rfl ?_
  refine cb_getI (pc := 1) O fl_X11_179 rfl rfl dX11_fewest_1 (by first | exact hM9.1.1 _ rfl | (simp only [cb_um]; exact hM9.1.1 _ rfl) | exact hM2.1.1 _ rfl | exact hM.1.1 _ rfl) ?_
  refine cb_if_eq (pc := 4) O 18 dX11_fewest_4 (by decide) (fun c_4 => ?_) (fun c_4 => ?_)
  · skip
    rw [show w.2.1 1000 28 = nI (A 0 28) from cm_at hM 0 28 rfl (by omega), show (0 : Int32) = nI 0 from rfl, nI_eq (by omega) (by omega)] at c_4
    have hz : ¬ 0 < A 0 28 := by omega
    refine cb_iconst (pc := 18) (v := (-1)) O dX11_fewest_18 (by decide) ?_
    exact cb_iret (pc := 19) O Rt rfl (Nat.le_of_ble_eq_true rfl) (Nat.le_of_ble_eq_true rfl) dX11_fewest_19 (by
      have hv : ¬ sv_ink A u := fun h => by
        first | exact hz h.1 | exact c_15 h.2
      exact ⟨by rw [sr_fewest, if_neg hv], by rw [sA_fewest, if_neg (fun h => hv h.1)]; exact hM, cb_C1.rfl'⟩)
  · skip
    rw [show w.2.1 1000 28 = nI (A 0 28) from cm_at hM 0 28 rfl (by omega), show (0 : Int32) = nI 0 from rfl, nI_eq (by omega) (by omega)] at c_4
    have hz : 0 < A 0 28 := by omega
    refine cb_iload_n (pc := 7) O dX11_fewest_7 rfl ?_
    refine cb_iconst (pc := 8) (v := 0) O dX11_fewest_8 (by decide) ?_
    refine cb_sipush (pc := 9) (v := 1023) O dX11_fewest_9 (by decide) ?_
    refine cb_cSp (pc := 12) O (c_X11_within _ _ _ _) my_X11_within mt_X11_within ml_X11_90 dX11_fewest_12 rfl rfl ⟨(Nat.le_of_ble_eq_true rfl), (Nat.le_of_ble_eq_true rfl)⟩ (Nat.le_of_ble_eq_true rfl) rfl ⟨(Nat.le_of_ble_eq_true rfl), (Nat.le_of_ble_eq_true rfl)⟩ ?_
    refine cb_ifp_ne (pc := 15) O 20 dX11_fewest_15 (by decide) (fun c_15 => ?_) (fun c_15 => ?_)
    · skip
      have hv : sv_ink A u := ⟨hz, c_15⟩
      obtain ⟨u, hu, rfl⟩ := ci_in (n := 1023) c_15 rfl
      have hcl := ci_nz (n := u) (by omega)
      have h6l := ln_6 (A := A) (U := u) (L := nL A)
      refine cb_aload_n (pc := 20) O dX11_fewest_20 rfl ?_
      refine cb_iload_n (pc := 21) O dX11_fewest_21 rfl ?_
      refine cb_cVi (pc := 22) O (c_X11_least w A z hI hM u hu) my_X11_least mi_X11_least mx_X11_least ml_X11_196 dX11_fewest_22 rfl ct_11 rfl rfl rfl ⟨(Nat.le_of_ble_eq_true rfl), (Nat.le_of_ble_eq_true rfl)⟩ (Nat.le_of_ble_eq_true rfl) rfl ⟨(Nat.le_of_ble_eq_true rfl), (Nat.le_of_ble_eq_true rfl)⟩ (fun _ _ => rfl) (by first | exact hM9.1.1 _ rfl | (simp only [cb_um]; exact hM9.1.1 _ rfl) | exact hM2.1.1 _ rfl | exact hM.1.1 _ rfl) (fun x_22 w_22 hp_22 => ?_)
      obtain ⟨rfl, hM2, hC2, hr2⟩ := hp_22
      refine cb_istore_n (pc := 25) O dX11_fewest_25 (by decide) ?_
      dsimp only [List.set]
      refine cb_iload_n (pc := 26) O dX11_fewest_26 rfl ?_
      refine cb_if_ge (pc := 27) O 33 dX11_fewest_27 (by decide) (fun c_27 => ?_) (fun c_27 => ?_)
      · skip
        have h6 : ln A u (nL A) < 6 := Classical.byContradiction (fun h => by rw [if_neg h] at c_27; exact absurd c_27 (by decide))
        rw [if_pos h6]
        have hmk := ln_mk h6
        have hr3 := hr2 h6
        have h10 : ∀ i, i < ln A u (nL A) → rwf A u (ln A u (nL A)) 0 (nL A) i < 10 := fun i hi => rwf_10 hmk hi
        refine cb_aload_n (pc := 33) O dX11_fewest_33 rfl ?_
        refine cb_iload_n (pc := 34) O dX11_fewest_34 rfl ?_
        refine cb_putIc (pc := 35) O fl_X11_80 (Or.inl rfl) rfl rfl dX11_fewest_35 rfl rfl (by first | exact hM9.1.1 _ rfl | (simp only [cb_um]; exact hM9.1.1 _ rfl) | exact hM2.1.1 _ rfl | exact hM.1.1 _ rfl) ?_
        refine cb_iconst (pc := 38) (v := 0) O dX11_fewest_38 (by decide) ?_
        refine cb_istore_n (pc := 39) O dX11_fewest_39 (by decide) ?_
        dsimp only [List.set]
        have hM4 : cm_I (cb_um w_22 1000 33 (nI (ln A u (nL A)))) (fwB A u 0 0) z := by
          rw [← fwB_0]
          exact hM2.um (k := 0) (by omega) _ (fun _ => (nI_p1 _).symm)
        have L_40 : ∀ (n : Nat) (k : Nat) (w9 : cb_W) (x4 x5 : Option cb_V), k ≤ ln A u (nL A) → cm_I w9 (fwB A u k 0) z → cb_C1 w w9 → (∀ j, w9.2.1 1032 j = w_22.2.1 1032 j) → 7 ≤ k + n → cb_X κ w9 0 0 40 [some (.inr (some 1000)), some (.inl (nI u)), some (.inl (nI (ln A u (nL A)))), some (.inl (nI k)), x4, x5] [] := by
          intro n
          induction n with
          | zero =>
            intro k w9 x4 x5 hk hM9 hC9 h32 hn
            exact absurd hn (by omega)
          | succ n ih_40 =>
            intro k w9 x4 x5 hk hM9 hC9 h32 hn
            refine cb_iload_n (pc := 40) O dX11_fewest_40 rfl ?_
            refine cb_iload_n (pc := 41) O dX11_fewest_41 rfl ?_
            refine cb_icmp_ge (pc := 42) O 63 dX11_fewest_42 (by decide) (fun c_42 => ?_) (fun c_42 => ?_)
            · skip
              rw [nI_leI (by omega) (by omega)] at c_42
              have e : k = ln A u (nL A) := by omega
              subst e
              refine cb_iconst (pc := 63) (v := 0) O dX11_fewest_63 (by decide) ?_
              refine cb_istore_n (pc := 64) O dX11_fewest_64 (by decide) ?_
              dsimp only [List.set]
              have L_65 : ∀ (n : Nat) (k : Nat) (w9 : cb_W) (x4 x5 : Option cb_V), k ≤ 16 → cm_I w9 (fwB A u (ln A u (nL A)) k) z → cb_C1 w w9 → 17 ≤ k + n → cb_X κ w9 0 0 65 [some (.inr (some 1000)), some (.inl (nI u)), some (.inl (nI (ln A u (nL A)))), some (.inl (nI k)), x4, x5] [] := by
                intro n
                induction n with
                | zero =>
                  intro k w9 x4 x5 hk hM9 hC9 hn
                  exact absurd hn (by omega)
                | succ n ih_65 =>
                  intro k w9 x4 x5 hk hM9 hC9 hn
                  refine cb_iload_n (pc := 65) O dX11_fewest_65 rfl ?_
                  refine cb_bipush (pc := 66) (v := 16) O dX11_fewest_66 (by decide) ?_
                  refine cb_icmp_ge (pc := 68) O 173 dX11_fewest_68 (by decide) (fun c_68 => ?_) (fun c_68 => ?_)
                  · skip
                    have e : k = 16 := by
                      have := ci_ge (b := 16) c_68 (by omega) (by decide)
                      omega
                    subst e
                    refine cb_iload_n (pc := 173) O dX11_fewest_173 rfl ?_
                    exact cb_iret (pc := 174) O Rt rfl (Nat.le_of_ble_eq_true rfl) (Nat.le_of_ble_eq_true rfl) dX11_fewest_174 (by
                      refine ⟨?_, ?_, hC9⟩
                      · rw [sr_fewest, if_pos hv, hcl, if_pos h6]
                      · rw [sA_fewest, hcl, if_pos ⟨hv, h6⟩]
                        exact hM9)
                  · skip
                    have hlt : k < 16 := ci_nge (b := 16) c_68 (by omega) (by decide)
                    refine cb_aload_n (pc := 71) O dX11_fewest_71 rfl ?_
                    refine cb_getR (pc := 72) O fl_X11_84 rfl rfl dX11_fewest_72 (by first | exact hM9.1.1 _ rfl | (simp only [cb_um]; exact hM9.1.1 _ rfl) | exact hM2.1.1 _ rfl | exact hM.1.1 _ rfl) (by first | exact hM9.1.2 _ _ _ rfl | (simp only [cb_um]; exact hM9.1.2 _ _ _ rfl) | exact hM2.1.2 _ _ _ rfl) ?_
                    refine cb_iload_n (pc := 75) O dX11_fewest_75 rfl ?_
                    refine cb_iconst (pc := 76) (v := (-1)) O dX11_fewest_76 (by decide) ?_
                    refine cb_iast (pc := 77) O k rfl dX11_fewest_77 (by decide) (by first | exact hM9.1.1 _ rfl | (simp only [cb_um]; exact hM9.1.1 _ rfl) | exact hM2.1.1 _ rfl | exact hM.1.1 _ rfl) rfl (by omega) ?_
                    refine cb_iconst (pc := 78) (v := 0) O dX11_fewest_78 (by decide) ?_
                    refine cb_istore (pc := 79) O dX11_fewest_79 (by decide) ?_
                    dsimp only [List.set]
                    refine cb_iconst (pc := 81) (v := 0) O dX11_fewest_81 (by decide) ?_
                    refine cb_istore (pc := 82) O dX11_fewest_82 (by decide) ?_
                    dsimp only [List.set]
                    have L_84 : ∀ (n : Nat) (p v : Nat), p ≤ ln A u (nL A) + 1 → v = (if k / 4 < A 0 28 ∧ k % 4 < A 0 29 then fp A (rwf A u (ln A u (nL A)) 0 (nL A)) (A 31 k) p else 0) → 8 ≤ p + n → cb_X κ (cb_um w9 1035 k (nI v - 1)) 0 0 84 [some (.inr (some 1000)), some (.inl (nI u)), some (.inl (nI (ln A u (nL A)))), some (.inl (nI k)), some (.inl (nI (cf A (rwf A u (ln A u (nL A)) 0 (nL A)) (min p (ln A u (nL A)))))), some (.inl (nI p))] [] := by
                      intro n
                      induction n with
                      | zero =>
                        intro p v hp hv9 hn
                        exact absurd hn (by omega)
                      | succ n ih_84 =>
                        intro p v hp hv9 hn
                        refine cb_iload (pc := 84) O dX11_fewest_84 rfl ?_
                        refine cb_iload_n (pc := 86) O dX11_fewest_86 rfl ?_
                        refine cb_icmp_gt (pc := 87) O 167 dX11_fewest_87 (by decide) (fun c_87 => ?_) (fun c_87 => ?_)
                        · skip
                          rw [nI_ltI (by omega) (by omega)] at c_87
                          have hp9 : p = ln A u (nL A) + 1 := by omega
                          have hfin : v = (if k / 4 < A 0 28 ∧ k % 4 < A 0 29 then fp A (rwf A u (ln A u (nL A)) 0 (nL A)) (A 31 k) (ln A u (nL A) + 1) else 0) := by
                            rw [hv9, hp9]
                          refine cb_iinc (pc := 167) O (nI (k + 1)) dX11_fewest_167 rfl (by decide) (ci_inc k) ?_
                          dsimp only [List.set]
                          refine cb_goto (pc := 170) O 65 dX11_fewest_170 (by decide) ?_
                          exact ih_65 (k + 1) _ _ _ (by omega) (by rw [← fwB_m]; exact hM9.um (k := 35) (by omega) _ (fun _ => by rw [hfin]; rfl)) (hC9.um (by omega)) (by omega)
                        · skip
                          rw [nI_ltI (by omega) (by omega)] at c_87
                          refine cb_aload_n (pc := 90) O dX11_fewest_90 rfl ?_
                          refine cb_iload_n (pc := 91) O dX11_fewest_91 rfl ?_
                          refine cb_cVp (pc := 92) O (c_X11_isWantedB (cb_um w9 1035 k (nI v - 1)) A hI hM9.1 (by simp only [cb_um]; rw [cb_u2n (by omega), show w9.2.1 1000 28 = nI (fwB A u (ln A u (nL A)) k 0 28) from cm_at hM9 0 28 rfl (by omega), fwB_o (by omega)]) (by simp only [cb_um]; rw [cb_u2n (by omega), show w9.2.1 1000 29 = nI (fwB A u (ln A u (nL A)) k 0 29) from cm_at hM9 0 29 rfl (by omega), fwB_o (by omega)]) k (by omega)) my_X11_isWanted mi_X11_isWanted mx_X11_isWanted ml_X11_185 dX11_fewest_92 rfl ct_11 rfl rfl rfl ⟨(Nat.le_of_ble_eq_true rfl), (Nat.le_of_ble_eq_true rfl)⟩ (Nat.le_of_ble_eq_true rfl) rfl ⟨(Nat.le_of_ble_eq_true rfl), (Nat.le_of_ble_eq_true rfl)⟩ (by first | exact hM9.1.1 _ rfl | (simp only [cb_um]; exact hM9.1.1 _ rfl) | exact hM2.1.1 _ rfl | exact hM.1.1 _ rfl) ?_
                          refine cb_ifp_eq (pc := 95) O 167 dX11_fewest_95 (by decide) (fun c_95 => ?_) (fun c_95 => ?_)
                          · skip
                            have hfin : v = (if k / 4 < A 0 28 ∧ k % 4 < A 0 29 then fp A (rwf A u (ln A u (nL A)) 0 (nL A)) (A 31 k) (ln A u (nL A) + 1) else 0) := by
                              rw [hv9, if_neg c_95, if_neg c_95]
                            refine cb_iinc (pc := 167) O (nI (k + 1)) dX11_fewest_167 rfl (by decide) (ci_inc k) ?_
                            dsimp only [List.set]
                            refine cb_goto (pc := 170) O 65 dX11_fewest_170 (by decide) ?_
                            exact ih_65 (k + 1) _ _ _ (by omega) (by rw [← fwB_m]; exact hM9.um (k := 35) (by omega) _ (fun _ => by rw [hfin]; rfl)) (hC9.um (by omega)) (by omega)
                          · skip
                            rw [if_pos c_95] at hv9
                            have hvb : v ≤ p := by rw [hv9]; exact fp_le _ _ _ _
                            refine cb_aload_n (pc := 98) O dX11_fewest_98 rfl ?_
                            refine cb_getR (pc := 99) O fl_X11_84 rfl rfl dX11_fewest_99 (by first | exact hM9.1.1 _ rfl | (simp only [cb_um]; exact hM9.1.1 _ rfl) | exact hM2.1.1 _ rfl | exact hM.1.1 _ rfl) (by first | exact hM9.1.2 _ _ _ rfl | (simp only [cb_um]; exact hM9.1.2 _ _ _ rfl) | exact hM2.1.2 _ _ _ rfl) ?_
                            refine cb_iload_n (pc := 102) O dX11_fewest_102 rfl ?_
                            refine cb_iald (pc := 103) O k rfl dX11_fewest_103 (by decide) (by first | exact hM9.1.1 _ rfl | (simp only [cb_um]; exact hM9.1.1 _ rfl) | exact hM2.1.1 _ rfl | exact hM.1.1 _ rfl) rfl (by omega) ?_
                            refine cb_topv (nI v - 1) (by simp only [cb_um]; rw [cb_u2s]) ?_
                            refine cb_if_ge (pc := 104) O 167 dX11_fewest_104 (by decide) (fun c_104 => ?_) (fun c_104 => ?_)
                            · skip
                              have hfin : v = (if k / 4 < A 0 28 ∧ k % 4 < A 0 29 then fp A (rwf A u (ln A u (nL A)) 0 (nL A)) (A 31 k) (ln A u (nL A) + 1) else 0) := by
                                have hv0 : fp A (rwf A u (ln A u (nL A)) 0 (nL A)) (A 31 k) p ≠ 0 := fun e => by
                                  rw [hv9, e] at c_104
                                  exact absurd c_104 (by decide)
                                rw [if_pos c_95, hv9, show ln A u (nL A) + 1 = p + (ln A u (nL A) + 1 - p) by omega, fp_st hv0]
                              refine cb_iinc (pc := 167) O (nI (k + 1)) dX11_fewest_167 rfl (by decide) (ci_inc k) ?_
                              dsimp only [List.set]
                              refine cb_goto (pc := 170) O 65 dX11_fewest_170 (by decide) ?_
                              exact ih_65 (k + 1) _ _ _ (by omega) (by rw [← fwB_m]; exact hM9.um (k := 35) (by omega) _ (fun _ => by rw [hfin]; rfl)) (hC9.um (by omega)) (by omega)
                            · skip
                              have hv0 : v = 0 := by
                                rcases Nat.eq_zero_or_pos v with e | e
                                · exact e
                                · exact absurd (by rw [ci_p1 e, ci_0le, ci_n (by omega)]; omega) c_104
                              have hf0 : fp A (rwf A u (ln A u (nL A)) 0 (nL A)) (A 31 k) p = 0 := by rw [← hv9]; exact hv0
                              have h16 := cf_16 hI (rwf A u (ln A u (nL A)) 0 (nL A)) p
                              have h31 := hI.2.2.2.2.2.1.1 k
                              have hmn : min p (ln A u (nL A)) = p := by omega
                              rw [hmn]
                              refine cb_aload_n (pc := 107) O dX11_fewest_107 rfl ?_
                              refine cb_getR (pc := 108) O fl_X11_84 rfl rfl dX11_fewest_108 (by first | exact hM9.1.1 _ rfl | (simp only [cb_um]; exact hM9.1.1 _ rfl) | exact hM2.1.1 _ rfl | exact hM.1.1 _ rfl) (by first | exact hM9.1.2 _ _ _ rfl | (simp only [cb_um]; exact hM9.1.2 _ _ _ rfl) | exact hM2.1.2 _ _ _ rfl) ?_
                              refine cb_iload_n (pc := 111) O dX11_fewest_111 rfl ?_
                              refine cb_iload (pc := 112) O dX11_fewest_112 rfl ?_
                              refine cb_aload_n (pc := 114) O dX11_fewest_114 rfl ?_
                              refine cb_getR (pc := 115) O fl_X11_71 rfl rfl dX11_fewest_115 (by first | exact hM9.1.1 _ rfl | (simp only [cb_um]; exact hM9.1.1 _ rfl) | exact hM2.1.1 _ rfl | exact hM.1.1 _ rfl) (by first | exact hM9.1.2 _ _ _ rfl | (simp only [cb_um]; exact hM9.1.2 _ _ _ rfl) | exact hM2.1.2 _ _ _ rfl) ?_
                              refine cb_iload_n (pc := 118) O dX11_fewest_118 rfl ?_
                              refine cb_iald (pc := 119) O k rfl dX11_fewest_119 (by decide) (by first | exact hM9.1.1 _ rfl | (simp only [cb_um]; exact hM9.1.1 _ rfl) | exact hM2.1.1 _ rfl | exact hM.1.1 _ rfl) rfl (by omega) ?_
                              refine cb_topv (nI (A 31 k)) (by
                                simp only [cb_um]
                                rw [cb_u2n (by omega), show w9.2.1 1031 k = nI (fwB A u (ln A u (nL A)) k 31 k) from cm_at hM9 31 _ (by simp [ca_R]; omega) (by omega), fwB_o (by omega)]) ?_
                              refine cb_icmp_ne (pc := 120) O 128 dX11_fewest_120 (by decide) (fun c_120 => ?_) (fun c_120 => ?_)
                              · skip
                                rw [nI_eq (by omega) (by omega)] at c_120
                                have hfs : fp A (rwf A u (ln A u (nL A)) 0 (nL A)) (A 31 k) (p + 1) = 0 := by
                                  rw [fp, if_neg (fun h => h hf0), if_neg c_120]
                                refine cb_iconst (pc := 128) (v := (-1)) O dX11_fewest_128 (by decide) ?_
                                refine cb_topv (nI (fp A (rwf A u (ln A u (nL A)) 0 (nL A)) (A 31 k) (p + 1)) - 1) (by rw [hfs]; rfl) ?_
                                refine cb_iast (pc := 129) O k rfl dX11_fewest_129 (by decide) (by first | exact hM9.1.1 _ rfl | (simp only [cb_um]; exact hM9.1.1 _ rfl) | exact hM2.1.1 _ rfl | exact hM.1.1 _ rfl) rfl (by omega) ?_
                                refine cb_eqw (cb_um w9 1035 k (nI (fp A (rwf A u (ln A u (nL A)) 0 (nL A)) (A 31 k) (p + 1)) - 1)) (by
                                  simp only [cb_um]
                                  rw [cb_u2t]) ?_
                                refine cb_iload (pc := 130) O dX11_fewest_130 rfl ?_
                                refine cb_iload_n (pc := 132) O dX11_fewest_132 rfl ?_
                                refine cb_icmp_ge (pc := 133) O 157 dX11_fewest_133 (by decide) (fun c_133 => ?_) (fun c_133 => ?_)
                                · skip
                                  rw [nI_leI (by omega) (by omega)] at c_133
                                  have hmn2 : min (p + 1) (ln A u (nL A)) = p := by omega
                                  refine cb_iload (pc := 157) O dX11_fewest_157 rfl ?_
                                  refine cb_topv (nI (cf A (rwf A u (ln A u (nL A)) 0 (nL A)) (min (p + 1) (ln A u (nL A))))) (by rw [hmn2]) ?_
                                  refine cb_istore (pc := 159) O dX11_fewest_159 (by decide) ?_
                                  dsimp only [List.set]
                                  refine cb_iinc (pc := 161) O (nI (p + 1)) dX11_fewest_161 rfl (by decide) (ci_inc p) ?_
                                  dsimp only [List.set]
                                  refine cb_goto (pc := 164) O 84 dX11_fewest_164 (by decide) ?_
                                  exact ih_84 (p + 1) _ (by omega) (by rw [if_pos c_95]) (by omega)
                                · skip
                                  rw [nI_leI (by omega) (by omega)] at c_133
                                  have hmn2 : min (p + 1) (ln A u (nL A)) = p + 1 := by omega
                                  have hp10 := h10 p (by omega)
                                  refine cb_aload_n (pc := 136) O dX11_fewest_136 rfl ?_
                                  refine cb_getR (pc := 137) O fl_X11_9 rfl rfl dX11_fewest_137 (by first | exact hM9.1.1 _ rfl | (simp only [cb_um]; exact hM9.1.1 _ rfl) | exact hM2.1.1 _ rfl | exact hM.1.1 _ rfl) (by first | exact hM9.1.2 _ _ _ rfl | (simp only [cb_um]; exact hM9.1.2 _ _ _ rfl) | exact hM2.1.2 _ _ _ rfl) ?_
                                  refine cb_bipush (pc := 140) (v := 16) O dX11_fewest_140 (by decide) ?_
                                  refine cb_aload_n (pc := 142) O dX11_fewest_142 rfl ?_
                                  refine cb_getR (pc := 143) O fl_X11_77 rfl rfl dX11_fewest_143 (by first | exact hM9.1.1 _ rfl | (simp only [cb_um]; exact hM9.1.1 _ rfl) | exact hM2.1.1 _ rfl | exact hM.1.1 _ rfl) (by first | exact hM9.1.2 _ _ _ rfl | (simp only [cb_um]; exact hM9.1.2 _ _ _ rfl) | exact hM2.1.2 _ _ _ rfl) ?_
                                  refine cb_iload (pc := 146) O dX11_fewest_146 rfl ?_
                                  refine cb_iald (pc := 148) O p rfl dX11_fewest_148 (by decide) (by first | exact hM9.1.1 _ rfl | (simp only [cb_um]; exact hM9.1.1 _ rfl) | exact hM2.1.1 _ rfl | exact hM.1.1 _ rfl) rfl (by omega) ?_
                                  refine cb_topv (nI (rwf A u (ln A u (nL A)) 0 (nL A) p)) (by
                                    simp only [cb_um]
                                    rw [cb_u2n (by omega), show w9.2.1 1033 p = nI (fwB A u (ln A u (nL A)) k 33 p) from cm_at hM9 33 _ (by simp [ca_R]; omega) (by omega), fwB_33 (by omega)]) ?_
                                  refine cb_imul (pc := 149) O dX11_fewest_149 ?_
                                  refine cb_iload (pc := 150) O dX11_fewest_150 rfl ?_
                                  refine cb_iadd (pc := 152) O dX11_fewest_152 ?_
                                  refine cb_topv _ (ci_m16 _ _) ?_
                                  refine cb_iald (pc := 153) O (16 * rwf A u (ln A u (nL A)) 0 (nL A) p + cf A (rwf A u (ln A u (nL A)) 0 (nL A)) p) rfl dX11_fewest_153 (by decide) (by first | exact hM9.1.1 _ rfl | (simp only [cb_um]; exact hM9.1.1 _ rfl) | exact hM2.1.1 _ rfl | exact hM.1.1 _ rfl) rfl (by omega) ?_
                                  refine cb_topv (nI (cf A (rwf A u (ln A u (nL A)) 0 (nL A)) (p + 1))) (by
                                    simp only [cb_um]
                                    rw [cb_u2n (by omega)]
                                    refine Eq.trans (cm_at hM9 3 _ (by simp [ca_R]; omega) (by omega)) ?_
                                    rw [fwB_o (by omega)]
                                    rfl) ?_
                                  refine cb_goto (pc := 154) O 159 dX11_fewest_154 (by decide) ?_
                                  refine cb_topv (nI (cf A (rwf A u (ln A u (nL A)) 0 (nL A)) (min (p + 1) (ln A u (nL A))))) (by rw [hmn2]) ?_
                                  refine cb_istore (pc := 159) O dX11_fewest_159 (by decide) ?_
                                  dsimp only [List.set]
                                  refine cb_iinc (pc := 161) O (nI (p + 1)) dX11_fewest_161 rfl (by decide) (ci_inc p) ?_
                                  dsimp only [List.set]
                                  refine cb_goto (pc := 164) O 84 dX11_fewest_164 (by decide) ?_
                                  exact ih_84 (p + 1) _ (by omega) (by rw [if_pos c_95]) (by omega)
                              · skip
                                rw [nI_eq (by omega) (by omega)] at c_120
                                have hfs : fp A (rwf A u (ln A u (nL A)) 0 (nL A)) (A 31 k) (p + 1) = p + 1 := by
                                  rw [fp, if_neg (fun h => h hf0), if_pos c_120]
                                refine cb_iload (pc := 123) O dX11_fewest_123 rfl ?_
                                refine cb_topv (nI (fp A (rwf A u (ln A u (nL A)) 0 (nL A)) (A 31 k) (p + 1)) - 1) (by rw [hfs, nI_p1]) ?_
                                refine cb_goto (pc := 125) O 129 dX11_fewest_125 (by decide) ?_
                                refine cb_iast (pc := 129) O k rfl dX11_fewest_129 (by decide) (by first | exact hM9.1.1 _ rfl | (simp only [cb_um]; exact hM9.1.1 _ rfl) | exact hM2.1.1 _ rfl | exact hM.1.1 _ rfl) rfl (by omega) ?_
                                refine cb_eqw (cb_um w9 1035 k (nI (fp A (rwf A u (ln A u (nL A)) 0 (nL A)) (A 31 k) (p + 1)) - 1)) (by
                                  simp only [cb_um]
                                  rw [cb_u2t]) ?_
                                refine cb_iload (pc := 130) O dX11_fewest_130 rfl ?_
                                refine cb_iload_n (pc := 132) O dX11_fewest_132 rfl ?_
                                refine cb_icmp_ge (pc := 133) O 157 dX11_fewest_133 (by decide) (fun c_133 => ?_) (fun c_133 => ?_)
                                · skip
                                  rw [nI_leI (by omega) (by omega)] at c_133
                                  have hmn2 : min (p + 1) (ln A u (nL A)) = p := by omega
                                  refine cb_iload (pc := 157) O dX11_fewest_157 rfl ?_
                                  refine cb_topv (nI (cf A (rwf A u (ln A u (nL A)) 0 (nL A)) (min (p + 1) (ln A u (nL A))))) (by rw [hmn2]) ?_
                                  refine cb_istore (pc := 159) O dX11_fewest_159 (by decide) ?_
                                  dsimp only [List.set]
                                  refine cb_iinc (pc := 161) O (nI (p + 1)) dX11_fewest_161 rfl (by decide) (ci_inc p) ?_
                                  dsimp only [List.set]
                                  refine cb_goto (pc := 164) O 84 dX11_fewest_164 (by decide) ?_
                                  exact ih_84 (p + 1) _ (by omega) (by rw [if_pos c_95]) (by omega)
                                · skip
                                  rw [nI_leI (by omega) (by omega)] at c_133
                                  have hmn2 : min (p + 1) (ln A u (nL A)) = p + 1 := by omega
                                  have hp10 := h10 p (by omega)
                                  refine cb_aload_n (pc := 136) O dX11_fewest_136 rfl ?_
                                  refine cb_getR (pc := 137) O fl_X11_9 rfl rfl dX11_fewest_137 (by first | exact hM9.1.1 _ rfl | (simp only [cb_um]; exact hM9.1.1 _ rfl) | exact hM2.1.1 _ rfl | exact hM.1.1 _ rfl) (by first | exact hM9.1.2 _ _ _ rfl | (simp only [cb_um]; exact hM9.1.2 _ _ _ rfl) | exact hM2.1.2 _ _ _ rfl) ?_
                                  refine cb_bipush (pc := 140) (v := 16) O dX11_fewest_140 (by decide) ?_
                                  refine cb_aload_n (pc := 142) O dX11_fewest_142 rfl ?_
                                  refine cb_getR (pc := 143) O fl_X11_77 rfl rfl dX11_fewest_143 (by first | exact hM9.1.1 _ rfl | (simp only [cb_um]; exact hM9.1.1 _ rfl) | exact hM2.1.1 _ rfl | exact hM.1.1 _ rfl) (by first | exact hM9.1.2 _ _ _ rfl | (simp only [cb_um]; exact hM9.1.2 _ _ _ rfl) | exact hM2.1.2 _ _ _ rfl) ?_
                                  refine cb_iload (pc := 146) O dX11_fewest_146 rfl ?_
                                  refine cb_iald (pc := 148) O p rfl dX11_fewest_148 (by decide) (by first | exact hM9.1.1 _ rfl | (simp only [cb_um]; exact hM9.1.1 _ rfl) | exact hM2.1.1 _ rfl | exact hM.1.1 _ rfl) rfl (by omega) ?_
                                  refine cb_topv (nI (rwf A u (ln A u (nL A)) 0 (nL A) p)) (by
                                    simp only [cb_um]
                                    rw [cb_u2n (by omega), show w9.2.1 1033 p = nI (fwB A u (ln A u (nL A)) k 33 p) from cm_at hM9 33 _ (by simp [ca_R]; omega) (by omega), fwB_33 (by omega)]) ?_
                                  refine cb_imul (pc := 149) O dX11_fewest_149 ?_
                                  refine cb_iload (pc := 150) O dX11_fewest_150 rfl ?_
                                  refine cb_iadd (pc := 152) O dX11_fewest_152 ?_
                                  refine cb_topv _ (ci_m16 _ _) ?_
                                  refine cb_iald (pc := 153) O (16 * rwf A u (ln A u (nL A)) 0 (nL A) p + cf A (rwf A u (ln A u (nL A)) 0 (nL A)) p) rfl dX11_fewest_153 (by decide) (by first | exact hM9.1.1 _ rfl | (simp only [cb_um]; exact hM9.1.1 _ rfl) | exact hM2.1.1 _ rfl | exact hM.1.1 _ rfl) rfl (by omega) ?_
                                  refine cb_topv (nI (cf A (rwf A u (ln A u (nL A)) 0 (nL A)) (p + 1))) (by
                                    simp only [cb_um]
                                    rw [cb_u2n (by omega)]
                                    refine Eq.trans (cm_at hM9 3 _ (by simp [ca_R]; omega) (by omega)) ?_
                                    rw [fwB_o (by omega)]
                                    rfl) ?_
                                  refine cb_goto (pc := 154) O 159 dX11_fewest_154 (by decide) ?_
                                  refine cb_topv (nI (cf A (rwf A u (ln A u (nL A)) 0 (nL A)) (min (p + 1) (ln A u (nL A))))) (by rw [hmn2]) ?_
                                  refine cb_istore (pc := 159) O dX11_fewest_159 (by decide) ?_
                                  dsimp only [List.set]
                                  refine cb_iinc (pc := 161) O (nI (p + 1)) dX11_fewest_161 rfl (by decide) (ci_inc p) ?_
                                  dsimp only [List.set]
                                  refine cb_goto (pc := 164) O 84 dX11_fewest_164 (by decide) ?_
                                  exact ih_84 (p + 1) _ (by omega) (by rw [if_pos c_95]) (by omega)
                    refine cb_eqX (w' := cb_um w9 1035 k (nI 0 - 1)) (lv' := [some (.inr (some 1000)), some (.inl (nI u)), some (.inl (nI (ln A u (nL A)))), some (.inl (nI k)), some (.inl (nI (cf A (rwf A u (ln A u (nL A)) 0 (nL A)) (min 0 (ln A u (nL A)))))), some (.inl (nI 0))]) rfl rfl (by rw [Nat.zero_min]; rfl) rfl ?_
                    exact L_84 8 0 0 (by omega) (by split <;> rfl) (by omega)
              exact L_65 17 0 w9 _ _ (by omega) hM9 hC9 (by omega)
            · skip
              rw [nI_leI (by omega) (by omega)] at c_42
              refine cb_aload_n (pc := 45) O dX11_fewest_45 rfl ?_
              refine cb_getR (pc := 46) O fl_X11_77 rfl rfl dX11_fewest_46 (by first | exact hM9.1.1 _ rfl | (simp only [cb_um]; exact hM9.1.1 _ rfl) | exact hM2.1.1 _ rfl | exact hM.1.1 _ rfl) (by first | exact hM9.1.2 _ _ _ rfl | (simp only [cb_um]; exact hM9.1.2 _ _ _ rfl) | exact hM2.1.2 _ _ _ rfl) ?_
              refine cb_iload_n (pc := 49) O dX11_fewest_49 rfl ?_
              refine cb_aload_n (pc := 50) O dX11_fewest_50 rfl ?_
              refine cb_getR (pc := 51) O fl_X11_74 rfl rfl dX11_fewest_51 (by first | exact hM9.1.1 _ rfl | (simp only [cb_um]; exact hM9.1.1 _ rfl) | exact hM2.1.1 _ rfl | exact hM.1.1 _ rfl) (by first | exact hM9.1.2 _ _ _ rfl | (simp only [cb_um]; exact hM9.1.2 _ _ _ rfl) | exact hM2.1.2 _ _ _ rfl) ?_
              refine cb_iload_n (pc := 54) O dX11_fewest_54 rfl ?_
              refine cb_iald (pc := 55) O k rfl dX11_fewest_55 (by decide) (by first | exact hM9.1.1 _ rfl | (simp only [cb_um]; exact hM9.1.1 _ rfl) | exact hM2.1.1 _ rfl | exact hM.1.1 _ rfl) rfl (by omega) ?_
              refine cb_topv (nI (rwf A u (ln A u (nL A)) 0 (nL A) k)) (by rw [h32 k]; exact hr3 k (by omega)) ?_
              refine cb_iast (pc := 56) O k rfl dX11_fewest_56 (by decide) (by first | exact hM9.1.1 _ rfl | (simp only [cb_um]; exact hM9.1.1 _ rfl) | exact hM2.1.1 _ rfl | exact hM.1.1 _ rfl) rfl (by omega) ?_
              refine cb_iinc (pc := 57) O (nI (k + 1)) dX11_fewest_57 rfl (by decide) (ci_inc k) ?_
              dsimp only [List.set]
              refine cb_goto (pc := 60) O 40 dX11_fewest_60 (by decide) ?_
              exact ih_40 (k + 1) _ _ _ (by omega) (by rw [← fwB_k]; exact hM9.um (k := 33) (by omega) _ (fun _ => rfl)) (hC9.um (by omega)) (fun j => by simp only [cb_um]; rw [cb_u2n (by omega)]; exact h32 j) (by omega)
        exact L_40 7 0 _ none none (by omega) hM4 (hC2.um (by omega)) (fun j => by simp only [cb_um]; rw [cb_u2n (by omega)]) (by omega)
      · skip
        have h6 : ¬ ln A u (nL A) < 6 := fun h => c_27 (by rw [if_pos h, ci_0le, ci_n (by omega)]; omega)
        refine cb_bipush (pc := 30) (v := (-4)) O dX11_fewest_30 (by decide) ?_
        exact cb_iret (pc := 32) O Rt rfl (Nat.le_of_ble_eq_true rfl) (Nat.le_of_ble_eq_true rfl) dX11_fewest_32 (by
          refine ⟨?_, ?_, hC2⟩
          · rw [sr_fewest, if_pos hv, hcl, if_neg h6]
          · rw [sA_fewest, hcl, if_neg (fun h => h6 h.2)]
            exact hM2)
    · skip
      refine cb_iconst (pc := 18) (v := (-1)) O dX11_fewest_18 (by decide) ?_
      exact cb_iret (pc := 19) O Rt rfl (Nat.le_of_ble_eq_true rfl) (Nat.le_of_ble_eq_true rfl) dX11_fewest_19 (by
        have hv : ¬ sv_ink A u := fun h => by
          first | exact hz h.1 | exact c_15 h.2
        exact ⟨by rw [sr_fewest, if_neg hv], by rw [sA_fewest, if_neg (fun h => hv h.1)]; exact hM, cb_C1.rfl'⟩)

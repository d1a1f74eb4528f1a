theorem c_X8_firstInk (w : cb_W) (A : ca_A) (hI : ca_I A) (hW : cb_CW w) (hK : cc_K w.2.1 A) (L : Nat → Bool) (u q : Nat) (hu : u ≤ 1023) (hq : q ≤ 5) (hal : w.2.1 6 3 = nI u) (hnb : NB w.2.1 L 16) (h5 : fb_ct L 16 ≤ 5) (hen : EN9 A u L w.2.1 q 16) (c s : Nat) (hc : c < 16) (hs : s < 2 ^ fb_ct L 16) (hmk : mkb A u (q + 1) c (Ls L s) = true) : cb_Pu yX8_firstInk cX8_firstInk 6 (some .int) 1 22 [.inr (some 6), .inl (nI c), .inl (nI s), .inl (nI q)] w (nI (fi A u q c (Ls L s))) := by
  have hp2 := p2nd h5
  refine cb_con (by decide) (Nat.le_of_ble_eq_true rfl) (fun κ O Rt hnm => ?_)
  show cb_X κ w 0 0 0 [some (.inr (some 6)), some (.inl (nI c)), some (.inl (nI s)), some (.inl (nI q)), none, none] []
  refine cb_iconst (pc := 0) (v := 0) O dX8_firstInk_0 (by decide) ?_
  refine cb_istore (pc := 1) O dX8_firstInk_1 (by decide) ?_
  dsimp only [List.set]
  have L_3 : ∀ (n : Nat) (i : Nat) (x5 : Option cb_V), i ≤ 10 → (∀ j, j < i → fib A u q c (Ls L s) j = false) → 11 ≤ i + n → cb_X κ w 0 0 3 [some (.inr (some 6)), some (.inl (nI c)), some (.inl (nI s)), some (.inl (nI q)), some (.inl (nI i)), x5] [] := by
    intro n
    induction n with
    | zero =>
      intro i x5 hi hf9 hn
      exact absurd hn (by omega)
    | succ n ih_3 =>
      intro i x5 hi hf9 hn
      refine cb_iload (pc := 3) O dX8_firstInk_3 rfl ?_
      refine cb_bipush (pc := 5) (v := 10) O dX8_firstInk_5 (by decide) ?_
      refine cb_icmp_ge (pc := 7) O 67 dX8_firstInk_7 (by decide) (fun c_7 => ?_) (fun c_7 => ?_)
      · skip
        have e : i = 10 := by
          have := ci_ge (b := 10) c_7 (by omega) (by decide)
          omega
        subst e
        exact absurd hmk (fi_no hf9)
        skip
      · skip
        have hi10 : i < 10 := ci_nge (b := 10) c_7 (by omega) (by decide)
        have h16 : (A 3 (16 * i + c)) < 16 := hI.2.2.1.1 _
        obtain ⟨e0, hel, hev, heb⟩ := hen (A 3 (16 * i + c)) h16
        have hsw := sw_lt (L := L) (s := s) h16 hs
        refine cb_aload_n (pc := 10) O dX8_firstInk_10 rfl ?_
        refine cb_getR (pc := 11) O fl_X8_24 rfl rfl dX8_firstInk_11 (by first | exact hW.1 _ rfl | (rw [hw1]; exact hW.1 _ rfl) | (simp only [cb_um]; rw [hw1]; exact hW.1 _ rfl)) (by first | exact hW.2 _ _ _ rfl | (rw [hw2]; exact hW.2 _ _ _ rfl) | (simp only [cb_um]; rw [hw2]; exact hW.2 _ _ _ rfl)) ?_
        refine cb_getR (pc := 14) O fl_X8_54 rfl rfl dX8_firstInk_14 (by first | exact hW.1 _ rfl | (rw [hw1]; exact hW.1 _ rfl) | (simp only [cb_um]; rw [hw1]; exact hW.1 _ rfl)) (by first | exact hW.2 _ _ _ rfl | (rw [hw2]; exact hW.2 _ _ _ rfl) | (simp only [cb_um]; rw [hw2]; exact hW.2 _ _ _ rfl)) ?_
        refine cb_iload (pc := 17) O dX8_firstInk_17 rfl ?_
        refine cb_aald (pc := 19) O i rfl (by decide) (by decide) dX8_firstInk_19 (by decide) (hW.1 _ rfl) rfl hi10 (hW.2 8 i (100 + i) (by simp [cc_Rf]; omega)) ?_
        refine cb_iload_n (pc := 20) O dX8_firstInk_20 rfl ?_
        refine cb_iald (pc := 21) O c (sh_mk hi10) dX8_firstInk_21 (by decide) (hW.1 _ (lv_f (by omega))) rfl hc ?_
        refine cb_topv (nI (A 3 (16 * i + c))) (hK.1 i c hi10 hc) ?_
        refine cb_istore (pc := 22) O dX8_firstInk_22 (by decide) ?_
        dsimp only [List.set]
        refine cb_aload_n (pc := 24) O dX8_firstInk_24 rfl ?_
        refine cb_getI (pc := 25) O fl_X8_20 rfl rfl dX8_firstInk_25 (by first | exact hW.1 _ rfl | (rw [hw1]; exact hW.1 _ rfl) | (simp only [cb_um]; rw [hw1]; exact hW.1 _ rfl)) ?_
        refine cb_topv (nI u) hal ?_
        refine cb_iload (pc := 28) O dX8_firstInk_28 rfl ?_
        refine cb_cSp (pc := 30) O (c_X10_has _ _ _) my_X10_has mt_X10_has ml_X8_50 dX8_firstInk_30 rfl rfl ⟨(Nat.le_of_ble_eq_true rfl), (Nat.le_of_ble_eq_true rfl)⟩ (Nat.le_of_ble_eq_true rfl) rfl ⟨(Nat.le_of_ble_eq_true rfl), (Nat.le_of_ble_eq_true rfl)⟩ ?_
        refine cb_ifp_eq (pc := 33) O 61 dX8_firstInk_33 (by decide) (fun c_33 => ?_) (fun c_33 => ?_)
        · skip
          rw [ci_has (by omega) (by omega)] at c_33
          have hfn : fib A u q c (Ls L s) i = false := by
            cases e : fib A u q c (Ls L s) i
            · rfl
            · exact absurd (fib_t.mp e).1 c_33
          refine cb_iinc (pc := 61) O (nI (i + 1)) dX8_firstInk_61 rfl (by decide) (ci_inc i) ?_
          dsimp only [List.set]
          refine cb_goto (pc := 64) O 3 dX8_firstInk_64 (by decide) ?_
          exact ih_3 (i + 1) _ (by omega) (fun j h => by
            rcases Nat.lt_or_ge j i with h1 | h1
            · exact hf9 j h1
            · rw [show j = i by omega]; exact hfn) (by omega)
        · skip
          rw [ci_has (by omega) (by omega)] at c_33
          refine cb_aload_n (pc := 36) O dX8_firstInk_36 rfl ?_
          refine cb_getR (pc := 37) O fl_X8_17 rfl rfl dX8_firstInk_37 (by first | exact hW.1 _ rfl | (rw [hw1]; exact hW.1 _ rfl) | (simp only [cb_um]; rw [hw1]; exact hW.1 _ rfl)) (by first | exact hW.2 _ _ _ rfl | (rw [hw2]; exact hW.2 _ _ _ rfl) | (simp only [cb_um]; rw [hw2]; exact hW.2 _ _ _ rfl)) ?_
          refine cb_iload_n (pc := 40) O dX8_firstInk_40 rfl ?_
          refine cb_aald (pc := 41) O q rfl (by decide) (by decide) dX8_firstInk_41 (by decide) (hW.1 _ rfl) rfl (by omega) (hW.2 13 q (130 + q) (by simp [cc_Rf]; omega)) ?_
          refine cb_iload (pc := 42) O dX8_firstInk_42 rfl ?_
          refine cb_iald (pc := 44) O (A 3 (16 * i + c)) (sh_en (by omega)) dX8_firstInk_44 (by decide) (hW.1 _ (lv_f (by omega))) rfl h16 ?_
          refine cb_topv (nI e0) hev ?_
          refine cb_aload_n (pc := 45) O dX8_firstInk_45 rfl ?_
          refine cb_iload_n (pc := 46) O dX8_firstInk_46 rfl ?_
          refine cb_iload (pc := 47) O dX8_firstInk_47 rfl ?_
          refine cb_cVp (pc := 49) O (c_X8_setWith w A hI hW hK L hnb h5 s (A 3 (16 * i + c)) h16) my_X8_setWith mi_X8_setWith mx_X8_setWith ml_X8_78 dX8_firstInk_49 rfl ct_8 rfl rfl rfl ⟨(Nat.le_of_ble_eq_true rfl), (Nat.le_of_ble_eq_true rfl)⟩ (Nat.le_of_ble_eq_true rfl) rfl ⟨(Nat.le_of_ble_eq_true rfl), (Nat.le_of_ble_eq_true rfl)⟩ (by first | exact hW.1 _ rfl | (rw [hw1]; exact hW.1 _ rfl) | (simp only [cb_um]; rw [hw1]; exact hW.1 _ rfl)) ?_
          refine cb_cSp (pc := 52) O (c_X10_has _ _ _) my_X10_has mt_X10_has ml_X8_50 dX8_firstInk_52 rfl rfl ⟨(Nat.le_of_ble_eq_true rfl), (Nat.le_of_ble_eq_true rfl)⟩ (Nat.le_of_ble_eq_true rfl) rfl ⟨(Nat.le_of_ble_eq_true rfl), (Nat.le_of_ble_eq_true rfl)⟩ ?_
          refine cb_ifp_eq (pc := 55) O 61 dX8_firstInk_55 (by decide) (fun c_55 => ?_) (fun c_55 => ?_)
          · skip
            rw [ci_has hel (by omega), heb _ hsw, Ls_sw] at c_55
            have hfn : fib A u q c (Ls L s) i = false := by
              cases e : fib A u q c (Ls L s) i
              · rfl
              · exact absurd (fib_t.mp e).2 c_55
            refine cb_iinc (pc := 61) O (nI (i + 1)) dX8_firstInk_61 rfl (by decide) (ci_inc i) ?_
            dsimp only [List.set]
            refine cb_goto (pc := 64) O 3 dX8_firstInk_64 (by decide) ?_
            exact ih_3 (i + 1) _ (by omega) (fun j h => by
              rcases Nat.lt_or_ge j i with h1 | h1
              · exact hf9 j h1
              · rw [show j = i by omega]; exact hfn) (by omega)
          · skip
            rw [ci_has hel (by omega), heb _ hsw, Ls_sw] at c_55
            have hfi := fi_eq hi10 (fib_t.mpr ⟨c_33, c_55⟩) hf9
            refine cb_iload (pc := 58) O dX8_firstInk_58 rfl ?_
            exact cb_iret (pc := 60) O Rt rfl (Nat.le_of_ble_eq_true rfl) (Nat.le_of_ble_eq_true rfl) dX8_firstInk_60 ⟨by rw [hfi], rfl⟩
  exact L_3 11 0 none (by omega) (fun j h => absurd h (by omega)) (by omega)

theorem rwf_hi {A : ca_A} {U : Nat} : ∀ (d c : Nat) (L : Nat → Bool) (k : Nat), d ≤ k → rwf A U d c L k = 0
  | 0, _, _, _, _ => rfl
  | d + 1, c, L, 0, h => absurd h (by omega)
  | d + 1, c, L, k + 1, h => rwf_hi d _ _ k (by omega)
theorem rwf_all {A : ca_A} {U d c : Nat} {L : Nat → Bool} (h : mkb A U d c L = true) (k : Nat) : rwf A U d c L k < 10 := by
  rcases Nat.lt_or_ge k d with h1 | h1
  · exact rwf_10 h h1
  · rw [rwf_hi d c L k h1]
    omega
theorem cc_K.v {M M' : Nat → Nat → Int32} {A : ca_A} (h : cc_K M A) (hm : ∀ r k, ¬ (r = 14 ∧ k = 1) → r ≠ 15 → M' r k = M r k) : cc_K M' A := h.cg (fun r k e => hm r k (by omega) (by omega)) (fun _ _ _ => rfl)
theorem c_X8_writeRow (w : cb_W) (A : ca_A) (hI : ca_I A) (hW : cb_CW w) (hK : cc_K w.2.1 A) (L : Nat → Bool) (u d : Nat) (hu : u ≤ 1023) (hd : d ≤ 5) (hal : w.2.1 6 3 = nI u) (hnb : NB w.2.1 L 16) (h5 : fb_ct L 16 ≤ 5) (hen : ∀ q, q ≤ d → EN9 A u L w.2.1 q 16) (hmk : mkb A u d 0 L = true) : cb_Con yX8_writeRow cX8_writeRow 7 none 2 47 0 0 (fun _ => true) [.inr (some 6), .inl (nI d), .inr (some 14)] w (cb_pv (fun w' => w'.1 = w.1 ∧ w'.2.2 = w.2.2 ∧ (∀ r k, ¬ (r = 14 ∧ k = 1) → r ≠ 15 → w'.2.1 r k = w.2.1 r k) ∧ w'.2.1 14 1 = nI d ∧ ∀ k, k < d → w'.2.1 15 k = nI (rwf A u d 0 L k))) := by
  refine cb_con (by decide) (Nat.le_of_ble_eq_true rfl) (fun κ O Rt hnm => ?_)
  show cb_X κ w 0 0 0 [some (.inr (some 6)), some (.inl (nI d)), some (.inr (some 14)), none, none, none, none] []
  refine cb_iconst (pc := 0) (v := 0) O dX8_writeRow_0 (by decide) ?_
  refine cb_istore_n (pc := 1) O dX8_writeRow_1 (by decide) ?_
  dsimp only [List.set]
  refine cb_iconst (pc := 2) (v := 0) O dX8_writeRow_2 (by decide) ?_
  refine cb_istore (pc := 3) O dX8_writeRow_3 (by decide) ?_
  dsimp only [List.set]
  refine cb_aload_n (pc := 5) O dX8_writeRow_5 rfl ?_
  refine cb_iload_n (pc := 6) O dX8_writeRow_6 rfl ?_
  refine cb_putIc (pc := 7) O fl_X8_66 (Or.inl rfl) rfl rfl dX8_writeRow_7 rfl rfl (by first | exact hW.1 _ rfl | (rw [hw1]; exact hW.1 _ rfl) | (simp only [cb_um]; rw [hw1]; exact hW.1 _ rfl)) ?_
  refine cb_iconst (pc := 10) (v := 0) O dX8_writeRow_10 (by decide) ?_
  refine cb_istore (pc := 11) O dX8_writeRow_11 (by decide) ?_
  dsimp only [List.set]
  have L_13 : ∀ (n : Nat) (k s : Nat) (w9 : cb_W) (x6 : Option cb_V), k ≤ d → s < 2 ^ fb_ct L 16 → Ls L s = (stt A u d 0 L k).2 → w9.1 = w.1 → w9.2.2 = w.2.2 → (∀ r k, ¬ (r = 14 ∧ k = 1) → r ≠ 15 → w9.2.1 r k = w.2.1 r k) → w9.2.1 14 1 = nI d → (∀ j, j < k → w9.2.1 15 j = nI (rwf A u d 0 L j)) → 6 ≤ k + n → cb_X κ w9 0 0 13 [some (.inr (some 6)), some (.inl (nI d)), some (.inr (some 14)), some (.inl (nI (stt A u d 0 L k).1)), some (.inl (nI s)), some (.inl (nI k)), x6] [] := by
    intro n
    induction n with
    | zero =>
      intro k s w9 x6 hk hs hls hw1 hw2 hw3 hw4 hw5 hn
      exact absurd hn (by omega)
    | succ n ih_13 =>
      intro k s w9 x6 hk hs hls hw1 hw2 hw3 hw4 hw5 hn
      refine cb_iload (pc := 13) O dX8_writeRow_13 rfl ?_
      refine cb_iload_n (pc := 15) O dX8_writeRow_15 rfl ?_
      refine cb_icmp_ge (pc := 16) O 71 dX8_writeRow_16 (by decide) (fun c_16 => ?_) (fun c_16 => ?_)
      · skip
        rw [nI_leI (by omega) (by omega)] at c_16
        exact cb_vret (pc := 71) O Rt (Nat.le_of_ble_eq_true rfl) (Nat.le_of_ble_eq_true rfl) dX8_writeRow_71 (by
          have e : k = d := by omega
          rw [e] at hw5
          exact ⟨hw1, hw2, hw3, hw4, hw5⟩)
      · skip
        rw [nI_leI (by omega) (by omega)] at c_16
        have hkd : k < d := by omega
        have hW9 : cb_CW w9 := by unfold cb_CW; rw [hw1, hw2]; exact hW
        have hK9 : cc_K w9.2.1 A := hK.v hw3
        have hnb9 : NB w9.2.1 L 16 := fun c hc => by rw [hw3 12 c (by omega) (by omega)]; exact hnb c hc
        have hal9 : w9.2.1 6 3 = nI u := by rw [hw3 6 3 (by omega) (by omega)]; exact hal
        have hen9 : EN9 A u L w9.2.1 (d - k - 1) 16 := fun c hc => by
          obtain ⟨e, y1, y2, y3⟩ := hen (d - k - 1) (by omega) c hc
          exact ⟨e, y1, by rw [hw3 _ _ (by omega) (by omega)]; exact y2, y3⟩
        have hc1 : (stt A u d 0 L k).1 < 16 := by
          rw [stt_cf k (by omega)]; exact cf_16 hI _ _
        have hc2 : (stt A u d 0 L (k + 1)).1 < 16 := by
          rw [stt_cf (k + 1) (by omega)]; exact cf_16 hI _ _
        have hmk9 : mkb A u (d - k - 1 + 1) (stt A u d 0 L k).1 (Ls L s) = true := by
          rw [hls, show d - k - 1 + 1 = d - k by omega]
          exact stt_mk hmk k (by omega)
        have hfi := (fi_ok hmk9).1
        rw [hls] at hfi
        refine cb_aload_n (pc := 19) O dX8_writeRow_19 rfl ?_
        refine cb_iload_n (pc := 20) O dX8_writeRow_20 rfl ?_
        refine cb_iload (pc := 21) O dX8_writeRow_21 rfl ?_
        refine cb_iload_n (pc := 23) O dX8_writeRow_23 rfl ?_
        refine cb_iload (pc := 24) O dX8_writeRow_24 rfl ?_
        refine cb_isub (pc := 26) O dX8_writeRow_26 ?_
        refine cb_topv _ (ci_sub (by omega)) ?_
        refine cb_iconst (pc := 27) (v := 1) O dX8_writeRow_27 (by decide) ?_
        refine cb_isub (pc := 28) O dX8_writeRow_28 ?_
        refine cb_topv _ (ci_p1 (by omega)) ?_
        refine cb_cVp (pc := 29) O (c_X8_firstInk w9 A hI hW9 hK9 L u (d - k - 1) hu (by omega) hal9 hnb9 h5 hen9 (stt A u d 0 L k).1 s hc1 hs hmk9) my_X8_firstInk mi_X8_firstInk mx_X8_firstInk ml_X8_71 dX8_writeRow_29 rfl ct_8 rfl rfl rfl ⟨(Nat.le_of_ble_eq_true rfl), (Nat.le_of_ble_eq_true rfl)⟩ (Nat.le_of_ble_eq_true rfl) (cb_kpT _ _) ⟨(Nat.le_of_ble_eq_true rfl), (Nat.le_of_ble_eq_true rfl)⟩ (hW9.1 _ rfl) ?_
        rw [hls]
        refine cb_istore (pc := 32) O dX8_writeRow_32 (by decide) ?_
        dsimp only [List.set]
        refine cb_aload_n (pc := 34) O dX8_writeRow_34 rfl ?_
        refine cb_getR (pc := 35) O fl_X8_75 rfl rfl dX8_writeRow_35 (hW9.1 _ rfl) (hW9.2 14 0 15 rfl) ?_
        refine cb_iload (pc := 38) O dX8_writeRow_38 rfl ?_
        refine cb_iload (pc := 40) O dX8_writeRow_40 rfl ?_
        refine cb_iast (pc := 42) O k rfl dX8_writeRow_42 (by decide) (hW9.1 _ rfl) rfl (by omega) ?_
        refine cb_aload_n (pc := 43) O dX8_writeRow_43 rfl ?_
        refine cb_getR (pc := 44) O fl_X8_24 rfl rfl dX8_writeRow_44 (hW9.1 _ rfl) (hW9.2 _ _ _ rfl) ?_
        refine cb_getR (pc := 47) O fl_X8_54 rfl rfl dX8_writeRow_47 (hW9.1 _ rfl) (hW9.2 _ _ _ rfl) ?_
        refine cb_iload (pc := 50) O dX8_writeRow_50 rfl ?_
        refine cb_aald (pc := 52) O (fi A u (d - k - 1) (stt A u d 0 L k).1 (stt A u d 0 L k).2) rfl (by decide) (by decide) dX8_writeRow_52 (by decide) (hW9.1 _ rfl) rfl hfi (hW9.2 8 (fi A u (d - k - 1) (stt A u d 0 L k).1 (stt A u d 0 L k).2) (100 + (fi A u (d - k - 1) (stt A u d 0 L k).1 (stt A u d 0 L k).2)) (by simp [cc_Rf]; omega)) ?_
        refine cb_iload_n (pc := 53) O dX8_writeRow_53 rfl ?_
        refine cb_iald (pc := 54) O (stt A u d 0 L k).1 (sh_mk hfi) dX8_writeRow_54 (by decide) (hW9.1 _ (lv_f (by omega))) rfl hc1 ?_
        refine cb_topv (nI (stt A u d 0 L (k + 1)).1) (by
          simp only [cb_um]
          rw [cb_u2n (by omega)]
          exact hK9.1 (fi A u (d - k - 1) (stt A u d 0 L k).1 (stt A u d 0 L k).2) (stt A u d 0 L k).1 hfi hc1) ?_
        refine cb_istore_n (pc := 55) O dX8_writeRow_55 (by decide) ?_
        dsimp only [List.set]
        refine cb_aload_n (pc := 56) O dX8_writeRow_56 rfl ?_
        refine cb_iload (pc := 57) O dX8_writeRow_57 rfl ?_
        refine cb_iload_n (pc := 59) O dX8_writeRow_59 rfl ?_
        refine cb_cVp (pc := 60) O (c_X8_setWith (cb_um w9 15 k (nI (fi A u (d - k - 1) (stt A u d 0 L k).1 (stt A u d 0 L k).2))) A hI hW9 (hK9.v (fun r k h1 h2 => by simp only [cb_um]; rw [cb_u2n (Or.inl h2)])) L (fun c hc => by simp only [cb_um]; rw [cb_u2n (by omega)]; exact hnb9 c hc) h5 s (stt A u d 0 L (k + 1)).1 hc2) my_X8_setWith mi_X8_setWith mx_X8_setWith ml_X8_78 dX8_writeRow_60 rfl ct_8 rfl rfl rfl ⟨(Nat.le_of_ble_eq_true rfl), (Nat.le_of_ble_eq_true rfl)⟩ (Nat.le_of_ble_eq_true rfl) rfl ⟨(Nat.le_of_ble_eq_true rfl), (Nat.le_of_ble_eq_true rfl)⟩ (hW9.1 _ rfl) ?_
        refine cb_istore (pc := 63) O dX8_writeRow_63 (by decide) ?_
        dsimp only [List.set]
        refine cb_iinc (pc := 65) O (nI (k + 1)) dX8_writeRow_65 rfl (by decide) (ci_inc k) ?_
        dsimp only [List.set]
        refine cb_goto (pc := 68) O 13 dX8_writeRow_68 (by decide) ?_
        exact ih_13 (k + 1) (sw L s (stt A u d 0 L (k + 1)).1) _ _ (by omega) (sw_lt hc2 hs) (by rw [Ls_sw, hls]; rfl) hw1 hw2 (fun r k h1 h2 => by simp only [cb_um]; rw [cb_u2n (Or.inl h2)]; exact hw3 r k h1 h2) (by simp only [cb_um]; rw [cb_u2n (by omega)]; exact hw4) (fun j hj => by
          simp only [cb_um]
          by_cases e : j = k
          · rw [e, cb_u2s, rwf_stt d 0 L k hkd]
          · rw [cb_u2n (by omega)]
            exact hw5 j (by omega)) (by omega)
  exact L_13 6 0 0 _ none (by omega) (Nat.pow_pos (by decide)) (Ls_0 L) rfl rfl (fun r k h1 h2 => by simp only [cb_um]; rw [cb_u2n (by omega)]) (by simp only [cb_um]; rw [cb_u2s]) (fun j h => absurd h (by omega)) (by omega)

theorem cc_I.pl {w w' : cb_W} {A A' : ca_A} {z : Int32} (hC : cc_I w A z) (hI : ca_I A) (h1 : w'.1 = w.1) (h2 : w'.2.2 = w.2.2) (h3 : ∀ r k, ¬ (r = 14 ∧ k = 1) → r ≠ 15 → r ≠ 16 → w'.2.1 r k = w.2.1 r k) (hA : ∀ q i, ¬ (q = 0 ∧ i = 33) → q ≠ 33 → q ≠ 35 → A' q i = A q i) (hL : cc_L w'.2.1 A') : cc_I w' A' z ∧ cb_M1 w w' := by
  obtain ⟨hW, hB, hN, hK, hS, hE, hP, -, l1, l2, l3⟩ := hC
  exact ⟨⟨by unfold cb_CW; rw [h1, h2]; exact hW, hB.cg (fun r k e => h3 r k (by omega) (by omega) (by omega)) (fun q i e => hA q i (by omega) (by omega) (by omega)), hN.cg (fun r k e => h3 r k (by omega) (by omega) (by omega)) (fun q i e => hA q i (by omega) (by omega) (by omega)), hK.cg (fun r k e => h3 r k (by omega) (by omega) (by omega)) (fun q i e => hA q i (by omega) (by omega) (by omega)), hS.cg hI.1.2.2.2.1 (fun r _ _ => by rw [h1]) (fun r k _ => by rw [h2]) (fun r k g1 g2 => h3 r k (by omega) (by omega) (by omega)) (fun q i e => hA q i (by omega) (by omega) (by omega)), hE.cg hI.1.2.2.2.2.1 (fun r _ _ => by rw [h1]) (fun k => by rw [h2]) (fun r k g1 g2 => h3 r k (by omega) (by omega) (by omega)) (fun q i e => hA q i (by omega) (by omega) (by omega)), hP.cg (fun r k e => h3 r k (by omega) (by omega) (by omega)) (fun q i e => hA q i (by omega) (by omega) (by omega)), hL, by rw [h1]; exact l1, by rw [h1]; exact l2, by rw [h1, h2]; exact l3⟩, fun r hr => ⟨by rw [h1], funext fun k => h3 r k (by omega) (by omega) (by omega), fun _ => by rw [h2]⟩⟩
theorem ca_I.pl {A A' : ca_A} (h : ca_I A) (hA : ∀ q i, ¬ (q = 0 ∧ i = 33) → q ≠ 33 → q ≠ 35 → A' q i = A q i) (b1 : A' 0 33 ≤ 6) (b2 : ∀ k, A' 33 k < 10) (b3 : ∀ k, A' 35 k ≤ 6) : ca_I A' := by
  obtain ⟨c1, c2, ⟨d1, d2, d3, d4⟩, c4, ⟨e1, e2, e3, e4, e5⟩, c6, c7, c8, c9, c10⟩ := h
  have t0 : ∀ q x, ¬ (q = 0 ∧ x = 33) ∧ q ≠ 33 ∧ q ≠ 35 → A' q x = A q x := fun q x hq => hA q x hq.1 hq.2.1 hq.2.2
  have o1 : ∀ k', ca_o A' k' ↔ ca_o A k' := fun k' => by
    unfold ca_o
    rw [t0 0 0 (by omega), t0 0 1 (by omega)]
  refine ⟨?_, ?_, ⟨?_, ?_, ?_, ?_⟩, ⟨?_, ?_, ?_, ?_⟩, ⟨fun x => ?_, fun x => ?_, fun x => ?_, fun x => ?_, fun x => ?_⟩, ⟨?_, b2, b3⟩, fun s' h1 h2 => ?_, ?_, fun s' k' h1 h2 => ?_, fun x hx => ?_⟩
  · rw [t0 0 0 (by omega), t0 0 1 (by omega), t0 0 12 (by omega), t0 0 20 (by omega), t0 0 26 (by omega), t0 0 8 (by omega), t0 0 6 (by omega), t0 0 28 (by omega), t0 0 29 (by omega)]
    exact ⟨c1.1, c1.2.1, c1.2.2.1, c1.2.2.2.1, c1.2.2.2.2.1, c1.2.2.2.2.2.1, c1.2.2.2.2.2.2.1, c1.2.2.2.2.2.2.2.1, c1.2.2.2.2.2.2.2.2.1, b1⟩
  · rw [t0 0 0 (by omega), t0 0 1 (by omega), t0 0 12 (by omega), t0 0 20 (by omega), t0 0 26 (by omega), t0 0 28 (by omega), t0 0 29 (by omega)]; exact c2
  · intro x; rw [t0 3 x (by omega)]; exact d1 x
  · intro x; rw [t0 4 x (by omega)]; exact d2 x
  · intro x; rw [t0 5 x (by omega)]; exact d3 x
  · intro x; rw [t0 6 x (by omega)]; exact d4 x
  · intro x; rw [t0 10 x (by omega)]; exact c4.1 x
  · intro x; rw [t0 11 x (by omega)]; exact c4.2.1 x
  · intro x hx; rw [t0 11 x (by omega), t0 0 12 (by omega)]; exact c4.2.2.1 x ((o1 x).mp hx)
  · intro x; rw [t0 12 x (by omega)]; exact c4.2.2.2 x
  · rw [t0 15 x (by omega)]; exact e1 x
  · rw [t0 17 x (by omega)]; exact e2 x
  · rw [t0 18 x (by omega)]; exact e3 x
  · rw [t0 19 x (by omega)]; exact e4 x
  · rw [t0 20 x (by omega)]; exact e5 x
  · intro x; rw [t0 31 x (by omega)]; exact c6.1 x
  · rw [t0 0 20 (by omega)] at h1
    obtain ⟨g1, g2⟩ := c7 s' h1 h2
    refine ⟨fun k' hk' => ?_, by rw [t0 20 _ (by omega)]; exact g2⟩
    rw [t0 15 _ (by omega), t0 17 _ (by omega), t0 18 _ (by omega), t0 19 _ (by omega)]
    exact g1 k' hk'
  · intro h0
    rw [t0 0 0 (by omega)] at h0
    obtain ⟨g1, g2, g3⟩ := c8 h0
    exact ⟨fun x => by rw [t0 10 x (by omega)]; exact g1 x, fun x => by rw [t0 11 x (by omega)]; exact g2 x, fun x => by rw [t0 12 x (by omega)]; exact g3 x⟩
  · rw [o1] at h2
    rw [t0 15 _ (by omega)]
    exact c9 s' k' h1 h2
  · rw [t0 17 x (by omega)] at hx
    rw [t0 19 x (by omega)]; exact c10 x hx
theorem cf_c {A A' : ca_A} (h : ∀ i, A' 3 i = A 3 i) (r : Nat → Nat) : ∀ k, cf A' r k = cf A r k
  | 0 => rfl
  | k + 1 => by
    show A' 3 (16 * r k + cf A' r k) = A 3 (16 * r k + cf A r k)
    rw [cf_c h r k, h]
theorem fp_c {A A' : ca_A} (h : ∀ i, A' 3 i = A 3 i) (r : Nat → Nat) (c : Nat) : ∀ n, fp A' r c n = fp A r c n
  | 0 => rfl
  | n + 1 => by
    unfold fp
    rw [fp_c h r c n, cf_c h r n]
def tgt (B : ca_A) (d : Nat) (r : Nat → Nat) (i : Nat) : Nat := if i / 4 < B 0 28 ∧ i % 4 < B 0 29 then fp B r (B 31 i) (d + 1) else 0
theorem IR.mv {w w' : cb_W} {b L : Nat} {r : Nat → Nat} (h : IR w b L r) (h1 : w'.1 = w.1) (h2 : w'.2.2 = w.2.2) (h3 : ∀ k, w'.2.1 b k = w.2.1 b k) (h4 : ∀ k, w'.2.1 (b + 1) k = w.2.1 (b + 1) k) : IR w' b L r := by
  obtain ⟨a1, ⟨a2, a3, a4⟩, ⟨a5, a6⟩, a7, a8⟩ := h
  exact ⟨a1, ⟨by rw [h1]; exact a2, by rw [h1]; exact a3, by rw [h2]; exact a4⟩, ⟨a5, by rw [h3]; exact a6⟩, fun i hi => by rw [h4]; exact a7 i hi, a8⟩
theorem c_X7_keepPlaces (w : cb_W) (B : ca_A) (z : Int32) (hI : ca_I B) (hC : cc_I w B z) (d : Nat) (r : Nat → Nat) (hd : d ≤ 5) (hR : IR w 14 d r) (h33 : ¬ B 0 33 = 0) : cb_Con yX7_keepPlaces cX7_keepPlaces 4 none 3 65 0 0 (fun _ => true) [.inr (some 7), .inr (some 26), .inr (some 1)] w (cb_pv (fun w' => ∃ B', ca_I B' ∧ cc_I w' B' z ∧ (∀ q i, q ≠ 35 → B' q i = B q i) ∧ (∀ i, i < 16 → B' 35 i = tgt B d r i) ∧ (∀ i, 16 ≤ i → B' 35 i = B 35 i) ∧ cb_M1 w w')) := by
  refine cb_con (by decide) (Nat.le_of_ble_eq_true rfl) (fun κ O Rt hnm => ?_)
  show cb_X κ w 0 0 0 [some (.inr (some 7)), some (.inr (some 26)), some (.inr (some 1)), none] []
  refine cb_iconst (pc := 0) (v := 0) O dX7_keepPlaces_0 (by decide) ?_
  refine cb_istore_n (pc := 1) O dX7_keepPlaces_1 (by decide) ?_
  dsimp only [List.set]
  have L_2 : ∀ (n : Nat) (k : Nat) (w9 : cb_W) (B9 : ca_A), k ≤ 16 → ca_I B9 → cc_I w9 B9 z → (∀ q i, q ≠ 35 → B9 q i = B q i) → (∀ i, i < k → B9 35 i = tgt B d r i) → (∀ i, 16 ≤ i → B9 35 i = B 35 i) → IR w9 14 d r → cb_M1 w w9 → 17 ≤ k + n → cb_X κ w9 0 0 2 [some (.inr (some 7)), some (.inr (some 26)), some (.inr (some 1)), some (.inl (nI k))] [] := by
    intro n
    induction n with
    | zero =>
      intro k w9 B9 hk hI9 hC9 hB1 hB2 hB3 hR9 hM9 hn
      exact absurd hn (by omega)
    | succ n ih_2 =>
      intro k w9 B9 hk hI9 hC9 hB1 hB2 hB3 hR9 hM9 hn
      refine cb_iload_n (pc := 2) O dX7_keepPlaces_2 rfl ?_
      refine cb_bipush (pc := 3) (v := 16) O dX7_keepPlaces_3 (by decide) ?_
      refine cb_icmp_ge (pc := 5) O 46 dX7_keepPlaces_5 (by decide) (fun c_5 => ?_) (fun c_5 => ?_)
      · skip
        have e : k = 16 := by
          have := ci_ge (b := 16) c_5 (by omega) (by decide)
          omega
        subst e
        exact cb_vret (pc := 46) O Rt (Nat.le_of_ble_eq_true rfl) (Nat.le_of_ble_eq_true rfl) dX7_keepPlaces_46 ⟨B9, hI9, hC9, hB1, hB2, hB3, hM9⟩
      · skip
        have hlt : k < 16 := ci_nge (b := 16) c_5 (by omega) (by decide)
        have ht6 : tgt B d r k ≤ 6 := by
          unfold tgt
          split
          · have := fp_le B r (B 31 k) (d + 1)
            omega
          · omega
        have hw28 : B9 0 28 = B 0 28 := hB1 0 28 (by omega)
        have hw29 : B9 0 29 = B 0 29 := hB1 0 29 (by omega)
        refine cb_aload_n (pc := 8) O dX7_keepPlaces_8 rfl ?_
        refine cb_getR (pc := 9) O fl_X7_18 rfl rfl dX7_keepPlaces_9 (hC9.1.1 _ rfl) (hC9.1.2 _ _ _ rfl) ?_
        refine cb_iload_n (pc := 12) O dX7_keepPlaces_12 rfl ?_
        refine cb_aload_n (pc := 13) O dX7_keepPlaces_13 rfl ?_
        refine cb_iload_n (pc := 14) O dX7_keepPlaces_14 rfl ?_
        refine cb_cVp (pc := 15) O (c_X6_hasCell w9 B9 z hI9 hC9 (nI k)) my_X6_hasCell mi_X6_hasCell mx_X6_hasCell ml_X7_28 dX7_keepPlaces_15 rfl ct_6 rfl rfl rfl ⟨(Nat.le_of_ble_eq_true rfl), (Nat.le_of_ble_eq_true rfl)⟩ (Nat.le_of_ble_eq_true rfl) rfl ⟨(Nat.le_of_ble_eq_true rfl), (Nat.le_of_ble_eq_true rfl)⟩ (hC9.1.1 _ rfl) ?_
        refine cb_ifp_eq (pc := 18) O 38 dX7_keepPlaces_18 (by decide) (fun c_18 => ?_) (fun c_18 => ?_)
        · skip
          rw [ca_wn (by omega), hw28, hw29] at c_18
          refine cb_iconst (pc := 38) (v := (-1)) O dX7_keepPlaces_38 (by decide) ?_
          refine cb_topv (nI (tgt B d r k) - 1) (by
            unfold tgt
            rw [if_neg c_18]
            rfl) ?_
          refine cb_iast (pc := 39) O k rfl dX7_keepPlaces_39 (by decide) (hC9.1.1 _ rfl) rfl hlt ?_
          have hst := cc_I.pl (w' := cb_um w9 16 k (nI (tgt B d r k) - 1)) (A' := cb_u2 B9 35 k (tgt B d r k)) hC9 hI9 rfl rfl (fun q i h1 h2 h3 => by simp only [cb_um]; rw [cb_u2n (Or.inl h3)]) (fun q i h1 h2 h3 => by rw [cb_u2n (Or.inl h3)]) (by
            obtain ⟨m1, m2, m3⟩ := hC9.2.2.2.2.2.2.2.1
            have e33 : cb_u2 B9 35 k (tgt B d r k) 0 33 = B9 0 33 := by rw [cb_u2n (by omega)]
            have n33 : ¬ B9 0 33 = 0 := by rw [hB1 0 33 (by omega)]; exact h33
            refine ⟨?_, fun i hi => ?_, fun i hi => ?_⟩
            · rw [e33]; simp only [cb_um]; rw [cb_u2n (by omega)]; exact m1
            · rw [e33] at hi
              simp only [cb_um]
              rw [cb_u2n (by omega), cb_u2n (by omega)]
              exact m2 i hi
            · rw [e33, if_neg n33]
              simp only [cb_um]
              by_cases e : i = k
              · rw [e, cb_u2s, cb_u2s]
              · rw [cb_u2n (by omega), cb_u2n (by omega)]
                have h9 := m3 i hi
                rw [if_neg n33] at h9
                exact h9)
          refine cb_iinc (pc := 40) O (nI (k + 1)) dX7_keepPlaces_40 rfl (by decide) (ci_inc k) ?_
          dsimp only [List.set]
          refine cb_goto (pc := 43) O 2 dX7_keepPlaces_43 (by decide) ?_
          exact ih_2 (k + 1) _ (cb_u2 B9 35 k (tgt B d r k)) (by omega) (hI9.pl (fun q i h1 h2 h3 => by rw [cb_u2n (Or.inl h3)]) (by rw [cb_u2n (by omega), hB1 0 33 (by omega)]; exact hI.1.2.2.2.2.2.2.2.2.2) (fun i => by rw [cb_u2n (by omega), hB1 33 i (by omega)]; exact hI.2.2.2.2.2.1.2.1 i) (fun i => by
              by_cases e : i = k
              · rw [e, cb_u2s]; exact ht6
              · rw [cb_u2n (by omega)]; exact hI9.2.2.2.2.2.1.2.2 i)) hst.1 (fun q i h => by rw [cb_u2n (Or.inl h)]; exact hB1 q i h) (fun i hi => by
              by_cases e : i = k
              · rw [e, cb_u2s]
              · rw [cb_u2n (Or.inr e)]; exact hB2 i (by omega)) (fun i hi => by rw [cb_u2n (by omega)]; exact hB3 i hi) (hR9.mv rfl rfl (fun j => by simp only [cb_um]; rw [cb_u2n (by omega)]) (fun j => by simp only [cb_um]; rw [cb_u2n (by omega)])) (hM9.trans hst.2) (by omega)
        · skip
          rw [ca_wn (by omega), hw28, hw29] at c_18
          refine cb_aload_n (pc := 21) O dX7_keepPlaces_21 rfl ?_
          refine cb_getR (pc := 22) O fl_X7_12 rfl rfl dX7_keepPlaces_22 (hC9.1.1 _ rfl) (hC9.1.2 _ _ _ rfl) ?_
          refine cb_aload_n (pc := 25) O dX7_keepPlaces_25 rfl ?_
          refine cb_getR (pc := 26) O fl_X7_34 rfl rfl dX7_keepPlaces_26 (hC9.1.1 _ rfl) (hC9.1.2 _ _ _ rfl) ?_
          refine cb_iload_n (pc := 29) O dX7_keepPlaces_29 rfl ?_
          refine cb_iald (pc := 30) O k rfl dX7_keepPlaces_30 (by decide) (hC9.1.1 _ rfl) rfl hlt ?_
          refine cb_topv (nI (B9 31 k)) (hC9.2.2.2.2.2.2.1.2.2 k hlt) ?_
          refine cb_aload_n (pc := 31) O dX7_keepPlaces_31 rfl ?_
          refine cb_cVp (pc := 32) O (c_X3_leastPlace w9 B9 z hI9 hC9 14 d r hR9 (B9 31 k) (hI9.2.2.2.2.2.1.1 k)) my_X3_leastPlace mi_X3_leastPlace mx_X3_leastPlace ml_X7_37 dX7_keepPlaces_32 rfl ct_3 rfl rfl rfl ⟨(Nat.le_of_ble_eq_true rfl), (Nat.le_of_ble_eq_true rfl)⟩ (Nat.le_of_ble_eq_true rfl) rfl ⟨(Nat.le_of_ble_eq_true rfl), (Nat.le_of_ble_eq_true rfl)⟩ (hC9.1.1 _ rfl) ?_
          refine cb_topv (nI (tgt B d r k) - 1) (by
            unfold tgt
            rw [if_pos c_18, fp_c (fun i => hB1 3 i (by omega)), hB1 31 k (by omega)]) ?_
          refine cb_goto (pc := 35) O 39 dX7_keepPlaces_35 (by decide) ?_
          refine cb_iast (pc := 39) O k rfl dX7_keepPlaces_39 (by decide) (hC9.1.1 _ rfl) rfl hlt ?_
          have hst := cc_I.pl (w' := cb_um w9 16 k (nI (tgt B d r k) - 1)) (A' := cb_u2 B9 35 k (tgt B d r k)) hC9 hI9 rfl rfl (fun q i h1 h2 h3 => by simp only [cb_um]; rw [cb_u2n (Or.inl h3)]) (fun q i h1 h2 h3 => by rw [cb_u2n (Or.inl h3)]) (by
            obtain ⟨m1, m2, m3⟩ := hC9.2.2.2.2.2.2.2.1
            have e33 : cb_u2 B9 35 k (tgt B d r k) 0 33 = B9 0 33 := by rw [cb_u2n (by omega)]
            have n33 : ¬ B9 0 33 = 0 := by rw [hB1 0 33 (by omega)]; exact h33
            refine ⟨?_, fun i hi => ?_, fun i hi => ?_⟩
            · rw [e33]; simp only [cb_um]; rw [cb_u2n (by omega)]; exact m1
            · rw [e33] at hi
              simp only [cb_um]
              rw [cb_u2n (by omega), cb_u2n (by omega)]
              exact m2 i hi
            · rw [e33, if_neg n33]
              simp only [cb_um]
              by_cases e : i = k
              · rw [e, cb_u2s, cb_u2s]
              · rw [cb_u2n (by omega), cb_u2n (by omega)]
                have h9 := m3 i hi
                rw [if_neg n33] at h9
                exact h9)
          refine cb_iinc (pc := 40) O (nI (k + 1)) dX7_keepPlaces_40 rfl (by decide) (ci_inc k) ?_
          dsimp only [List.set]
          refine cb_goto (pc := 43) O 2 dX7_keepPlaces_43 (by decide) ?_
          exact ih_2 (k + 1) _ (cb_u2 B9 35 k (tgt B d r k)) (by omega) (hI9.pl (fun q i h1 h2 h3 => by rw [cb_u2n (Or.inl h3)]) (by rw [cb_u2n (by omega), hB1 0 33 (by omega)]; exact hI.1.2.2.2.2.2.2.2.2.2) (fun i => by rw [cb_u2n (by omega), hB1 33 i (by omega)]; exact hI.2.2.2.2.2.1.2.1 i) (fun i => by
              by_cases e : i = k
              · rw [e, cb_u2s]; exact ht6
              · rw [cb_u2n (by omega)]; exact hI9.2.2.2.2.2.1.2.2 i)) hst.1 (fun q i h => by rw [cb_u2n (Or.inl h)]; exact hB1 q i h) (fun i hi => by
              by_cases e : i = k
              · rw [e, cb_u2s]
              · rw [cb_u2n (Or.inr e)]; exact hB2 i (by omega)) (fun i hi => by rw [cb_u2n (by omega)]; exact hB3 i hi) (hR9.mv rfl rfl (fun j => by simp only [cb_um]; rw [cb_u2n (by omega)]) (fun j => by simp only [cb_um]; rw [cb_u2n (by omega)])) (hM9.trans hst.2) (by omega)
  exact L_2 17 0 w B (by omega) hI hC (fun _ _ _ => rfl) (fun i h => absurd h (by omega)) (fun _ _ => rfl) hR cb_M1.rfl' (by omega)

def fwC (A : ca_A) (U : Nat) : ca_A := fun q i => if q = 0 ∧ i = 33 then ln A U (nL A) + 1 else if q = 33 ∧ i < ln A U (nL A) then rwf A U (ln A U (nL A)) 0 (nL A) i else if q = 35 ∧ i < 16 ∧ A 0 33 = 0 then 0 else A q i
theorem fwC_o {A : ca_A} {U q i : Nat} (h : ¬ (q = 0 ∧ i = 33) ∧ q ≠ 33 ∧ q ≠ 35) : fwC A U q i = A q i := by
  unfold fwC
  rw [if_neg h.1, if_neg (fun e => h.2.1 e.1), if_neg (fun e => h.2.2 e.1)]
theorem fwC_0 {A : ca_A} {U : Nat} : fwC A U 0 33 = ln A U (nL A) + 1 := by
  unfold fwC
  rw [if_pos ⟨rfl, rfl⟩]
theorem fwC_33 {A : ca_A} {U i : Nat} (h : i < ln A U (nL A)) : fwC A U 33 i = rwf A U (ln A U (nL A)) 0 (nL A) i := by
  unfold fwC
  rw [if_neg (by omega), if_pos ⟨rfl, h⟩]
theorem fwC_n {A : ca_A} {U i : Nat} (h : ¬ i < ln A U (nL A)) : fwC A U 33 i = A 33 i := by
  unfold fwC
  rw [if_neg (by omega), if_neg (fun e => h e.2), if_neg (by omega)]
theorem fwC_35 {A : ca_A} {U i : Nat} : fwC A U 35 i = if i < 16 ∧ A 0 33 = 0 then 0 else A 35 i := by
  unfold fwC
  rw [if_neg (by omega), if_neg (by omega)]
  exact ci_if ⟨fun h => h.2, fun h => ⟨rfl, h⟩⟩
theorem fwC_I {A : ca_A} {U : Nat} (hI : ca_I A) (h6 : ln A U (nL A) < 6) : ca_I (fwC A U) := by
  refine hI.pl (fun q i h1 h2 h3 => fwC_o ⟨h1, h2, h3⟩) (by rw [fwC_0]; omega) (fun k => ?_) (fun k => ?_)
  · by_cases e : k < ln A U (nL A)
    · rw [fwC_33 e]; exact rwf_10 (ln_mk h6) e
    · rw [fwC_n e]; exact hI.2.2.2.2.2.1.2.1 k
  · rw [fwC_35]
    split
    · omega
    · exact hI.2.2.2.2.2.1.2.2 k
theorem fwA_eq {A B : ca_A} {U : Nat} (h1 : ∀ q i, q ≠ 35 → B q i = fwC A U q i) (h2 : ∀ i, i < 16 → B 35 i = tgt (fwC A U) (ln A U (nL A)) (rwf A U (ln A U (nL A)) 0 (nL A)) i) (h3 : ∀ i, 16 ≤ i → B 35 i = fwC A U 35 i) : B = fwA A U := by
  funext q i
  unfold fwA
  by_cases e0 : q = 35
  · subst e0
    rw [if_neg (by omega), if_neg (by omega)]
    rcases Nat.lt_or_ge i 16 with e | e
    · rw [if_pos ⟨rfl, e⟩, h2 i e]
      unfold tgt
      rw [fwC_o (by omega), fwC_o (by omega), fwC_o (by omega), fp_c (fun i => fwC_o (by omega))]
    · rw [if_neg (by omega), h3 i e, fwC_35, if_neg (by omega)]
  · rw [h1 q i e0]
    unfold fwC
    by_cases e1 : q = 0 ∧ i = 33
    · rw [if_pos e1, if_pos e1]
    · rw [if_neg e1, if_neg e1]
      by_cases e2 : q = 33 ∧ i < ln A U (nL A)
      · rw [if_pos e2, if_pos e2]
      · rw [if_neg e2, if_neg e2, if_neg (fun h => e0 h.1), if_neg (fun h => e0 h.1)]
theorem k_fewest (w : cb_W) (A : ca_A) (z : Int32) (hI : ca_I A) (hC : cc_I w A z) (u : Int32) : cb_Con yX10_fewest cX10_fewest 3 (some .int) 4 88 0 0 (fun _ => true) [.inr (some 0), .inl u] w (cb_pi (fun x w' => x = sr_fewest A u ∧ cc_I w' (sA_fewest A u) z ∧ cb_M1 w w')) := by
  refine cb_con (by decide) (Nat.le_of_ble_eq_true rfl) (fun κ O Rt hnm => ?_)
  show cb_X κ w 0 0 0 [some (.inr (some 0)), some (.inl u), none] []
  refine cb_aload_n (pc := 0) O dX10_fewest_0 rfl ?_
  refine cb_getR (pc := 1) O fl_X10_67 rfl rfl dX10_fewest_1 (by first | exact hC2.1.1 _ rfl | exact hC.1.1 _ rfl) (by first | exact hC2.1.2 _ _ _ rfl | exact hC.1.2 _ _ _ rfl) ?_
  refine cb_cVp (pc := 4) O (c_X6_isTold w A z hI hC) my_X6_isTold mi_X6_isTold mx_X6_isTold ml_X10_246 dX10_fewest_4 rfl ct_6 rfl rfl rfl ⟨(Nat.le_of_ble_eq_true rfl), (Nat.le_of_ble_eq_true rfl)⟩ (Nat.le_of_ble_eq_true rfl) rfl ⟨(Nat.le_of_ble_eq_true rfl), (Nat.le_of_ble_eq_true rfl)⟩ (by first | exact hC2.1.1 _ rfl | exact hC.1.1 _ rfl) ?_
  refine cb_ifp_eq (pc := 7) O 17 dX10_fewest_7 (by decide) (fun c_7 => ?_) (fun c_7 => ?_)
  · skip
    refine cb_iconst (pc := 17) (v := (-1)) O dX10_fewest_17 (by decide) ?_
    exact cb_iret (pc := 18) O Rt rfl (Nat.le_of_ble_eq_true rfl) (Nat.le_of_ble_eq_true rfl) dX10_fewest_18 (by
      have hv : ¬ sv_ink A u := fun h => by
        first | exact c_7 h.1 | exact c_14 h.2
      exact ⟨by rw [sr_fewest, if_neg hv], by rw [sA_fewest, if_neg (fun h => hv h.1)]; exact hC, cb_M1.rfl'⟩)
  · skip
    refine cb_iload_n (pc := 10) O dX10_fewest_10 rfl ?_
    refine cb_cSp (pc := 11) O (c_X10_isInkSet _ _) my_X10_isInkSet mt_X10_isInkSet ml_X10_247 dX10_fewest_11 rfl rfl ⟨(Nat.le_of_ble_eq_true rfl), (Nat.le_of_ble_eq_true rfl)⟩ (Nat.le_of_ble_eq_true rfl) rfl ⟨(Nat.le_of_ble_eq_true rfl), (Nat.le_of_ble_eq_true rfl)⟩ ?_
    refine cb_ifp_ne (pc := 14) O 19 dX10_fewest_14 (by decide) (fun c_14 => ?_) (fun c_14 => ?_)
    · skip
      have hv : sv_ink A u := ⟨c_7, c_14⟩
      obtain ⟨u, hu, rfl⟩ := ci_in (n := 1023) c_14 rfl
      have hcl := ci_nz (n := u) (by omega)
      have h6l := ln_6 (A := A) (U := u) (L := nL A)
      refine cb_aload_n (pc := 19) O dX10_fewest_19 rfl ?_
      refine cb_getR (pc := 20) O fl_X10_44 rfl rfl dX10_fewest_20 (by first | exact hC2.1.1 _ rfl | exact hC.1.1 _ rfl) (by first | exact hC2.1.2 _ _ _ rfl | exact hC.1.2 _ _ _ rfl) ?_
      refine cb_iload_n (pc := 23) O dX10_fewest_23 rfl ?_
      refine cb_aload_n (pc := 24) O dX10_fewest_24 rfl ?_
      refine cb_getR (pc := 25) O fl_X10_67 rfl rfl dX10_fewest_25 (by first | exact hC2.1.1 _ rfl | exact hC.1.1 _ rfl) (by first | exact hC2.1.2 _ _ _ rfl | exact hC.1.2 _ _ _ rfl) ?_
      refine cb_cVp (pc := 28) O (c_X6_colourSet w A z hI hC) my_X6_colourSet mi_X6_colourSet mx_X6_colourSet ml_X10_250 dX10_fewest_28 rfl ct_6 rfl rfl rfl ⟨(Nat.le_of_ble_eq_true rfl), (Nat.le_of_ble_eq_true rfl)⟩ (Nat.le_of_ble_eq_true rfl) rfl ⟨(Nat.le_of_ble_eq_true rfl), (Nat.le_of_ble_eq_true rfl)⟩ (by first | exact hC2.1.1 _ rfl | exact hC.1.1 _ rfl) ?_
      refine cb_cVi (pc := 31) O (c_X8_leastPulls w A z hI hC u hu) my_X8_leastPulls mi_X8_leastPulls mx_X8_leastPulls ml_X10_253 dX10_fewest_31 rfl ct_8 rfl rfl rfl ⟨(Nat.le_of_ble_eq_true rfl), (Nat.le_of_ble_eq_true rfl)⟩ (Nat.le_of_ble_eq_true rfl) rfl ⟨(Nat.le_of_ble_eq_true rfl), (Nat.le_of_ble_eq_true rfl)⟩ (fun _ _ => rfl) (by first | exact hC2.1.1 _ rfl | exact hC.1.1 _ rfl) (fun x_31 w_31 hp_31 => ?_)
      obtain ⟨rfl, hC2, hM2, hSR⟩ := hp_31
      refine cb_istore_n (pc := 34) O dX10_fewest_34 (by decide) ?_
      dsimp only [List.set]
      refine cb_iload_n (pc := 35) O dX10_fewest_35 rfl ?_
      refine cb_bipush (pc := 36) (v := (-4)) O dX10_fewest_36 (by decide) ?_
      refine cb_icmp_eq (pc := 38) O 71 dX10_fewest_38 (by decide) (fun c_38 => ?_) (fun c_38 => ?_)
      · skip
        have h6 : ¬ ln A u (nL A) < 6 := fun h => by
          rw [if_pos h, ci_eq, ci_n (by omega)] at c_38
          exact absurd c_38 (by show ¬ ((ln A u (nL A) : Nat) : Int) = -4; omega)
        refine cb_iload_n (pc := 71) O dX10_fewest_71 rfl ?_
        exact cb_iret (pc := 72) O Rt rfl (Nat.le_of_ble_eq_true rfl) (Nat.le_of_ble_eq_true rfl) dX10_fewest_72 (by
          first
          | exact ⟨by rw [sr_fewest, if_pos hv, hcl], by rw [sA_fewest, hcl, if_neg (fun h => h6 h.2)]; exact hC2, hM2⟩
          | exact ⟨by rw [sr_fewest, if_pos hv, hcl, if_pos h6], by rw [sA_fewest, hcl, if_pos ⟨hv, h6⟩, ← hBe]; exact hC6, (hM2.trans hB.2).trans hM6⟩)
      · skip
        have h6 : ln A u (nL A) < 6 := Classical.byContradiction (fun h => c_38 (by rw [if_neg h]))
        rw [if_pos h6]
        refine cb_aload_n (pc := 41) O dX10_fewest_41 rfl ?_
        refine cb_getR (pc := 42) O fl_X10_44 rfl rfl dX10_fewest_42 (by first | exact hC2.1.1 _ rfl | exact hC.1.1 _ rfl) (by first | exact hC2.1.2 _ _ _ rfl | exact hC.1.2 _ _ _ rfl) ?_
        refine cb_iload_n (pc := 45) O dX10_fewest_45 rfl ?_
        refine cb_aload_n (pc := 46) O dX10_fewest_46 rfl ?_
        refine cb_getR (pc := 47) O fl_X10_51 rfl rfl dX10_fewest_47 (by first | exact hC2.1.1 _ rfl | exact hC.1.1 _ rfl) (by first | exact hC2.1.2 _ _ _ rfl | exact hC.1.2 _ _ _ rfl) ?_
        refine cb_getR (pc := 50) O fl_X10_256 rfl rfl dX10_fewest_50 (by first | exact hC2.1.1 _ rfl | exact hC.1.1 _ rfl) (by first | exact hC2.1.2 _ _ _ rfl | exact hC.1.2 _ _ _ rfl) ?_
        refine cb_cVv (pc := 53) O (c_X8_writeRow w_31 A hI hC2.1 hC2.2.2.2.1 (nL A) u (ln A u (nL A)) hu (by omega) (hSR h6).1 (hSR h6).2.1 (hSR h6).2.2.1 (hSR h6).2.2.2 (ln_mk h6)) my_X8_writeRow mi_X8_writeRow mx_X8_writeRow ml_X10_260 dX10_fewest_53 rfl ct_8 rfl rfl rfl ⟨(Nat.le_of_ble_eq_true rfl), (Nat.le_of_ble_eq_true rfl)⟩ (Nat.le_of_ble_eq_true rfl) rfl ⟨(Nat.le_of_ble_eq_true rfl), (Nat.le_of_ble_eq_true rfl)⟩ (fun _ _ => rfl) (by first | exact hC2.1.1 _ rfl | exact hC.1.1 _ rfl) (fun w_53 hp_53 => ?_)
        obtain ⟨g1, g2, g3, g4, g5⟩ := hp_53
        have hB := cc_I.pl (w' := w_53) (A' := fwC A u) hC2 hI g1 g2 (fun r k h1 h2 h3 => g3 r k h1 h2) (fun q i h1 h2 h3 => fwC_o ⟨h1, h2, h3⟩) (by
          obtain ⟨-, -, m3⟩ := hC2.2.2.2.2.2.2.2.1
          refine ⟨by rw [fwC_0]; exact g4, fun i hi => ?_, fun i hi => ?_⟩
          · rw [fwC_0] at hi
            rw [fwC_33 (by omega)]
            exact g5 i (by omega)
          · rw [fwC_0, if_neg (by omega), g3 16 i (by omega) (by omega), m3 i hi, fwC_35]
            by_cases e : A 0 33 = 0
            · rw [if_pos e, if_pos ⟨hi, e⟩]
              rfl
            · rw [if_neg e, if_neg (fun h => e h.2)])
        have hCB := hB.1
        have hR : IR w_53 14 (ln A u (nL A)) (rwf A u (ln A u (nL A)) 0 (nL A)) := ⟨⟨rfl, rfl⟩, ⟨hCB.1.1 _ rfl, hCB.1.1 _ rfl, hCB.1.2 14 0 15 rfl⟩, ⟨by omega, g4⟩, g5, rwf_all (ln_mk h6)⟩
        refine cb_aload_n (pc := 56) O dX10_fewest_56 rfl ?_
        refine cb_getR (pc := 57) O fl_X10_51 rfl rfl dX10_fewest_57 (hCB.1.1 _ rfl) (hCB.1.2 _ _ _ rfl) ?_
        refine cb_aload_n (pc := 60) O dX10_fewest_60 rfl ?_
        refine cb_getR (pc := 61) O fl_X10_67 rfl rfl dX10_fewest_61 (hCB.1.1 _ rfl) (hCB.1.2 _ _ _ rfl) ?_
        refine cb_aload_n (pc := 64) O dX10_fewest_64 rfl ?_
        refine cb_getR (pc := 65) O fl_X10_12 rfl rfl dX10_fewest_65 (hCB.1.1 _ rfl) (hCB.1.2 _ _ _ rfl) ?_
        refine cb_cVv (pc := 68) O (c_X7_keepPlaces w_53 (fwC A u) z (fwC_I hI h6) hCB (ln A u (nL A)) (rwf A u (ln A u (nL A)) 0 (nL A)) (by omega) hR (by rw [fwC_0]; omega)) my_X7_keepPlaces mi_X7_keepPlaces mx_X7_keepPlaces ml_X10_264 dX10_fewest_68 rfl ct_7 rfl rfl rfl ⟨(Nat.le_of_ble_eq_true rfl), (Nat.le_of_ble_eq_true rfl)⟩ (Nat.le_of_ble_eq_true rfl) rfl ⟨(Nat.le_of_ble_eq_true rfl), (Nat.le_of_ble_eq_true rfl)⟩ (fun _ _ => rfl) (hCB.1.1 _ rfl) (fun w_68 hp_68 => ?_)
        obtain ⟨B, -, hC6, b1, b2, b3, hM6⟩ := hp_68
        have hBe := fwA_eq b1 b2 b3
        refine cb_iload_n (pc := 71) O dX10_fewest_71 rfl ?_
        exact cb_iret (pc := 72) O Rt rfl (Nat.le_of_ble_eq_true rfl) (Nat.le_of_ble_eq_true rfl) dX10_fewest_72 (by
          first
          | exact ⟨by rw [sr_fewest, if_pos hv, hcl], by rw [sA_fewest, hcl, if_neg (fun h => h6 h.2)]; exact hC2, hM2⟩
          | exact ⟨by rw [sr_fewest, if_pos hv, hcl, if_pos h6], by rw [sA_fewest, hcl, if_pos ⟨hv, h6⟩, ← hBe]; exact hC6, (hM2.trans hB.2).trans hM6⟩)
    · skip
      refine cb_iconst (pc := 17) (v := (-1)) O dX10_fewest_17 (by decide) ?_
      exact cb_iret (pc := 18) O Rt rfl (Nat.le_of_ble_eq_true rfl) (Nat.le_of_ble_eq_true rfl) dX10_fewest_18 (by
        have hv : ¬ sv_ink A u := fun h => by
          first | exact c_7 h.1 | exact c_14 h.2
        exact ⟨by rw [sr_fewest, if_neg hv], by rw [sA_fewest, if_neg (fun h => hv h.1)]; exact hC, cb_M1.rfl'⟩)

theorem k_why (w : cb_W) (A : ca_A) (z : Int32) (hI : ca_I A) (hC : cc_I w A z) (u : Int32) : cb_Con yX10_why cX10_why 5 (some .int) 4 87 0 0 (fun _ => true) [.inr (some 0), .inl u] w (cb_pi (fun x w' => x = sr_why A u ∧ cc_I w' A z ∧ cb_M1 w w')) := by
  refine cb_con (by decide) (Nat.le_of_ble_eq_true rfl) (fun κ O Rt hnm => ?_)
  show cb_X κ w 0 0 0 [some (.inr (some 0)), some (.inl u), none, none, none] []
  refine cb_aload_n (pc := 0) O dX10_why_0 rfl ?_
  refine cb_getR (pc := 1) O fl_X10_67 rfl rfl dX10_why_1 (hC.1.1 _ rfl) (hC.1.2 _ _ _ rfl) ?_
  refine cb_cVp (pc := 4) O (c_X6_isTold w A z hI hC) my_X6_isTold mi_X6_isTold mx_X6_isTold ml_X10_246 dX10_why_4 rfl ct_6 rfl rfl rfl ⟨(Nat.le_of_ble_eq_true rfl), (Nat.le_of_ble_eq_true rfl)⟩ (Nat.le_of_ble_eq_true rfl) rfl ⟨(Nat.le_of_ble_eq_true rfl), (Nat.le_of_ble_eq_true rfl)⟩ (hC.1.1 _ rfl) ?_
  refine cb_ifp_eq (pc := 7) O 17 dX10_why_7 (by decide) (fun c_7 => ?_) (fun c_7 => ?_)
  · skip
    refine cb_iconst (pc := 17) (v := (-1)) O dX10_why_17 (by decide) ?_
    exact cb_iret (pc := 18) O Rt rfl (Nat.le_of_ble_eq_true rfl) (Nat.le_of_ble_eq_true rfl) dX10_why_18 (by
      have hv : ¬ sv_ink A u := fun h => by
        first | exact c_7 h.1 | exact c_14 h.2
      exact ⟨by rw [sr_why, if_neg hv], hC, cb_M1.rfl'⟩)
  · skip
    refine cb_iload_n (pc := 10) O dX10_why_10 rfl ?_
    refine cb_cSp (pc := 11) O (c_X10_isInkSet _ _) my_X10_isInkSet mt_X10_isInkSet ml_X10_247 dX10_why_11 rfl rfl ⟨(Nat.le_of_ble_eq_true rfl), (Nat.le_of_ble_eq_true rfl)⟩ (Nat.le_of_ble_eq_true rfl) rfl ⟨(Nat.le_of_ble_eq_true rfl), (Nat.le_of_ble_eq_true rfl)⟩ ?_
    refine cb_ifp_ne (pc := 14) O 19 dX10_why_14 (by decide) (fun c_14 => ?_) (fun c_14 => ?_)
    · skip
      have hv : sv_ink A u := ⟨c_7, c_14⟩
      obtain ⟨u, hu, rfl⟩ := ci_in (n := 1023) c_14 rfl
      have hcl := ci_nz (n := u) (by omega)
      have h6l := ln_6 (A := A) (U := u) (L := nL A)
      refine cb_aload_n (pc := 19) O dX10_why_19 rfl ?_
      refine cb_getR (pc := 20) O fl_X10_67 rfl rfl dX10_why_20 (hC.1.1 _ rfl) (hC.1.2 _ _ _ rfl) ?_
      refine cb_cVp (pc := 23) O (c_X6_colourSet w A z hI hC) my_X6_colourSet mi_X6_colourSet mx_X6_colourSet ml_X10_250 dX10_why_23 rfl ct_6 rfl rfl rfl ⟨(Nat.le_of_ble_eq_true rfl), (Nat.le_of_ble_eq_true rfl)⟩ (Nat.le_of_ble_eq_true rfl) rfl ⟨(Nat.le_of_ble_eq_true rfl), (Nat.le_of_ble_eq_true rfl)⟩ (hC.1.1 _ rfl) ?_
      refine cb_istore_n (pc := 26) O dX10_why_26 (by decide) ?_
      dsimp only [List.set]
      refine cb_iload_n (pc := 27) O dX10_why_27 rfl ?_
      refine cb_aload_n (pc := 28) O dX10_why_28 rfl ?_
      refine cb_getR (pc := 29) O fl_X10_12 rfl rfl dX10_why_29 (hC.1.1 _ rfl) (hC.1.2 _ _ _ rfl) ?_
      refine cb_iload_n (pc := 32) O dX10_why_32 rfl ?_
      refine cb_cVi (pc := 33) O (c_X4_reachedBy w A z hI hC u hu) my_X4_reachedBy mi_X4_reachedBy mx_X4_reachedBy ml_X10_278 dX10_why_33 rfl ct_4 rfl rfl rfl ⟨(Nat.le_of_ble_eq_true rfl), (Nat.le_of_ble_eq_true rfl)⟩ (Nat.le_of_ble_eq_true rfl) rfl ⟨(Nat.le_of_ble_eq_true rfl), (Nat.le_of_ble_eq_true rfl)⟩ (fun _ _ => rfl) (hC.1.1 _ rfl) (fun x_33 w_33 hp_33 => ?_)
      obtain ⟨rfl, y, rfl, hyl, hy⟩ := hp_33
      refine cb_iconst (pc := 36) (v := (-1)) O dX10_why_36 (by decide) ?_
      refine cb_ixor (pc := 37) O dX10_why_37 ?_
      refine cb_iand (pc := 38) O dX10_why_38 ?_
      refine cb_topv (nI (nvm A u)) (nvm_eq hI (fun j _ => hy j)) ?_
      refine cb_istore_n (pc := 39) O dX10_why_39 (by decide) ?_
      dsimp only [List.set]
      refine cb_iload_n (pc := 40) O dX10_why_40 rfl ?_
      refine cb_if_eq (pc := 41) O 46 dX10_why_41 (by decide) (fun c_41 => ?_) (fun c_41 => ?_)
      · skip
        rw [show (0 : Int32) = nI 0 from rfl, nI_eq (by have := nvm_lt A u; omega) (by omega)] at c_41
        refine cb_aload_n (pc := 46) O dX10_why_46 rfl ?_
        refine cb_getR (pc := 47) O fl_X10_44 rfl rfl dX10_why_47 (hC.1.1 _ rfl) (hC.1.2 _ _ _ rfl) ?_
        refine cb_iload_n (pc := 50) O dX10_why_50 rfl ?_
        refine cb_iload_n (pc := 51) O dX10_why_51 rfl ?_
        refine cb_cVi (pc := 52) O (c_X8_leastPulls _ A z hI hC u hu) my_X8_leastPulls mi_X8_leastPulls mx_X8_leastPulls ml_X10_253 dX10_why_52 rfl ct_8 rfl rfl rfl ⟨(Nat.le_of_ble_eq_true rfl), (Nat.le_of_ble_eq_true rfl)⟩ (Nat.le_of_ble_eq_true rfl) rfl ⟨(Nat.le_of_ble_eq_true rfl), (Nat.le_of_ble_eq_true rfl)⟩ (fun _ _ => rfl) (hC.1.1 _ rfl) (fun x_52 w_52 hp_52 => ?_)
        obtain ⟨rfl, hC2, hM2, hSR⟩ := hp_52
        refine cb_bipush (pc := 55) (v := (-4)) O dX10_why_55 (by decide) ?_
        refine cb_icmp_eq (pc := 57) O 64 dX10_why_57 (by decide) (fun c_57 => ?_) (fun c_57 => ?_)
        · skip
          have h6 : ¬ ln A u (nL A) < 6 := fun h => by
            rw [if_pos h, ci_eq, ci_n (by omega)] at c_57
            exact absurd c_57 (by show ¬ ((ln A u (nL A) : Nat) : Int) = -4; omega)
          refine cb_iconst (pc := 64) (v := 0) O dX10_why_64 (by decide) ?_
          refine cb_istore (pc := 65) O dX10_why_65 (by decide) ?_
          dsimp only [List.set]
          refine cb_iload (pc := 67) O dX10_why_67 rfl ?_
          refine cb_topv (if ln A u (nL A) < 6 then 1 else 0) (by first | rw [if_pos h6] | rw [if_neg h6]) ?_
          refine cb_ifp_eq (pc := 69) O 76 dX10_why_69 (by decide) (fun c_69 => ?_) (fun c_69 => ?_)
          · skip
            refine cb_iload_n (pc := 76) O dX10_why_76 rfl ?_
            refine cb_cSp (pc := 77) O (c_X10_withoutPaper _ _) my_X10_withoutPaper mt_X10_withoutPaper ml_X10_281 dX10_why_77 rfl rfl ⟨(Nat.le_of_ble_eq_true rfl), (Nat.le_of_ble_eq_true rfl)⟩ (Nat.le_of_ble_eq_true rfl) rfl ⟨(Nat.le_of_ble_eq_true rfl), (Nat.le_of_ble_eq_true rfl)⟩ ?_
            refine cb_topv _ (ci_rm0 _) ?_
            exact cb_iret (pc := 80) O Rt rfl (Nat.le_of_ble_eq_true rfl) (Nat.le_of_ble_eq_true rfl) dX10_why_80 (by
              refine ⟨?_, hC2, hM2⟩
              rw [sr_why, if_pos hv, hcl]
              first
              | rw [if_pos c_69]
              | rw [if_neg c_69, if_pos c_41])
          · skip
            refine cb_iconst (pc := 72) (v := 0) O dX10_why_72 (by decide) ?_
            refine cb_goto (pc := 73) O 80 dX10_why_73 (by decide) ?_
            exact cb_iret (pc := 80) O Rt rfl (Nat.le_of_ble_eq_true rfl) (Nat.le_of_ble_eq_true rfl) dX10_why_80 (by
              refine ⟨?_, hC2, hM2⟩
              rw [sr_why, if_pos hv, hcl]
              first
              | rw [if_pos c_69]
              | rw [if_neg c_69, if_pos c_41])
        · skip
          have h6 : ln A u (nL A) < 6 := Classical.byContradiction (fun h => c_57 (by rw [if_neg h]))
          refine cb_iconst (pc := 60) (v := 1) O dX10_why_60 (by decide) ?_
          refine cb_goto (pc := 61) O 65 dX10_why_61 (by decide) ?_
          refine cb_istore (pc := 65) O dX10_why_65 (by decide) ?_
          dsimp only [List.set]
          refine cb_iload (pc := 67) O dX10_why_67 rfl ?_
          refine cb_topv (if ln A u (nL A) < 6 then 1 else 0) (by first | rw [if_pos h6] | rw [if_neg h6]) ?_
          refine cb_ifp_eq (pc := 69) O 76 dX10_why_69 (by decide) (fun c_69 => ?_) (fun c_69 => ?_)
          · skip
            refine cb_iload_n (pc := 76) O dX10_why_76 rfl ?_
            refine cb_cSp (pc := 77) O (c_X10_withoutPaper _ _) my_X10_withoutPaper mt_X10_withoutPaper ml_X10_281 dX10_why_77 rfl rfl ⟨(Nat.le_of_ble_eq_true rfl), (Nat.le_of_ble_eq_true rfl)⟩ (Nat.le_of_ble_eq_true rfl) rfl ⟨(Nat.le_of_ble_eq_true rfl), (Nat.le_of_ble_eq_true rfl)⟩ ?_
            refine cb_topv _ (ci_rm0 _) ?_
            exact cb_iret (pc := 80) O Rt rfl (Nat.le_of_ble_eq_true rfl) (Nat.le_of_ble_eq_true rfl) dX10_why_80 (by
              refine ⟨?_, hC2, hM2⟩
              rw [sr_why, if_pos hv, hcl]
              first
              | rw [if_pos c_69]
              | rw [if_neg c_69, if_pos c_41])
          · skip
            refine cb_iconst (pc := 72) (v := 0) O dX10_why_72 (by decide) ?_
            refine cb_goto (pc := 73) O 80 dX10_why_73 (by decide) ?_
            exact cb_iret (pc := 80) O Rt rfl (Nat.le_of_ble_eq_true rfl) (Nat.le_of_ble_eq_true rfl) dX10_why_80 (by
              refine ⟨?_, hC2, hM2⟩
              rw [sr_why, if_pos hv, hcl]
              first
              | rw [if_pos c_69]
              | rw [if_neg c_69, if_pos c_41])
      · skip
        rw [show (0 : Int32) = nI 0 from rfl, nI_eq (by have := nvm_lt A u; omega) (by omega)] at c_41
        have h6 : ¬ ln A u (nL A) < 6 := fun h => c_41 (nvm_0 hI h)
        refine cb_iload_n (pc := 44) O dX10_why_44 rfl ?_
        exact cb_iret (pc := 45) O Rt rfl (Nat.le_of_ble_eq_true rfl) (Nat.le_of_ble_eq_true rfl) dX10_why_45 (by
          refine ⟨?_, hC, cb_M1.rfl'⟩
          rw [sr_why, if_pos hv, hcl, if_neg h6, if_neg c_41])
    · skip
      refine cb_iconst (pc := 17) (v := (-1)) O dX10_why_17 (by decide) ?_
      exact cb_iret (pc := 18) O Rt rfl (Nat.le_of_ble_eq_true rfl) (Nat.le_of_ble_eq_true rfl) dX10_why_18 (by
        have hv : ¬ sv_ink A u := fun h => by
          first | exact c_7 h.1 | exact c_14 h.2
        exact ⟨by rw [sr_why, if_neg hv], hC, cb_M1.rfl'⟩)

def ca_fk (A : ca_A) (s i f : Nat) : Nat → Nat
  | 0 => f
  | k + 1 => if ca_p A k ∧ A 5 (10 * A 18 (64 * s + k) + i) = 1 then max (ca_fk A s i f k) (A 19 (64 * s + k)) else ca_fk A s i f k
def ca_fs (A : ca_A) (i a f : Nat) : Nat → Nat
  | 0 => f
  | j + 1 => if A 20 (a + j) = 0 then ca_fk A (a + j) i (ca_fs A i a f j) 64 else ca_fs A i a f j
theorem ca_fkm (A : ca_A) (s i f : Nat) : ∀ k, ca_fk A s i f k = max f (ca_fk A s i 0 k)
  | 0 => by show f = max f 0; omega
  | k + 1 => by
    have ih := ca_fkm A s i f k
    unfold ca_fk
    split
    · rw [ih]; omega
    · exact ih
theorem ca_fkb {A : ca_A} (hI : ca_I A) (s i f : Nat) (hf : f ≤ 100998) : ∀ k, ca_fk A s i f k ≤ 100998
  | 0 => hf
  | k + 1 => by
    have ih := ca_fkb hI s i f hf k
    have h19 := hI.2.2.2.2.1.2.2.2.1 (64 * s + k)
    unfold ca_fk
    split
    · omega
    · exact ih
theorem ca_fsb {A : ca_A} (hI : ca_I A) (i a f : Nat) (hf : f ≤ 100998) : ∀ j, ca_fs A i a f j ≤ 100998
  | 0 => hf
  | j + 1 => by
    have ih := ca_fsb hI i a f hf j
    unfold ca_fs
    split
    · exact ca_fkb hI _ _ _ ih 64
    · exact ih
abbrev sv_free (A : ca_A) (t i : Int32) : Prop := ca_s A t ∧ (0 ≤ i ∧ i ≤ 9)
def sr_free (A : ca_A) (t i : Int32) : Int32 := if sv_free A t i then nI (ca_fs A i.toNatClampNeg (t.toInt.toNat / 100) (A 0 8) (t.toInt.toNat % 100 + 1 - t.toInt.toNat / 100)) else -1
theorem ci_max {a b : Nat} (ha : a < 2147483648) (hb : b < 2147483648) : (if nI a < nI b then nI b else nI a) = nI (max a b) := by
  by_cases h : a < b
  · rw [if_pos ((nI_ltI ha hb).mpr h), Nat.max_eq_right (by omega)]
  · rw [if_neg (fun q => h ((nI_ltI ha hb).mp q)), Nat.max_eq_left (by omega)]
theorem ca_sN {A : ca_A} {t : Int32} (h : ca_s A t) : ∃ j : Nat, j < 2147483648 ∧ t = nI j ∧ j / 100 ≤ j % 100 ∧ j % 100 < A 0 20 := by
  obtain ⟨h1, h2, h3⟩ := h
  have hb := fb_rng t
  refine ⟨t.toInt.toNat, by omega, ?_, h2, h3⟩
  rw [ci_eq, ci_n (by omega)]
  omega
theorem c_X9_dryFor (w : cb_W) (A : ca_A) (z : Int32) (hI : ca_I A) (hC : cc_I w A z) (s i : Nat) (hs : s < A 0 20) (hi : i < 10) : cb_Pu yX9_dryFor cX9_dryFor 6 (some .int) 2 42 [.inr (some (200 + 6 * s)), .inl (nI i), .inr (some 20), .inr (some 1)] w (nI (if A 20 s = 0 then ca_fk A s i 0 64 else 0)) := by
  have l20 := hI.1.2.2.2.1
  obtain ⟨⟨v0, v1, v2, v3, v4, v5⟩, g2, r0, r1, r2, r3, r4⟩ := hC.2.2.2.2.1.g hs
  obtain ⟨-, -, -, g4, g5⟩ := hC.2.2.2.2.1.1 s hs
  have l1 := hI.2.2.2.2.1.2.2.2.2 s
  refine cb_con (by decide) (Nat.le_of_ble_eq_true rfl) (fun κ O Rt hnm => ?_)
  show cb_X κ w 0 0 0 [some (.inr (some (200 + 6 * s))), some (.inl (nI i)), some (.inr (some 20)), some (.inr (some 1)), none, none] []
  refine cb_iconst (pc := 0) (v := 0) O dX9_dryFor_0 (by decide) ?_
  refine cb_istore (pc := 1) O dX9_dryFor_1 (by decide) ?_
  dsimp only [List.set]
  refine cb_iconst (pc := 3) (v := 0) O dX9_dryFor_3 (by decide) ?_
  refine cb_istore (pc := 4) O dX9_dryFor_4 (by decide) ?_
  dsimp only [List.set]
  have L_6 : ∀ (n : Nat) (k : Nat), k ≤ 64 → (¬ A 20 s = 0 → k = 0) → 64 + 1 ≤ k + n → cb_X κ w 0 0 6 [some (.inr (some (200 + 6 * s))), some (.inl (nI i)), some (.inr (some 20)), some (.inr (some 1)), some (.inl (nI (ca_fk A s i 0 k))), some (.inl (nI k))] [] := by
    intro n
    induction n with
    | zero =>
      intro k hk hg hn
      exact absurd hn (by omega)
    | succ n ih_6 =>
      intro k hk hg hn
      refine cb_aload_n (pc := 6) O dX9_dryFor_6 rfl ?_
      refine cb_getI (pc := 7) O fl_X9_27 rfl (sh_s0 (by omega)) dX9_dryFor_7 v0 ?_
      refine cb_if_eq (pc := 10) O 67 dX9_dryFor_10 (by decide) (fun c_10 => ?_) (fun c_10 => ?_)
      · skip
        rw [g4] at c_10
        have hng : ¬ A 20 s = 0 := fun e => by rw [e] at c_10; exact absurd c_10 (by decide)
        have e0 := hg hng
        subst e0
        refine cb_iload (pc := 67) O dX9_dryFor_67 rfl ?_
        exact cb_iret (pc := 69) O Rt rfl (Nat.le_of_ble_eq_true rfl) (Nat.le_of_ble_eq_true rfl) dX9_dryFor_69 (by
          refine ⟨?_, rfl⟩
          first | (rw [if_neg hng]; rfl) | rw [if_pos hgd])
      · skip
        rw [g4] at c_10
        have hgd : A 20 s = 0 := by
          rcases (show A 20 s = 0 ∨ A 20 s = 1 by omega) with e | e
          · exact e
          · rw [e] at c_10; exact absurd rfl c_10
        refine cb_iload (pc := 13) O dX9_dryFor_13 rfl ?_
        refine cb_bipush (pc := 15) (v := 64) O dX9_dryFor_15 (by decide) ?_
        refine cb_icmp_ge (pc := 17) O 67 dX9_dryFor_17 (by decide) (fun c_17 => ?_) (fun c_17 => ?_)
        · skip
          have e : k = 64 := by
            have := ci_ge (b := 64) c_17 (by omega) (by decide)
            omega
          subst e
          refine cb_iload (pc := 67) O dX9_dryFor_67 rfl ?_
          exact cb_iret (pc := 69) O Rt rfl (Nat.le_of_ble_eq_true rfl) (Nat.le_of_ble_eq_true rfl) dX9_dryFor_69 (by
            refine ⟨?_, rfl⟩
            first | (rw [if_neg hng]; rfl) | rw [if_pos hgd])
        · skip
          have hlt : k < 64 := ci_nge (b := 64) c_17 (by omega) (by decide)
          have g18 := hI.2.2.2.2.1.2.2.1 (64 * s + k)
          have g19 := hI.2.2.2.2.1.2.2.2.1 (64 * s + k)
          have gb := ca_fkb hI s i 0 (by omega) k
          refine cb_aload_n (pc := 20) O dX9_dryFor_20 rfl ?_
          refine cb_iload (pc := 21) O dX9_dryFor_21 rfl ?_
          refine cb_cVp (pc := 23) O (c_X1_prints w A z hI hC k hlt) my_X1_prints mi_X1_prints mx_X1_prints ml_X9_49 dX9_dryFor_23 rfl ct_1 rfl rfl rfl ⟨(Nat.le_of_ble_eq_true rfl), (Nat.le_of_ble_eq_true rfl)⟩ (Nat.le_of_ble_eq_true rfl) rfl ⟨(Nat.le_of_ble_eq_true rfl), (Nat.le_of_ble_eq_true rfl)⟩ (hC.1.1 _ rfl) ?_
          refine cb_ifp_eq (pc := 26) O 61 dX9_dryFor_26 (by decide) (fun c_26 => ?_) (fun c_26 => ?_)
          · skip
            have hstep : ca_fk A s i 0 (k + 1) = ca_fk A s i 0 k := by
              show (if _ then _ else _) = _
              rw [if_neg (fun h => c_26 h.1)]
            refine cb_iinc (pc := 61) O (nI (k + 1)) dX9_dryFor_61 rfl (by decide) (ci_inc k) ?_
            dsimp only [List.set]
            refine cb_goto (pc := 64) O 6 dX9_dryFor_64 (by decide) ?_
            first
            | (rw [← hstep]; exact ih_6 (k + 1) (by omega) (fun h => absurd hgd h) (by omega))
            | exact ih_6 (k + 1) (by omega) (fun h => absurd hgd h) (by omega)
          · skip
            refine cb_aload_n (pc := 29) O dX9_dryFor_29 rfl ?_
            refine cb_getR (pc := 30) O fl_X9_37 rfl rfl dX9_dryFor_30 (hC.1.1 _ rfl) (hC.1.2 _ _ _ rfl) ?_
            refine cb_aload_n (pc := 33) O dX9_dryFor_33 rfl ?_
            refine cb_getR (pc := 34) O fl_X9_15 rfl (sh_s0 (by omega)) dX9_dryFor_34 v0 r1 ?_
            refine cb_iload (pc := 37) O dX9_dryFor_37 rfl ?_
            refine cb_iald (pc := 39) O k (sh_sj (s := s) (j := 1) (by omega) (by omega) (by omega)) dX9_dryFor_39 (by decide) v2 rfl hlt ?_
            refine cb_aald (pc := 40) O (A 18 (64 * s + k)) rfl (by decide) (by decide) dX9_dryFor_40 (by decide) (hC.1.1 _ rfl) (g5 k hlt).2.1 g18 (hC.1.2 10 _ (110 + A 18 (64 * s + k)) (by simp [cc_Rf]; omega)) ?_
            refine cb_iload_n (pc := 41) O dX9_dryFor_41 rfl ?_
            refine cb_iald (pc := 42) O i (sh_cl g18) dX9_dryFor_42 (by decide) (hC.1.1 _ (lv_f (by omega))) rfl hi ?_
            refine cb_iconst (pc := 43) (v := 1) O dX9_dryFor_43 (by decide) ?_
            refine cb_icmp_ne (pc := 44) O 61 dX9_dryFor_44 (by decide) (fun c_44 => ?_) (fun c_44 => ?_)
            · skip
              rw [hC.2.2.2.1.2.2.1 _ i g18 hi] at c_44
              have hstep : ca_fk A s i 0 (k + 1) = ca_fk A s i 0 k := by
                show (if _ then _ else _) = _
                rw [if_neg (fun h => c_44 (by rw [h.2]; rfl))]
              refine cb_iinc (pc := 61) O (nI (k + 1)) dX9_dryFor_61 rfl (by decide) (ci_inc k) ?_
              dsimp only [List.set]
              refine cb_goto (pc := 64) O 6 dX9_dryFor_64 (by decide) ?_
              first
              | (rw [← hstep]; exact ih_6 (k + 1) (by omega) (fun h => absurd hgd h) (by omega))
              | exact ih_6 (k + 1) (by omega) (fun h => absurd hgd h) (by omega)
            · skip
              rw [hC.2.2.2.1.2.2.1 _ i g18 hi] at c_44
              have hcl : A 5 (10 * A 18 (64 * s + k) + i) = 1 := by
                have h5 := hI.2.2.1.2.2.1 (10 * A 18 (64 * s + k) + i)
                rcases (show A 5 (10 * A 18 (64 * s + k) + i) = 0 ∨ A 5 (10 * A 18 (64 * s + k) + i) = 1 by omega) with e | e
                · rw [e] at c_44; exact absurd c_44 (by decide)
                · exact e
              refine cb_iload (pc := 47) O dX9_dryFor_47 rfl ?_
              refine cb_aload_n (pc := 49) O dX9_dryFor_49 rfl ?_
              refine cb_getR (pc := 50) O fl_X9_24 rfl (sh_s0 (by omega)) dX9_dryFor_50 v0 r4 ?_
              refine cb_iload (pc := 53) O dX9_dryFor_53 rfl ?_
              refine cb_iald (pc := 55) O k (sh_sj (s := s) (j := 4) (by omega) (by omega) (by omega)) dX9_dryFor_55 (by decide) v5 rfl hlt ?_
              refine cb_topv _ (g5 k hlt).2.2.2.2 ?_
              refine cb_cSp (pc := 56) O (c_max _ _ _) my_J9_max_7cf53 mt_J9_max_7cf53 ml_X9_55 dX9_dryFor_56 rfl rfl ⟨(Nat.le_of_ble_eq_true rfl), (Nat.le_of_ble_eq_true rfl)⟩ (Nat.le_of_ble_eq_true rfl) rfl ⟨(Nat.le_of_ble_eq_true rfl), (Nat.le_of_ble_eq_true rfl)⟩ ?_
              refine cb_topv (nI (ca_fk A s i 0 (k + 1))) (by
                rw [ci_max (by omega) (by omega)]
                show _ = nI (if _ then _ else _)
                rw [if_pos ⟨c_26, hcl⟩]) ?_
              refine cb_istore (pc := 59) O dX9_dryFor_59 (by decide) ?_
              dsimp only [List.set]
              refine cb_iinc (pc := 61) O (nI (k + 1)) dX9_dryFor_61 rfl (by decide) (ci_inc k) ?_
              dsimp only [List.set]
              refine cb_goto (pc := 64) O 6 dX9_dryFor_64 (by decide) ?_
              first
              | (rw [← hstep]; exact ih_6 (k + 1) (by omega) (fun h => absurd hgd h) (by omega))
              | exact ih_6 (k + 1) (by omega) (fun h => absurd hgd h) (by omega)
  exact L_6 65 0 (by omega) (fun _ => rfl) (by omega)

theorem k_free (w : cb_W) (A : ca_A) (z : Int32) (hI : ca_I A) (hC : cc_I w A z) (t i : Int32) : cb_Con yX10_free cX10_free 5 (some .int) 3 67 0 0 (fun _ => true) [.inr (some 0), .inl t, .inl i] w (cb_pi (fun x w' => x = sr_free A t i ∧ w' = w)) := by
  refine cb_con (by decide) (Nat.le_of_ble_eq_true rfl) (fun κ O Rt hnm => ?_)
  show cb_X κ w 0 0 0 [some (.inr (some 0)), some (.inl t), some (.inl i), none, none] []
  refine cb_aload_n (pc := 0) O dX10_free_0 rfl ?_
  refine cb_iload_n (pc := 1) O dX10_free_1 rfl ?_
  refine cb_cVp (pc := 2) O (c_X10_areSheets w A z hI hC _) my_X10_areSheets mi_X10_areSheets mx_X10_areSheets ml_X10_226 dX10_free_2 rfl ct_10 rfl rfl rfl ⟨(Nat.le_of_ble_eq_true rfl), (Nat.le_of_ble_eq_true rfl)⟩ (Nat.le_of_ble_eq_true rfl) rfl ⟨(Nat.le_of_ble_eq_true rfl), (Nat.le_of_ble_eq_true rfl)⟩ (hC.1.1 _ rfl) ?_
  refine cb_ifp_eq (pc := 5) O 15 dX10_free_5 (by decide) (fun c_5 => ?_) (fun c_5 => ?_)
  · skip
    refine cb_iconst (pc := 15) (v := (-1)) O dX10_free_15 (by decide) ?_
    exact cb_iret (pc := 16) O Rt rfl (Nat.le_of_ble_eq_true rfl) (Nat.le_of_ble_eq_true rfl) dX10_free_16 (by
      have hv : ¬ sv_free A t i := by
        intro h
        first | exact c_5 h.1 | exact c_12 h.2
      exact ⟨by rw [sr_free, if_neg hv], rfl⟩)
  · skip
    refine cb_iload_n (pc := 8) O dX10_free_8 rfl ?_
    refine cb_cSp (pc := 9) O (c_X10_isInk _ _) my_X10_isInk mt_X10_isInk ml_X10_89 dX10_free_9 rfl rfl ⟨(Nat.le_of_ble_eq_true rfl), (Nat.le_of_ble_eq_true rfl)⟩ (Nat.le_of_ble_eq_true rfl) rfl ⟨(Nat.le_of_ble_eq_true rfl), (Nat.le_of_ble_eq_true rfl)⟩ ?_
    refine cb_ifp_ne (pc := 12) O 17 dX10_free_12 (by decide) (fun c_12 => ?_) (fun c_12 => ?_)
    · skip
      have hv : sv_free A t i := ⟨c_5, c_12⟩
      obtain ⟨t, ht, rfl, h1, h2⟩ := ca_sN c_5
      obtain ⟨i, hi, rfl⟩ := ci_in (n := 9) c_12 rfl
      have l := hI.1
      obtain ⟨a, ha⟩ : ∃ a, a = t / 100 := ⟨_, rfl⟩
      obtain ⟨b, hb⟩ : ∃ b, b = t % 100 := ⟨_, rfl⟩
      rw [← ha, ← hb] at h1
      rw [← hb] at h2
      refine cb_aload_n (pc := 17) O dX10_free_17 rfl ?_
      refine cb_getI (pc := 18) O fl_X10_78 rfl rfl dX10_free_18 (hC.1.1 _ rfl) ?_
      refine cb_topv (nI (A 0 8)) hC.2.2.1.2.2.1 ?_
      refine cb_istore_n (pc := 21) O dX10_free_21 (by decide) ?_
      dsimp only [List.set]
      refine cb_iload_n (pc := 22) O dX10_free_22 rfl ?_
      refine cb_cSp (pc := 23) O (c_X10_firstOf _ _) my_X10_firstOf mt_X10_firstOf ml_X10_229 dX10_free_23 rfl rfl ⟨(Nat.le_of_ble_eq_true rfl), (Nat.le_of_ble_eq_true rfl)⟩ (Nat.le_of_ble_eq_true rfl) rfl ⟨(Nat.le_of_ble_eq_true rfl), (Nat.le_of_ble_eq_true rfl)⟩ ?_
      refine cb_topv (nI (a + 0)) (by rw [ci_d100 ht, ha]; rfl) ?_
      refine cb_istore (pc := 26) O dX10_free_26 (by decide) ?_
      dsimp only [List.set]
      have L_28 : ∀ (n : Nat) (j : Nat), a + j ≤ b + 1 → b + 2 ≤ a + j + n → cb_X κ w 0 0 28 [some (.inr (some 0)), some (.inl (nI t)), some (.inl (nI i)), some (.inl (nI (ca_fs A i a (A 0 8) j))), some (.inl (nI (a + j)))] [] := by
        intro n
        induction n with
        | zero =>
          intro j hj hn
          exact absurd hn (by omega)
        | succ n ih_28 =>
          intro j hj hn
          refine cb_iload (pc := 28) O dX10_free_28 rfl ?_
          refine cb_iload_n (pc := 30) O dX10_free_30 rfl ?_
          refine cb_cSp (pc := 31) O (c_X10_lastOf _ _) my_X10_lastOf mt_X10_lastOf ml_X10_232 dX10_free_31 rfl rfl ⟨(Nat.le_of_ble_eq_true rfl), (Nat.le_of_ble_eq_true rfl)⟩ (Nat.le_of_ble_eq_true rfl) rfl ⟨(Nat.le_of_ble_eq_true rfl), (Nat.le_of_ble_eq_true rfl)⟩ ?_
          refine cb_topv (nI b) (by rw [ci_r100 ht, hb]) ?_
          refine cb_icmp_gt (pc := 34) O 67 dX10_free_34 (by decide) (fun c_34 => ?_) (fun c_34 => ?_)
          · skip
            rw [nI_ltI (by omega) (by omega)] at c_34
            refine cb_iload_n (pc := 67) O dX10_free_67 rfl ?_
            exact cb_iret (pc := 68) O Rt rfl (Nat.le_of_ble_eq_true rfl) (Nat.le_of_ble_eq_true rfl) dX10_free_68 (by
              refine ⟨?_, rfl⟩
              rw [sr_free, if_pos hv, ci_tn ht, ci_nz (by omega), ← ha, ← hb, show b + 1 - a = j by omega])
          · skip
            rw [nI_ltI (by omega) (by omega)] at c_34
            have hs : a + j < A 0 20 := by omega
            obtain ⟨⟨v0, -⟩, g2, -⟩ := hC.2.2.2.2.1.g hs
            have gb := ca_fsb hI i a (A 0 8) (by omega) j
            have gk := ca_fkb hI (a + j) i 0 (by omega) 64
            refine cb_iload_n (pc := 37) O dX10_free_37 rfl ?_
            refine cb_aload_n (pc := 38) O dX10_free_38 rfl ?_
            refine cb_getR (pc := 39) O fl_X10_25 rfl rfl dX10_free_39 (hC.1.1 _ rfl) (hC.1.2 _ _ _ rfl) ?_
            refine cb_iload (pc := 42) O dX10_free_42 rfl ?_
            refine cb_aald (pc := 44) O (a + j) rfl (by decide) (by decide) dX10_free_44 (by decide) (hC.1.1 _ rfl) rfl (by omega) g2 ?_
            refine cb_iload_n (pc := 45) O dX10_free_45 rfl ?_
            refine cb_aload_n (pc := 46) O dX10_free_46 rfl ?_
            refine cb_getR (pc := 47) O fl_X10_60 rfl rfl dX10_free_47 (hC.1.1 _ rfl) (hC.1.2 _ _ _ rfl) ?_
            refine cb_aload_n (pc := 50) O dX10_free_50 rfl ?_
            refine cb_getR (pc := 51) O fl_X10_12 rfl rfl dX10_free_51 (hC.1.1 _ rfl) (hC.1.2 _ _ _ rfl) ?_
            refine cb_cVp (pc := 54) O (c_X9_dryFor w A z hI hC (a + j) i hs (by omega)) my_X9_dryFor mi_X9_dryFor mx_X9_dryFor ml_X10_235 dX10_free_54 rfl ct_9 rfl (sh_s0 (by omega)) rfl ⟨(Nat.le_of_ble_eq_true rfl), (Nat.le_of_ble_eq_true rfl)⟩ (Nat.le_of_ble_eq_true rfl) rfl ⟨(Nat.le_of_ble_eq_true rfl), (Nat.le_of_ble_eq_true rfl)⟩ v0 ?_
            refine cb_cSp (pc := 57) O (c_max _ _ _) my_J9_max_7cf53 mt_J9_max_7cf53 ml_X10_239 dX10_free_57 rfl rfl ⟨(Nat.le_of_ble_eq_true rfl), (Nat.le_of_ble_eq_true rfl)⟩ (Nat.le_of_ble_eq_true rfl) rfl ⟨(Nat.le_of_ble_eq_true rfl), (Nat.le_of_ble_eq_true rfl)⟩ ?_
            refine cb_topv (nI (ca_fs A i a (A 0 8) (j + 1))) (by
              show _ = nI (if _ then _ else _)
              by_cases e : A 20 (a + j) = 0
              · rw [if_pos e, if_pos e, ci_max (by omega) (by omega), ca_fkm A (a + j) i (ca_fs A i a (A 0 8) j)]
              · rw [if_neg e, if_neg e, ci_max (by omega) (by omega), Nat.max_eq_left (by omega)]) ?_
            refine cb_istore_n (pc := 60) O dX10_free_60 (by decide) ?_
            dsimp only [List.set]
            refine cb_iinc (pc := 61) O (nI (a + (j + 1))) dX10_free_61 rfl (by decide) (by rw [ci_inc]; rfl) ?_
            dsimp only [List.set]
            refine cb_goto (pc := 64) O 28 dX10_free_64 (by decide) ?_
            exact ih_28 (j + 1) (by omega) (by omega)
      exact L_28 (b + 2) 0 (by omega) (by omega)
    · skip
      refine cb_iconst (pc := 15) (v := (-1)) O dX10_free_15 (by decide) ?_
      exact cb_iret (pc := 16) O Rt rfl (Nat.le_of_ble_eq_true rfl) (Nat.le_of_ble_eq_true rfl) dX10_free_16 (by
        have hv : ¬ sv_free A t i := by
          intro h
          first | exact c_5 h.1 | exact c_12 h.2
        exact ⟨by rw [sr_free, if_neg hv], rfl⟩)

theorem m_free (w : cb_W) (A : ca_A) (z : Int32) (hI : ca_I A) (hM : cm_I w A z) (t i : Int32) : cb_Con yX11_free cX11_free 7 (some .int) 2 42 0 0 (fun _ => true) [.inr (some 1000), .inl t, .inl i] w (cb_pi (fun x w' => x = sr_free A t i ∧ w' = w)) := by
  refine cb_con (by decide) (Nat.le_of_ble_eq_true rfl) (fun κ O Rt hnm => ?_)
  show cb_X κ w 0 0 0 [some (.inr (some 1000)), some (.inl t), some (.inl i), none, none, none, none] []
  refine cb_aload_n (pc := 0) O dX11_free_0 rfl ?_
  refine cb_iload_n (pc := 1) O dX11_free_1 rfl ?_
  refine cb_cVp (pc := 2) O (c_X11_areSheets w A z hI hM _) my_X11_areSheets mi_X11_areSheets mx_X11_areSheets ml_X11_169 dX11_free_2 rfl ct_11 rfl rfl rfl ⟨(Nat.le_of_ble_eq_true rfl), (Nat.le_of_ble_eq_true rfl)⟩ (Nat.le_of_ble_eq_true rfl) rfl ⟨(Nat.le_of_ble_eq_true rfl), (Nat.le_of_ble_eq_true rfl)⟩ (hM.1.1 _ rfl) ?_
  refine cb_ifp_eq (pc := 5) O 15 dX11_free_5 (by decide) (fun c_5 => ?_) (fun c_5 => ?_)
  · skip
    refine cb_iconst (pc := 15) (v := (-1)) O dX11_free_15 (by decide) ?_
    exact cb_iret (pc := 16) O Rt rfl (Nat.le_of_ble_eq_true rfl) (Nat.le_of_ble_eq_true rfl) dX11_free_16 (by
      have hv : ¬ sv_free A t i := by
        intro h
        first | exact c_5 h.1 | exact c_12 h.2
      exact ⟨by rw [sr_free, if_neg hv], rfl⟩)
  · skip
    refine cb_iload_n (pc := 8) O dX11_free_8 rfl ?_
    refine cb_cSp (pc := 9) O (c_X11_isInk _ _) my_X11_isInk mt_X11_isInk ml_X11_103 dX11_free_9 rfl rfl ⟨(Nat.le_of_ble_eq_true rfl), (Nat.le_of_ble_eq_true rfl)⟩ (Nat.le_of_ble_eq_true rfl) rfl ⟨(Nat.le_of_ble_eq_true rfl), (Nat.le_of_ble_eq_true rfl)⟩ ?_
    refine cb_ifp_ne (pc := 12) O 17 dX11_free_12 (by decide) (fun c_12 => ?_) (fun c_12 => ?_)
    · skip
      have hv : sv_free A t i := ⟨c_5, c_12⟩
      obtain ⟨t, ht, rfl, h1, h2⟩ := ca_sN c_5
      obtain ⟨i, hi, rfl⟩ := ci_in (n := 9) c_12 rfl
      have l := hI.1
      obtain ⟨a, ha⟩ : ∃ a, a = t / 100 := ⟨_, rfl⟩
      obtain ⟨b, hb⟩ : ∃ b, b = t % 100 := ⟨_, rfl⟩
      rw [← ha, ← hb] at h1
      rw [← hb] at h2
      refine cb_aload_n (pc := 17) O dX11_free_17 rfl ?_
      refine cb_getI (pc := 18) O fl_X11_116 rfl rfl dX11_free_18 (hM.1.1 _ rfl) ?_
      refine cb_topv (nI (A 0 8)) (cm_at hM 0 8 rfl (by omega)) ?_
      refine cb_istore_n (pc := 21) O dX11_free_21 (by decide) ?_
      dsimp only [List.set]
      refine cb_iload_n (pc := 22) O dX11_free_22 rfl ?_
      refine cb_bipush (pc := 23) (v := 100) O dX11_free_23 (by decide) ?_
      refine cb_idiv (pc := 25) O dX11_free_25 (by decide) ?_
      refine cb_topv (nI (a + 0)) (by rw [ci_d100 ht, ha]; rfl) ?_
      refine cb_istore (pc := 26) O dX11_free_26 (by decide) ?_
      dsimp only [List.set]
      have L_28 : ∀ (n : Nat) (j : Nat) (x5 x6 : Option cb_V), a + j ≤ b + 1 → b + 2 ≤ a + j + n → cb_X κ w 0 0 28 [some (.inr (some 1000)), some (.inl (nI t)), some (.inl (nI i)), some (.inl (nI (ca_fs A i a (A 0 8) j))), some (.inl (nI (a + j))), x5, x6] [] := by
        intro n
        induction n with
        | zero =>
          intro j x5 x6 hj hn
          exact absurd hn (by omega)
        | succ n ih_28 =>
          intro j x5 x6 hj hn
          refine cb_iload (pc := 28) O dX11_free_28 rfl ?_
          refine cb_iload_n (pc := 30) O dX11_free_30 rfl ?_
          refine cb_bipush (pc := 31) (v := 100) O dX11_free_31 (by decide) ?_
          refine cb_irem (pc := 33) O dX11_free_33 (by decide) ?_
          refine cb_topv (nI b) (by rw [ci_r100 ht, hb]) ?_
          refine cb_icmp_gt (pc := 34) O 146 dX11_free_34 (by decide) (fun c_34 => ?_) (fun c_34 => ?_)
          · skip
            rw [nI_ltI (by omega) (by omega)] at c_34
            refine cb_iload_n (pc := 146) O dX11_free_146 rfl ?_
            exact cb_iret (pc := 147) O Rt rfl (Nat.le_of_ble_eq_true rfl) (Nat.le_of_ble_eq_true rfl) dX11_free_147 (by
              refine ⟨?_, rfl⟩
              rw [sr_free, if_pos hv, ci_tn ht, ci_nz (by omega), ← ha, ← hb, show b + 1 - a = j by omega])
          · skip
            rw [nI_ltI (by omega) (by omega)] at c_34
            have hs : a + j < A 0 20 := by omega
            have gb := ca_fsb hI i a (A 0 8) (by omega) j
            refine cb_iconst (pc := 37) (v := 0) O dX11_free_37 (by decide) ?_
            refine cb_istore (pc := 38) O dX11_free_38 (by decide) ?_
            dsimp only [List.set]
            obtain ⟨F, hF⟩ : ∃ F, F = ca_fs A i a (A 0 8) j := ⟨_, rfl⟩
            rw [← hF]
            have gF : F ≤ 100998 := by rw [hF]; exact gb
            have L_40 : ∀ (n : Nat) (k v : Nat) (x6 : Option cb_V), k ≤ 64 → v = (if A 20 (a + j) = 0 then ca_fk A (a + j) i F k else F) → 64 + 1 ≤ k + n → cb_X κ w 0 0 40 [some (.inr (some 1000)), some (.inl (nI t)), some (.inl (nI i)), some (.inl (nI v)), some (.inl (nI (a + j))), some (.inl (nI k)), x6] [] := by
              intro n
              induction n with
              | zero =>
                intro k v x6 hk hv9 hn
                exact absurd hn (by omega)
              | succ n ih_40 =>
                intro k v x6 hk hv9 hn
                have gv : v ≤ 100998 := by
                  rw [hv9]
                  split
                  · exact ca_fkb hI _ _ _ gF k
                  · exact gF
                refine cb_iload (pc := 40) O dX11_free_40 rfl ?_
                refine cb_bipush (pc := 42) (v := 64) O dX11_free_42 (by decide) ?_
                refine cb_icmp_ge (pc := 44) O 140 dX11_free_44 (by decide) (fun c_44 => ?_) (fun c_44 => ?_)
                · skip
                  have e : k = 64 := by
                    have := ci_ge (b := 64) c_44 (by omega) (by decide)
                    omega
                  subst e
                  have hfs : v = ca_fs A i a (A 0 8) (j + 1) := by
                    rw [hv9, hF]
                    rfl
                  refine cb_iinc (pc := 140) O (nI (a + (j + 1))) dX11_free_140 rfl (by decide) (by rw [ci_inc]; rfl) ?_
                  dsimp only [List.set]
                  refine cb_goto (pc := 143) O 28 dX11_free_143 (by decide) ?_
                  refine cb_eqX (lv' := [some (.inr (some 1000)), some (.inl (nI t)), some (.inl (nI i)), some (.inl (nI (ca_fs A i a (A 0 8) (j + 1)))), some (.inl (nI (a + (j + 1)))), _, _]) rfl rfl (by rw [hfs]) rfl ?_
                  exact ih_28 (j + 1) _ _ (by omega) (by omega)
                · skip
                  have hlt : k < 64 := ci_nge (b := 64) c_44 (by omega) (by decide)
                  have e20 : w.2.1 1020 (a + j) = nI (A 20 (a + j)) := cm_at hM 20 _ (by simp [ca_R]; omega) (by omega)
                  have l1 := hI.2.2.2.2.1.2.2.2.2 (a + j)
                  have e17 : w.2.1 1017 (64 * (a + j) + k) = nI (A 17 (64 * (a + j) + k)) := cm_at hM 17 _ (by simp [ca_R]; omega) (by omega)
                  have l17 := hI.2.2.2.2.1.2.1 (64 * (a + j) + k)
                  have e18 : w.2.1 1018 (64 * (a + j) + k) = nI (A 18 (64 * (a + j) + k)) := cm_at hM 18 _ (by simp [ca_R]; omega) (by omega)
                  have l18 := hI.2.2.2.2.1.2.2.1 (64 * (a + j) + k)
                  have e19 : w.2.1 1019 (64 * (a + j) + k) = nI (A 19 (64 * (a + j) + k)) := cm_at hM 19 _ (by simp [ca_R]; omega) (by omega)
                  have l19 := hI.2.2.2.2.1.2.2.2.1 (64 * (a + j) + k)
                  have e5 : w.2.1 1005 (10 * A 18 (64 * (a + j) + k) + i) = nI (A 5 (10 * A 18 (64 * (a + j) + k) + i)) := cm_at hM 5 _ (by simp [ca_R]; omega) (by omega)
                  have l5 := hI.2.2.1.2.2.1 (10 * A 18 (64 * (a + j) + k) + i)
                  have hS : ∀ (P : Prop), (ca_p A k ∧ A 5 (10 * A 18 (64 * (a + j) + k) + i) = 1 → A 19 (64 * (a + j) + k) ≤ v ∨ ¬ A 20 (a + j) = 0) → v = (if A 20 (a + j) = 0 then ca_fk A (a + j) i F (k + 1) else F) := by
                    intro _ h
                    rw [hv9]
                    by_cases e : A 20 (a + j) = 0
                    · rw [if_pos e, if_pos e]
                      show _ = (if _ then _ else _)
                      by_cases e2 : ca_p A k ∧ A 5 (10 * A 18 (64 * (a + j) + k) + i) = 1
                      · rw [if_pos e2]
                        rcases h e2 with h3 | h3
                        · rw [hv9, if_pos e] at h3
                          rw [Nat.max_eq_left h3]
                        · exact absurd e h3
                      · rw [if_neg e2]
                    · rw [if_neg e, if_neg e]
                  refine cb_bipush (pc := 47) (v := 64) O dX11_free_47 (by decide) ?_
                  refine cb_iload (pc := 49) O dX11_free_49 rfl ?_
                  refine cb_imul (pc := 51) O dX11_free_51 ?_
                  refine cb_iload (pc := 52) O dX11_free_52 rfl ?_
                  refine cb_iadd (pc := 54) O dX11_free_54 ?_
                  refine cb_topv _ (ci_m64 _ _) ?_
                  refine cb_istore (pc := 55) O dX11_free_55 (by decide) ?_
                  dsimp only [List.set]
                  refine cb_aload_n (pc := 57) O dX11_free_57 rfl ?_
                  refine cb_getR (pc := 58) O fl_X11_50 rfl rfl dX11_free_58 (hM.1.1 _ rfl) (hM.1.2 _ _ _ rfl) ?_
                  refine cb_iload (pc := 61) O dX11_free_61 rfl ?_
                  refine cb_zald (pc := 63) O (a + j) rfl dX11_free_63 (by decide) (hM.1.1 _ rfl) rfl (by omega) ?_
                  refine cb_if_ne (pc := 64) O 134 dX11_free_64 (by decide) (fun c_64 => ?_) (fun c_64 => ?_)
                  · skip
                    rw [e20] at c_64
                    have hsame := hS True (fun _ => Or.inr (fun e => c_64 (by rw [e]; rfl)))
                    refine cb_iinc (pc := 134) O (nI (k + 1)) dX11_free_134 rfl (by decide) (ci_inc k) ?_
                    dsimp only [List.set]
                    refine cb_goto (pc := 137) O 40 dX11_free_137 (by decide) ?_
                    first
                    | exact ih_40 (k + 1) v _ (by omega) hsame (by omega)
                    | exact ih_40 (k + 1) (A 19 (64 * (a + j) + k)) _ (by omega) hnew (by omega)
                  · skip
                    rw [e20] at c_64
                    have hgd : A 20 (a + j) = 0 := by
                      rcases (show A 20 (a + j) = 0 ∨ A 20 (a + j) = 1 by omega) with e | e
                      · exact e
                      · rw [e] at c_64; exact absurd c_64 (by decide)
                    refine cb_aload_n (pc := 67) O dX11_free_67 rfl ?_
                    refine cb_iload (pc := 68) O dX11_free_68 rfl ?_
                    refine cb_cVp (pc := 70) O (c_X11_isCell w A z hI hM (nI k)) my_X11_isCell mi_X11_isCell mx_X11_isCell ml_X11_142 dX11_free_70 rfl ct_11 rfl rfl rfl ⟨(Nat.le_of_ble_eq_true rfl), (Nat.le_of_ble_eq_true rfl)⟩ (Nat.le_of_ble_eq_true rfl) rfl ⟨(Nat.le_of_ble_eq_true rfl), (Nat.le_of_ble_eq_true rfl)⟩ (hM.1.1 _ rfl) ?_
                    refine cb_ifp_eq (pc := 73) O 134 dX11_free_73 (by decide) (fun c_73 => ?_) (fun c_73 => ?_)
                    · skip
                      rw [ca_cn (by omega)] at c_73
                      have hsame := hS True (fun h => absurd h.1.1 c_73)
                      refine cb_iinc (pc := 134) O (nI (k + 1)) dX11_free_134 rfl (by decide) (ci_inc k) ?_
                      dsimp only [List.set]
                      refine cb_goto (pc := 137) O 40 dX11_free_137 (by decide) ?_
                      first
                      | exact ih_40 (k + 1) v _ (by omega) hsame (by omega)
                      | exact ih_40 (k + 1) (A 19 (64 * (a + j) + k)) _ (by omega) hnew (by omega)
                    · skip
                      rw [ca_cn (by omega)] at c_73
                      refine cb_aload_n (pc := 76) O dX11_free_76 rfl ?_
                      refine cb_iload (pc := 77) O dX11_free_77 rfl ?_
                      refine cb_cVp (pc := 79) O (c_X11_prints w A z hI hM k hlt) my_X11_prints mi_X11_prints mx_X11_prints ml_X11_145 dX11_free_79 rfl ct_11 rfl rfl rfl ⟨(Nat.le_of_ble_eq_true rfl), (Nat.le_of_ble_eq_true rfl)⟩ (Nat.le_of_ble_eq_true rfl) rfl ⟨(Nat.le_of_ble_eq_true rfl), (Nat.le_of_ble_eq_true rfl)⟩ (hM.1.1 _ rfl) ?_
                      refine cb_ifp_eq (pc := 82) O 134 dX11_free_82 (by decide) (fun c_82 => ?_) (fun c_82 => ?_)
                      · skip
                        have hsame := hS True (fun h => absurd h.1.2 c_82)
                        refine cb_iinc (pc := 134) O (nI (k + 1)) dX11_free_134 rfl (by decide) (ci_inc k) ?_
                        dsimp only [List.set]
                        refine cb_goto (pc := 137) O 40 dX11_free_137 (by decide) ?_
                        first
                        | exact ih_40 (k + 1) v _ (by omega) hsame (by omega)
                        | exact ih_40 (k + 1) (A 19 (64 * (a + j) + k)) _ (by omega) hnew (by omega)
                      · skip
                        refine cb_aload_n (pc := 85) O dX11_free_85 rfl ?_
                        refine cb_getR (pc := 86) O fl_X11_41 rfl rfl dX11_free_86 (hM.1.1 _ rfl) (hM.1.2 _ _ _ rfl) ?_
                        refine cb_iload (pc := 89) O dX11_free_89 rfl ?_
                        refine cb_iald (pc := 91) O (64 * (a + j) + k) rfl dX11_free_91 (by decide) (hM.1.1 _ rfl) rfl (by omega) ?_
                        refine cb_if_le (pc := 92) O 134 dX11_free_92 (by decide) (fun c_92 => ?_) (fun c_92 => ?_)
                        · skip
                          rw [e17, ci_le, ci_n (by omega), ci_z0] at c_92
                          have hsame := hS True (fun h => Or.inl (by rw [hI.2.2.2.2.2.2.2.2.2 (64 * (a + j) + k) (by omega)]; omega))
                          refine cb_iinc (pc := 134) O (nI (k + 1)) dX11_free_134 rfl (by decide) (ci_inc k) ?_
                          dsimp only [List.set]
                          refine cb_goto (pc := 137) O 40 dX11_free_137 (by decide) ?_
                          first
                          | exact ih_40 (k + 1) v _ (by omega) hsame (by omega)
                          | exact ih_40 (k + 1) (A 19 (64 * (a + j) + k)) _ (by omega) hnew (by omega)
                        · skip
                          refine cb_aload_n (pc := 95) O dX11_free_95 rfl ?_
                          refine cb_getR (pc := 96) O fl_X11_16 rfl rfl dX11_free_96 (hM.1.1 _ rfl) (hM.1.2 _ _ _ rfl) ?_
                          refine cb_bipush (pc := 99) (v := 10) O dX11_free_99 (by decide) ?_
                          refine cb_aload_n (pc := 101) O dX11_free_101 rfl ?_
                          refine cb_getR (pc := 102) O fl_X11_44 rfl rfl dX11_free_102 (hM.1.1 _ rfl) (hM.1.2 _ _ _ rfl) ?_
                          refine cb_iload (pc := 105) O dX11_free_105 rfl ?_
                          refine cb_iald (pc := 107) O (64 * (a + j) + k) rfl dX11_free_107 (by decide) (hM.1.1 _ rfl) rfl (by omega) ?_
                          refine cb_imul (pc := 108) O dX11_free_108 ?_
                          refine cb_iload_n (pc := 109) O dX11_free_109 rfl ?_
                          refine cb_iadd (pc := 110) O dX11_free_110 ?_
                          refine cb_zald (pc := 111) O (10 * A 18 (64 * (a + j) + k) + i) rfl dX11_free_111 (by decide) (hM.1.1 _ rfl) (by rw [e18]; exact ci_m10 _ _) (by omega) ?_
                          refine cb_if_eq (pc := 112) O 134 dX11_free_112 (by decide) (fun c_112 => ?_) (fun c_112 => ?_)
                          · skip
                            rw [e5] at c_112
                            have hsame := hS True (fun h => by rw [h.2] at c_112; exact absurd c_112 (by decide))
                            refine cb_iinc (pc := 134) O (nI (k + 1)) dX11_free_134 rfl (by decide) (ci_inc k) ?_
                            dsimp only [List.set]
                            refine cb_goto (pc := 137) O 40 dX11_free_137 (by decide) ?_
                            first
                            | exact ih_40 (k + 1) v _ (by omega) hsame (by omega)
                            | exact ih_40 (k + 1) (A 19 (64 * (a + j) + k)) _ (by omega) hnew (by omega)
                          · skip
                            rw [e5] at c_112
                            have h51 : A 5 (10 * A 18 (64 * (a + j) + k) + i) = 1 := by
                              rcases (show A 5 (10 * A 18 (64 * (a + j) + k) + i) = 0 ∨ A 5 (10 * A 18 (64 * (a + j) + k) + i) = 1 by omega) with e | e
                              · rw [e] at c_112; exact absurd rfl c_112
                              · exact e
                            refine cb_aload_n (pc := 115) O dX11_free_115 rfl ?_
                            refine cb_getR (pc := 116) O fl_X11_47 rfl rfl dX11_free_116 (hM.1.1 _ rfl) (hM.1.2 _ _ _ rfl) ?_
                            refine cb_iload (pc := 119) O dX11_free_119 rfl ?_
                            refine cb_iald (pc := 121) O (64 * (a + j) + k) rfl dX11_free_121 (by decide) (hM.1.1 _ rfl) rfl (by omega) ?_
                            refine cb_iload_n (pc := 122) O dX11_free_122 rfl ?_
                            refine cb_icmp_le (pc := 123) O 134 dX11_free_123 (by decide) (fun c_123 => ?_) (fun c_123 => ?_)
                            · skip
                              rw [e19, nI_leI (by omega) (by omega)] at c_123
                              have hsame := hS True (fun _ => Or.inl c_123)
                              refine cb_iinc (pc := 134) O (nI (k + 1)) dX11_free_134 rfl (by decide) (ci_inc k) ?_
                              dsimp only [List.set]
                              refine cb_goto (pc := 137) O 40 dX11_free_137 (by decide) ?_
                              first
                              | exact ih_40 (k + 1) v _ (by omega) hsame (by omega)
                              | exact ih_40 (k + 1) (A 19 (64 * (a + j) + k)) _ (by omega) hnew (by omega)
                            · skip
                              rw [e19, nI_leI (by omega) (by omega)] at c_123
                              have hnew : A 19 (64 * (a + j) + k) = (if A 20 (a + j) = 0 then ca_fk A (a + j) i F (k + 1) else F) := by
                                rw [if_pos hgd]
                                show _ = (if _ then _ else _)
                                rw [if_pos ⟨⟨c_73, c_82⟩, h51⟩]
                                rw [hv9, if_pos hgd] at c_123
                                rw [Nat.max_eq_right (by omega)]
                              refine cb_aload_n (pc := 126) O dX11_free_126 rfl ?_
                              refine cb_getR (pc := 127) O fl_X11_47 rfl rfl dX11_free_127 (hM.1.1 _ rfl) (hM.1.2 _ _ _ rfl) ?_
                              refine cb_iload (pc := 130) O dX11_free_130 rfl ?_
                              refine cb_iald (pc := 132) O (64 * (a + j) + k) rfl dX11_free_132 (by decide) (hM.1.1 _ rfl) rfl (by omega) ?_
                              refine cb_topv _ e19 ?_
                              refine cb_istore_n (pc := 133) O dX11_free_133 (by decide) ?_
                              dsimp only [List.set]
                              refine cb_iinc (pc := 134) O (nI (k + 1)) dX11_free_134 rfl (by decide) (ci_inc k) ?_
                              dsimp only [List.set]
                              refine cb_goto (pc := 137) O 40 dX11_free_137 (by decide) ?_
                              first
                              | exact ih_40 (k + 1) v _ (by omega) hsame (by omega)
                              | exact ih_40 (k + 1) (A 19 (64 * (a + j) + k)) _ (by omega) hnew (by omega)
            exact L_40 65 0 F _ (by omega) (by split <;> rfl) (by omega)
      exact L_28 (b + 2) 0 none none (by omega) (by omega)
    · skip
      refine cb_iconst (pc := 15) (v := (-1)) O dX11_free_15 (by decide) ?_
      exact cb_iret (pc := 16) O Rt rfl (Nat.le_of_ble_eq_true rfl) (Nat.le_of_ble_eq_true rfl) dX11_free_16 (by
        have hv : ¬ sv_free A t i := by
          intro h
          first | exact c_5 h.1 | exact c_12 h.2
        exact ⟨by rw [sr_free, if_neg hv], rfl⟩)

def up (j : Nat) : Nat := if j = 0 then 0 else 11 ^ (j - 1)
theorem up_S (i : Nat) : up (i + 1) = 11 ^ i := by
  unfold up
  rw [if_neg (by omega)]
  rfl
theorem up_d : ∀ j, j < 5 → up (j + 1) / 11 = up j := by decide
theorem up_le : ∀ j, j < 6 → up j ≤ 14641 := by decide
theorem up_p {i : Nat} : 0 < up (i + 1) := by
  rw [up_S]
  exact Nat.pow_pos (by decide)
def ik_I (w w' : cb_W) (b L : Nat) (r : Nat → Nat) : Prop := (∀ q, q ≠ b + 1 → w'.1 q = w.1 q) ∧ w'.1 (b + 1) = true ∧ (∀ q, q ≠ b → q ≠ b + 1 → w'.2.1 q = w.2.1 q ∧ w'.2.2 q = w.2.2 q) ∧ w'.2.2 b 0 = some (b + 1) ∧ w'.2.1 b 1 = nI L ∧ (∀ i, i < L → w'.2.1 (b + 1) i = nI (r i))
def IR (w : cb_W) (b L : Nat) (r : Nat → Nat) : Prop := (cb_sh b = (0, 3) ∧ cb_sh (b + 1) = (1, 5)) ∧ (w.1 b = true ∧ w.1 (b + 1) = true ∧ w.2.2 b 0 = some (b + 1)) ∧ (L ≤ 5 ∧ w.2.1 b 1 = nI L) ∧ (∀ i, i < L → w.2.1 (b + 1) i = nI (r i)) ∧ ∀ i, r i < 10
theorem ik_I.add {w w9 : cb_W} {b L : Nat} {r : Nat → Nat} (h : ik_I w w9 b L r) : ik_I w (cb_um (cb_um w9 (b + 1) L (nI (r L))) b 1 (nI (L + 1))) b (L + 1) r := by
  obtain ⟨h1, h2, h3, h4, h5, h6⟩ := h
  refine ⟨h1, h2, fun q g1 g2 => ⟨?_, (h3 q g1 g2).2⟩, h4, ?_, fun i hi => ?_⟩
  · funext k
    simp only [cb_um]
    rw [cb_u2n (by omega), cb_u2n (by omega), (h3 q g1 g2).1]
  · simp only [cb_um]
    rw [cb_u2s]
  · simp only [cb_um]
    rw [cb_u2n (by omega)]
    by_cases e : i = L
    · rw [e, cb_u2s]
    · rw [cb_u2n (by omega)]
      exact h6 i (by omega)
theorem c_X3_init_42 (w : cb_W) (t : Nat) (ht : t < 161051) (hrw : RW t) (hb : w.1 42 = true) (hb1 : w.1 43 = false) : cb_Con yX3_init_ cX3_init_ 4 none 1 20 1 5 (fun q => !(q == 43)) [.inr (some 42), .inl (nI t)] w (cb_pv (fun w' => ik_I w w' 42 (nl t) (ri t))) := by
  have l5 := nl_5 t
  refine cb_con (by decide) (Nat.le_of_ble_eq_true rfl) (fun κ O Rt hnm => ?_)
  show cb_X κ w 0 0 0 [some (.inr (some 42)), some (.inl (nI t)), none, none] []
  refine cb_aload_n (pc := 0) O dX3_init__0 rfl ?_
  refine cb_objInit (pc := 1) O dX3_init__1 oi_X3_3 oi_inst oi_code ⟨(Nat.le_of_ble_eq_true rfl), (Nat.le_of_ble_eq_true rfl)⟩ (Nat.le_of_ble_eq_true rfl) ?_
  refine cb_aload_n (pc := 4) O dX3_init__4 rfl ?_
  refine cb_iconst (pc := 5) (v := 5) O dX3_init__5 (by decide) ?_
  refine cb_newa (pc := 6) (atype := .int) (ty := .int) O 43 rfl (Or.inl ⟨rfl, rfl⟩) ac_int rfl dX3_init__6 (by decide) rfl (by decide) (by decide) (by rw [Rt.2.2]; rfl) rfl (Nat.le_of_ble_eq_true rfl) (Nat.le_of_ble_eq_true rfl) hb1 ?_
  refine cb_putRc (pc := 8) O fl_X3_9 (Or.inr ⟨rfl, hnm, rfl, fm_X3_9⟩) rfl rfl dX3_init__8 (fun _ => rfl) (fun _ => rfl) (by simp [cb_nw1, hb]) (by simp [cb_nw1]) ?_
  refine cb_aload_n (pc := 11) O dX3_init__11 rfl ?_
  refine cb_iconst (pc := 12) (v := 0) O dX3_init__12 (by decide) ?_
  refine cb_putIc (pc := 13) O fl_X3_15 (Or.inl rfl) rfl rfl dX3_init__13 rfl rfl (by simp [cb_nw1, cb_ur, hb]) ?_
  refine cb_sipush (pc := 16) (v := 14641) O dX3_init__16 (by decide) ?_
  refine cb_istore_n (pc := 19) O dX3_init__19 (by decide) ?_
  dsimp only [List.set]
  have hik0 : ik_I w (cb_um (cb_ur (cb_nw1 w 43) 42 0 (some 43)) 42 1 0) 42 (nl t - 5) (ri t) := by
    rw [show nl t - 5 = 0 by omega]
    refine ⟨fun q h => ?_, ?_, fun q g1 g2 => ⟨?_, ?_⟩, ?_, ?_, fun i hi => absurd hi (by omega)⟩
    · simp only [cb_nw1, cb_ur, cb_um]
      rw [if_neg h]
    · simp [cb_nw1, cb_ur, cb_um]
    · funext k
      simp only [cb_nw1, cb_ur, cb_um]
      rw [cb_u2n (by omega), if_neg g2]
    · funext k
      simp only [cb_nw1, cb_ur, cb_um]
      rw [cb_u2n (by omega), if_neg g2]
    · simp only [cb_um, cb_ur]
      rw [cb_u2s]
    · simp only [cb_um]
      rw [cb_u2s]
      rfl
  have L_20 : ∀ (n : Nat) (j : Nat) (w9 : cb_W) (x3 : Option cb_V), j ≤ 5 → ik_I w w9 42 (nl t - j) (ri t) → j + 1 ≤ n → cb_X κ w9 1 5 20 [some (.inr (some 42)), some (.inl (nI t)), some (.inl (nI (up j))), x3] [] := by
    intro n
    induction n with
    | zero =>
      intro j w9 x3 hj hik hn
      exact absurd hn (by omega)
    | succ n ih_20 =>
      intro j w9 x3 hj hik hn
      have hv9 : w9.1 42 = true := by rw [hik.1 42 (by decide)]; exact hb
      have hup := up_le j (by omega)
      refine cb_iload_n (pc := 20) O dX3_init__20 rfl ?_
      refine cb_if_le (pc := 21) O 73 dX3_init__21 (by decide) (fun c_21 => ?_) (fun c_21 => ?_)
      · skip
        rw [ci_ge0 (by omega)] at c_21
        have hj0 : j = 0 := by
          rcases Nat.eq_zero_or_pos j with e | e
          · exact e
          · rw [show j = j - 1 + 1 by omega] at c_21
            have := up_p (i := j - 1)
            omega
        subst hj0
        exact cb_vret (pc := 73) O Rt (Nat.le_of_ble_eq_true rfl) (Nat.le_of_ble_eq_true rfl) dX3_init__73 hik
      · skip
        rw [ci_ge0 (by omega)] at c_21
        obtain ⟨i, rfl⟩ : ∃ i, j = i + 1 := ⟨j - 1, by
          rcases Nat.eq_zero_or_pos j with e | e
          · rw [e] at c_21; exact absurd rfl c_21
          · omega⟩
        have hdl : t / 11 ^ i ≤ t := Nat.div_le_self _ _
        have hr9 := nl_r (t := t) (j := i) (by omega) ht
        have hm9 := Nat.mod_lt (t / 11 ^ i) (show 11 > 0 by decide)
        refine cb_iload_n (pc := 24) O dX3_init__24 rfl ?_
        refine cb_iload_n (pc := 25) O dX3_init__25 rfl ?_
        refine cb_idiv (pc := 26) O dX3_init__26 (nI_ne0 up_p (by omega)) ?_
        refine cb_topv (nI (t / 11 ^ i)) (by rw [ci_dl (up (i + 1)) rfl (by omega) up_p (by omega), up_S]) ?_
        refine cb_bipush (pc := 27) (v := 11) O dX3_init__27 (by decide) ?_
        refine cb_irem (pc := 29) O dX3_init__29 (by decide) ?_
        refine cb_topv (nI (t / 11 ^ i % 11)) (ci_rl 11 rfl (by omega) (by omega) (by omega)) ?_
        refine cb_istore_n (pc := 30) O dX3_init__30 (by decide) ?_
        dsimp only [List.set]
        refine cb_iload_n (pc := 31) O dX3_init__31 rfl ?_
        refine cb_if_le (pc := 32) O 65 dX3_init__32 (by decide) (fun c_32 => ?_) (fun c_32 => ?_)
        · skip
          rw [ci_ge0 (by omega)] at c_32
          have hni : nl t ≤ i := Nat.le_of_not_lt (fun h => hrw i h c_32)
          refine cb_iload_n (pc := 65) O dX3_init__65 rfl ?_
          refine cb_bipush (pc := 66) (v := 11) O dX3_init__66 (by decide) ?_
          refine cb_idiv (pc := 68) O dX3_init__68 (by decide) ?_
          refine cb_topv (nI (up i)) (by rw [show nI (up (i + 1)) / 11 = nI (up (i + 1) / 11) from ci_dl 11 rfl (by omega) (by omega) (by omega), up_d i (by omega)]) ?_
          refine cb_istore_n (pc := 69) O dX3_init__69 (by decide) ?_
          dsimp only [List.set]
          refine cb_goto (pc := 70) O 20 dX3_init__70 (by decide) ?_
          first
          | exact ih_20 i w9 _ (by omega) (by rw [show nl t - i = nl t - (i + 1) by omega]; exact hik) (by omega)
          | exact ih_20 i _ _ (by omega) (by
              rw [← hle]
              exact hik.add) (by omega)
        · skip
          rw [ci_ge0 (by omega)] at c_32
          have hil : i < nl t := hr9.mp (Nat.pos_of_ne_zero (fun e => c_32 (by rw [e])))
          have hle : nl t - (i + 1) + 1 = nl t - i := by omega
          have hri : ri t (nl t - (i + 1)) = t / 11 ^ i % 11 - 1 := by
            unfold ri
            rw [show nl t - 1 - (nl t - (i + 1)) = i by omega]
          refine cb_aload_n (pc := 35) O dX3_init__35 rfl ?_
          refine cb_getI (pc := 36) O fl_X3_15 rfl rfl dX3_init__36 (by first | exact hv9 | (simp only [cb_um]; exact hv9) | (simp [cb_nw1, cb_ur, cb_um, hb]; done) | exact hb) ?_
          refine cb_topv _ hik.2.2.2.2.1 ?_
          refine cb_iconst (pc := 39) (v := 5) O dX3_init__39 (by decide) ?_
          refine cb_icmp_ge (pc := 40) O 65 dX3_init__40 (by decide) (fun c_40 => ?_) (fun c_40 => ?_)
          · skip
            exact absurd (ci_ge (b := 5) c_40 (by omega) (by decide)) (by omega)
            skip
          · skip
            refine cb_aload_n (pc := 43) O dX3_init__43 rfl ?_
            refine cb_getR (pc := 44) O fl_X3_9 rfl rfl dX3_init__44 hv9 hik.2.2.2.1 ?_
            refine cb_aload_n (pc := 47) O dX3_init__47 rfl ?_
            refine cb_getI (pc := 48) O fl_X3_15 rfl rfl dX3_init__48 (by first | exact hv9 | (simp only [cb_um]; exact hv9) | (simp [cb_nw1, cb_ur, cb_um, hb]; done) | exact hb) ?_
            refine cb_topv _ hik.2.2.2.2.1 ?_
            refine cb_iload_n (pc := 51) O dX3_init__51 rfl ?_
            refine cb_iconst (pc := 52) (v := 1) O dX3_init__52 (by decide) ?_
            refine cb_isub (pc := 53) O dX3_init__53 ?_
            refine cb_topv (nI (ri t (nl t - (i + 1)))) (by rw [hri]; exact ci_p1 (by omega)) ?_
            refine cb_iast (pc := 54) O (nl t - (i + 1)) rfl dX3_init__54 (by decide) hik.2.1 rfl (by omega) ?_
            refine cb_aload_n (pc := 55) O dX3_init__55 rfl ?_
            refine cb_dup (pc := 56) O dX3_init__56 ?_
            refine cb_getI (pc := 57) O fl_X3_15 rfl rfl dX3_init__57 (by first | exact hv9 | (simp only [cb_um]; exact hv9) | (simp [cb_nw1, cb_ur, cb_um, hb]; done) | exact hb) ?_
            refine cb_topv (nI (nl t - (i + 1))) (by simp only [cb_um]; rw [cb_u2n (by omega)]; exact hik.2.2.2.2.1) ?_
            refine cb_iconst (pc := 60) (v := 1) O dX3_init__60 (by decide) ?_
            refine cb_iadd (pc := 61) O dX3_init__61 ?_
            refine cb_topv (nI (nl t - (i + 1) + 1)) (nI_add _ _) ?_
            refine cb_putIc (pc := 62) O fl_X3_15 (Or.inl rfl) rfl rfl dX3_init__62 rfl rfl (by first | exact hv9 | (simp only [cb_um]; exact hv9) | (simp [cb_nw1, cb_ur, cb_um, hb]; done) | exact hb) ?_
            refine cb_iload_n (pc := 65) O dX3_init__65 rfl ?_
            refine cb_bipush (pc := 66) (v := 11) O dX3_init__66 (by decide) ?_
            refine cb_idiv (pc := 68) O dX3_init__68 (by decide) ?_
            refine cb_topv (nI (up i)) (by rw [show nI (up (i + 1)) / 11 = nI (up (i + 1) / 11) from ci_dl 11 rfl (by omega) (by omega) (by omega), up_d i (by omega)]) ?_
            refine cb_istore_n (pc := 69) O dX3_init__69 (by decide) ?_
            dsimp only [List.set]
            refine cb_goto (pc := 70) O 20 dX3_init__70 (by decide) ?_
            first
            | exact ih_20 i w9 _ (by omega) (by rw [show nl t - i = nl t - (i + 1) by omega]; exact hik) (by omega)
            | exact ih_20 i _ _ (by omega) (by
                rw [← hle]
                exact hik.add) (by omega)
  exact L_20 6 5 _ none (by omega) hik0 (by omega)

theorem c_X3_init_44 (w : cb_W) (t : Nat) (ht : t < 161051) (hrw : RW t) (hb : w.1 44 = true) (hb1 : w.1 45 = false) : cb_Con yX3_init_ cX3_init_ 4 none 1 20 1 5 (fun q => !(q == 45)) [.inr (some 44), .inl (nI t)] w (cb_pv (fun w' => ik_I w w' 44 (nl t) (ri t))) := by
  have l5 := nl_5 t
  refine cb_con (by decide) (Nat.le_of_ble_eq_true rfl) (fun κ O Rt hnm => ?_)
  show cb_X κ w 0 0 0 [some (.inr (some 44)), some (.inl (nI t)), none, none] []
  refine cb_aload_n (pc := 0) O dX3_init__0 rfl ?_
  refine cb_objInit (pc := 1) O dX3_init__1 oi_X3_3 oi_inst oi_code ⟨(Nat.le_of_ble_eq_true rfl), (Nat.le_of_ble_eq_true rfl)⟩ (Nat.le_of_ble_eq_true rfl) ?_
  refine cb_aload_n (pc := 4) O dX3_init__4 rfl ?_
  refine cb_iconst (pc := 5) (v := 5) O dX3_init__5 (by decide) ?_
  refine cb_newa (pc := 6) (atype := .int) (ty := .int) O 45 rfl (Or.inl ⟨rfl, rfl⟩) ac_int rfl dX3_init__6 (by decide) rfl (by decide) (by decide) (by rw [Rt.2.2]; rfl) rfl (Nat.le_of_ble_eq_true rfl) (Nat.le_of_ble_eq_true rfl) hb1 ?_
  refine cb_putRc (pc := 8) O fl_X3_9 (Or.inr ⟨rfl, hnm, rfl, fm_X3_9⟩) rfl rfl dX3_init__8 (fun _ => rfl) (fun _ => rfl) (by simp [cb_nw1, hb]) (by simp [cb_nw1]) ?_
  refine cb_aload_n (pc := 11) O dX3_init__11 rfl ?_
  refine cb_iconst (pc := 12) (v := 0) O dX3_init__12 (by decide) ?_
  refine cb_putIc (pc := 13) O fl_X3_15 (Or.inl rfl) rfl rfl dX3_init__13 rfl rfl (by simp [cb_nw1, cb_ur, hb]) ?_
  refine cb_sipush (pc := 16) (v := 14641) O dX3_init__16 (by decide) ?_
  refine cb_istore_n (pc := 19) O dX3_init__19 (by decide) ?_
  dsimp only [List.set]
  have hik0 : ik_I w (cb_um (cb_ur (cb_nw1 w 45) 44 0 (some 45)) 44 1 0) 44 (nl t - 5) (ri t) := by
    rw [show nl t - 5 = 0 by omega]
    refine ⟨fun q h => ?_, ?_, fun q g1 g2 => ⟨?_, ?_⟩, ?_, ?_, fun i hi => absurd hi (by omega)⟩
    · simp only [cb_nw1, cb_ur, cb_um]
      rw [if_neg h]
    · simp [cb_nw1, cb_ur, cb_um]
    · funext k
      simp only [cb_nw1, cb_ur, cb_um]
      rw [cb_u2n (by omega), if_neg g2]
    · funext k
      simp only [cb_nw1, cb_ur, cb_um]
      rw [cb_u2n (by omega), if_neg g2]
    · simp only [cb_um, cb_ur]
      rw [cb_u2s]
    · simp only [cb_um]
      rw [cb_u2s]
      rfl
  have L_20 : ∀ (n : Nat) (j : Nat) (w9 : cb_W) (x3 : Option cb_V), j ≤ 5 → ik_I w w9 44 (nl t - j) (ri t) → j + 1 ≤ n → cb_X κ w9 1 5 20 [some (.inr (some 44)), some (.inl (nI t)), some (.inl (nI (up j))), x3] [] := by
    intro n
    induction n with
    | zero =>
      intro j w9 x3 hj hik hn
      exact absurd hn (by omega)
    | succ n ih_20 =>
      intro j w9 x3 hj hik hn
      have hv9 : w9.1 44 = true := by rw [hik.1 44 (by decide)]; exact hb
      have hup := up_le j (by omega)
      refine cb_iload_n (pc := 20) O dX3_init__20 rfl ?_
      refine cb_if_le (pc := 21) O 73 dX3_init__21 (by decide) (fun c_21 => ?_) (fun c_21 => ?_)
      · skip
        rw [ci_ge0 (by omega)] at c_21
        have hj0 : j = 0 := by
          rcases Nat.eq_zero_or_pos j with e | e
          · exact e
          · rw [show j = j - 1 + 1 by omega] at c_21
            have := up_p (i := j - 1)
            omega
        subst hj0
        exact cb_vret (pc := 73) O Rt (Nat.le_of_ble_eq_true rfl) (Nat.le_of_ble_eq_true rfl) dX3_init__73 hik
      · skip
        rw [ci_ge0 (by omega)] at c_21
        obtain ⟨i, rfl⟩ : ∃ i, j = i + 1 := ⟨j - 1, by
          rcases Nat.eq_zero_or_pos j with e | e
          · rw [e] at c_21; exact absurd rfl c_21
          · omega⟩
        have hdl : t / 11 ^ i ≤ t := Nat.div_le_self _ _
        have hr9 := nl_r (t := t) (j := i) (by omega) ht
        have hm9 := Nat.mod_lt (t / 11 ^ i) (show 11 > 0 by decide)
        refine cb_iload_n (pc := 24) O dX3_init__24 rfl ?_
        refine cb_iload_n (pc := 25) O dX3_init__25 rfl ?_
        refine cb_idiv (pc := 26) O dX3_init__26 (nI_ne0 up_p (by omega)) ?_
        refine cb_topv (nI (t / 11 ^ i)) (by rw [ci_dl (up (i + 1)) rfl (by omega) up_p (by omega), up_S]) ?_
        refine cb_bipush (pc := 27) (v := 11) O dX3_init__27 (by decide) ?_
        refine cb_irem (pc := 29) O dX3_init__29 (by decide) ?_
        refine cb_topv (nI (t / 11 ^ i % 11)) (ci_rl 11 rfl (by omega) (by omega) (by omega)) ?_
        refine cb_istore_n (pc := 30) O dX3_init__30 (by decide) ?_
        dsimp only [List.set]
        refine cb_iload_n (pc := 31) O dX3_init__31 rfl ?_
        refine cb_if_le (pc := 32) O 65 dX3_init__32 (by decide) (fun c_32 => ?_) (fun c_32 => ?_)
        · skip
          rw [ci_ge0 (by omega)] at c_32
          have hni : nl t ≤ i := Nat.le_of_not_lt (fun h => hrw i h c_32)
          refine cb_iload_n (pc := 65) O dX3_init__65 rfl ?_
          refine cb_bipush (pc := 66) (v := 11) O dX3_init__66 (by decide) ?_
          refine cb_idiv (pc := 68) O dX3_init__68 (by decide) ?_
          refine cb_topv (nI (up i)) (by rw [show nI (up (i + 1)) / 11 = nI (up (i + 1) / 11) from ci_dl 11 rfl (by omega) (by omega) (by omega), up_d i (by omega)]) ?_
          refine cb_istore_n (pc := 69) O dX3_init__69 (by decide) ?_
          dsimp only [List.set]
          refine cb_goto (pc := 70) O 20 dX3_init__70 (by decide) ?_
          first
          | exact ih_20 i w9 _ (by omega) (by rw [show nl t - i = nl t - (i + 1) by omega]; exact hik) (by omega)
          | exact ih_20 i _ _ (by omega) (by
              rw [← hle]
              exact hik.add) (by omega)
        · skip
          rw [ci_ge0 (by omega)] at c_32
          have hil : i < nl t := hr9.mp (Nat.pos_of_ne_zero (fun e => c_32 (by rw [e])))
          have hle : nl t - (i + 1) + 1 = nl t - i := by omega
          have hri : ri t (nl t - (i + 1)) = t / 11 ^ i % 11 - 1 := by
            unfold ri
            rw [show nl t - 1 - (nl t - (i + 1)) = i by omega]
          refine cb_aload_n (pc := 35) O dX3_init__35 rfl ?_
          refine cb_getI (pc := 36) O fl_X3_15 rfl rfl dX3_init__36 (by first | exact hv9 | (simp only [cb_um]; exact hv9) | (simp [cb_nw1, cb_ur, cb_um, hb]; done) | exact hb) ?_
          refine cb_topv _ hik.2.2.2.2.1 ?_
          refine cb_iconst (pc := 39) (v := 5) O dX3_init__39 (by decide) ?_
          refine cb_icmp_ge (pc := 40) O 65 dX3_init__40 (by decide) (fun c_40 => ?_) (fun c_40 => ?_)
          · skip
            exact absurd (ci_ge (b := 5) c_40 (by omega) (by decide)) (by omega)
            skip
          · skip
            refine cb_aload_n (pc := 43) O dX3_init__43 rfl ?_
            refine cb_getR (pc := 44) O fl_X3_9 rfl rfl dX3_init__44 hv9 hik.2.2.2.1 ?_
            refine cb_aload_n (pc := 47) O dX3_init__47 rfl ?_
            refine cb_getI (pc := 48) O fl_X3_15 rfl rfl dX3_init__48 (by first | exact hv9 | (simp only [cb_um]; exact hv9) | (simp [cb_nw1, cb_ur, cb_um, hb]; done) | exact hb) ?_
            refine cb_topv _ hik.2.2.2.2.1 ?_
            refine cb_iload_n (pc := 51) O dX3_init__51 rfl ?_
            refine cb_iconst (pc := 52) (v := 1) O dX3_init__52 (by decide) ?_
            refine cb_isub (pc := 53) O dX3_init__53 ?_
            refine cb_topv (nI (ri t (nl t - (i + 1)))) (by rw [hri]; exact ci_p1 (by omega)) ?_
            refine cb_iast (pc := 54) O (nl t - (i + 1)) rfl dX3_init__54 (by decide) hik.2.1 rfl (by omega) ?_
            refine cb_aload_n (pc := 55) O dX3_init__55 rfl ?_
            refine cb_dup (pc := 56) O dX3_init__56 ?_
            refine cb_getI (pc := 57) O fl_X3_15 rfl rfl dX3_init__57 (by first | exact hv9 | (simp only [cb_um]; exact hv9) | (simp [cb_nw1, cb_ur, cb_um, hb]; done) | exact hb) ?_
            refine cb_topv (nI (nl t - (i + 1))) (by simp only [cb_um]; rw [cb_u2n (by omega)]; exact hik.2.2.2.2.1) ?_
            refine cb_iconst (pc := 60) (v := 1) O dX3_init__60 (by decide) ?_
            refine cb_iadd (pc := 61) O dX3_init__61 ?_
            refine cb_topv (nI (nl t - (i + 1) + 1)) (nI_add _ _) ?_
            refine cb_putIc (pc := 62) O fl_X3_15 (Or.inl rfl) rfl rfl dX3_init__62 rfl rfl (by first | exact hv9 | (simp only [cb_um]; exact hv9) | (simp [cb_nw1, cb_ur, cb_um, hb]; done) | exact hb) ?_
            refine cb_iload_n (pc := 65) O dX3_init__65 rfl ?_
            refine cb_bipush (pc := 66) (v := 11) O dX3_init__66 (by decide) ?_
            refine cb_idiv (pc := 68) O dX3_init__68 (by decide) ?_
            refine cb_topv (nI (up i)) (by rw [show nI (up (i + 1)) / 11 = nI (up (i + 1) / 11) from ci_dl 11 rfl (by omega) (by omega) (by omega), up_d i (by omega)]) ?_
            refine cb_istore_n (pc := 69) O dX3_init__69 (by decide) ?_
            dsimp only [List.set]
            refine cb_goto (pc := 70) O 20 dX3_init__70 (by decide) ?_
            first
            | exact ih_20 i w9 _ (by omega) (by rw [show nl t - i = nl t - (i + 1) by omega]; exact hik) (by omega)
            | exact ih_20 i _ _ (by omega) (by
                rw [← hle]
                exact hik.add) (by omega)
  exact L_20 6 5 _ none (by omega) hik0 (by omega)

theorem c_X3_colourAfter (w : cb_W) (A : ca_A) (z : Int32) (hI : ca_I A) (hC : cc_I w A z) (b L : Nat) (r : Nat → Nat) (hR : IR w b L r) (k : Nat) (hk : k ≤ L) : cb_Pu yX3_colourAfter cX3_colourAfter 5 (some .int) 0 0 [.inr (some b), .inl (nI k), .inr (some 1)] w (nI (cf A r k)) := by
  obtain ⟨⟨s0, s1⟩, ⟨v0, v1, r0⟩, ⟨l5, hl⟩, hi, h10⟩ := id hR
  refine cb_con (by decide) (Nat.le_of_ble_eq_true rfl) (fun κ O Rt hnm => ?_)
  show cb_X κ w 0 0 0 [some (.inr (some b)), some (.inl (nI k)), some (.inr (some 1)), none, none] []
  refine cb_iconst (pc := 0) (v := 0) O dX3_colourAfter_0 (by decide) ?_
  refine cb_istore_n (pc := 1) O dX3_colourAfter_1 (by decide) ?_
  dsimp only [List.set]
  refine cb_iconst (pc := 2) (v := 0) O dX3_colourAfter_2 (by decide) ?_
  refine cb_istore (pc := 3) O dX3_colourAfter_3 (by decide) ?_
  dsimp only [List.set]
  have L_5 : ∀ (n : Nat) (i : Nat), i ≤ k → k + 1 ≤ i + n → cb_X κ w 0 0 5 [some (.inr (some b)), some (.inl (nI k)), some (.inr (some 1)), some (.inl (nI (cf A r i))), some (.inl (nI i))] [] := by
    intro n
    induction n with
    | zero =>
      intro i hik hn
      exact absurd hn (by omega)
    | succ n ih_5 =>
      intro i hik hn
      refine cb_iload (pc := 5) O dX3_colourAfter_5 rfl ?_
      refine cb_iload_n (pc := 7) O dX3_colourAfter_7 rfl ?_
      refine cb_icmp_ge (pc := 8) O 41 dX3_colourAfter_8 (by decide) (fun c_8 => ?_) (fun c_8 => ?_)
      · skip
        rw [nI_leI (by omega) (by omega)] at c_8
        have e : i = k := by omega
        subst e
        refine cb_iload_n (pc := 41) O dX3_colourAfter_41 rfl ?_
        exact cb_iret (pc := 42) O Rt rfl (Nat.le_of_ble_eq_true rfl) (Nat.le_of_ble_eq_true rfl) dX3_colourAfter_42 ⟨rfl, rfl⟩
      · skip
        rw [nI_leI (by omega) (by omega)] at c_8
        have h16 := cf_16 hI r i
        have h9 := h10 i
        refine cb_iload (pc := 11) O dX3_colourAfter_11 rfl ?_
        refine cb_aload_n (pc := 13) O dX3_colourAfter_13 rfl ?_
        refine cb_getI (pc := 14) O fl_X3_15 rfl s0 dX3_colourAfter_14 v0 ?_
        refine cb_topv _ hl ?_
        refine cb_icmp_ge (pc := 17) O 41 dX3_colourAfter_17 (by decide) (fun c_17 => ?_) (fun c_17 => ?_)
        · skip
          rw [nI_leI (by omega) (by omega)] at c_17
          exfalso
          omega
          skip
        · skip
          rw [nI_leI (by omega) (by omega)] at c_17
          refine cb_aload_n (pc := 20) O dX3_colourAfter_20 rfl ?_
          refine cb_getR (pc := 21) O fl_X3_24 rfl rfl dX3_colourAfter_21 (hC.1.1 _ rfl) (hC.1.2 _ _ _ rfl) ?_
          refine cb_aload_n (pc := 24) O dX3_colourAfter_24 rfl ?_
          refine cb_getR (pc := 25) O fl_X3_9 rfl s0 dX3_colourAfter_25 v0 r0 ?_
          refine cb_iload (pc := 28) O dX3_colourAfter_28 rfl ?_
          refine cb_iald (pc := 30) O i s1 dX3_colourAfter_30 (by decide) v1 rfl (by omega) ?_
          refine cb_topv _ (hi i (by omega)) ?_
          refine cb_aald (pc := 31) O (r i) rfl (by decide) (by decide) dX3_colourAfter_31 (by decide) (hC.1.1 _ rfl) rfl h9 (hC.1.2 8 (r i) (100 + r i) (by simp [cc_Rf]; omega)) ?_
          refine cb_iload_n (pc := 32) O dX3_colourAfter_32 rfl ?_
          refine cb_iald (pc := 33) O (cf A r i) (sh_mk h9) dX3_colourAfter_33 (by decide) (hC.1.1 _ (lv_f (by omega))) rfl h16 ?_
          refine cb_topv (nI (cf A r (i + 1))) (hC.2.2.2.1.1 (r i) (cf A r i) h9 h16) ?_
          refine cb_istore_n (pc := 34) O dX3_colourAfter_34 (by decide) ?_
          dsimp only [List.set]
          refine cb_iinc (pc := 35) O (nI (i + 1)) dX3_colourAfter_35 rfl (by decide) (ci_inc i) ?_
          dsimp only [List.set]
          refine cb_goto (pc := 38) O 5 dX3_colourAfter_38 (by decide) ?_
          exact ih_5 (i + 1) (by omega) (by omega)
  exact L_5 (k + 1) 0 (by omega) (by omega)

theorem c_X3_coloursMade (w : cb_W) (A : ca_A) (z : Int32) (hI : ca_I A) (hC : cc_I w A z) (b L : Nat) (r : Nat → Nat) (hR : IR w b L r)  : cb_Pu yX3_coloursMade cX3_coloursMade 4 (some .int) 1 24 [.inr (some b), .inr (some 1)] w (nI (csn A r (L + 1))) := by
  obtain ⟨⟨s0, s1⟩, ⟨v0, v1, r0⟩, ⟨l5, hl⟩, hi, h10⟩ := id hR
  refine cb_con (by decide) (Nat.le_of_ble_eq_true rfl) (fun κ O Rt hnm => ?_)
  show cb_X κ w 0 0 0 [some (.inr (some b)), some (.inr (some 1)), none, none] []
  refine cb_iconst (pc := 0) (v := 0) O dX3_coloursMade_0 (by decide) ?_
  refine cb_istore_n (pc := 1) O dX3_coloursMade_1 (by decide) ?_
  dsimp only [List.set]
  refine cb_iconst (pc := 2) (v := 0) O dX3_coloursMade_2 (by decide) ?_
  refine cb_istore_n (pc := 3) O dX3_coloursMade_3 (by decide) ?_
  dsimp only [List.set]
  have L_4 : ∀ (n : Nat) (k : Nat), k ≤ L + 1 → L + 2 ≤ k + n → cb_X κ w 0 0 4 [some (.inr (some b)), some (.inr (some 1)), some (.inl (nI (csn A r k))), some (.inl (nI k))] [] := by
    intro n
    induction n with
    | zero =>
      intro k hk hn
      exact absurd hn (by omega)
    | succ n ih_4 =>
      intro k hk hn
      refine cb_iload_n (pc := 4) O dX3_coloursMade_4 rfl ?_
      refine cb_aload_n (pc := 5) O dX3_coloursMade_5 rfl ?_
      refine cb_getI (pc := 6) O fl_X3_15 rfl s0 dX3_coloursMade_6 v0 ?_
      refine cb_topv _ hl ?_
      refine cb_icmp_gt (pc := 9) O 29 dX3_coloursMade_9 (by decide) (fun c_9 => ?_) (fun c_9 => ?_)
      · skip
        rw [nI_ltI (by omega) (by omega)] at c_9
        have e : k = L + 1 := by omega
        subst e
        refine cb_iload_n (pc := 29) O dX3_coloursMade_29 rfl ?_
        exact cb_iret (pc := 30) O Rt rfl (Nat.le_of_ble_eq_true rfl) (Nat.le_of_ble_eq_true rfl) dX3_coloursMade_30 ⟨rfl, rfl⟩
      · skip
        rw [nI_ltI (by omega) (by omega)] at c_9
        refine cb_iload_n (pc := 12) O dX3_coloursMade_12 rfl ?_
        refine cb_iconst (pc := 13) (v := 1) O dX3_coloursMade_13 (by decide) ?_
        refine cb_aload_n (pc := 14) O dX3_coloursMade_14 rfl ?_
        refine cb_iload_n (pc := 15) O dX3_coloursMade_15 rfl ?_
        refine cb_aload_n (pc := 16) O dX3_coloursMade_16 rfl ?_
        refine cb_cVp (pc := 17) O (c_X3_colourAfter w A z hI hC b L r hR k (by omega)) my_X3_colourAfter mi_X3_colourAfter mx_X3_colourAfter ml_X3_30 dX3_coloursMade_17 rfl ct_3 rfl s0 rfl ⟨(Nat.le_of_ble_eq_true rfl), (Nat.le_of_ble_eq_true rfl)⟩ (Nat.le_of_ble_eq_true rfl) rfl ⟨(Nat.le_of_ble_eq_true rfl), (Nat.le_of_ble_eq_true rfl)⟩ v0 ?_
        refine cb_ishl (pc := 20) O dX3_coloursMade_20 ?_
        refine cb_topv _ (ci_shl (cf_16 hI r k)) ?_
        refine cb_ior (pc := 21) O dX3_coloursMade_21 ?_
        refine cb_topv (nI (csn A r (k + 1))) (fa_or _ _) ?_
        refine cb_istore_n (pc := 22) O dX3_coloursMade_22 (by decide) ?_
        dsimp only [List.set]
        refine cb_iinc (pc := 23) O (nI (k + 1)) dX3_coloursMade_23 rfl (by decide) (ci_inc k) ?_
        dsimp only [List.set]
        refine cb_goto (pc := 26) O 4 dX3_coloursMade_26 (by decide) ?_
        exact ih_4 (k + 1) (by omega) (by omega)
  exact L_4 (L + 2) 0 (by omega) (by omega)

theorem c_X3_leastPlace (w : cb_W) (A : ca_A) (z : Int32) (hI : ca_I A) (hC : cc_I w A z) (b L : Nat) (r : Nat → Nat) (hR : IR w b L r) (c : Nat) (hc : c < 16) : cb_Pu yX3_leastPlace cX3_leastPlace 4 (some .int) 1 24 [.inr (some b), .inl (nI c), .inr (some 1)] w (nI (fp A r c (L + 1)) - 1) := by
  obtain ⟨⟨s0, s1⟩, ⟨v0, v1, r0⟩, ⟨l5, hl⟩, hi, h10⟩ := id hR
  refine cb_con (by decide) (Nat.le_of_ble_eq_true rfl) (fun κ O Rt hnm => ?_)
  show cb_X κ w 0 0 0 [some (.inr (some b)), some (.inl (nI c)), some (.inr (some 1)), none] []
  refine cb_iconst (pc := 0) (v := 0) O dX3_leastPlace_0 (by decide) ?_
  refine cb_istore_n (pc := 1) O dX3_leastPlace_1 (by decide) ?_
  dsimp only [List.set]
  have L_2 : ∀ (n : Nat) (k : Nat), k ≤ L + 1 → fp A r c k = 0 → L + 2 ≤ k + n → cb_X κ w 0 0 2 [some (.inr (some b)), some (.inl (nI c)), some (.inr (some 1)), some (.inl (nI k))] [] := by
    intro n
    induction n with
    | zero =>
      intro k hk hf hn
      exact absurd hn (by omega)
    | succ n ih_2 =>
      intro k hk hf hn
      refine cb_iload_n (pc := 2) O dX3_leastPlace_2 rfl ?_
      refine cb_aload_n (pc := 3) O dX3_leastPlace_3 rfl ?_
      refine cb_getI (pc := 4) O fl_X3_15 rfl s0 dX3_leastPlace_4 v0 ?_
      refine cb_topv _ hl ?_
      refine cb_icmp_gt (pc := 7) O 28 dX3_leastPlace_7 (by decide) (fun c_7 => ?_) (fun c_7 => ?_)
      · skip
        rw [nI_ltI (by omega) (by omega)] at c_7
        have e : k = L + 1 := by omega
        subst e
        refine cb_iconst (pc := 28) (v := (-1)) O dX3_leastPlace_28 (by decide) ?_
        exact cb_iret (pc := 29) O Rt rfl (Nat.le_of_ble_eq_true rfl) (Nat.le_of_ble_eq_true rfl) dX3_leastPlace_29 (by
          refine ⟨?_, rfl⟩
          rw [hf]
          rfl)
      · skip
        rw [nI_ltI (by omega) (by omega)] at c_7
        have h16 := cf_16 hI r k
        refine cb_aload_n (pc := 10) O dX3_leastPlace_10 rfl ?_
        refine cb_iload_n (pc := 11) O dX3_leastPlace_11 rfl ?_
        refine cb_aload_n (pc := 12) O dX3_leastPlace_12 rfl ?_
        refine cb_cVp (pc := 13) O (c_X3_colourAfter w A z hI hC b L r hR k (by omega)) my_X3_colourAfter mi_X3_colourAfter mx_X3_colourAfter ml_X3_30 dX3_leastPlace_13 rfl ct_3 rfl s0 rfl ⟨(Nat.le_of_ble_eq_true rfl), (Nat.le_of_ble_eq_true rfl)⟩ (Nat.le_of_ble_eq_true rfl) rfl ⟨(Nat.le_of_ble_eq_true rfl), (Nat.le_of_ble_eq_true rfl)⟩ v0 ?_
        refine cb_iload_n (pc := 16) O dX3_leastPlace_16 rfl ?_
        refine cb_icmp_ne (pc := 17) O 22 dX3_leastPlace_17 (by decide) (fun c_17 => ?_) (fun c_17 => ?_)
        · skip
          rw [nI_eq (by omega) (by omega)] at c_17
          refine cb_iinc (pc := 22) O (nI (k + 1)) dX3_leastPlace_22 rfl (by decide) (ci_inc k) ?_
          dsimp only [List.set]
          refine cb_goto (pc := 25) O 2 dX3_leastPlace_25 (by decide) ?_
          exact ih_2 (k + 1) (by omega) (by rw [fp, if_neg (fun h => h hf), if_neg c_17]) (by omega)
        · skip
          rw [nI_eq (by omega) (by omega)] at c_17
          refine cb_iload_n (pc := 20) O dX3_leastPlace_20 rfl ?_
          exact cb_iret (pc := 21) O Rt rfl (Nat.le_of_ble_eq_true rfl) (Nat.le_of_ble_eq_true rfl) dX3_leastPlace_21 (by
            refine ⟨?_, rfl⟩
            have hst : ∀ d, fp A r c (k + 1 + d) = k + 1 := by
              intro d
              induction d with
              | zero =>
                show fp A r c (k + 1) = k + 1
                rw [fp, if_neg (fun h => h hf), if_pos c_17]
              | succ d ih =>
                show fp A r c (k + 1 + d + 1) = k + 1
                rw [fp, ih, if_pos (by omega)]
            have h9 := hst (L - k)
            rw [show k + 1 + (L - k) = L + 1 by omega] at h9
            rw [h9, nI_p1])
  exact L_2 (L + 2) 0 (by omega) rfl (by omega)

theorem k_alike0 (w : cb_W) (A : ca_A) (z : Int32) (hI : ca_I A) (hC : cc_I w A z) (ht4 : ∀ r, 40 ≤ r → r < 46 → w.1 r = false) (t o c : Int32) : cb_Con yX10_alike cX10_alike 5 (some .int) 2 47 4 14 cb_kpub [.inr (some 0), .inl t, .inl o, .inl c] w (cb_pi (fun x w' => x = sr_alike A t o c ∧ cc_I w' A z ∧ cb_M1 w w')) := by
  refine cb_con (by decide) (Nat.le_of_ble_eq_true rfl) (fun κ O Rt hnm => ?_)
  show cb_X κ w 0 0 0 [some (.inr (some 0)), some (.inl t), some (.inl o), some (.inl c), none] []
  refine cb_iload_n (pc := 0) O dX10_alike_0 rfl ?_
  refine cb_cSp (pc := 1) O (c_X3_isRow _ _) my_X3_isRow mt_X3_isRow ml_X10_284 dX10_alike_1 rfl rfl ⟨(Nat.le_of_ble_eq_true rfl), (Nat.le_of_ble_eq_true rfl)⟩ (Nat.le_of_ble_eq_true rfl) rfl ⟨(Nat.le_of_ble_eq_true rfl), (Nat.le_of_ble_eq_true rfl)⟩ ?_
  refine cb_ifp_eq (pc := 4) O 25 dX10_alike_4 (by decide) (fun c_4 => ?_) (fun c_4 => ?_)
  · skip
    refine cb_iconst (pc := 25) (v := (-1)) O dX10_alike_25 (by decide) ?_
    exact cb_iret (pc := 26) O Rt rfl (Nat.le_of_ble_eq_true rfl) (Nat.le_of_ble_eq_true rfl) dX10_alike_26 (by
      have hv : ¬ ((sv_row t ∧ sv_row o) ∧ (0 ≤ c ∧ c ≤ 65535)) := fun h => by
        first | exact c_4 h.1.1 | exact c_11 h.1.2 | exact c_22 h.2
      exact ⟨by rw [sr_alike, if_neg hv], hC, cb_M1.rfl'⟩)
  · skip
    refine cb_iload_n (pc := 7) O dX10_alike_7 rfl ?_
    refine cb_cSp (pc := 8) O (c_X3_isRow _ _) my_X3_isRow mt_X3_isRow ml_X10_284 dX10_alike_8 rfl rfl ⟨(Nat.le_of_ble_eq_true rfl), (Nat.le_of_ble_eq_true rfl)⟩ (Nat.le_of_ble_eq_true rfl) rfl ⟨(Nat.le_of_ble_eq_true rfl), (Nat.le_of_ble_eq_true rfl)⟩ ?_
    refine cb_ifp_eq (pc := 11) O 25 dX10_alike_11 (by decide) (fun c_11 => ?_) (fun c_11 => ?_)
    · skip
      refine cb_iconst (pc := 25) (v := (-1)) O dX10_alike_25 (by decide) ?_
      exact cb_iret (pc := 26) O Rt rfl (Nat.le_of_ble_eq_true rfl) (Nat.le_of_ble_eq_true rfl) dX10_alike_26 (by
        have hv : ¬ ((sv_row t ∧ sv_row o) ∧ (0 ≤ c ∧ c ≤ 65535)) := fun h => by
          first | exact c_4 h.1.1 | exact c_11 h.1.2 | exact c_22 h.2
        exact ⟨by rw [sr_alike, if_neg hv], hC, cb_M1.rfl'⟩)
    · skip
      refine cb_iload_n (pc := 14) O dX10_alike_14 rfl ?_
      refine cb_iconst (pc := 15) (v := 0) O dX10_alike_15 (by decide) ?_
      refine cb_ldcw (pc := 16) O dX10_alike_16 kc_X10_287 ?_
      refine cb_cSp (pc := 19) O (c_X10_within _ _ _ _) my_X10_within mt_X10_within ml_X10_81 dX10_alike_19 rfl rfl ⟨(Nat.le_of_ble_eq_true rfl), (Nat.le_of_ble_eq_true rfl)⟩ (Nat.le_of_ble_eq_true rfl) rfl ⟨(Nat.le_of_ble_eq_true rfl), (Nat.le_of_ble_eq_true rfl)⟩ ?_
      refine cb_ifp_ne (pc := 22) O 27 dX10_alike_22 (by decide) (fun c_22 => ?_) (fun c_22 => ?_)
      · skip
        have hv : (sv_row t ∧ sv_row o) ∧ (0 ≤ c ∧ c ≤ 65535) := ⟨⟨c_4, c_11⟩, c_22⟩
        obtain ⟨t, ht9, rfl⟩ := ci_nN c_4.1.1
        obtain ⟨o, ho9, rfl⟩ := ci_nN c_11.1.1
        have ht : t < 161051 := by
          have := c_4.1.2
          rw [ci_n ht9] at this
          omega
        have ho : o < 161051 := by
          have := c_11.1.2
          rw [ci_n ho9] at this
          omega
        refine cb_new (pc := 27) O 42 ct_3 cl_X10_269 in_X3 ini_X3 rfl dX10_alike_27 (by decide) (by rw [Rt.2.2]; rfl) rfl (Nat.le_of_ble_eq_true rfl) (Nat.le_of_ble_eq_true rfl) (ht4 42 (by decide) (by decide)) ?_
        refine cb_dup (pc := 30) O dX10_alike_30 ?_
        refine cb_iload_n (pc := 31) O dX10_alike_31 rfl ?_
        refine cb_cIv (pc := 32) O (c_X3_init_42 (cb_nw1 w 42) t ht ((sv_rown ht).mp c_4) (by simp [cb_nw1]) (by simp [cb_nw1]; exact ht4 43 (by decide) (by decide))) my_X3_init_ mi_X3_init_ rfl ml_X10_288 dX10_alike_32 rfl rfl ⟨(Nat.le_of_ble_eq_true rfl), (Nat.le_of_ble_eq_true rfl)⟩ (Nat.le_of_ble_eq_true rfl) rfl ⟨(Nat.le_of_ble_eq_true rfl), (Nat.le_of_ble_eq_true rfl)⟩ (fun q h => by rcases cb_kpubE (by rw [← Rt.2.2]; exact h) with rfl | rfl <;> rfl) (fun w_32 hp_32 => ?_)
        have hik_42 := hp_32
        have hT_42 := hC.tmp (w' := w_32) hI (fun r h => by rw [hik_42.1 r (by omega)]; simp only [cb_nw1]; rw [if_neg (by omega)]) (fun r h => by rw [(hik_42.2.2.1 r (by omega) (by omega)).1]; simp only [cb_nw1]; rw [if_neg (by omega)]) (fun r h => by rw [(hik_42.2.2.1 r (by omega) (by omega)).2]; simp only [cb_nw1]; rw [if_neg (by omega)])
        have hIR_42 : IR w_32 42 (nl t) (ri t) := ⟨⟨rfl, rfl⟩, ⟨by rw [hik_42.1 42 (by decide)]; simp [cb_nw1], hik_42.2.1, hik_42.2.2.2.1⟩, ⟨nl_5 _, hik_42.2.2.2.2.1⟩, hik_42.2.2.2.2.2, ri_10 _⟩
        have hC1 := hT_42.1
        refine cb_aload_n (pc := 35) O dX10_alike_35 rfl ?_
        refine cb_getR (pc := 36) O fl_X10_12 rfl rfl dX10_alike_36 (by first | exact hC2.1.1 _ rfl | exact hC1.1.1 _ rfl | exact hC.1.1 _ rfl) (by first | exact hC2.1.2 _ _ _ rfl | exact hC1.1.2 _ _ _ rfl | exact hC.1.2 _ _ _ rfl) ?_
        refine cb_cVp (pc := 39) O (c_X3_coloursMade w_32 A z hI hC1 42 (nl t) (ri t) hIR_42) my_X3_coloursMade mi_X3_coloursMade mx_X3_coloursMade ml_X10_289 dX10_alike_39 rfl ct_3 rfl rfl rfl ⟨(Nat.le_of_ble_eq_true rfl), (Nat.le_of_ble_eq_true rfl)⟩ (Nat.le_of_ble_eq_true rfl) rfl ⟨(Nat.le_of_ble_eq_true rfl), (Nat.le_of_ble_eq_true rfl)⟩ hIR_42.2.1.1 ?_
        refine cb_new (pc := 42) O 44 ct_3 cl_X10_269 in_X3 ini_X3 rfl dX10_alike_42 (by decide) (by rw [Rt.2.2]; rfl) rfl (Nat.le_of_ble_eq_true rfl) (Nat.le_of_ble_eq_true rfl) (by rw [hik_42.1 44 (by decide)]; simp [cb_nw1]; exact ht4 44 (by decide) (by decide)) ?_
        refine cb_dup (pc := 45) O dX10_alike_45 ?_
        refine cb_iload_n (pc := 46) O dX10_alike_46 rfl ?_
        refine cb_cIv (pc := 47) O (c_X3_init_44 (cb_nw1 w_32 44) o ho ((sv_rown ho).mp c_11) (by simp [cb_nw1]) (by simp [cb_nw1]; rw [hik_42.1 45 (by decide)]; simp [cb_nw1]; exact ht4 45 (by decide) (by decide))) my_X3_init_ mi_X3_init_ rfl ml_X10_288 dX10_alike_47 rfl rfl ⟨(Nat.le_of_ble_eq_true rfl), (Nat.le_of_ble_eq_true rfl)⟩ (Nat.le_of_ble_eq_true rfl) rfl ⟨(Nat.le_of_ble_eq_true rfl), (Nat.le_of_ble_eq_true rfl)⟩ (fun q h => by rcases cb_kpubE (by rw [← Rt.2.2]; exact h) with rfl | rfl <;> rfl) (fun w_47 hp_47 => ?_)
        have hik_44 := hp_47
        have hT_44 := hC1.tmp (w' := w_47) hI (fun r h => by rw [hik_44.1 r (by omega)]; simp only [cb_nw1]; rw [if_neg (by omega)]) (fun r h => by rw [(hik_44.2.2.1 r (by omega) (by omega)).1]; simp only [cb_nw1]; rw [if_neg (by omega)]) (fun r h => by rw [(hik_44.2.2.1 r (by omega) (by omega)).2]; simp only [cb_nw1]; rw [if_neg (by omega)])
        have hIR_44 : IR w_47 44 (nl o) (ri o) := ⟨⟨rfl, rfl⟩, ⟨by rw [hik_44.1 44 (by decide)]; simp [cb_nw1], hik_44.2.1, hik_44.2.2.2.1⟩, ⟨nl_5 _, hik_44.2.2.2.2.1⟩, hik_44.2.2.2.2.2, ri_10 _⟩
        have hC2 := hT_44.1
        refine cb_aload_n (pc := 50) O dX10_alike_50 rfl ?_
        refine cb_getR (pc := 51) O fl_X10_12 rfl rfl dX10_alike_51 (by first | exact hC2.1.1 _ rfl | exact hC1.1.1 _ rfl | exact hC.1.1 _ rfl) (by first | exact hC2.1.2 _ _ _ rfl | exact hC1.1.2 _ _ _ rfl | exact hC.1.2 _ _ _ rfl) ?_
        refine cb_cVp (pc := 54) O (c_X3_coloursMade w_47 A z hI hC2 44 (nl o) (ri o) hIR_44) my_X3_coloursMade mi_X3_coloursMade mx_X3_coloursMade ml_X10_289 dX10_alike_54 rfl ct_3 rfl rfl rfl ⟨(Nat.le_of_ble_eq_true rfl), (Nat.le_of_ble_eq_true rfl)⟩ (Nat.le_of_ble_eq_true rfl) rfl ⟨(Nat.le_of_ble_eq_true rfl), (Nat.le_of_ble_eq_true rfl)⟩ hIR_44.2.1.1 ?_
        refine cb_iand (pc := 57) O dX10_alike_57 ?_
        refine cb_istore (pc := 58) O dX10_alike_58 (by decide) ?_
        dsimp only [List.set]
        refine cb_iload_n (pc := 60) O dX10_alike_60 rfl ?_
        refine cb_iload (pc := 61) O dX10_alike_61 rfl ?_
        refine cb_iconst (pc := 63) (v := (-1)) O dX10_alike_63 (by decide) ?_
        refine cb_ixor (pc := 64) O dX10_alike_64 ?_
        refine cb_iand (pc := 65) O dX10_alike_65 ?_
        refine cb_if_ne (pc := 66) O 73 dX10_alike_66 (by decide) (fun c_66 => ?_) (fun c_66 => ?_)
        · skip
          refine cb_iconst (pc := 73) (v := 0) O dX10_alike_73 (by decide) ?_
          refine cb_cSp (pc := 74) O (c_X10_answer _ _) my_X10_answer mt_X10_answer ml_X10_185 dX10_alike_74 rfl rfl ⟨(Nat.le_of_ble_eq_true rfl), (Nat.le_of_ble_eq_true rfl)⟩ (Nat.le_of_ble_eq_true rfl) rfl ⟨(Nat.le_of_ble_eq_true rfl), (Nat.le_of_ble_eq_true rfl)⟩ ?_
          exact cb_iret (pc := 77) O Rt rfl (Nat.le_of_ble_eq_true rfl) (Nat.le_of_ble_eq_true rfl) dX10_alike_77 (by
            refine ⟨?_, hC2, hT_42.2.trans hT_44.2⟩
            rw [sr_alike, if_pos hv, ci_tn ht9, ci_tn ho9]
            first | (rw [if_pos c_66]; rfl) | (rw [if_neg c_66]; rfl))
        · skip
          refine cb_iconst (pc := 69) (v := 1) O dX10_alike_69 (by decide) ?_
          refine cb_goto (pc := 70) O 74 dX10_alike_70 (by decide) ?_
          refine cb_cSp (pc := 74) O (c_X10_answer _ _) my_X10_answer mt_X10_answer ml_X10_185 dX10_alike_74 rfl rfl ⟨(Nat.le_of_ble_eq_true rfl), (Nat.le_of_ble_eq_true rfl)⟩ (Nat.le_of_ble_eq_true rfl) rfl ⟨(Nat.le_of_ble_eq_true rfl), (Nat.le_of_ble_eq_true rfl)⟩ ?_
          exact cb_iret (pc := 77) O Rt rfl (Nat.le_of_ble_eq_true rfl) (Nat.le_of_ble_eq_true rfl) dX10_alike_77 (by
            refine ⟨?_, hC2, hT_42.2.trans hT_44.2⟩
            rw [sr_alike, if_pos hv, ci_tn ht9, ci_tn ho9]
            first | (rw [if_pos c_66]; rfl) | (rw [if_neg c_66]; rfl))
      · skip
        refine cb_iconst (pc := 25) (v := (-1)) O dX10_alike_25 (by decide) ?_
        exact cb_iret (pc := 26) O Rt rfl (Nat.le_of_ble_eq_true rfl) (Nat.le_of_ble_eq_true rfl) dX10_alike_26 (by
          have hv : ¬ ((sv_row t ∧ sv_row o) ∧ (0 ≤ c ∧ c ≤ 65535)) := fun h => by
            first | exact c_4 h.1.1 | exact c_11 h.1.2 | exact c_22 h.2
          exact ⟨by rw [sr_alike, if_neg hv], hC, cb_M1.rfl'⟩)

theorem k_alike (w : cb_W) (A : ca_A) (z : Int32) (hI : ca_I A) (hC : cc_I w A z) (t o c : Int32) : cb_Con yX10_alike cX10_alike 5 (some .int) 2 47 4 14 cb_kpub [.inr (some 0), .inl t, .inl o, .inl c] w (cb_pi (fun x w' => x = sr_alike A t o c ∧ cc_I w' A z ∧ cb_M1 w w')) := cb_pub hC (k_alike0 (cb_dp w) A z hI (hC.dp hI) (cb_dpL w) t o c)
theorem k_made0 (w : cb_W) (A : ca_A) (z : Int32) (hI : ca_I A) (hC : cc_I w A z) (ht4 : ∀ r, 40 ≤ r → r < 46 → w.1 r = false) (t k : Int32) : cb_Con yX10_made cX10_made 4 (some .int) 2 43 2 7 cb_kpub [.inr (some 0), .inl t, .inl k] w (cb_pi (fun x w' => x = sr_made A t k ∧ cc_I w' A z ∧ cb_M1 w w')) := by
  refine cb_con (by decide) (Nat.le_of_ble_eq_true rfl) (fun κ O Rt hnm => ?_)
  show cb_X κ w 0 0 0 [some (.inr (some 0)), some (.inl t), some (.inl k), none] []
  refine cb_iload_n (pc := 0) O dX10_made_0 rfl ?_
  refine cb_cSp (pc := 1) O (c_X3_isRow _ _) my_X3_isRow mt_X3_isRow ml_X10_284 dX10_made_1 rfl rfl ⟨(Nat.le_of_ble_eq_true rfl), (Nat.le_of_ble_eq_true rfl)⟩ (Nat.le_of_ble_eq_true rfl) rfl ⟨(Nat.le_of_ble_eq_true rfl), (Nat.le_of_ble_eq_true rfl)⟩ ?_
  refine cb_ifp_ne (pc := 4) O 9 dX10_made_4 (by decide) (fun c_4 => ?_) (fun c_4 => ?_)
  · skip
    have hv : sv_row t := c_4
    obtain ⟨t, ht9, rfl⟩ := ci_nN c_4.1.1
    have ht : t < 161051 := by
      have := c_4.1.2
      rw [ci_n ht9] at this
      omega
    have l5 := nl_5 t
    refine cb_new (pc := 9) O 42 ct_3 cl_X10_269 in_X3 ini_X3 rfl dX10_made_9 (by decide) (by rw [Rt.2.2]; rfl) rfl (Nat.le_of_ble_eq_true rfl) (Nat.le_of_ble_eq_true rfl) (ht4 42 (by decide) (by decide)) ?_
    refine cb_dup (pc := 12) O dX10_made_12 ?_
    refine cb_iload_n (pc := 13) O dX10_made_13 rfl ?_
    refine cb_cIv (pc := 14) O (c_X3_init_42 (cb_nw1 w 42) t ht ((sv_rown ht).mp c_4) (by simp [cb_nw1]) (by simp [cb_nw1]; exact ht4 43 (by decide) (by decide))) my_X3_init_ mi_X3_init_ rfl ml_X10_288 dX10_made_14 rfl rfl ⟨(Nat.le_of_ble_eq_true rfl), (Nat.le_of_ble_eq_true rfl)⟩ (Nat.le_of_ble_eq_true rfl) rfl ⟨(Nat.le_of_ble_eq_true rfl), (Nat.le_of_ble_eq_true rfl)⟩ (fun q h => by rcases cb_kpubE (by rw [← Rt.2.2]; exact h) with rfl | rfl <;> rfl) (fun w_14 hp_14 => ?_)
    have hik_42 := hp_14
    have hT_42 := hC.tmp (w' := w_14) hI (fun r h => by rw [hik_42.1 r (by omega)]; simp only [cb_nw1]; rw [if_neg (by omega)]) (fun r h => by rw [(hik_42.2.2.1 r (by omega) (by omega)).1]; simp only [cb_nw1]; rw [if_neg (by omega)]) (fun r h => by rw [(hik_42.2.2.1 r (by omega) (by omega)).2]; simp only [cb_nw1]; rw [if_neg (by omega)])
    have hIR_42 : IR w_14 42 (nl t) (ri t) := ⟨⟨rfl, rfl⟩, ⟨by rw [hik_42.1 42 (by decide)]; simp [cb_nw1], hik_42.2.1, hik_42.2.2.2.1⟩, ⟨nl_5 _, hik_42.2.2.2.2.1⟩, hik_42.2.2.2.2.2, ri_10 _⟩
    have hC1 := hT_42.1
    refine cb_astore_n (pc := 17) O dX10_made_17 (by decide) ?_
    dsimp only [List.set]
    refine cb_iload_n (pc := 18) O dX10_made_18 rfl ?_
    refine cb_iconst (pc := 19) (v := 0) O dX10_made_19 (by decide) ?_
    refine cb_aload_n (pc := 20) O dX10_made_20 rfl ?_
    refine cb_getI (pc := 21) O fl_X10_268 rfl rfl dX10_made_21 hIR_42.2.1.1 ?_
    refine cb_topv _ hik_42.2.2.2.2.1 ?_
    refine cb_cSp (pc := 24) O (c_X10_within _ _ _ _) my_X10_within mt_X10_within ml_X10_81 dX10_made_24 rfl rfl ⟨(Nat.le_of_ble_eq_true rfl), (Nat.le_of_ble_eq_true rfl)⟩ (Nat.le_of_ble_eq_true rfl) rfl ⟨(Nat.le_of_ble_eq_true rfl), (Nat.le_of_ble_eq_true rfl)⟩ ?_
    refine cb_ifp_eq (pc := 27) O 42 dX10_made_27 (by decide) (fun c_27 => ?_) (fun c_27 => ?_)
    · skip
      have hk : ¬ (0 ≤ k.toInt ∧ k.toInt ≤ (nl t : Int)) := by
        rw [ci_0le, ci_le, ci_n (by omega)] at c_27
        exact c_27
      refine cb_iconst (pc := 42) (v := (-1)) O dX10_made_42 (by decide) ?_
      exact cb_iret (pc := 43) O Rt rfl (Nat.le_of_ble_eq_true rfl) (Nat.le_of_ble_eq_true rfl) dX10_made_43 (by
        refine ⟨?_, hC1, hT_42.2⟩
        first
        | rw [sr_made, if_neg (fun h => hk (by have := h.2; rw [ci_tn ht9] at this; exact this))]
        | rw [sr_made, if_pos ⟨hv, by rw [ci_n hk9, ci_tn ht9]; exact hk⟩, ci_tn hk9, ci_tn ht9])
    · skip
      have hk : 0 ≤ k.toInt ∧ k.toInt ≤ (nl t : Int) := by
        rw [ci_0le, ci_le, ci_n (by omega)] at c_27
        exact c_27
      obtain ⟨k, hk9, rfl⟩ := ci_nN hk.1
      rw [ci_n hk9] at hk
      refine cb_aload_n (pc := 30) O dX10_made_30 rfl ?_
      refine cb_iload_n (pc := 31) O dX10_made_31 rfl ?_
      refine cb_aload_n (pc := 32) O dX10_made_32 rfl ?_
      refine cb_getR (pc := 33) O fl_X10_12 rfl rfl dX10_made_33 (by first | exact hC1.1.1 _ rfl | exact hC.1.1 _ rfl) (by first | exact hC1.1.2 _ _ _ rfl | exact hC.1.2 _ _ _ rfl) ?_
      refine cb_cVp (pc := 36) O (c_X3_colourAfter w_14 A z hI hC1 42 (nl t) (ri t) hIR_42 k (by omega)) my_X3_colourAfter mi_X3_colourAfter mx_X3_colourAfter ml_X10_293 dX10_made_36 rfl ct_3 rfl rfl rfl ⟨(Nat.le_of_ble_eq_true rfl), (Nat.le_of_ble_eq_true rfl)⟩ (Nat.le_of_ble_eq_true rfl) rfl ⟨(Nat.le_of_ble_eq_true rfl), (Nat.le_of_ble_eq_true rfl)⟩ hIR_42.2.1.1 ?_
      refine cb_goto (pc := 39) O 43 dX10_made_39 (by decide) ?_
      exact cb_iret (pc := 43) O Rt rfl (Nat.le_of_ble_eq_true rfl) (Nat.le_of_ble_eq_true rfl) dX10_made_43 (by
        refine ⟨?_, hC1, hT_42.2⟩
        first
        | rw [sr_made, if_neg (fun h => hk (by have := h.2; rw [ci_tn ht9] at this; exact this))]
        | rw [sr_made, if_pos ⟨hv, by rw [ci_n hk9, ci_tn ht9]; exact hk⟩, ci_tn hk9, ci_tn ht9])
  · skip
    refine cb_iconst (pc := 7) (v := (-1)) O dX10_made_7 (by decide) ?_
    exact cb_iret (pc := 8) O Rt rfl (Nat.le_of_ble_eq_true rfl) (Nat.le_of_ble_eq_true rfl) dX10_made_8 (by
      exact ⟨by rw [sr_made, if_neg (fun h => c_4 h.1)], hC, cb_M1.rfl'⟩)

theorem k_made (w : cb_W) (A : ca_A) (z : Int32) (hI : ca_I A) (hC : cc_I w A z) (t k : Int32) : cb_Con yX10_made cX10_made 4 (some .int) 2 43 2 7 cb_kpub [.inr (some 0), .inl t, .inl k] w (cb_pi (fun x w' => x = sr_made A t k ∧ cc_I w' A z ∧ cb_M1 w w')) := cb_pub hC (k_made0 (cb_dp w) A z hI (hC.dp hI) (cb_dpL w) t k)
abbrev ca_rv (A : ca_A) (j : Nat) : Prop := j / 512 ≤ j / 64 % 8 ∧ j / 64 % 8 < A 0 0 ∧ j / 8 % 8 ≤ j % 8 ∧ j % 8 < A 0 1
abbrev ca_in (j k : Nat) : Prop := (j / 512 ≤ k / 8 ∧ k / 8 ≤ j / 64 % 8) ∧ (j / 8 % 8 ≤ k % 8 ∧ k % 8 ≤ j % 8)
abbrev sv_rect (A : ca_A) (x : Int32) : Prop := 0 ≤ x.toInt ∧ ca_rv A x.toInt.toNat
theorem ca_rvo {A : ca_A} {j k : Nat} (h : ca_rv A j) (hk : ca_in j k) : ca_o A k := ⟨by have := h.2.1; have := hk.1.2; omega, by have := h.2.2.2; have := hk.2.2; omega⟩
def ca_bad (A : ca_A) (j k : Nat) : Prop := ca_in j k ∧ A 10 k = 0 ∧ ¬ A 12 (A 11 k) = 0
abbrev ca_bd (A : ca_A) (j : Nat) : Prop := ∀ k, k < 64 → ca_in j k → A 10 k = 0 → A 12 (A 11 k) = 0
def ca_cs (A : ca_A) (j : Nat) : Nat → Bool := fun k => decide (ca_in j k ∧ A 10 k = 0)
def ca_ct (A : ca_A) (j : Nat) : ca_A := fun q i => if q = 10 ∧ ca_in j i then 1 else A q i
def sr_cut (A : ca_A) (x : Int32) : Int32 := if sv_rect A x then (if ca_bd A x.toInt.toNat then nI (fb_ct (ca_cs A x.toInt.toNat) 64) else -3) else -1
def sA_cut (A : ca_A) (x : Int32) : ca_A := if sv_rect A x ∧ ca_bd A x.toInt.toNat then ca_ct A x.toInt.toNat else A
theorem ca_csS (A : ca_A) (j n : Nat) : fb_ct (ca_cs A j) (n + 1) = fb_ct (ca_cs A j) n + (if ca_in j n ∧ A 10 n = 0 then 1 else 0) := fb_ctd n
theorem ci_xneg {a b : Int32} (h : a.toInt < 0) (hb : 0 ≤ b.toInt) : (a ^^^ b) < 0 := by
  rw [ci_lt0]
  have h1 : a.toBitVec.msb = true := by rw [BitVec.msb_eq_toInt]; simpa using h
  have h2 : b.toBitVec.msb = false := by rw [BitVec.msb_eq_toInt]; simpa using hb
  have h3 : (a ^^^ b).toBitVec.msb = true := by
    show (a.toBitVec ^^^ b.toBitVec).msb = true
    rw [BitVec.msb_xor, h1, h2]; rfl
  rw [BitVec.msb_eq_toInt] at h3
  exact of_decide_eq_true h3
theorem ci_xpos {a b : Int32} (h : 0 ≤ a.toInt) (hb : 0 ≤ b.toInt) : 0 ≤ (a ^^^ b) := by
  rw [ci_0le]
  have h1 : a.toBitVec.msb = false := by rw [BitVec.msb_eq_toInt]; simpa using h
  have h2 : b.toBitVec.msb = false := by rw [BitVec.msb_eq_toInt]; simpa using hb
  have h3 : (a ^^^ b).toBitVec.msb = false := by
    show (a.toBitVec ^^^ b.toBitVec).msb = false
    rw [BitVec.msb_xor, h1, h2]; rfl
  rw [BitVec.msb_eq_toInt] at h3
  have h4 := of_decide_eq_false h3
  show 0 ≤ (a ^^^ b).toBitVec.toInt
  omega
theorem c_floorMod (w : cb_W) (a : Int32) (d : Nat) (hd0 : 0 < d) (hd1 : d ≤ 1000) : cb_Con yJ9_floorMod_7cf53 cJ9_floorMod_7cf53 3 (some .int) 0 0 0 0 (fun _ => true) [.inl a, .inl (nI d)] w (cb_pi (fun x w' => w' = w ∧ (∀ j, j < 2147483648 → a = nI j → x = nI (j % d)) ∧ True)) := by
  refine cb_conF (by decide +kernel) (Nat.le_of_ble_eq_true rfl) (fun κ O Rt hnm => ?_)
  show cb_X κ w 0 0 0 [some (.inl a), some (.inl (nI d)), none] []
  refine cb_iload_n (pc := 0) O dJ9_floorMod_7cf53_0 rfl ?_
  refine cb_iload_n (pc := 1) O dJ9_floorMod_7cf53_1 rfl ?_
  refine cb_irem (pc := 2) O dJ9_floorMod_7cf53_2 (nI_ne0 hd0 (by omega)) ?_
  refine cb_istore_n (pc := 3) O dJ9_floorMod_7cf53_3 (by decide) ?_
  dsimp only [List.set]
  refine cb_iload_n (pc := 4) O dJ9_floorMod_7cf53_4 rfl ?_
  refine cb_iload_n (pc := 5) O dJ9_floorMod_7cf53_5 rfl ?_
  refine cb_ixor (pc := 6) O dJ9_floorMod_7cf53_6 ?_
  refine cb_if_ge (pc := 7) O 18 dJ9_floorMod_7cf53_7 (by decide) (fun c_7 => ?_) (fun c_7 => ?_)
  · skip
    refine cb_iload_n (pc := 18) O dJ9_floorMod_7cf53_18 rfl ?_
    exact cb_iret (pc := 19) O Rt rfl (Nat.le_of_ble_eq_true rfl) (Nat.le_of_ble_eq_true rfl) dJ9_floorMod_7cf53_19 (by
      refine ⟨rfl, fun j hj e => ?_, trivial⟩
      subst e
      have hr : nI j - nI j / nI d * nI d = nI (j % d) := pk_rem hj hd0 (by omega)
      have hlt := Nat.mod_lt j hd0
      first
      | exact hr
      | (exfalso
         exact c_7 (ci_xpos (by rw [ci_n (by omega)]; omega) (by rw [ci_n (by omega)]; omega))))
  · skip
    refine cb_iload_n (pc := 10) O dJ9_floorMod_7cf53_10 rfl ?_
    refine cb_if_eq (pc := 11) O 18 dJ9_floorMod_7cf53_11 (by decide) (fun c_11 => ?_) (fun c_11 => ?_)
    · skip
      refine cb_iload_n (pc := 18) O dJ9_floorMod_7cf53_18 rfl ?_
      exact cb_iret (pc := 19) O Rt rfl (Nat.le_of_ble_eq_true rfl) (Nat.le_of_ble_eq_true rfl) dJ9_floorMod_7cf53_19 (by
        refine ⟨rfl, fun j hj e => ?_, trivial⟩
        subst e
        have hr : nI j - nI j / nI d * nI d = nI (j % d) := pk_rem hj hd0 (by omega)
        have hlt := Nat.mod_lt j hd0
        first
        | exact hr
        | (exfalso
           exact c_7 (ci_xpos (by rw [ci_n (by omega)]; omega) (by rw [ci_n (by omega)]; omega))))
    · skip
      refine cb_iload_n (pc := 14) O dJ9_floorMod_7cf53_14 rfl ?_
      refine cb_iload_n (pc := 15) O dJ9_floorMod_7cf53_15 rfl ?_
      refine cb_iadd (pc := 16) O dJ9_floorMod_7cf53_16 ?_
      exact cb_iret (pc := 17) O Rt rfl (Nat.le_of_ble_eq_true rfl) (Nat.le_of_ble_eq_true rfl) dJ9_floorMod_7cf53_17 (by
        refine ⟨rfl, fun j hj e => ?_, trivial⟩
        subst e
        have hr : nI j - nI j / nI d * nI d = nI (j % d) := pk_rem hj hd0 (by omega)
        have hlt := Nat.mod_lt j hd0
        first
        | exact hr
        | (exfalso
           exact c_7 (ci_xpos (by rw [ci_n (by omega)]; omega) (by rw [ci_n (by omega)]; omega))))

theorem c_floorDiv (w : cb_W) (a : Int32) (d : Nat) (hd0 : 0 < d) (hd1 : d ≤ 1000) (hd2 : 2 ≤ d) : cb_Con yJ9_floorDiv_7cf53 cJ9_floorDiv_7cf53 3 (some .int) 0 0 0 0 (fun _ => true) [.inl a, .inl (nI d)] w (cb_pi (fun x w' => w' = w ∧ (∀ j, j < 2147483648 → a = nI j → x = nI (j / d)) ∧ (a.toInt < 0 → x.toInt < 0))) := by
  have hq : (a / nI d).toInt = a.toInt.tdiv d := by
    rw [Int32.toInt_div_of_ne_right a (nI d) (by rw [Ne, ci_eq, ci_n (by omega)]; show ¬ (d : Int) = -1; omega), ci_n (by omega)]
  refine cb_conF (by decide +kernel) (Nat.le_of_ble_eq_true rfl) (fun κ O Rt hnm => ?_)
  show cb_X κ w 0 0 0 [some (.inl a), some (.inl (nI d)), none] []
  refine cb_iload_n (pc := 0) O dJ9_floorDiv_7cf53_0 rfl ?_
  refine cb_iload_n (pc := 1) O dJ9_floorDiv_7cf53_1 rfl ?_
  refine cb_idiv (pc := 2) O dJ9_floorDiv_7cf53_2 (nI_ne0 hd0 (by omega)) ?_
  refine cb_istore_n (pc := 3) O dJ9_floorDiv_7cf53_3 (by decide) ?_
  dsimp only [List.set]
  refine cb_iload_n (pc := 4) O dJ9_floorDiv_7cf53_4 rfl ?_
  refine cb_iload_n (pc := 5) O dJ9_floorDiv_7cf53_5 rfl ?_
  refine cb_ixor (pc := 6) O dJ9_floorDiv_7cf53_6 ?_
  refine cb_if_ge (pc := 7) O 21 dJ9_floorDiv_7cf53_7 (by decide) (fun c_7 => ?_) (fun c_7 => ?_)
  · skip
    refine cb_iload_n (pc := 21) O dJ9_floorDiv_7cf53_21 rfl ?_
    exact cb_iret (pc := 22) O Rt rfl (Nat.le_of_ble_eq_true rfl) (Nat.le_of_ble_eq_true rfl) dJ9_floorDiv_7cf53_22 (by
      refine ⟨rfl, fun j hj e => ?_, fun hneg => ?_⟩
      · subst e
        have hr : nI j / nI d = nI (j / d) := pk_div hj hd0 (by omega)
        first
        | exact hr
        | (exfalso
           exact c_7 (ci_xpos (by rw [ci_n hj]; omega) (by rw [ci_n (by omega)]; omega)))
      · obtain ⟨n, hn⟩ : ∃ n : Nat, a.toInt = -(n : Int) := ⟨(-a.toInt).toNat, by omega⟩
        have hqn : (a / nI d).toInt = -((n / d : Nat) : Int) := by
          rw [hq, hn, Int.neg_tdiv, Int.ofNat_tdiv]
        have hb := fb_rng a
        have hb2 : n / d ≤ n / 2 := Nat.div_le_div_left hd2 (by decide)
        generalize n / d = m at hqn hb2
        first
        | (exfalso
           have h9 := ci_xneg (b := nI d) hneg (by rw [ci_n (by omega)]; omega)
           rw [ci_lt0] at h9
           rw [ci_0le] at c_7
           omega)
        | (rcases Nat.eq_zero_or_pos m with h4 | h4
           · exfalso
             have e0 : a / nI d = 0 := by rw [ci_eq, hqn, h4]; rfl
             rw [e0, Int32.zero_mul] at c_14
             rw [← c_14] at hneg
             exact absurd hneg (by decide)
           · rw [hqn]; omega)
        | (show (a / nI d - 1).toInt < 0
           rw [fb_subI (by rw [hqn, ci_z1]; omega) (by rw [hqn, ci_z1]; omega), hqn, ci_z1]
           omega))
  · skip
    refine cb_iload_n (pc := 10) O dJ9_floorDiv_7cf53_10 rfl ?_
    refine cb_iload_n (pc := 11) O dJ9_floorDiv_7cf53_11 rfl ?_
    refine cb_imul (pc := 12) O dJ9_floorDiv_7cf53_12 ?_
    refine cb_iload_n (pc := 13) O dJ9_floorDiv_7cf53_13 rfl ?_
    refine cb_icmp_eq (pc := 14) O 21 dJ9_floorDiv_7cf53_14 (by decide) (fun c_14 => ?_) (fun c_14 => ?_)
    · skip
      refine cb_iload_n (pc := 21) O dJ9_floorDiv_7cf53_21 rfl ?_
      exact cb_iret (pc := 22) O Rt rfl (Nat.le_of_ble_eq_true rfl) (Nat.le_of_ble_eq_true rfl) dJ9_floorDiv_7cf53_22 (by
        refine ⟨rfl, fun j hj e => ?_, fun hneg => ?_⟩
        · subst e
          have hr : nI j / nI d = nI (j / d) := pk_div hj hd0 (by omega)
          first
          | exact hr
          | (exfalso
             exact c_7 (ci_xpos (by rw [ci_n hj]; omega) (by rw [ci_n (by omega)]; omega)))
        · obtain ⟨n, hn⟩ : ∃ n : Nat, a.toInt = -(n : Int) := ⟨(-a.toInt).toNat, by omega⟩
          have hqn : (a / nI d).toInt = -((n / d : Nat) : Int) := by
            rw [hq, hn, Int.neg_tdiv, Int.ofNat_tdiv]
          have hb := fb_rng a
          have hb2 : n / d ≤ n / 2 := Nat.div_le_div_left hd2 (by decide)
          generalize n / d = m at hqn hb2
          first
          | (exfalso
             have h9 := ci_xneg (b := nI d) hneg (by rw [ci_n (by omega)]; omega)
             rw [ci_lt0] at h9
             rw [ci_0le] at c_7
             omega)
          | (rcases Nat.eq_zero_or_pos m with h4 | h4
             · exfalso
               have e0 : a / nI d = 0 := by rw [ci_eq, hqn, h4]; rfl
               rw [e0, Int32.zero_mul] at c_14
               rw [← c_14] at hneg
               exact absurd hneg (by decide)
             · rw [hqn]; omega)
          | (show (a / nI d - 1).toInt < 0
             rw [fb_subI (by rw [hqn, ci_z1]; omega) (by rw [hqn, ci_z1]; omega), hqn, ci_z1]
             omega))
    · skip
      refine cb_iload_n (pc := 17) O dJ9_floorDiv_7cf53_17 rfl ?_
      refine cb_iconst (pc := 18) (v := 1) O dJ9_floorDiv_7cf53_18 (by decide) ?_
      refine cb_isub (pc := 19) O dJ9_floorDiv_7cf53_19 ?_
      exact cb_iret (pc := 20) O Rt rfl (Nat.le_of_ble_eq_true rfl) (Nat.le_of_ble_eq_true rfl) dJ9_floorDiv_7cf53_20 (by
        refine ⟨rfl, fun j hj e => ?_, fun hneg => ?_⟩
        · subst e
          have hr : nI j / nI d = nI (j / d) := pk_div hj hd0 (by omega)
          first
          | exact hr
          | (exfalso
             exact c_7 (ci_xpos (by rw [ci_n hj]; omega) (by rw [ci_n (by omega)]; omega)))
        · obtain ⟨n, hn⟩ : ∃ n : Nat, a.toInt = -(n : Int) := ⟨(-a.toInt).toNat, by omega⟩
          have hqn : (a / nI d).toInt = -((n / d : Nat) : Int) := by
            rw [hq, hn, Int.neg_tdiv, Int.ofNat_tdiv]
          have hb := fb_rng a
          have hb2 : n / d ≤ n / 2 := Nat.div_le_div_left hd2 (by decide)
          generalize n / d = m at hqn hb2
          first
          | (exfalso
             have h9 := ci_xneg (b := nI d) hneg (by rw [ci_n (by omega)]; omega)
             rw [ci_lt0] at h9
             rw [ci_0le] at c_7
             omega)
          | (rcases Nat.eq_zero_or_pos m with h4 | h4
             · exfalso
               have e0 : a / nI d = 0 := by rw [ci_eq, hqn, h4]; rfl
               rw [e0, Int32.zero_mul] at c_14
               rw [← c_14] at hneg
               exact absurd hneg (by decide)
             · rw [hqn]; omega)
          | (show (a / nI d - 1).toInt < 0
             rw [fb_subI (by rw [hqn, ci_z1]; omega) (by rw [hqn, ci_z1]; omega), hqn, ci_z1]
             omega))

theorem ci_dl {j : Nat} (n : Nat) {k : Int32} (hk : k = nI n) (h : j < 2147483648) (h0 : 0 < n) (h1 : n < 2147483648) : nI j / k = nI (j / n) := by
  rw [hk]
  exact pk_div h h0 h1
theorem c_X0_init (w : cb_W) (x : Int32) (h40 : w.1 40 = true) : cb_Con yX0_init cX0_init 2 none 1 22 0 0 (fun _ => true) [.inr (some 40), .inl x] w (cb_pv (fun w' => ∃ v0 v1 v2 v3, w' = cb_um (cb_um (cb_um (cb_um w 40 0 v0) 40 1 v1) 40 2 v2) 40 3 v3 ∧ (∀ j, j < 2147483648 → x = nI j → v0 = nI (j / 512) ∧ v1 = nI (j / 64 % 8) ∧ v2 = nI (j / 8 % 8) ∧ v3 = nI (j % 8)) ∧ (x.toInt < 0 → v0.toInt < 0))) := by
  refine cb_con (by decide) (Nat.le_of_ble_eq_true rfl) (fun κ O Rt hnm => ?_)
  show cb_X κ w 0 0 0 [some (.inr (some 40)), some (.inl x)] []
  refine cb_aload_n (pc := 0) O dX0_init_0 rfl ?_
  refine cb_objInit (pc := 1) O dX0_init_1 oi_X0_3 oi_inst oi_code ⟨(Nat.le_of_ble_eq_true rfl), (Nat.le_of_ble_eq_true rfl)⟩ (Nat.le_of_ble_eq_true rfl) ?_
  refine cb_aload_n (pc := 4) O dX0_init_4 rfl ?_
  refine cb_iload_n (pc := 5) O dX0_init_5 rfl ?_
  refine cb_sipush (pc := 6) (v := 512) O dX0_init_6 (by decide) ?_
  refine cb_cSi (pc := 9) O (c_floorDiv _ x 512 (by decide) (by decide) (by decide)) my_J9_floorDiv_7cf53 mt_J9_floorDiv_7cf53 ml_X0_9 dX0_init_9 rfl rfl ⟨(Nat.le_of_ble_eq_true rfl), (Nat.le_of_ble_eq_true rfl)⟩ (Nat.le_of_ble_eq_true rfl) rfl ⟨(Nat.le_of_ble_eq_true rfl), (Nat.le_of_ble_eq_true rfl)⟩ (fun _ _ => rfl) (fun x_9 w_9 hp_9 => ?_)
  obtain ⟨e_9, f_9, n_9⟩ := hp_9
  rw [e_9]
  refine cb_putIc (pc := 12) O fl_X0_15 (Or.inr ⟨rfl, hnm, rfl, fm_X0_15⟩) rfl rfl dX0_init_12 rfl rfl (by first | exact h40 | (simp only [cb_um]; exact h40)) ?_
  refine cb_aload_n (pc := 15) O dX0_init_15 rfl ?_
  refine cb_iload_n (pc := 16) O dX0_init_16 rfl ?_
  refine cb_sipush (pc := 17) (v := 512) O dX0_init_17 (by decide) ?_
  refine cb_cSi (pc := 20) O (c_floorMod _ x 512 (by decide) (by decide)) my_J9_floorMod_7cf53 mt_J9_floorMod_7cf53 ml_X0_21 dX0_init_20 rfl rfl ⟨(Nat.le_of_ble_eq_true rfl), (Nat.le_of_ble_eq_true rfl)⟩ (Nat.le_of_ble_eq_true rfl) rfl ⟨(Nat.le_of_ble_eq_true rfl), (Nat.le_of_ble_eq_true rfl)⟩ (fun _ _ => rfl) (fun x_20 w_20 hp_20 => ?_)
  obtain ⟨e_20, f_20, n_20⟩ := hp_20
  rw [e_20]
  refine cb_bipush (pc := 23) (v := 64) O dX0_init_23 (by decide) ?_
  refine cb_idiv (pc := 25) O dX0_init_25 (by decide) ?_
  refine cb_putIc (pc := 26) O fl_X0_24 (Or.inr ⟨rfl, hnm, rfl, fm_X0_24⟩) rfl rfl dX0_init_26 rfl rfl (by first | exact h40 | (simp only [cb_um]; exact h40)) ?_
  refine cb_aload_n (pc := 29) O dX0_init_29 rfl ?_
  refine cb_iload_n (pc := 30) O dX0_init_30 rfl ?_
  refine cb_bipush (pc := 31) (v := 64) O dX0_init_31 (by decide) ?_
  refine cb_cSi (pc := 33) O (c_floorMod _ x 64 (by decide) (by decide)) my_J9_floorMod_7cf53 mt_J9_floorMod_7cf53 ml_X0_21 dX0_init_33 rfl rfl ⟨(Nat.le_of_ble_eq_true rfl), (Nat.le_of_ble_eq_true rfl)⟩ (Nat.le_of_ble_eq_true rfl) rfl ⟨(Nat.le_of_ble_eq_true rfl), (Nat.le_of_ble_eq_true rfl)⟩ (fun _ _ => rfl) (fun x_33 w_33 hp_33 => ?_)
  obtain ⟨e_33, f_33, n_33⟩ := hp_33
  rw [e_33]
  refine cb_bipush (pc := 36) (v := 8) O dX0_init_36 (by decide) ?_
  refine cb_idiv (pc := 38) O dX0_init_38 (by decide) ?_
  refine cb_putIc (pc := 39) O fl_X0_27 (Or.inr ⟨rfl, hnm, rfl, fm_X0_27⟩) rfl rfl dX0_init_39 rfl rfl (by first | exact h40 | (simp only [cb_um]; exact h40)) ?_
  refine cb_aload_n (pc := 42) O dX0_init_42 rfl ?_
  refine cb_iload_n (pc := 43) O dX0_init_43 rfl ?_
  refine cb_bipush (pc := 44) (v := 8) O dX0_init_44 (by decide) ?_
  refine cb_cSi (pc := 46) O (c_floorMod _ x 8 (by decide) (by decide)) my_J9_floorMod_7cf53 mt_J9_floorMod_7cf53 ml_X0_21 dX0_init_46 rfl rfl ⟨(Nat.le_of_ble_eq_true rfl), (Nat.le_of_ble_eq_true rfl)⟩ (Nat.le_of_ble_eq_true rfl) rfl ⟨(Nat.le_of_ble_eq_true rfl), (Nat.le_of_ble_eq_true rfl)⟩ (fun _ _ => rfl) (fun x_46 w_46 hp_46 => ?_)
  obtain ⟨e_46, f_46, n_46⟩ := hp_46
  rw [e_46]
  refine cb_putIc (pc := 49) O fl_X0_30 (Or.inr ⟨rfl, hnm, rfl, fm_X0_30⟩) rfl rfl dX0_init_49 rfl rfl (by first | exact h40 | (simp only [cb_um]; exact h40)) ?_
  exact cb_vret (pc := 52) O Rt (Nat.le_of_ble_eq_true rfl) (Nat.le_of_ble_eq_true rfl) dX0_init_52 ⟨x_9, x_20 / 64, x_33 / 8, x_46, rfl, fun j hj e => by
      refine ⟨f_9 j hj e, ?_, ?_, f_46 j hj e⟩
      · rw [f_20 j hj e, ci_dl (k := 64) 64 rfl (by omega) (by decide) (by decide)]
        congr 1
        omega
      · rw [f_33 j hj e, ci_dl (k := 8) 8 rfl (by omega) (by decide) (by decide)]
        congr 1
        omega, n_9⟩

theorem c_X0_liesOn (w : cb_W) (A : ca_A) (hI : ca_I A) (x : Int32) (h40 : w.1 40 = true) (hA : (∀ j, j < 2147483648 → x = nI j → w.2.1 40 0 = nI (j / 512) ∧ w.2.1 40 1 = nI (j / 64 % 8) ∧ w.2.1 40 2 = nI (j / 8 % 8) ∧ w.2.1 40 3 = nI (j % 8)) ∧ (x.toInt < 0 → (w.2.1 40 0).toInt < 0)) : cb_Pu yX0_liesOn cX0_liesOn 3 (some .boolean) 0 0 [.inr (some 40), .inl (nI (A 0 0)), .inl (nI (A 0 1))] w (if sv_rect A x then 1 else 0) := by
  refine cb_con (by decide) (Nat.le_of_ble_eq_true rfl) (fun κ O Rt hnm => ?_)
  show cb_X κ w 0 0 0 [some (.inr (some 40)), some (.inl (nI (A 0 0))), some (.inl (nI (A 0 1)))] []
  refine cb_aload_n (pc := 0) O dX0_liesOn_0 rfl ?_
  refine cb_getI (pc := 1) O fl_X0_15 rfl rfl dX0_liesOn_1 h40 ?_
  refine cb_if_lt (pc := 4) O 49 dX0_liesOn_4 (by decide) (fun c_4 => ?_) (fun c_4 => ?_)
  · skip
    refine cb_iconst (pc := 49) (v := 0) O dX0_liesOn_49 (by decide) ?_
    exact cb_iret (pc := 50) O Rt rfl (Nat.le_of_ble_eq_true rfl) (Nat.le_of_ble_eq_true rfl) dX0_liesOn_50 (by
      refine ⟨?_, rfl⟩
      have l := hI.1
      have hb := fb_rng x
      rcases Int.lt_or_le x.toInt 0 with hx | hx
      · have h0 := hA.2 hx
        refine Eq.trans ?_ (if_neg (fun h => by have := h.1; omega)).symm
        first
        | rfl
        | (exfalso; rw [ci_lt0] at c_4; omega)
      · obtain ⟨j, hj, e⟩ : ∃ j : Nat, j < 2147483648 ∧ x = nI j := ⟨x.toInt.toNat, by omega, by rw [ci_eq, ci_n (by omega)]; omega⟩
        obtain ⟨q0, q1, q2, q3⟩ := hA.1 j hj e
        have hsv : sv_rect A x ↔ ca_rv A j := by
          unfold sv_rect
          rw [e, ci_tn hj, ci_n hj]
          exact ⟨fun h => h.2, fun h => ⟨by omega, h⟩⟩
        rw [ci_if hsv]
        simp only [q0, q1, q2, q3, ci_lt, ci_le, ci_z0, ci_n (show j / 512 < 2147483648 by omega), ci_n (show j / 64 % 8 < 2147483648 by omega), ci_n (show j / 8 % 8 < 2147483648 by omega), ci_n (show j % 8 < 2147483648 by omega), ci_n (show A 0 0 < 2147483648 by omega), ci_n (show A 0 1 < 2147483648 by omega)] at *
        unfold ca_rv
        split <;> first | rfl | (exfalso; omega))
  · skip
    refine cb_aload_n (pc := 7) O dX0_liesOn_7 rfl ?_
    refine cb_getI (pc := 8) O fl_X0_15 rfl rfl dX0_liesOn_8 h40 ?_
    refine cb_aload_n (pc := 11) O dX0_liesOn_11 rfl ?_
    refine cb_getI (pc := 12) O fl_X0_24 rfl rfl dX0_liesOn_12 h40 ?_
    refine cb_icmp_gt (pc := 15) O 49 dX0_liesOn_15 (by decide) (fun c_15 => ?_) (fun c_15 => ?_)
    · skip
      refine cb_iconst (pc := 49) (v := 0) O dX0_liesOn_49 (by decide) ?_
      exact cb_iret (pc := 50) O Rt rfl (Nat.le_of_ble_eq_true rfl) (Nat.le_of_ble_eq_true rfl) dX0_liesOn_50 (by
        refine ⟨?_, rfl⟩
        have l := hI.1
        have hb := fb_rng x
        rcases Int.lt_or_le x.toInt 0 with hx | hx
        · have h0 := hA.2 hx
          refine Eq.trans ?_ (if_neg (fun h => by have := h.1; omega)).symm
          first
          | rfl
          | (exfalso; rw [ci_lt0] at c_4; omega)
        · obtain ⟨j, hj, e⟩ : ∃ j : Nat, j < 2147483648 ∧ x = nI j := ⟨x.toInt.toNat, by omega, by rw [ci_eq, ci_n (by omega)]; omega⟩
          obtain ⟨q0, q1, q2, q3⟩ := hA.1 j hj e
          have hsv : sv_rect A x ↔ ca_rv A j := by
            unfold sv_rect
            rw [e, ci_tn hj, ci_n hj]
            exact ⟨fun h => h.2, fun h => ⟨by omega, h⟩⟩
          rw [ci_if hsv]
          simp only [q0, q1, q2, q3, ci_lt, ci_le, ci_z0, ci_n (show j / 512 < 2147483648 by omega), ci_n (show j / 64 % 8 < 2147483648 by omega), ci_n (show j / 8 % 8 < 2147483648 by omega), ci_n (show j % 8 < 2147483648 by omega), ci_n (show A 0 0 < 2147483648 by omega), ci_n (show A 0 1 < 2147483648 by omega)] at *
          unfold ca_rv
          split <;> first | rfl | (exfalso; omega))
    · skip
      refine cb_aload_n (pc := 18) O dX0_liesOn_18 rfl ?_
      refine cb_getI (pc := 19) O fl_X0_24 rfl rfl dX0_liesOn_19 h40 ?_
      refine cb_iload_n (pc := 22) O dX0_liesOn_22 rfl ?_
      refine cb_icmp_ge (pc := 23) O 49 dX0_liesOn_23 (by decide) (fun c_23 => ?_) (fun c_23 => ?_)
      · skip
        refine cb_iconst (pc := 49) (v := 0) O dX0_liesOn_49 (by decide) ?_
        exact cb_iret (pc := 50) O Rt rfl (Nat.le_of_ble_eq_true rfl) (Nat.le_of_ble_eq_true rfl) dX0_liesOn_50 (by
          refine ⟨?_, rfl⟩
          have l := hI.1
          have hb := fb_rng x
          rcases Int.lt_or_le x.toInt 0 with hx | hx
          · have h0 := hA.2 hx
            refine Eq.trans ?_ (if_neg (fun h => by have := h.1; omega)).symm
            first
            | rfl
            | (exfalso; rw [ci_lt0] at c_4; omega)
          · obtain ⟨j, hj, e⟩ : ∃ j : Nat, j < 2147483648 ∧ x = nI j := ⟨x.toInt.toNat, by omega, by rw [ci_eq, ci_n (by omega)]; omega⟩
            obtain ⟨q0, q1, q2, q3⟩ := hA.1 j hj e
            have hsv : sv_rect A x ↔ ca_rv A j := by
              unfold sv_rect
              rw [e, ci_tn hj, ci_n hj]
              exact ⟨fun h => h.2, fun h => ⟨by omega, h⟩⟩
            rw [ci_if hsv]
            simp only [q0, q1, q2, q3, ci_lt, ci_le, ci_z0, ci_n (show j / 512 < 2147483648 by omega), ci_n (show j / 64 % 8 < 2147483648 by omega), ci_n (show j / 8 % 8 < 2147483648 by omega), ci_n (show j % 8 < 2147483648 by omega), ci_n (show A 0 0 < 2147483648 by omega), ci_n (show A 0 1 < 2147483648 by omega)] at *
            unfold ca_rv
            split <;> first | rfl | (exfalso; omega))
      · skip
        refine cb_aload_n (pc := 26) O dX0_liesOn_26 rfl ?_
        refine cb_getI (pc := 27) O fl_X0_27 rfl rfl dX0_liesOn_27 h40 ?_
        refine cb_aload_n (pc := 30) O dX0_liesOn_30 rfl ?_
        refine cb_getI (pc := 31) O fl_X0_30 rfl rfl dX0_liesOn_31 h40 ?_
        refine cb_icmp_gt (pc := 34) O 49 dX0_liesOn_34 (by decide) (fun c_34 => ?_) (fun c_34 => ?_)
        · skip
          refine cb_iconst (pc := 49) (v := 0) O dX0_liesOn_49 (by decide) ?_
          exact cb_iret (pc := 50) O Rt rfl (Nat.le_of_ble_eq_true rfl) (Nat.le_of_ble_eq_true rfl) dX0_liesOn_50 (by
            refine ⟨?_, rfl⟩
            have l := hI.1
            have hb := fb_rng x
            rcases Int.lt_or_le x.toInt 0 with hx | hx
            · have h0 := hA.2 hx
              refine Eq.trans ?_ (if_neg (fun h => by have := h.1; omega)).symm
              first
              | rfl
              | (exfalso; rw [ci_lt0] at c_4; omega)
            · obtain ⟨j, hj, e⟩ : ∃ j : Nat, j < 2147483648 ∧ x = nI j := ⟨x.toInt.toNat, by omega, by rw [ci_eq, ci_n (by omega)]; omega⟩
              obtain ⟨q0, q1, q2, q3⟩ := hA.1 j hj e
              have hsv : sv_rect A x ↔ ca_rv A j := by
                unfold sv_rect
                rw [e, ci_tn hj, ci_n hj]
                exact ⟨fun h => h.2, fun h => ⟨by omega, h⟩⟩
              rw [ci_if hsv]
              simp only [q0, q1, q2, q3, ci_lt, ci_le, ci_z0, ci_n (show j / 512 < 2147483648 by omega), ci_n (show j / 64 % 8 < 2147483648 by omega), ci_n (show j / 8 % 8 < 2147483648 by omega), ci_n (show j % 8 < 2147483648 by omega), ci_n (show A 0 0 < 2147483648 by omega), ci_n (show A 0 1 < 2147483648 by omega)] at *
              unfold ca_rv
              split <;> first | rfl | (exfalso; omega))
        · skip
          refine cb_aload_n (pc := 37) O dX0_liesOn_37 rfl ?_
          refine cb_getI (pc := 38) O fl_X0_30 rfl rfl dX0_liesOn_38 h40 ?_
          refine cb_iload_n (pc := 41) O dX0_liesOn_41 rfl ?_
          refine cb_icmp_ge (pc := 42) O 49 dX0_liesOn_42 (by decide) (fun c_42 => ?_) (fun c_42 => ?_)
          · skip
            refine cb_iconst (pc := 49) (v := 0) O dX0_liesOn_49 (by decide) ?_
            exact cb_iret (pc := 50) O Rt rfl (Nat.le_of_ble_eq_true rfl) (Nat.le_of_ble_eq_true rfl) dX0_liesOn_50 (by
              refine ⟨?_, rfl⟩
              have l := hI.1
              have hb := fb_rng x
              rcases Int.lt_or_le x.toInt 0 with hx | hx
              · have h0 := hA.2 hx
                refine Eq.trans ?_ (if_neg (fun h => by have := h.1; omega)).symm
                first
                | rfl
                | (exfalso; rw [ci_lt0] at c_4; omega)
              · obtain ⟨j, hj, e⟩ : ∃ j : Nat, j < 2147483648 ∧ x = nI j := ⟨x.toInt.toNat, by omega, by rw [ci_eq, ci_n (by omega)]; omega⟩
                obtain ⟨q0, q1, q2, q3⟩ := hA.1 j hj e
                have hsv : sv_rect A x ↔ ca_rv A j := by
                  unfold sv_rect
                  rw [e, ci_tn hj, ci_n hj]
                  exact ⟨fun h => h.2, fun h => ⟨by omega, h⟩⟩
                rw [ci_if hsv]
                simp only [q0, q1, q2, q3, ci_lt, ci_le, ci_z0, ci_n (show j / 512 < 2147483648 by omega), ci_n (show j / 64 % 8 < 2147483648 by omega), ci_n (show j / 8 % 8 < 2147483648 by omega), ci_n (show j % 8 < 2147483648 by omega), ci_n (show A 0 0 < 2147483648 by omega), ci_n (show A 0 1 < 2147483648 by omega)] at *
                unfold ca_rv
                split <;> first | rfl | (exfalso; omega))
          · skip
            refine cb_iconst (pc := 45) (v := 1) O dX0_liesOn_45 (by decide) ?_
            refine cb_goto (pc := 46) O 50 dX0_liesOn_46 (by decide) ?_
            exact cb_iret (pc := 50) O Rt rfl (Nat.le_of_ble_eq_true rfl) (Nat.le_of_ble_eq_true rfl) dX0_liesOn_50 (by
              refine ⟨?_, rfl⟩
              have l := hI.1
              have hb := fb_rng x
              rcases Int.lt_or_le x.toInt 0 with hx | hx
              · have h0 := hA.2 hx
                refine Eq.trans ?_ (if_neg (fun h => by have := h.1; omega)).symm
                first
                | rfl
                | (exfalso; rw [ci_lt0] at c_4; omega)
              · obtain ⟨j, hj, e⟩ : ∃ j : Nat, j < 2147483648 ∧ x = nI j := ⟨x.toInt.toNat, by omega, by rw [ci_eq, ci_n (by omega)]; omega⟩
                obtain ⟨q0, q1, q2, q3⟩ := hA.1 j hj e
                have hsv : sv_rect A x ↔ ca_rv A j := by
                  unfold sv_rect
                  rw [e, ci_tn hj, ci_n hj]
                  exact ⟨fun h => h.2, fun h => ⟨by omega, h⟩⟩
                rw [ci_if hsv]
                simp only [q0, q1, q2, q3, ci_lt, ci_le, ci_z0, ci_n (show j / 512 < 2147483648 by omega), ci_n (show j / 64 % 8 < 2147483648 by omega), ci_n (show j / 8 % 8 < 2147483648 by omega), ci_n (show j % 8 < 2147483648 by omega), ci_n (show A 0 0 < 2147483648 by omega), ci_n (show A 0 1 < 2147483648 by omega)] at *
                unfold ca_rv
                split <;> first | rfl | (exfalso; omega))

theorem c_X0_covers (w : cb_W) (j : Nat) (h40 : w.1 40 = true) (hA : w.2.1 40 0 = nI (j / 512) ∧ w.2.1 40 1 = nI (j / 64 % 8) ∧ w.2.1 40 2 = nI (j / 8 % 8) ∧ w.2.1 40 3 = nI (j % 8)) (hj : j < 2147483648) (k : Nat) (hk : k < 64) : cb_Pu yX0_covers cX0_covers 2 (some .boolean) 1 22 [.inr (some 40), .inl (nI k)] w (if ca_in j k then 1 else 0) := by
  refine cb_con (by decide) (Nat.le_of_ble_eq_true rfl) (fun κ O Rt hnm => ?_)
  show cb_X κ w 0 0 0 [some (.inr (some 40)), some (.inl (nI k))] []
  refine cb_iload_n (pc := 0) O dX0_covers_0 rfl ?_
  refine cb_bipush (pc := 1) (v := 8) O dX0_covers_1 (by decide) ?_
  refine cb_idiv (pc := 3) O dX0_covers_3 (by decide) ?_
  refine cb_topv _ (ci_d8 (by omega)) ?_
  refine cb_aload_n (pc := 4) O dX0_covers_4 rfl ?_
  refine cb_getI (pc := 5) O fl_X0_15 rfl rfl dX0_covers_5 h40 ?_
  refine cb_aload_n (pc := 8) O dX0_covers_8 rfl ?_
  refine cb_getI (pc := 9) O fl_X0_24 rfl rfl dX0_covers_9 h40 ?_
  refine cb_cSp (pc := 12) O (c_X10_within _ _ _ _) my_X10_within mt_X10_within ml_X0_33 dX0_covers_12 rfl rfl ⟨(Nat.le_of_ble_eq_true rfl), (Nat.le_of_ble_eq_true rfl)⟩ (Nat.le_of_ble_eq_true rfl) rfl ⟨(Nat.le_of_ble_eq_true rfl), (Nat.le_of_ble_eq_true rfl)⟩ ?_
  refine cb_ifp_eq (pc := 15) O 40 dX0_covers_15 (by decide) (fun c_15 => ?_) (fun c_15 => ?_)
  · skip
    refine cb_iconst (pc := 40) (v := 0) O dX0_covers_40 (by decide) ?_
    exact cb_iret (pc := 41) O Rt rfl (Nat.le_of_ble_eq_true rfl) (Nat.le_of_ble_eq_true rfl) dX0_covers_41 (by
      refine ⟨?_, rfl⟩
      obtain ⟨q0, q1, q2, q3⟩ := hA
      simp only [q0, q1, q2, q3, ci_le, ci_n (show k / 8 < 2147483648 by omega), ci_n (show k % 8 < 2147483648 by omega), ci_n (show j / 512 < 2147483648 by omega), ci_n (show j / 64 % 8 < 2147483648 by omega), ci_n (show j / 8 % 8 < 2147483648 by omega), ci_n (show j % 8 < 2147483648 by omega)] at *
      unfold ca_in
      split <;> first | rfl | (exfalso; omega))
  · skip
    refine cb_iload_n (pc := 18) O dX0_covers_18 rfl ?_
    refine cb_bipush (pc := 19) (v := 8) O dX0_covers_19 (by decide) ?_
    refine cb_irem (pc := 21) O dX0_covers_21 (by decide) ?_
    refine cb_topv _ (ci_r8 (by omega)) ?_
    refine cb_aload_n (pc := 22) O dX0_covers_22 rfl ?_
    refine cb_getI (pc := 23) O fl_X0_27 rfl rfl dX0_covers_23 h40 ?_
    refine cb_aload_n (pc := 26) O dX0_covers_26 rfl ?_
    refine cb_getI (pc := 27) O fl_X0_30 rfl rfl dX0_covers_27 h40 ?_
    refine cb_cSp (pc := 30) O (c_X10_within _ _ _ _) my_X10_within mt_X10_within ml_X0_33 dX0_covers_30 rfl rfl ⟨(Nat.le_of_ble_eq_true rfl), (Nat.le_of_ble_eq_true rfl)⟩ (Nat.le_of_ble_eq_true rfl) rfl ⟨(Nat.le_of_ble_eq_true rfl), (Nat.le_of_ble_eq_true rfl)⟩ ?_
    refine cb_ifp_eq (pc := 33) O 40 dX0_covers_33 (by decide) (fun c_33 => ?_) (fun c_33 => ?_)
    · skip
      refine cb_iconst (pc := 40) (v := 0) O dX0_covers_40 (by decide) ?_
      exact cb_iret (pc := 41) O Rt rfl (Nat.le_of_ble_eq_true rfl) (Nat.le_of_ble_eq_true rfl) dX0_covers_41 (by
        refine ⟨?_, rfl⟩
        obtain ⟨q0, q1, q2, q3⟩ := hA
        simp only [q0, q1, q2, q3, ci_le, ci_n (show k / 8 < 2147483648 by omega), ci_n (show k % 8 < 2147483648 by omega), ci_n (show j / 512 < 2147483648 by omega), ci_n (show j / 64 % 8 < 2147483648 by omega), ci_n (show j / 8 % 8 < 2147483648 by omega), ci_n (show j % 8 < 2147483648 by omega)] at *
        unfold ca_in
        split <;> first | rfl | (exfalso; omega))
    · skip
      refine cb_iconst (pc := 36) (v := 1) O dX0_covers_36 (by decide) ?_
      refine cb_goto (pc := 37) O 41 dX0_covers_37 (by decide) ?_
      exact cb_iret (pc := 41) O Rt rfl (Nat.le_of_ble_eq_true rfl) (Nat.le_of_ble_eq_true rfl) dX0_covers_41 (by
        refine ⟨?_, rfl⟩
        obtain ⟨q0, q1, q2, q3⟩ := hA
        simp only [q0, q1, q2, q3, ci_le, ci_n (show k / 8 < 2147483648 by omega), ci_n (show k % 8 < 2147483648 by omega), ci_n (show j / 512 < 2147483648 by omega), ci_n (show j / 64 % 8 < 2147483648 by omega), ci_n (show j / 8 % 8 < 2147483648 by omega), ci_n (show j % 8 < 2147483648 by omega)] at *
        unfold ca_in
        split <;> first | rfl | (exfalso; omega))

theorem c_X1_standsInOutPiece (w : cb_W) (A : ca_A) (z : Int32) (hI : ca_I A) (hC : cc_I w A z) (j : Nat) (h40 : w.1 40 = true) (hA : w.2.1 40 0 = nI (j / 512) ∧ w.2.1 40 1 = nI (j / 64 % 8) ∧ w.2.1 40 2 = nI (j / 8 % 8) ∧ w.2.1 40 3 = nI (j % 8)) (hj : j < 2147483648) (hrv : ca_rv A j) : cb_Pu yX1_standsInOutPiece cX1_standsInOutPiece 3 (some .boolean) 2 43 [.inr (some 20), .inr (some 40)] w (if ca_bd A j then 0 else 1) := by
  refine cb_con (by decide) (Nat.le_of_ble_eq_true rfl) (fun κ O Rt hnm => ?_)
  show cb_X κ w 0 0 0 [some (.inr (some 20)), some (.inr (some 40)), none] []
  refine cb_iconst (pc := 0) (v := 0) O dX1_standsInOutPiece_0 (by decide) ?_
  refine cb_istore_n (pc := 1) O dX1_standsInOutPiece_1 (by decide) ?_
  dsimp only [List.set]
  have L_2 : ∀ (n : Nat) (k : Nat), k ≤ 64 → (∀ i, i < k → ca_in j i → A 10 i = 0 → A 12 (A 11 i) = 0) → 64 + 1 ≤ k + n → cb_X κ w 0 0 2 [some (.inr (some 20)), some (.inr (some 40)), some (.inl (nI k))] [] := by
    intro n
    induction n with
    | zero =>
      intro k hk ha hn
      exact absurd hn (by omega)
    | succ n ih_2 =>
      intro k hk ha hn
      refine cb_iload_n (pc := 2) O dX1_standsInOutPiece_2 rfl ?_
      refine cb_bipush (pc := 3) (v := 64) O dX1_standsInOutPiece_3 (by decide) ?_
      refine cb_icmp_ge (pc := 5) O 40 dX1_standsInOutPiece_5 (by decide) (fun c_5 => ?_) (fun c_5 => ?_)
      · skip
        have e : k = 64 := by
          have := ci_ge (b := 64) c_5 (by omega) (by decide)
          omega
        subst e
        refine cb_iconst (pc := 40) (v := 0) O dX1_standsInOutPiece_40 (by decide) ?_
        exact cb_iret (pc := 41) O Rt rfl (Nat.le_of_ble_eq_true rfl) (Nat.le_of_ble_eq_true rfl) dX1_standsInOutPiece_41 ⟨by rw [if_pos ha], rfl⟩
      · skip
        have hlt : k < 64 := ci_nge (b := 64) c_5 (by omega) (by decide)
        refine cb_aload_n (pc := 8) O dX1_standsInOutPiece_8 rfl ?_
        refine cb_iload_n (pc := 9) O dX1_standsInOutPiece_9 rfl ?_
        refine cb_cVp (pc := 10) O (c_X0_covers w j h40 hA hj k hlt) my_X0_covers mi_X0_covers mx_X0_covers ml_X1_65 dX1_standsInOutPiece_10 rfl ct_0 rfl rfl rfl ⟨(Nat.le_of_ble_eq_true rfl), (Nat.le_of_ble_eq_true rfl)⟩ (Nat.le_of_ble_eq_true rfl) rfl ⟨(Nat.le_of_ble_eq_true rfl), (Nat.le_of_ble_eq_true rfl)⟩ h40 ?_
        refine cb_ifp_eq (pc := 13) O 34 dX1_standsInOutPiece_13 (by decide) (fun c_13 => ?_) (fun c_13 => ?_)
        · skip
          refine cb_iinc (pc := 34) O (nI (k + 1)) dX1_standsInOutPiece_34 rfl (by decide) (ci_inc k) ?_
          dsimp only [List.set]
          refine cb_goto (pc := 37) O 2 dX1_standsInOutPiece_37 (by decide) ?_
          exact ih_2 (k + 1) (by omega) (fun i hi g1 g2 => by
            rcases (show i < k ∨ i = k by omega) with e | e
            · exact ha i e g1 g2
            · subst e
              first | exact absurd g1 c_13 | exact absurd g2 (fun q => c_21 ⟨ca_rvo hrv g1, q⟩) | exact c_29) (by omega)
        · skip
          refine cb_aload_n (pc := 16) O dX1_standsInOutPiece_16 rfl ?_
          refine cb_iload_n (pc := 17) O dX1_standsInOutPiece_17 rfl ?_
          refine cb_cVp (pc := 18) O (c_X1_stands w A z hI hC k hlt) my_X1_stands mi_X1_stands mx_X1_stands ml_X1_51 dX1_standsInOutPiece_18 rfl ct_1 rfl rfl rfl ⟨(Nat.le_of_ble_eq_true rfl), (Nat.le_of_ble_eq_true rfl)⟩ (Nat.le_of_ble_eq_true rfl) rfl ⟨(Nat.le_of_ble_eq_true rfl), (Nat.le_of_ble_eq_true rfl)⟩ (hC.1.1 _ rfl) ?_
          refine cb_ifp_eq (pc := 21) O 34 dX1_standsInOutPiece_21 (by decide) (fun c_21 => ?_) (fun c_21 => ?_)
          · skip
            refine cb_iinc (pc := 34) O (nI (k + 1)) dX1_standsInOutPiece_34 rfl (by decide) (ci_inc k) ?_
            dsimp only [List.set]
            refine cb_goto (pc := 37) O 2 dX1_standsInOutPiece_37 (by decide) ?_
            exact ih_2 (k + 1) (by omega) (fun i hi g1 g2 => by
              rcases (show i < k ∨ i = k by omega) with e | e
              · exact ha i e g1 g2
              · subst e
                first | exact absurd g1 c_13 | exact absurd g2 (fun q => c_21 ⟨ca_rvo hrv g1, q⟩) | exact c_29) (by omega)
          · skip
            refine cb_aload_n (pc := 24) O dX1_standsInOutPiece_24 rfl ?_
            refine cb_iload_n (pc := 25) O dX1_standsInOutPiece_25 rfl ?_
            refine cb_cVp (pc := 26) O (c_X1_isIn w A z hI hC k hlt c_21.1) my_X1_isIn mi_X1_isIn mx_X1_isIn ml_X1_55 dX1_standsInOutPiece_26 rfl ct_1 rfl rfl rfl ⟨(Nat.le_of_ble_eq_true rfl), (Nat.le_of_ble_eq_true rfl)⟩ (Nat.le_of_ble_eq_true rfl) rfl ⟨(Nat.le_of_ble_eq_true rfl), (Nat.le_of_ble_eq_true rfl)⟩ (hC.1.1 _ rfl) ?_
            refine cb_ifp_ne (pc := 29) O 34 dX1_standsInOutPiece_29 (by decide) (fun c_29 => ?_) (fun c_29 => ?_)
            · skip
              refine cb_iinc (pc := 34) O (nI (k + 1)) dX1_standsInOutPiece_34 rfl (by decide) (ci_inc k) ?_
              dsimp only [List.set]
              refine cb_goto (pc := 37) O 2 dX1_standsInOutPiece_37 (by decide) ?_
              exact ih_2 (k + 1) (by omega) (fun i hi g1 g2 => by
                rcases (show i < k ∨ i = k by omega) with e | e
                · exact ha i e g1 g2
                · subst e
                  first | exact absurd g1 c_13 | exact absurd g2 (fun q => c_21 ⟨ca_rvo hrv g1, q⟩) | exact c_29) (by omega)
            · skip
              refine cb_iconst (pc := 32) (v := 1) O dX1_standsInOutPiece_32 (by decide) ?_
              exact cb_iret (pc := 33) O Rt rfl (Nat.le_of_ble_eq_true rfl) (Nat.le_of_ble_eq_true rfl) dX1_standsInOutPiece_33 ⟨by rw [if_neg (fun h => c_29 (h k hlt c_13 c_21.2))], rfl⟩
  exact L_2 65 0 (by omega) (fun i hi => absurd hi (by omega)) (by omega)

def cb_cz (w : cb_W) (j m : Nat) : cb_W := (w.1, fun q k => if q = 21 ∧ ca_in j k ∧ k < m then 0 else w.2.1 q k, w.2.2)
theorem cb_cz0 (w : cb_W) (j : Nat) : cb_cz w j 0 = w := by
  refine cb_W.ext rfl (fun q k => ?_) rfl
  show (if q = 21 ∧ ca_in j k ∧ k < 0 then 0 else w.2.1 q k) = _
  rw [if_neg (fun h => by have := h.2.2; omega)]
theorem cb_czN (w : cb_W) (j m : Nat) (h : ¬ ca_in j m) : cb_cz w j m = cb_cz w j (m + 1) := by
  refine cb_W.ext rfl (fun q k => ?_) rfl
  show (if q = 21 ∧ ca_in j k ∧ k < m then 0 else w.2.1 q k) = (if q = 21 ∧ ca_in j k ∧ k < m + 1 then 0 else w.2.1 q k)
  by_cases e : q = 21 ∧ ca_in j k ∧ k < m
  · rw [if_pos e, if_pos ⟨e.1, e.2.1, by have := e.2.2; omega⟩]
  · rw [if_neg e, if_neg]
    rintro ⟨h1, h2, h3⟩
    rcases (show k < m ∨ k = m by omega) with h4 | h4
    · exact e ⟨h1, h2, h4⟩
    · subst h4; exact h h2
theorem cb_czS (w : cb_W) (j m : Nat) (h : ca_in j m) : cb_um (cb_cz w j m) 21 m 0 = cb_cz w j (m + 1) := by
  refine cb_W.ext rfl (fun q k => ?_) rfl
  show cb_u2 (cb_cz w j m).2.1 21 m 0 q k = (if q = 21 ∧ ca_in j k ∧ k < m + 1 then 0 else w.2.1 q k)
  by_cases e : q = 21 ∧ k = m
  · obtain ⟨rfl, rfl⟩ := e
    rw [cb_u2s, if_pos ⟨rfl, h, by omega⟩]
  · rw [cb_u2n (by omega)]
    show (if q = 21 ∧ ca_in j k ∧ k < m then 0 else w.2.1 q k) = _
    by_cases e2 : q = 21 ∧ ca_in j k ∧ k < m
    · rw [if_pos e2, if_pos ⟨e2.1, e2.2.1, by have := e2.2.2; omega⟩]
    · rw [if_neg e2, if_neg]
      rintro ⟨h1, h2, h3⟩
      exact e2 ⟨h1, h2, by omega⟩
theorem c_X1_cutAway (w : cb_W) (A : ca_A) (z : Int32) (hI : ca_I A) (hC : cc_I w A z) (j : Nat) (h40 : w.1 40 = true) (hA : w.2.1 40 0 = nI (j / 512) ∧ w.2.1 40 1 = nI (j / 64 % 8) ∧ w.2.1 40 2 = nI (j / 8 % 8) ∧ w.2.1 40 3 = nI (j % 8)) (hj : j < 2147483648) (hrv : ca_rv A j) : cb_Con yX1_cutAway cX1_cutAway 4 (some .int) 2 43 0 0 (fun _ => true) [.inr (some 20), .inr (some 40)] w (cb_pi (fun x w' => x = nI (fb_ct (ca_cs A j) 64) ∧ w' = cb_cz w j 64)) := by
  refine cb_con (by decide) (Nat.le_of_ble_eq_true rfl) (fun κ O Rt hnm => ?_)
  show cb_X κ w 0 0 0 [some (.inr (some 20)), some (.inr (some 40)), none, none] []
  refine cb_iconst (pc := 0) (v := 0) O dX1_cutAway_0 (by decide) ?_
  refine cb_istore_n (pc := 1) O dX1_cutAway_1 (by decide) ?_
  dsimp only [List.set]
  refine cb_iconst (pc := 2) (v := 0) O dX1_cutAway_2 (by decide) ?_
  refine cb_istore_n (pc := 3) O dX1_cutAway_3 (by decide) ?_
  dsimp only [List.set]
  have L_4 : ∀ (n : Nat) (k : Nat), k ≤ 64 → 64 + 1 ≤ k + n → cb_X κ (cb_cz w j k) 0 0 4 [some (.inr (some 20)), some (.inr (some 40)), some (.inl (nI (fb_ct (ca_cs A j) k))), some (.inl (nI k))] [] := by
    intro n
    induction n with
    | zero =>
      intro k hk hn
      exact absurd hn (by omega)
    | succ n ih_4 =>
      intro k hk hn
      have hA2 : (cb_cz w j k).2.1 40 0 = nI (j / 512) ∧ (cb_cz w j k).2.1 40 1 = nI (j / 64 % 8) ∧ (cb_cz w j k).2.1 40 2 = nI (j / 8 % 8) ∧ (cb_cz w j k).2.1 40 3 = nI (j % 8) := hA
      refine cb_iload_n (pc := 4) O dX1_cutAway_4 rfl ?_
      refine cb_bipush (pc := 5) (v := 64) O dX1_cutAway_5 (by decide) ?_
      refine cb_icmp_ge (pc := 7) O 36 dX1_cutAway_7 (by decide) (fun c_7 => ?_) (fun c_7 => ?_)
      · skip
        have e : k = 64 := by
          have := ci_ge (b := 64) c_7 (by omega) (by decide)
          omega
        subst e
        refine cb_iload_n (pc := 36) O dX1_cutAway_36 rfl ?_
        exact cb_iret (pc := 37) O Rt rfl (Nat.le_of_ble_eq_true rfl) (Nat.le_of_ble_eq_true rfl) dX1_cutAway_37 ⟨rfl, rfl⟩
      · skip
        have hlt : k < 64 := ci_nge (b := 64) c_7 (by omega) (by decide)
        refine cb_aload_n (pc := 10) O dX1_cutAway_10 rfl ?_
        refine cb_iload_n (pc := 11) O dX1_cutAway_11 rfl ?_
        refine cb_cVp (pc := 12) O (c_X0_covers (cb_cz w j k) j h40 hA2 hj k hlt) my_X0_covers mi_X0_covers mx_X0_covers ml_X1_65 dX1_cutAway_12 rfl ct_0 rfl rfl rfl ⟨(Nat.le_of_ble_eq_true rfl), (Nat.le_of_ble_eq_true rfl)⟩ (Nat.le_of_ble_eq_true rfl) rfl ⟨(Nat.le_of_ble_eq_true rfl), (Nat.le_of_ble_eq_true rfl)⟩ h40 ?_
        refine cb_ifp_eq (pc := 15) O 30 dX1_cutAway_15 (by decide) (fun c_15 => ?_) (fun c_15 => ?_)
        · skip
          have hcs : fb_ct (ca_cs A j) (k + 1) = fb_ct (ca_cs A j) k := by
            rw [ca_csS, if_neg (fun h => c_15 h.1)]; rfl
          refine cb_iinc (pc := 30) O (nI (k + 1)) dX1_cutAway_30 rfl (by decide) (ci_inc k) ?_
          dsimp only [List.set]
          refine cb_goto (pc := 33) O 4 dX1_cutAway_33 (by decide) ?_
          first
          | (rw [cb_czS _ _ _ c_15]; exact ih_4 (k + 1) (by omega) (by omega))
          | (rw [cb_czN _ _ _ c_15, ← hcs]; exact ih_4 (k + 1) (by omega) (by omega))
        · skip
          refine cb_iload_n (pc := 18) O dX1_cutAway_18 rfl ?_
          refine cb_aload_n (pc := 19) O dX1_cutAway_19 rfl ?_
          refine cb_getR (pc := 20) O fl_X1_9 rfl rfl dX1_cutAway_20 (hC.1.1 _ rfl) (hC.1.2 _ _ _ rfl) ?_
          refine cb_iload_n (pc := 23) O dX1_cutAway_23 rfl ?_
          refine cb_iconst (pc := 24) (v := 0) O dX1_cutAway_24 (by decide) ?_
          refine cb_cSi (pc := 25) O (c_X10_replace (cb_cz w j k) 21 64 k 0 rfl (hC.1.1 _ rfl) hlt (by decide)) my_X10_replace mt_X10_replace ml_X1_70 dX1_cutAway_25 rfl rfl ⟨(Nat.le_of_ble_eq_true rfl), (Nat.le_of_ble_eq_true rfl)⟩ (Nat.le_of_ble_eq_true rfl) rfl ⟨(Nat.le_of_ble_eq_true rfl), (Nat.le_of_ble_eq_true rfl)⟩ (fun _ _ => rfl) (fun x_25 w_25 hp_25 => ?_)
          obtain ⟨ex, ew⟩ := hp_25
          rw [ew, ex]
          refine cb_iadd (pc := 28) O dX1_cutAway_28 ?_
          refine cb_topv (nI (fb_ct (ca_cs A j) (k + 1))) (by
            rw [ca_csS, ← nI_add]
            congr 1
            show (if 21 = 21 ∧ ca_in j k ∧ k < k then 0 else w.2.1 21 k) = _
            rw [if_neg (fun h => by have := h.2.2; omega), hC.2.1.2.1 k hlt]
            congr 1
            by_cases e : A 10 k = 0
            · rw [if_pos ⟨ca_rvo hrv c_15, e⟩, if_pos ⟨c_15, e⟩]
            · rw [if_neg (fun h => e h.2), if_neg (fun h => e h.2)]) ?_
          refine cb_istore_n (pc := 29) O dX1_cutAway_29 (by decide) ?_
          dsimp only [List.set]
          refine cb_iinc (pc := 30) O (nI (k + 1)) dX1_cutAway_30 rfl (by decide) (ci_inc k) ?_
          dsimp only [List.set]
          refine cb_goto (pc := 33) O 4 dX1_cutAway_33 (by decide) ?_
          first
          | (rw [cb_czS _ _ _ c_15]; exact ih_4 (k + 1) (by omega) (by omega))
          | (rw [cb_czN _ _ _ c_15, ← hcs]; exact ih_4 (k + 1) (by omega) (by omega))
  rw [← cb_cz0 w j]
  exact L_4 65 0 (by omega) (by omega)

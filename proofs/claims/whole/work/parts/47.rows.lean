def nl (t : Nat) : Nat := if t = 0 then 0 else if t < 11 then 1 else if t < 121 then 2 else if t < 1331 then 3 else if t < 14641 then 4 else 5
theorem nl_5 (t : Nat) : nl t ≤ 5 := by
  unfold nl
  (repeat' split) <;> omega
theorem nl_r {t j : Nat} (hj : j ≤ 5) (ht : t < 161051) : 0 < t / 11 ^ j ↔ j < nl t := by
  rcases (show j = 0 ∨ j = 1 ∨ j = 2 ∨ j = 3 ∨ j = 4 ∨ j = 5 by omega) with rfl | rfl | rfl | rfl | rfl | rfl <;> simp only [Nat.reducePow] <;> unfold nl <;> (repeat' split) <;> omega
abbrev RW (t : Nat) : Prop := ∀ j, j < nl t → ¬ t / 11 ^ j % 11 = 0
def ri (t i : Nat) : Nat := t / 11 ^ (nl t - 1 - i) % 11 - 1
theorem ri_10 (t i : Nat) : ri t i < 10 := by
  unfold ri
  have := Nat.mod_lt (t / 11 ^ (nl t - 1 - i)) (show 11 > 0 by decide)
  omega
def cf (A : ca_A) (r : Nat → Nat) : Nat → Nat
  | 0 => 0
  | k + 1 => A 3 (16 * r k + cf A r k)
theorem cf_16 {A : ca_A} (hI : ca_I A) (r : Nat → Nat) : ∀ k, cf A r k < 16
  | 0 => by show 0 < 16; omega
  | k + 1 => hI.2.2.1.1 _
def csn (A : ca_A) (r : Nat → Nat) : Nat → Nat
  | 0 => 0
  | n + 1 => csn A r n ||| 2 ^ cf A r n
def fp (A : ca_A) (r : Nat → Nat) (c : Nat) : Nat → Nat
  | 0 => 0
  | n + 1 => if fp A r c n ≠ 0 then fp A r c n else if cf A r n = c then n + 1 else 0
theorem fp_le (A : ca_A) (r : Nat → Nat) (c : Nat) : ∀ n, fp A r c n ≤ n
  | 0 => Nat.le_refl _
  | n + 1 => by
    have := fp_le A r c n
    unfold fp
    split
    · omega
    · split <;> omega
theorem ci_shl0 : ∀ c, c < 16 → (1 : Int32) <<< (nI c &&& 31) = nI (2 ^ c) := by decide +kernel
theorem ci_shl {c : Nat} (h : c < 16) : (1 : Int32) <<< (nI c &&& 31) = nI (2 ^ c) := ci_shl0 c h
theorem ci_5m {n : Nat} (h : n ≤ 5) : (5 : Int32) - nI n = nI (5 - n) := by
  have h5 : (5 : Int32).toInt = 5 := rfl
  have hn := ci_n (n := n) (by omega)
  rw [ci_eq, fb_subI (by omega) (by omega), h5, hn, ci_n (by omega)]
  omega
theorem ci_p1 {n : Nat} (h : 0 < n) : nI n - 1 = nI (n - 1) := by
  rw [show n = n - 1 + 1 by omega]
  exact nI_p1 _
abbrev sv_row (t : Int32) : Prop := (0 ≤ t.toInt ∧ t.toInt < 161051) ∧ RW t.toInt.toNat
theorem sv_rown {t : Nat} (h : t < 161051) : sv_row (nI t) ↔ RW t := by
  have e := ci_n (n := t) (by omega)
  have e2 := ci_tn (j := t) (by omega)
  unfold sv_row
  rw [e2]
  exact ⟨fun h => h.2, fun h2 => ⟨⟨by omega, by omega⟩, h2⟩⟩
def sr_made (A : ca_A) (t k : Int32) : Int32 := if sv_row t ∧ (0 ≤ k.toInt ∧ k.toInt ≤ (nl t.toInt.toNat : Int)) then nI (cf A (ri t.toInt.toNat) k.toInt.toNat) else -1
def sr_alike (A : ca_A) (t o c : Int32) : Int32 := if (sv_row t ∧ sv_row o) ∧ (0 ≤ c ∧ c ≤ 65535) then (if c &&& ((nI (csn A (ri t.toInt.toNat) (nl t.toInt.toNat + 1)) &&& nI (csn A (ri o.toInt.toNat) (nl o.toInt.toNat + 1))) ^^^ (-1)) = 0 then 1 else 0) else -1
theorem ci_ge0 {n : Nat} (h : n < 2147483648) : nI n ≤ 0 ↔ n = 0 := by
  rw [ci_le, ci_n h, ci_z0]
  omega
theorem ci_nN {x : Int32} (h : 0 ≤ x.toInt) : ∃ j : Nat, j < 2147483648 ∧ x = nI j := by
  have hb := fb_rng x
  refine ⟨x.toInt.toNat, by omega, ?_⟩
  rw [ci_eq, ci_n (by omega)]
  omega
theorem c_X3_isRow (w : cb_W) (t : Int32) : cb_Pu yX3_isRow cX3_isRow 2 (some .boolean) 1 22 [.inl t] w (if sv_row t then 1 else 0) := by
  refine cb_con (by decide) (Nat.le_of_ble_eq_true rfl) (fun κ O Rt hnm => ?_)
  show cb_X κ w 0 0 0 [some (.inl t), none] []
  refine cb_iload_n (pc := 0) O dX3_isRow_0 rfl ?_
  refine cb_iconst (pc := 1) (v := 0) O dX3_isRow_1 (by decide) ?_
  refine cb_ldc (pc := 2) O dX3_isRow_2 kc_X3_19 ?_
  refine cb_cSp (pc := 4) O (c_X10_within _ _ _ _) my_X10_within mt_X10_within ml_X3_20 dX3_isRow_4 rfl rfl ⟨(Nat.le_of_ble_eq_true rfl), (Nat.le_of_ble_eq_true rfl)⟩ (Nat.le_of_ble_eq_true rfl) rfl ⟨(Nat.le_of_ble_eq_true rfl), (Nat.le_of_ble_eq_true rfl)⟩ ?_
  refine cb_ifp_ne (pc := 7) O 12 dX3_isRow_7 (by decide) (fun c_7 => ?_) (fun c_7 => ?_)
  · skip
    obtain ⟨t, ht, rfl⟩ := ci_in (n := 161050) c_7 rfl
    have l5 := nl_5 t
    refine cb_iload_n (pc := 12) O dX3_isRow_12 rfl ?_
    refine cb_istore_n (pc := 13) O dX3_isRow_13 (by decide) ?_
    dsimp only [List.set]
    have L_14 : ∀ (n : Nat) (j : Nat), j ≤ nl t → (∀ j', j' < j → ¬ t / 11 ^ j' % 11 = 0) → 6 ≤ j + n → cb_X κ w 0 0 14 [some (.inl (nI t)), some (.inl (nI (t / 11 ^ j)))] [] := by
      intro n
      induction n with
      | zero =>
        intro j hj hd hn
        exact absurd hn (by omega)
      | succ n ih_14 =>
        intro j hj hd hn
        have hdl : t / 11 ^ j ≤ t := Nat.div_le_self _ _
        have hr9 := nl_r (t := t) (j := j) (by have := nl_5 t; omega) (by omega)
        refine cb_iload_n (pc := 14) O dX3_isRow_14 rfl ?_
        refine cb_if_le (pc := 15) O 35 dX3_isRow_15 (by decide) (fun c_15 => ?_) (fun c_15 => ?_)
        · skip
          rw [ci_ge0 (by omega)] at c_15
          have hjn : j = nl t := by omega
          have hv : sv_row (nI t) := (sv_rown (by omega)).mpr (by rw [hjn] at hd; exact hd)
          refine cb_iconst (pc := 35) (v := 1) O dX3_isRow_35 (by decide) ?_
          exact cb_iret (pc := 36) O Rt rfl (Nat.le_of_ble_eq_true rfl) (Nat.le_of_ble_eq_true rfl) dX3_isRow_36 (by
            refine ⟨?_, rfl⟩
            first | rw [if_pos hv] | rw [if_neg hv])
        · skip
          rw [ci_ge0 (by omega)] at c_15
          have hjn : j < nl t := hr9.mp (Nat.pos_of_ne_zero c_15)
          refine cb_iload_n (pc := 18) O dX3_isRow_18 rfl ?_
          refine cb_bipush (pc := 19) (v := 11) O dX3_isRow_19 (by decide) ?_
          refine cb_irem (pc := 21) O dX3_isRow_21 (by decide) ?_
          refine cb_topv (nI (t / 11 ^ j % 11)) (ci_rl 11 rfl (by omega) (by omega) (by omega)) ?_
          refine cb_if_ne (pc := 22) O 27 dX3_isRow_22 (by decide) (fun c_22 => ?_) (fun c_22 => ?_)
          · skip
            rw [show (0 : Int32) = nI 0 from rfl, nI_eq (by omega) (by omega)] at c_22
            refine cb_iload_n (pc := 27) O dX3_isRow_27 rfl ?_
            refine cb_bipush (pc := 28) (v := 11) O dX3_isRow_28 (by decide) ?_
            refine cb_idiv (pc := 30) O dX3_isRow_30 (by decide) ?_
            refine cb_topv (nI (t / 11 ^ (j + 1))) (by rw [show nI (t / 11 ^ j) / 11 = nI (t / 11 ^ j / 11) from ci_dl 11 rfl (by omega) (by omega) (by omega), Nat.div_div_eq_div_mul, ← Nat.pow_succ]) ?_
            refine cb_istore_n (pc := 31) O dX3_isRow_31 (by decide) ?_
            dsimp only [List.set]
            refine cb_goto (pc := 32) O 14 dX3_isRow_32 (by decide) ?_
            exact ih_14 (j + 1) (by omega) (fun j' h => by
              rcases Nat.lt_or_ge j' j with h1 | h1
              · exact hd j' h1
              · rw [show j' = j by omega]; exact c_22) (by omega)
          · skip
            rw [show (0 : Int32) = nI 0 from rfl, nI_eq (by omega) (by omega)] at c_22
            have hv : ¬ sv_row (nI t) := fun h => (sv_rown (by omega)).mp h j hjn c_22
            refine cb_iconst (pc := 25) (v := 0) O dX3_isRow_25 (by decide) ?_
            exact cb_iret (pc := 26) O Rt rfl (Nat.le_of_ble_eq_true rfl) (Nat.le_of_ble_eq_true rfl) dX3_isRow_26 (by
              refine ⟨?_, rfl⟩
              first | rw [if_pos hv] | rw [if_neg hv])
    refine cb_eqX (lv' := [some (.inl (nI t)), some (.inl (nI (t / 11 ^ 0)))]) rfl rfl (by rw [Nat.pow_zero, Nat.div_one]) rfl ?_
    exact L_14 6 0 (by omega) (fun j' h => absurd h (by omega)) (by omega)
  · skip
    refine cb_iconst (pc := 10) (v := 0) O dX3_isRow_10 (by decide) ?_
    exact cb_iret (pc := 11) O Rt rfl (Nat.le_of_ble_eq_true rfl) (Nat.le_of_ble_eq_true rfl) dX3_isRow_11 (by
      refine ⟨?_, rfl⟩
      rw [if_neg (fun h => c_7 ⟨by rw [ci_0le]; exact h.1.1, by rw [ci_le]; show _ ≤ (161050 : Int); have := h.1.2; omega⟩)])

def GV (w : cb_W) (t : Nat) : Prop := w.2.1 1000 36 = nI (nl t) ∧ ∀ i, i < nl t → w.2.1 1036 (5 - nl t + i) = nI (ri t i)
theorem c_X11_takeRow (w : cb_W) (A : ca_A) (z : Int32) (hI : ca_I A) (hM : cm_I w A z) (t : Int32) : cb_Con yX11_takeRow cX11_takeRow 3 (some .boolean) 0 0 0 0 (fun _ => true) [.inr (some 1000), .inl t] w (cb_pi (fun x w' => x = (if sv_row t then 1 else 0) ∧ cm_I w' A z ∧ cb_C1 w w' ∧ (sv_row t → GV w' t.toInt.toNat))) := by
  refine cb_con (by decide) (Nat.le_of_ble_eq_true rfl) (fun κ O Rt hnm => ?_)
  show cb_X κ w 0 0 0 [some (.inr (some 1000)), some (.inl t), none] []
  refine cb_aload_n (pc := 0) O dX11_takeRow_0 rfl ?_
  refine cb_iconst (pc := 1) (v := 0) O dX11_takeRow_1 (by decide) ?_
  refine cb_putIc (pc := 2) O fl_X11_199 (Or.inl rfl) rfl rfl dX11_takeRow_2 rfl rfl (by first | exact hM9.1.1 _ rfl | (simp only [cb_um]; exact hM9.1.1 _ rfl) | exact hM.1.1 _ rfl) ?_
  have hM0 : cm_I (cb_um w 1000 36 0) A z := hM.sc (k := 0) (by omega) _ (by simp [ca_R])
  have hC0 : cb_C1 w (cb_um w 1000 36 0) := cb_C1.rfl'.um (by omega)
  refine cb_iload_n (pc := 5) O dX11_takeRow_5 rfl ?_
  refine cb_if_lt (pc := 6) O 15 dX11_takeRow_6 (by decide) (fun c_6 => ?_) (fun c_6 => ?_)
  · skip
    refine cb_iconst (pc := 15) (v := 0) O dX11_takeRow_15 (by decide) ?_
    exact cb_iret (pc := 16) O Rt rfl (Nat.le_of_ble_eq_true rfl) (Nat.le_of_ble_eq_true rfl) dX11_takeRow_16 (by
      have hv : ¬ sv_row t := fun h => by
        have h1 := h.1.1
        have h2 := h.1.2
        first
        | (rw [ci_lt0] at c_6; omega)
        | exact c_12 (by rw [ci_lt]; exact h2)
      exact ⟨by rw [if_neg hv], hM0, hC0, fun h => absurd h hv⟩)
  · skip
    refine cb_iload_n (pc := 9) O dX11_takeRow_9 rfl ?_
    refine cb_ldc (pc := 10) O dX11_takeRow_10 kc_X11_202 ?_
    refine cb_icmp_lt (pc := 12) O 17 dX11_takeRow_12 (by decide) (fun c_12 => ?_) (fun c_12 => ?_)
    · skip
      obtain ⟨t, ht9, rfl⟩ := ci_nN (x := t) (by rw [ci_lt0] at c_6; omega)
      have ht : t < 161051 := by
        rw [show (161051 : Int32) = nI 161051 from rfl, nI_ltI ht9 (by omega)] at c_12
        exact c_12
      have l5 := nl_5 t
      refine cb_iload_n (pc := 17) O dX11_takeRow_17 rfl ?_
      refine cb_istore_n (pc := 18) O dX11_takeRow_18 (by decide) ?_
      dsimp only [List.set]
      have L_19 : ∀ (n : Nat) (j : Nat) (w9 : cb_W), j ≤ nl t → (∀ j', j' < j → ¬ t / 11 ^ j' % 11 = 0) → cm_I w9 A z → cb_C1 w w9 → w9.2.1 1000 36 = nI j → (∀ j', j' < j → w9.2.1 1036 (4 - j') = nI (t / 11 ^ j' % 11 - 1)) → 6 ≤ j + n → cb_X κ w9 0 0 19 [some (.inr (some 1000)), some (.inl (nI t)), some (.inl (nI (t / 11 ^ j)))] [] := by
        intro n
        induction n with
        | zero =>
          intro j w9 hj hd hM9 hC9 h36 hgv hn
          exact absurd hn (by omega)
        | succ n ih_19 =>
          intro j w9 hj hd hM9 hC9 h36 hgv hn
          have hdl : t / 11 ^ j ≤ t := Nat.div_le_self _ _
          have hr9 := nl_r (t := t) (j := j) (by have := nl_5 t; omega) (by omega)
          refine cb_iload_n (pc := 19) O dX11_takeRow_19 rfl ?_
          refine cb_if_le (pc := 20) O 67 dX11_takeRow_20 (by decide) (fun c_20 => ?_) (fun c_20 => ?_)
          · skip
            rw [ci_ge0 (by omega)] at c_20
            have hjn : j = nl t := by omega
            have hv : sv_row (nI t) := (sv_rown (by omega)).mpr (by rw [hjn] at hd; exact hd)
            refine cb_iconst (pc := 67) (v := 1) O dX11_takeRow_67 (by decide) ?_
            exact cb_iret (pc := 68) O Rt rfl (Nat.le_of_ble_eq_true rfl) (Nat.le_of_ble_eq_true rfl) dX11_takeRow_68 (by
              refine ⟨by rw [if_pos hv], hM9, hC9, fun _ => ?_⟩
              rw [ci_tn (by omega)]
              refine ⟨by rw [← hjn]; exact h36, fun i hi => ?_⟩
              have h9 := hgv (nl t - 1 - i) (by omega)
              rw [show 4 - (nl t - 1 - i) = 5 - nl t + i by omega] at h9
              exact h9)
          · skip
            rw [ci_ge0 (by omega)] at c_20
            have hjn : j < nl t := hr9.mp (Nat.pos_of_ne_zero c_20)
            refine cb_aload_n (pc := 23) O dX11_takeRow_23 rfl ?_
            refine cb_dup (pc := 24) O dX11_takeRow_24 ?_
            refine cb_getI (pc := 25) O fl_X11_199 rfl rfl dX11_takeRow_25 (by first | exact hM9.1.1 _ rfl | (simp only [cb_um]; exact hM9.1.1 _ rfl) | exact hM.1.1 _ rfl) ?_
            refine cb_topv _ h36 ?_
            refine cb_iconst (pc := 28) (v := 1) O dX11_takeRow_28 (by decide) ?_
            refine cb_iadd (pc := 29) O dX11_takeRow_29 ?_
            refine cb_topv (nI (j + 1)) (nI_add _ _) ?_
            refine cb_putIc (pc := 30) O fl_X11_199 (Or.inl rfl) rfl rfl dX11_takeRow_30 rfl rfl (by first | exact hM9.1.1 _ rfl | (simp only [cb_um]; exact hM9.1.1 _ rfl) | exact hM.1.1 _ rfl) ?_
            refine cb_iload_n (pc := 33) O dX11_takeRow_33 rfl ?_
            refine cb_bipush (pc := 34) (v := 11) O dX11_takeRow_34 (by decide) ?_
            refine cb_irem (pc := 36) O dX11_takeRow_36 (by decide) ?_
            refine cb_topv (nI (t / 11 ^ j % 11)) (ci_rl 11 rfl (by omega) (by omega) (by omega)) ?_
            refine cb_if_ne (pc := 37) O 42 dX11_takeRow_37 (by decide) (fun c_37 => ?_) (fun c_37 => ?_)
            · skip
              rw [show (0 : Int32) = nI 0 from rfl, nI_eq (by omega) (by omega)] at c_37
              refine cb_aload_n (pc := 42) O dX11_takeRow_42 rfl ?_
              refine cb_getR (pc := 43) O fl_X11_87 rfl rfl dX11_takeRow_43 (by first | exact hM9.1.1 _ rfl | (simp only [cb_um]; exact hM9.1.1 _ rfl) | exact hM.1.1 _ rfl) (by first | exact hM9.1.2 _ _ _ rfl | (simp only [cb_um]; exact hM9.1.2 _ _ _ rfl)) ?_
              refine cb_iconst (pc := 46) (v := 5) O dX11_takeRow_46 (by decide) ?_
              refine cb_aload_n (pc := 47) O dX11_takeRow_47 rfl ?_
              refine cb_getI (pc := 48) O fl_X11_199 rfl rfl dX11_takeRow_48 (by first | exact hM9.1.1 _ rfl | (simp only [cb_um]; exact hM9.1.1 _ rfl) | exact hM.1.1 _ rfl) ?_
              refine cb_topv (nI (j + 1)) (by simp only [cb_um]; rw [cb_u2s]) ?_
              refine cb_isub (pc := 51) O dX11_takeRow_51 ?_
              refine cb_topv (nI (4 - j)) (by rw [ci_5m (by omega)]; congr 1; omega) ?_
              refine cb_iload_n (pc := 52) O dX11_takeRow_52 rfl ?_
              refine cb_bipush (pc := 53) (v := 11) O dX11_takeRow_53 (by decide) ?_
              refine cb_irem (pc := 55) O dX11_takeRow_55 (by decide) ?_
              refine cb_topv (nI (t / 11 ^ j % 11)) (ci_rl 11 rfl (by omega) (by omega) (by omega)) ?_
              refine cb_iconst (pc := 56) (v := 1) O dX11_takeRow_56 (by decide) ?_
              refine cb_isub (pc := 57) O dX11_takeRow_57 ?_
              refine cb_topv (nI (t / 11 ^ j % 11 - 1)) (ci_p1 (by omega)) ?_
              refine cb_iast (pc := 58) O (4 - j) rfl dX11_takeRow_58 (by decide) (by first | exact hM9.1.1 _ rfl | (simp only [cb_um]; exact hM9.1.1 _ rfl) | exact hM.1.1 _ rfl) rfl (by omega) ?_
              refine cb_iload_n (pc := 59) O dX11_takeRow_59 rfl ?_
              refine cb_bipush (pc := 60) (v := 11) O dX11_takeRow_60 (by decide) ?_
              refine cb_idiv (pc := 62) O dX11_takeRow_62 (by decide) ?_
              refine cb_topv (nI (t / 11 ^ (j + 1))) (by rw [show nI (t / 11 ^ j) / 11 = nI (t / 11 ^ j / 11) from ci_dl 11 rfl (by omega) (by omega) (by omega), Nat.div_div_eq_div_mul, ← Nat.pow_succ]) ?_
              refine cb_istore_n (pc := 63) O dX11_takeRow_63 (by decide) ?_
              dsimp only [List.set]
              refine cb_goto (pc := 64) O 19 dX11_takeRow_64 (by decide) ?_
              exact ih_19 (j + 1) _ (by omega) (fun j' h => by
                rcases Nat.lt_or_ge j' j with h1 | h1
                · exact hd j' h1
                · rw [show j' = j by omega]; exact c_37) ((hM9.sc (k := 0) (i := 36) (by omega) _ (by simp [ca_R])).sc (k := 36) (by omega) _ (by simp [ca_R])) ((hC9.um (by omega)).um (by omega)) (by simp only [cb_um]; rw [cb_u2n (by omega), cb_u2s]) (fun j' h => by
                simp only [cb_um]
                rcases Nat.lt_or_ge j' j with h1 | h1
                · rw [cb_u2n (by omega), cb_u2n (by omega)]
                  exact hgv j' h1
                · rw [show j' = j by omega, cb_u2s]) (by omega)
            · skip
              rw [show (0 : Int32) = nI 0 from rfl, nI_eq (by omega) (by omega)] at c_37
              have hv : ¬ sv_row (nI t) := fun h => (sv_rown (by omega)).mp h j hjn c_37
              refine cb_iconst (pc := 40) (v := 0) O dX11_takeRow_40 (by decide) ?_
              exact cb_iret (pc := 41) O Rt rfl (Nat.le_of_ble_eq_true rfl) (Nat.le_of_ble_eq_true rfl) dX11_takeRow_41 (by
                exact ⟨by rw [if_neg hv], hM9.sc (k := 0) (by omega) _ (by simp [ca_R]), hC9.um (by omega), fun h => absurd h hv⟩)
      refine cb_eqX (lv' := [some (.inr (some 1000)), some (.inl (nI t)), some (.inl (nI (t / 11 ^ 0)))]) rfl rfl (by rw [Nat.pow_zero, Nat.div_one]) rfl ?_
      exact L_19 6 0 _ (by omega) (fun j' h => absurd h (by omega)) hM0 hC0 (by simp only [cb_um]; rw [cb_u2s]; rfl) (fun j' h => absurd h (by omega)) (by omega)
    · skip
      refine cb_iconst (pc := 15) (v := 0) O dX11_takeRow_15 (by decide) ?_
      exact cb_iret (pc := 16) O Rt rfl (Nat.le_of_ble_eq_true rfl) (Nat.le_of_ble_eq_true rfl) dX11_takeRow_16 (by
        have hv : ¬ sv_row t := fun h => by
          have h1 := h.1.1
          have h2 := h.1.2
          first
          | (rw [ci_lt0] at c_6; omega)
          | exact c_12 (by rw [ci_lt]; exact h2)
        exact ⟨by rw [if_neg hv], hM0, hC0, fun h => absurd h hv⟩)

theorem c_X11_madeBy (w : cb_W) (A : ca_A) (z : Int32) (hI : ca_I A) (hM : cm_I w A z) (t : Nat) (hg : GV w t) (k : Nat) (hk : k ≤ nl t) : cb_Pu yX11_madeBy cX11_madeBy 4 (some .int) 0 0 [.inr (some 1000), .inl (nI k)] w (nI (cf A (ri t) k)) := by
  have l5 := nl_5 t
  refine cb_con (by decide) (Nat.le_of_ble_eq_true rfl) (fun κ O Rt hnm => ?_)
  show cb_X κ w 0 0 0 [some (.inr (some 1000)), some (.inl (nI k)), none, none] []
  refine cb_iconst (pc := 0) (v := 0) O dX11_madeBy_0 (by decide) ?_
  refine cb_istore_n (pc := 1) O dX11_madeBy_1 (by decide) ?_
  dsimp only [List.set]
  refine cb_iconst (pc := 2) (v := 0) O dX11_madeBy_2 (by decide) ?_
  refine cb_istore_n (pc := 3) O dX11_madeBy_3 (by decide) ?_
  dsimp only [List.set]
  have L_4 : ∀ (n : Nat) (i : Nat), i ≤ k → k + 1 ≤ i + n → cb_X κ w 0 0 4 [some (.inr (some 1000)), some (.inl (nI k)), some (.inl (nI (cf A (ri t) i))), some (.inl (nI i))] [] := by
    intro n
    induction n with
    | zero =>
      intro i hi hn
      exact absurd hn (by omega)
    | succ n ih_4 =>
      intro i hi hn
      refine cb_iload_n (pc := 4) O dX11_madeBy_4 rfl ?_
      refine cb_iload_n (pc := 5) O dX11_madeBy_5 rfl ?_
      refine cb_icmp_ge (pc := 6) O 39 dX11_madeBy_6 (by decide) (fun c_6 => ?_) (fun c_6 => ?_)
      · skip
        rw [nI_leI (by omega) (by omega)] at c_6
        have e : i = k := by omega
        subst e
        refine cb_iload_n (pc := 39) O dX11_madeBy_39 rfl ?_
        exact cb_iret (pc := 40) O Rt rfl (Nat.le_of_ble_eq_true rfl) (Nat.le_of_ble_eq_true rfl) dX11_madeBy_40 ⟨rfl, rfl⟩
      · skip
        rw [nI_leI (by omega) (by omega)] at c_6
        have h16 := cf_16 hI (ri t) i
        have h10 := ri_10 t i
        refine cb_aload_n (pc := 9) O dX11_madeBy_9 rfl ?_
        refine cb_getR (pc := 10) O fl_X11_9 rfl rfl dX11_madeBy_10 (hM.1.1 _ rfl) (hM.1.2 _ _ _ rfl) ?_
        refine cb_bipush (pc := 13) (v := 16) O dX11_madeBy_13 (by decide) ?_
        refine cb_aload_n (pc := 15) O dX11_madeBy_15 rfl ?_
        refine cb_getR (pc := 16) O fl_X11_87 rfl rfl dX11_madeBy_16 (hM.1.1 _ rfl) (hM.1.2 _ _ _ rfl) ?_
        refine cb_iconst (pc := 19) (v := 5) O dX11_madeBy_19 (by decide) ?_
        refine cb_aload_n (pc := 20) O dX11_madeBy_20 rfl ?_
        refine cb_getI (pc := 21) O fl_X11_199 rfl rfl dX11_madeBy_21 (hM.1.1 _ rfl) ?_
        refine cb_topv _ hg.1 ?_
        refine cb_isub (pc := 24) O dX11_madeBy_24 ?_
        refine cb_topv _ (ci_5m l5) ?_
        refine cb_iload_n (pc := 25) O dX11_madeBy_25 rfl ?_
        refine cb_iadd (pc := 26) O dX11_madeBy_26 ?_
        refine cb_topv (nI (5 - nl t + i)) (nI_add _ _) ?_
        refine cb_iald (pc := 27) O (5 - nl t + i) rfl dX11_madeBy_27 (by decide) (hM.1.1 _ rfl) rfl (by omega) ?_
        refine cb_topv _ (hg.2 i (by omega)) ?_
        refine cb_imul (pc := 28) O dX11_madeBy_28 ?_
        refine cb_iload_n (pc := 29) O dX11_madeBy_29 rfl ?_
        refine cb_iadd (pc := 30) O dX11_madeBy_30 ?_
        refine cb_topv _ (ci_m16 _ _) ?_
        refine cb_iald (pc := 31) O (16 * ri t i + cf A (ri t) i) rfl dX11_madeBy_31 (by decide) (hM.1.1 _ rfl) rfl (by omega) ?_
        refine cb_topv (nI (cf A (ri t) (i + 1))) (cm_at hM 3 _ (by simp [ca_R]; omega) (by omega)) ?_
        refine cb_istore_n (pc := 32) O dX11_madeBy_32 (by decide) ?_
        dsimp only [List.set]
        refine cb_iinc (pc := 33) O (nI (i + 1)) dX11_madeBy_33 rfl (by decide) (ci_inc i) ?_
        dsimp only [List.set]
        refine cb_goto (pc := 36) O 4 dX11_madeBy_36 (by decide) ?_
        exact ih_4 (i + 1) (by omega) (by omega)
  exact L_4 (k + 1) 0 (by omega) (by omega)

theorem c_X11_coloursMade (w : cb_W) (A : ca_A) (z : Int32) (hI : ca_I A) (hM : cm_I w A z) (t : Nat) (hg : GV w t) : cb_Pu yX11_coloursMade cX11_coloursMade 3 (some .int) 1 23 [.inr (some 1000)] w (nI (csn A (ri t) (nl t + 1))) := by
  have l5 := nl_5 t
  refine cb_con (by decide) (Nat.le_of_ble_eq_true rfl) (fun κ O Rt hnm => ?_)
  show cb_X κ w 0 0 0 [some (.inr (some 1000)), none, none] []
  refine cb_iconst (pc := 0) (v := 0) O dX11_coloursMade_0 (by decide) ?_
  refine cb_istore_n (pc := 1) O dX11_coloursMade_1 (by decide) ?_
  dsimp only [List.set]
  refine cb_iconst (pc := 2) (v := 0) O dX11_coloursMade_2 (by decide) ?_
  refine cb_istore_n (pc := 3) O dX11_coloursMade_3 (by decide) ?_
  dsimp only [List.set]
  have L_4 : ∀ (n : Nat) (k : Nat), k ≤ nl t + 1 → nl t + 2 ≤ k + n → cb_X κ w 0 0 4 [some (.inr (some 1000)), some (.inl (nI (csn A (ri t) k))), some (.inl (nI k))] [] := by
    intro n
    induction n with
    | zero =>
      intro k hk hn
      exact absurd hn (by omega)
    | succ n ih_4 =>
      intro k hk hn
      refine cb_iload_n (pc := 4) O dX11_coloursMade_4 rfl ?_
      refine cb_aload_n (pc := 5) O dX11_coloursMade_5 rfl ?_
      refine cb_getI (pc := 6) O fl_X11_199 rfl rfl dX11_coloursMade_6 (hM.1.1 _ rfl) ?_
      refine cb_topv _ hg.1 ?_
      refine cb_icmp_gt (pc := 9) O 28 dX11_coloursMade_9 (by decide) (fun c_9 => ?_) (fun c_9 => ?_)
      · skip
        rw [nI_ltI (by omega) (by omega)] at c_9
        have e : k = nl t + 1 := by omega
        subst e
        refine cb_iload_n (pc := 28) O dX11_coloursMade_28 rfl ?_
        exact cb_iret (pc := 29) O Rt rfl (Nat.le_of_ble_eq_true rfl) (Nat.le_of_ble_eq_true rfl) dX11_coloursMade_29 ⟨rfl, rfl⟩
      · skip
        rw [nI_ltI (by omega) (by omega)] at c_9
        refine cb_iload_n (pc := 12) O dX11_coloursMade_12 rfl ?_
        refine cb_iconst (pc := 13) (v := 1) O dX11_coloursMade_13 (by decide) ?_
        refine cb_aload_n (pc := 14) O dX11_coloursMade_14 rfl ?_
        refine cb_iload_n (pc := 15) O dX11_coloursMade_15 rfl ?_
        refine cb_cVp (pc := 16) O (c_X11_madeBy w A z hI hM t hg k (by omega)) my_X11_madeBy mi_X11_madeBy mx_X11_madeBy ml_X11_203 dX11_coloursMade_16 rfl ct_11 rfl rfl rfl ⟨(Nat.le_of_ble_eq_true rfl), (Nat.le_of_ble_eq_true rfl)⟩ (Nat.le_of_ble_eq_true rfl) rfl ⟨(Nat.le_of_ble_eq_true rfl), (Nat.le_of_ble_eq_true rfl)⟩ (hM.1.1 _ rfl) ?_
        refine cb_ishl (pc := 19) O dX11_coloursMade_19 ?_
        refine cb_topv _ (ci_shl (cf_16 hI (ri t) k)) ?_
        refine cb_ior (pc := 20) O dX11_coloursMade_20 ?_
        refine cb_topv (nI (csn A (ri t) (k + 1))) (fa_or _ _) ?_
        refine cb_istore_n (pc := 21) O dX11_coloursMade_21 (by decide) ?_
        dsimp only [List.set]
        refine cb_iinc (pc := 22) O (nI (k + 1)) dX11_coloursMade_22 rfl (by decide) (ci_inc k) ?_
        dsimp only [List.set]
        refine cb_goto (pc := 25) O 4 dX11_coloursMade_25 (by decide) ?_
        exact ih_4 (k + 1) (by omega) (by omega)
  exact L_4 (nl t + 2) 0 (by omega) (by omega)

theorem m_alike (w : cb_W) (A : ca_A) (z : Int32) (hI : ca_I A) (hM : cm_I w A z) (t o c : Int32) : cb_Con yX11_alike cX11_alike 5 (some .int) 2 45 0 0 (fun _ => true) [.inr (some 1000), .inl t, .inl o, .inl c] w (cb_pi (fun x w' => x = sr_alike A t o c ∧ cm_I w' A z ∧ cb_C1 w w')) := by
  refine cb_con (by decide) (Nat.le_of_ble_eq_true rfl) (fun κ O Rt hnm => ?_)
  show cb_X κ w 0 0 0 [some (.inr (some 1000)), some (.inl t), some (.inl o), some (.inl c), none] []
  refine cb_iload_n (pc := 0) O dX11_alike_0 rfl ?_
  refine cb_iconst (pc := 1) (v := 0) O dX11_alike_1 (by decide) ?_
  refine cb_ldc (pc := 2) O dX11_alike_2 kc_X11_206 ?_
  refine cb_cSp (pc := 4) O (c_X11_within _ _ _ _) my_X11_within mt_X11_within ml_X11_90 dX11_alike_4 rfl rfl ⟨(Nat.le_of_ble_eq_true rfl), (Nat.le_of_ble_eq_true rfl)⟩ (Nat.le_of_ble_eq_true rfl) rfl ⟨(Nat.le_of_ble_eq_true rfl), (Nat.le_of_ble_eq_true rfl)⟩ ?_
  refine cb_ifp_eq (pc := 7) O 18 dX11_alike_7 (by decide) (fun c_7 => ?_) (fun c_7 => ?_)
  · skip
    refine cb_iconst (pc := 18) (v := (-1)) O dX11_alike_18 (by decide) ?_
    exact cb_iret (pc := 19) O Rt rfl (Nat.le_of_ble_eq_true rfl) (Nat.le_of_ble_eq_true rfl) dX11_alike_19 (by
      have hv : ¬ ((sv_row t ∧ sv_row o) ∧ (0 ≤ c ∧ c ≤ 65535)) := fun h => by
        first | exact c_7 h.2 | exact c_15 h.1.1
      first
      | exact ⟨by rw [sr_alike, if_neg hv], hM, cb_C1.rfl'⟩
      | exact ⟨by rw [sr_alike, if_neg hv], hM2, hC2⟩)
  · skip
    refine cb_aload_n (pc := 10) O dX11_alike_10 rfl ?_
    refine cb_iload_n (pc := 11) O dX11_alike_11 rfl ?_
    refine cb_cVi (pc := 12) O (c_X11_takeRow w A z hI hM t) my_X11_takeRow mi_X11_takeRow mx_X11_takeRow ml_X11_207 dX11_alike_12 rfl ct_11 rfl rfl rfl ⟨(Nat.le_of_ble_eq_true rfl), (Nat.le_of_ble_eq_true rfl)⟩ (Nat.le_of_ble_eq_true rfl) rfl ⟨(Nat.le_of_ble_eq_true rfl), (Nat.le_of_ble_eq_true rfl)⟩ (fun _ _ => rfl) (by first | exact hM3.1.1 _ rfl | exact hM2.1.1 _ rfl | exact hM.1.1 _ rfl) (fun x_12 w_12 hp_12 => ?_)
    obtain ⟨rfl, hM2, hC2, hG2⟩ := hp_12
    refine cb_ifp_ne (pc := 15) O 20 dX11_alike_15 (by decide) (fun c_15 => ?_) (fun c_15 => ?_)
    · skip
      refine cb_aload_n (pc := 20) O dX11_alike_20 rfl ?_
      refine cb_cVp (pc := 21) O (c_X11_coloursMade w_12 A z hI hM2 t.toInt.toNat (hG2 c_15)) my_X11_coloursMade mi_X11_coloursMade mx_X11_coloursMade ml_X11_210 dX11_alike_21 rfl ct_11 rfl rfl rfl ⟨(Nat.le_of_ble_eq_true rfl), (Nat.le_of_ble_eq_true rfl)⟩ (Nat.le_of_ble_eq_true rfl) rfl ⟨(Nat.le_of_ble_eq_true rfl), (Nat.le_of_ble_eq_true rfl)⟩ (by first | exact hM3.1.1 _ rfl | exact hM2.1.1 _ rfl | exact hM.1.1 _ rfl) ?_
      refine cb_istore (pc := 24) O dX11_alike_24 (by decide) ?_
      dsimp only [List.set]
      refine cb_aload_n (pc := 26) O dX11_alike_26 rfl ?_
      refine cb_iload_n (pc := 27) O dX11_alike_27 rfl ?_
      refine cb_cVi (pc := 28) O (c_X11_takeRow w_12 A z hI hM2 o) my_X11_takeRow mi_X11_takeRow mx_X11_takeRow ml_X11_207 dX11_alike_28 rfl ct_11 rfl rfl rfl ⟨(Nat.le_of_ble_eq_true rfl), (Nat.le_of_ble_eq_true rfl)⟩ (Nat.le_of_ble_eq_true rfl) rfl ⟨(Nat.le_of_ble_eq_true rfl), (Nat.le_of_ble_eq_true rfl)⟩ (fun _ _ => rfl) (by first | exact hM3.1.1 _ rfl | exact hM2.1.1 _ rfl | exact hM.1.1 _ rfl) (fun x_28 w_28 hp_28 => ?_)
      obtain ⟨rfl, hM3, hC3, hG3⟩ := hp_28
      refine cb_ifp_ne (pc := 31) O 36 dX11_alike_31 (by decide) (fun c_31 => ?_) (fun c_31 => ?_)
      · skip
        have hv : (sv_row t ∧ sv_row o) ∧ (0 ≤ c ∧ c ≤ 65535) := ⟨⟨c_15, c_31⟩, c_7⟩
        refine cb_iload_n (pc := 36) O dX11_alike_36 rfl ?_
        refine cb_iload (pc := 37) O dX11_alike_37 rfl ?_
        refine cb_aload_n (pc := 39) O dX11_alike_39 rfl ?_
        refine cb_cVp (pc := 40) O (c_X11_coloursMade w_28 A z hI hM3 o.toInt.toNat (hG3 c_31)) my_X11_coloursMade mi_X11_coloursMade mx_X11_coloursMade ml_X11_210 dX11_alike_40 rfl ct_11 rfl rfl rfl ⟨(Nat.le_of_ble_eq_true rfl), (Nat.le_of_ble_eq_true rfl)⟩ (Nat.le_of_ble_eq_true rfl) rfl ⟨(Nat.le_of_ble_eq_true rfl), (Nat.le_of_ble_eq_true rfl)⟩ (by first | exact hM3.1.1 _ rfl | exact hM2.1.1 _ rfl | exact hM.1.1 _ rfl) ?_
        refine cb_iand (pc := 43) O dX11_alike_43 ?_
        refine cb_iconst (pc := 44) (v := (-1)) O dX11_alike_44 (by decide) ?_
        refine cb_ixor (pc := 45) O dX11_alike_45 ?_
        refine cb_iand (pc := 46) O dX11_alike_46 ?_
        refine cb_if_ne (pc := 47) O 54 dX11_alike_47 (by decide) (fun c_47 => ?_) (fun c_47 => ?_)
        · skip
          refine cb_iconst (pc := 54) (v := 0) O dX11_alike_54 (by decide) ?_
          exact cb_iret (pc := 55) O Rt rfl (Nat.le_of_ble_eq_true rfl) (Nat.le_of_ble_eq_true rfl) dX11_alike_55 (by
            refine ⟨?_, hM3, hC2.trans hC3⟩
            rw [sr_alike, if_pos hv]
            first | rw [if_pos c_47] | rw [if_neg c_47])
        · skip
          refine cb_iconst (pc := 50) (v := 1) O dX11_alike_50 (by decide) ?_
          refine cb_goto (pc := 51) O 55 dX11_alike_51 (by decide) ?_
          exact cb_iret (pc := 55) O Rt rfl (Nat.le_of_ble_eq_true rfl) (Nat.le_of_ble_eq_true rfl) dX11_alike_55 (by
            refine ⟨?_, hM3, hC2.trans hC3⟩
            rw [sr_alike, if_pos hv]
            first | rw [if_pos c_47] | rw [if_neg c_47])
      · skip
        refine cb_iconst (pc := 34) (v := (-1)) O dX11_alike_34 (by decide) ?_
        exact cb_iret (pc := 35) O Rt rfl (Nat.le_of_ble_eq_true rfl) (Nat.le_of_ble_eq_true rfl) dX11_alike_35 (by
          have hv : ¬ ((sv_row t ∧ sv_row o) ∧ (0 ≤ c ∧ c ≤ 65535)) := fun h => c_31 h.1.2
          exact ⟨by rw [sr_alike, if_neg hv], hM3, hC2.trans hC3⟩)
    · skip
      refine cb_iconst (pc := 18) (v := (-1)) O dX11_alike_18 (by decide) ?_
      exact cb_iret (pc := 19) O Rt rfl (Nat.le_of_ble_eq_true rfl) (Nat.le_of_ble_eq_true rfl) dX11_alike_19 (by
        have hv : ¬ ((sv_row t ∧ sv_row o) ∧ (0 ≤ c ∧ c ≤ 65535)) := fun h => by
          first | exact c_7 h.2 | exact c_15 h.1.1
        first
        | exact ⟨by rw [sr_alike, if_neg hv], hM, cb_C1.rfl'⟩
        | exact ⟨by rw [sr_alike, if_neg hv], hM2, hC2⟩)

theorem m_made (w : cb_W) (A : ca_A) (z : Int32) (hI : ca_I A) (hM : cm_I w A z) (t k : Int32) : cb_Con yX11_made cX11_made 3 (some .int) 1 23 0 0 (fun _ => true) [.inr (some 1000), .inl t, .inl k] w (cb_pi (fun x w' => x = sr_made A t k ∧ cm_I w' A z ∧ cb_C1 w w')) := by
  have l5 := nl_5 t.toInt.toNat
  refine cb_con (by decide) (Nat.le_of_ble_eq_true rfl) (fun κ O Rt hnm => ?_)
  show cb_X κ w 0 0 0 [some (.inr (some 1000)), some (.inl t), some (.inl k)] []
  refine cb_aload_n (pc := 0) O dX11_made_0 rfl ?_
  refine cb_iload_n (pc := 1) O dX11_made_1 rfl ?_
  refine cb_cVi (pc := 2) O (c_X11_takeRow w A z hI hM t) my_X11_takeRow mi_X11_takeRow mx_X11_takeRow ml_X11_207 dX11_made_2 rfl ct_11 rfl rfl rfl ⟨(Nat.le_of_ble_eq_true rfl), (Nat.le_of_ble_eq_true rfl)⟩ (Nat.le_of_ble_eq_true rfl) rfl ⟨(Nat.le_of_ble_eq_true rfl), (Nat.le_of_ble_eq_true rfl)⟩ (fun _ _ => rfl) (by first | exact hM2.1.1 _ rfl | exact hM.1.1 _ rfl) (fun x_2 w_2 hp_2 => ?_)
  obtain ⟨rfl, hM2, hC2, hG2⟩ := hp_2
  refine cb_ifp_eq (pc := 5) O 28 dX11_made_5 (by decide) (fun c_5 => ?_) (fun c_5 => ?_)
  · skip
    refine cb_iconst (pc := 28) (v := (-1)) O dX11_made_28 (by decide) ?_
    exact cb_iret (pc := 29) O Rt rfl (Nat.le_of_ble_eq_true rfl) (Nat.le_of_ble_eq_true rfl) dX11_made_29 (by
      refine ⟨?_, hM2, hC2⟩
      first
      | rw [sr_made, if_neg (fun h => c_5 h.1)]
      | rw [sr_made, if_neg (fun h => hk h.2)]
      | rw [sr_made, if_pos ⟨c_5, by rw [ci_n hk9]; exact hk⟩, ci_tn hk9])
  · skip
    refine cb_iload_n (pc := 8) O dX11_made_8 rfl ?_
    refine cb_iconst (pc := 9) (v := 0) O dX11_made_9 (by decide) ?_
    refine cb_aload_n (pc := 10) O dX11_made_10 rfl ?_
    refine cb_getI (pc := 11) O fl_X11_199 rfl rfl dX11_made_11 (by first | exact hM2.1.1 _ rfl | exact hM.1.1 _ rfl) ?_
    refine cb_topv _ (hG2 c_5).1 ?_
    refine cb_cSp (pc := 14) O (c_X11_within _ _ _ _) my_X11_within mt_X11_within ml_X11_90 dX11_made_14 rfl rfl ⟨(Nat.le_of_ble_eq_true rfl), (Nat.le_of_ble_eq_true rfl)⟩ (Nat.le_of_ble_eq_true rfl) rfl ⟨(Nat.le_of_ble_eq_true rfl), (Nat.le_of_ble_eq_true rfl)⟩ ?_
    refine cb_ifp_eq (pc := 17) O 28 dX11_made_17 (by decide) (fun c_17 => ?_) (fun c_17 => ?_)
    · skip
      have hk : ¬ (0 ≤ k.toInt ∧ k.toInt ≤ (nl t.toInt.toNat : Int)) := by
        rw [ci_0le, ci_le, ci_n (by omega)] at c_17
        exact c_17
      refine cb_iconst (pc := 28) (v := (-1)) O dX11_made_28 (by decide) ?_
      exact cb_iret (pc := 29) O Rt rfl (Nat.le_of_ble_eq_true rfl) (Nat.le_of_ble_eq_true rfl) dX11_made_29 (by
        refine ⟨?_, hM2, hC2⟩
        first
        | rw [sr_made, if_neg (fun h => c_5 h.1)]
        | rw [sr_made, if_neg (fun h => hk h.2)]
        | rw [sr_made, if_pos ⟨c_5, by rw [ci_n hk9]; exact hk⟩, ci_tn hk9])
    · skip
      have hk : 0 ≤ k.toInt ∧ k.toInt ≤ (nl t.toInt.toNat : Int) := by
        rw [ci_0le, ci_le, ci_n (by omega)] at c_17
        exact c_17
      obtain ⟨k, hk9, rfl⟩ := ci_nN hk.1
      rw [ci_n hk9] at hk
      refine cb_aload_n (pc := 20) O dX11_made_20 rfl ?_
      refine cb_iload_n (pc := 21) O dX11_made_21 rfl ?_
      refine cb_cVp (pc := 22) O (c_X11_madeBy w_2 A z hI hM2 t.toInt.toNat (hG2 c_5) k (by omega)) my_X11_madeBy mi_X11_madeBy mx_X11_madeBy ml_X11_203 dX11_made_22 rfl ct_11 rfl rfl rfl ⟨(Nat.le_of_ble_eq_true rfl), (Nat.le_of_ble_eq_true rfl)⟩ (Nat.le_of_ble_eq_true rfl) rfl ⟨(Nat.le_of_ble_eq_true rfl), (Nat.le_of_ble_eq_true rfl)⟩ (by first | exact hM2.1.1 _ rfl | exact hM.1.1 _ rfl) ?_
      refine cb_goto (pc := 25) O 29 dX11_made_25 (by decide) ?_
      exact cb_iret (pc := 29) O Rt rfl (Nat.le_of_ble_eq_true rfl) (Nat.le_of_ble_eq_true rfl) dX11_made_29 (by
        refine ⟨?_, hM2, hC2⟩
        first
        | rw [sr_made, if_neg (fun h => c_5 h.1)]
        | rw [sr_made, if_neg (fun h => hk h.2)]
        | rw [sr_made, if_pos ⟨c_5, by rw [ci_n hk9]; exact hk⟩, ci_tn hk9])

def cu_up (c v : Nat) : Nat := (v * 1000 + c - 1) / c
def cu_un (c w : Nat) : Nat → Nat
  | 0 => w
  | n + 1 => cu_up c (cu_un c w n)
def cu_gd (c m : Nat) : Nat → Nat
  | 0 => m
  | n + 1 => cu_gd c m n * c / 1000
theorem cu_gal {c m v : Nat} (h : 0 < c) : v ≤ m * c / 1000 ↔ cu_up c v ≤ m := by
  unfold cu_up
  rw [Nat.le_div_iff_mul_le (by decide)]
  constructor
  · intro h1
    apply Nat.le_of_lt_succ
    rw [Nat.div_lt_iff_lt_mul h, Nat.succ_mul]
    omega
  · intro h1
    have h2 : v * 1000 + c - 1 < (m + 1) * c := by
      rw [← Nat.div_lt_iff_lt_mul h]
      omega
    rw [Nat.succ_mul] at h2
    omega
theorem cu_unS (c w : Nat) : ∀ n, cu_un c (cu_up c w) n = cu_up c (cu_un c w n)
  | 0 => rfl
  | n + 1 => by
    show cu_up c (cu_un c (cu_up c w) n) = cu_up c (cu_up c (cu_un c w n))
    rw [cu_unS c w n]
theorem cu_both {c : Nat} (h : 0 < c) (m : Nat) : ∀ (n w : Nat), w ≤ cu_gd c m n ↔ cu_un c w n ≤ m
  | 0, w => Iff.rfl
  | n + 1, w => by
    show w ≤ cu_gd c m n * c / 1000 ↔ _
    rw [cu_gal h, cu_both h m n (cu_up c w), cu_unS]
    rfl
theorem cu_upge {c v : Nat} (h : 0 < c) (hc : c ≤ 1000) : v ≤ cu_up c v := by
  unfold cu_up
  rw [Nat.le_div_iff_mul_le h]
  have : v * c ≤ v * 1000 := Nat.mul_le_mul_left v hc
  omega
theorem cu_mono {c w : Nat} (h : 0 < c) (hc : c ≤ 1000) (k : Nat) : ∀ n, cu_un c w k ≤ cu_un c w (k + n)
  | 0 => Nat.le_refl _
  | n + 1 => Nat.le_trans (cu_mono h hc k n) (cu_upge h hc)
theorem cu_gdle {c m : Nat} (hc : c ≤ 1000) : ∀ n, cu_gd c m n ≤ m
  | 0 => Nat.le_refl _
  | n + 1 => by
    show cu_gd c m n * c / 1000 ≤ m
    have h1 := cu_gdle (m := m) hc n
    have h2 : cu_gd c m n * c ≤ cu_gd c m n * 1000 := Nat.mul_le_mul_left _ hc
    have h3 : cu_gd c m n * c / 1000 ≤ cu_gd c m n := by
      rw [Nat.div_le_iff_le_mul (by decide)]
      omega
    omega
abbrev sv_begin (n s w : Int32) : Prop := (0 ≤ n ∧ n ≤ 20) ∧ (0 ≤ s ∧ s ≤ 999) ∧ (1 ≤ w ∧ w ≤ 100)
def sr_begin (n s w : Int32) : Int32 := if sv_begin n s w then (if cu_un (1000 - s.toNatClampNeg) w.toNatClampNeg n.toNatClampNeg ≤ 100000 then nI (cu_un (1000 - s.toNatClampNeg) w.toNatClampNeg n.toNatClampNeg) else -4) else -1
theorem ci_ks {s : Nat} (h : s ≤ 999) : (1000 : Int32) - nI s = nI (1000 - s) := by
  rw [show (1000 : Int32) = nI 1000 from rfl]
  exact pk_sub (by omega)
theorem ci_up {v c : Nat} (hv : v ≤ 100000) (hc : 0 < c) (hc2 : c ≤ 1000) : (nI v * 1000 + nI c - 1) / nI c = nI (cu_up c v) := by
  rw [show (1000 : Int32) = nI 1000 from rfl, pk_mul, nI_add, show (1 : Int32) = nI 1 from rfl, pk_sub (by omega), pk_div (by omega) hc (by omega)]
  rfl
theorem ci_dn {v c : Nat} (hv : v ≤ 100001) (hc2 : c ≤ 1000) : (nI v * nI c) / 1000 = nI (v * c / 1000) := by
  have h1 : v * c ≤ 100001 * 1000 := Nat.mul_le_mul hv hc2
  rw [show (1000 : Int32) = nI 1000 from rfl, pk_mul, pk_div (by omega) (by decide) (by decide)]
theorem ci_nn0 {c : Nat} (h : 0 < c) (h2 : c ≤ 1000) : ¬ nI c = 0 := nI_ne0 h (by omega)
theorem ci_half {a b : Nat} (ha : a ≤ 100001) (hb : b ≤ 100001) : (nI a + nI b) / 2 = nI ((a + b) / 2) := by
  rw [show (2 : Int32) = nI 2 from rfl, nI_add, pk_div (by omega) (by decide) (by decide)]
theorem cu_upb {c v : Nat} (hv : v ≤ 100000) (h : c ≤ 1000) : cu_up c v ≤ 100001000 := by
  unfold cu_up
  exact Nat.le_trans (Nat.div_le_self _ _) (by omega)
theorem k_begin (w : cb_W) (n s w9 : Int32) : cb_Con yX10_begin cX10_begin 7 (some .int) 1 22 0 0 (fun _ => true) [.inr (some 0), .inl n, .inl s, .inl w9] w (cb_pi (fun x w' => x = sr_begin n s w9 ∧ w' = w)) := by
  refine cb_con (by decide) (Nat.le_of_ble_eq_true rfl) (fun κ O Rt hnm => ?_)
  show cb_X κ w 0 0 0 [some (.inr (some 0)), some (.inl n), some (.inl s), some (.inl w9), none, none, none] []
  refine cb_iload_n (pc := 0) O dX10_begin_0 rfl ?_
  refine cb_iconst (pc := 1) (v := 0) O dX10_begin_1 (by decide) ?_
  refine cb_bipush (pc := 2) (v := 20) O dX10_begin_2 (by decide) ?_
  refine cb_cSp (pc := 4) O (c_X10_within _ _ _ _) my_X10_within mt_X10_within ml_X10_81 dX10_begin_4 rfl rfl ⟨(Nat.le_of_ble_eq_true rfl), (Nat.le_of_ble_eq_true rfl)⟩ (Nat.le_of_ble_eq_true rfl) rfl ⟨(Nat.le_of_ble_eq_true rfl), (Nat.le_of_ble_eq_true rfl)⟩ ?_
  refine cb_ifp_eq (pc := 7) O 31 dX10_begin_7 (by decide) (fun c_7 => ?_) (fun c_7 => ?_)
  · skip
    refine cb_iconst (pc := 31) (v := (-1)) O dX10_begin_31 (by decide) ?_
    exact cb_iret (pc := 32) O Rt rfl (Nat.le_of_ble_eq_true rfl) (Nat.le_of_ble_eq_true rfl) dX10_begin_32 (by
      have hv : ¬ sv_begin n s w9 := by
        intro h
        first | exact c_7 h.1 | exact c_18 h.2.1 | exact c_28 h.2.2
      exact ⟨by rw [sr_begin, if_neg hv], rfl⟩)
  · skip
    refine cb_iload_n (pc := 10) O dX10_begin_10 rfl ?_
    refine cb_iconst (pc := 11) (v := 0) O dX10_begin_11 (by decide) ?_
    refine cb_sipush (pc := 12) (v := 999) O dX10_begin_12 (by decide) ?_
    refine cb_cSp (pc := 15) O (c_X10_within _ _ _ _) my_X10_within mt_X10_within ml_X10_81 dX10_begin_15 rfl rfl ⟨(Nat.le_of_ble_eq_true rfl), (Nat.le_of_ble_eq_true rfl)⟩ (Nat.le_of_ble_eq_true rfl) rfl ⟨(Nat.le_of_ble_eq_true rfl), (Nat.le_of_ble_eq_true rfl)⟩ ?_
    refine cb_ifp_eq (pc := 18) O 31 dX10_begin_18 (by decide) (fun c_18 => ?_) (fun c_18 => ?_)
    · skip
      refine cb_iconst (pc := 31) (v := (-1)) O dX10_begin_31 (by decide) ?_
      exact cb_iret (pc := 32) O Rt rfl (Nat.le_of_ble_eq_true rfl) (Nat.le_of_ble_eq_true rfl) dX10_begin_32 (by
        have hv : ¬ sv_begin n s w9 := by
          intro h
          first | exact c_7 h.1 | exact c_18 h.2.1 | exact c_28 h.2.2
        exact ⟨by rw [sr_begin, if_neg hv], rfl⟩)
    · skip
      refine cb_iload_n (pc := 21) O dX10_begin_21 rfl ?_
      refine cb_iconst (pc := 22) (v := 1) O dX10_begin_22 (by decide) ?_
      refine cb_bipush (pc := 23) (v := 100) O dX10_begin_23 (by decide) ?_
      refine cb_cSp (pc := 25) O (c_X10_within _ _ _ _) my_X10_within mt_X10_within ml_X10_81 dX10_begin_25 rfl rfl ⟨(Nat.le_of_ble_eq_true rfl), (Nat.le_of_ble_eq_true rfl)⟩ (Nat.le_of_ble_eq_true rfl) rfl ⟨(Nat.le_of_ble_eq_true rfl), (Nat.le_of_ble_eq_true rfl)⟩ ?_
      refine cb_ifp_ne (pc := 28) O 33 dX10_begin_28 (by decide) (fun c_28 => ?_) (fun c_28 => ?_)
      · skip
        have hv : sv_begin n s w9 := ⟨c_7, c_18, c_28⟩
        obtain ⟨n9, hn9, rfl⟩ := ci_in (n := 20) c_7 rfl
        obtain ⟨s, hs9, rfl⟩ := ci_in (n := 999) c_18 rfl
        obtain ⟨v, hv1, hv9, rfl⟩ := ci_in1 (n := 100) c_28 rfl
        have hk0 : 0 < 1000 - s := by omega
        have hk1 : 1000 - s ≤ 1000 := by omega
        refine cb_iload_n (pc := 33) O dX10_begin_33 rfl ?_
        refine cb_istore (pc := 34) O dX10_begin_34 (by decide) ?_
        dsimp only [List.set]
        refine cb_sipush (pc := 36) (v := 1000) O dX10_begin_36 (by decide) ?_
        refine cb_iload_n (pc := 39) O dX10_begin_39 rfl ?_
        refine cb_isub (pc := 40) O dX10_begin_40 ?_
        refine cb_topv _ (ci_ks hs9) ?_
        refine cb_istore (pc := 41) O dX10_begin_41 (by decide) ?_
        dsimp only [List.set]
        refine cb_iconst (pc := 43) (v := 0) O dX10_begin_43 (by decide) ?_
        refine cb_istore (pc := 44) O dX10_begin_44 (by decide) ?_
        dsimp only [List.set]
        have L_46 : ∀ (n : Nat) (i : Nat), i ≤ n9 → cu_un (1000 - s) v i ≤ 100001000 → n9 + 1 ≤ i + n → cb_X κ w 0 0 46 [some (.inr (some 0)), some (.inl (nI n9)), some (.inl (nI s)), some (.inl (nI v)), some (.inl (nI (cu_un (1000 - s) v i))), some (.inl (nI (1000 - s))), some (.inl (nI i))] [] := by
          intro n
          induction n with
          | zero =>
            intro i hi hb hn
            exact absurd hn (by omega)
          | succ n ih_46 =>
            intro i hi hb hn
            refine cb_iload (pc := 46) O dX10_begin_46 rfl ?_
            refine cb_iload_n (pc := 48) O dX10_begin_48 rfl ?_
            refine cb_icmp_ge (pc := 49) O 82 dX10_begin_49 (by decide) (fun c_49 => ?_) (fun c_49 => ?_)
            · skip
              have e : i = n9 := by
                have := ci_ge c_49 (by omega) (by omega)
                omega
              subst e
              refine cb_iload (pc := 82) O dX10_begin_82 rfl ?_
              refine cb_ldcw (pc := 84) O dX10_begin_84 kc_X10_297 ?_
              refine cb_icmp_gt (pc := 87) O 95 dX10_begin_87 (by decide) (fun c_87 => ?_) (fun c_87 => ?_)
              · skip
                rw [show (100000 : Int32) = nI 100000 from rfl, nI_ltI (by omega) (by omega)] at c_87
                refine cb_bipush (pc := 95) (v := (-4)) O dX10_begin_95 (by decide) ?_
                exact cb_iret (pc := 97) O Rt rfl (Nat.le_of_ble_eq_true rfl) (Nat.le_of_ble_eq_true rfl) dX10_begin_97 (by
                  refine ⟨?_, rfl⟩
                  rw [sr_begin, if_pos hv, ci_nz (by omega), ci_nz (by omega), ci_nz (by omega)]
                  first
                  | (exfalso; omega)
                  | (have hmm := cu_mono (w := v) hk0 hk1 i (n9 - i)
                     rw [show i + (n9 - i) = n9 by omega] at hmm
                     rw [if_neg (by omega)])
                  | (rw [if_neg (by omega)])
                  | (rw [if_pos (by omega)])
                  | (exfalso; omega))
              · skip
                rw [show (100000 : Int32) = nI 100000 from rfl, nI_ltI (by omega) (by omega)] at c_87
                refine cb_iload (pc := 90) O dX10_begin_90 rfl ?_
                refine cb_goto (pc := 92) O 97 dX10_begin_92 (by decide) ?_
                exact cb_iret (pc := 97) O Rt rfl (Nat.le_of_ble_eq_true rfl) (Nat.le_of_ble_eq_true rfl) dX10_begin_97 (by
                  refine ⟨?_, rfl⟩
                  rw [sr_begin, if_pos hv, ci_nz (by omega), ci_nz (by omega), ci_nz (by omega)]
                  first
                  | (exfalso; omega)
                  | (have hmm := cu_mono (w := v) hk0 hk1 i (n9 - i)
                     rw [show i + (n9 - i) = n9 by omega] at hmm
                     rw [if_neg (by omega)])
                  | (rw [if_neg (by omega)])
                  | (rw [if_pos (by omega)])
                  | (exfalso; omega))
            · skip
              have hlt : i < n9 := ci_nge c_49 (by omega) (by omega)
              refine cb_iload (pc := 52) O dX10_begin_52 rfl ?_
              refine cb_ldcw (pc := 54) O dX10_begin_54 kc_X10_297 ?_
              refine cb_icmp_gt (pc := 57) O 82 dX10_begin_57 (by decide) (fun c_57 => ?_) (fun c_57 => ?_)
              · skip
                rw [show (100000 : Int32) = nI 100000 from rfl, nI_ltI (by omega) (by omega)] at c_57
                refine cb_iload (pc := 82) O dX10_begin_82 rfl ?_
                refine cb_ldcw (pc := 84) O dX10_begin_84 kc_X10_297 ?_
                refine cb_icmp_gt (pc := 87) O 95 dX10_begin_87 (by decide) (fun c_87 => ?_) (fun c_87 => ?_)
                · skip
                  rw [show (100000 : Int32) = nI 100000 from rfl, nI_ltI (by omega) (by omega)] at c_87
                  refine cb_bipush (pc := 95) (v := (-4)) O dX10_begin_95 (by decide) ?_
                  exact cb_iret (pc := 97) O Rt rfl (Nat.le_of_ble_eq_true rfl) (Nat.le_of_ble_eq_true rfl) dX10_begin_97 (by
                    refine ⟨?_, rfl⟩
                    rw [sr_begin, if_pos hv, ci_nz (by omega), ci_nz (by omega), ci_nz (by omega)]
                    first
                    | (exfalso; omega)
                    | (have hmm := cu_mono (w := v) hk0 hk1 i (n9 - i)
                       rw [show i + (n9 - i) = n9 by omega] at hmm
                       rw [if_neg (by omega)])
                    | (rw [if_neg (by omega)])
                    | (rw [if_pos (by omega)])
                    | (exfalso; omega))
                · skip
                  rw [show (100000 : Int32) = nI 100000 from rfl, nI_ltI (by omega) (by omega)] at c_87
                  refine cb_iload (pc := 90) O dX10_begin_90 rfl ?_
                  refine cb_goto (pc := 92) O 97 dX10_begin_92 (by decide) ?_
                  exact cb_iret (pc := 97) O Rt rfl (Nat.le_of_ble_eq_true rfl) (Nat.le_of_ble_eq_true rfl) dX10_begin_97 (by
                    refine ⟨?_, rfl⟩
                    rw [sr_begin, if_pos hv, ci_nz (by omega), ci_nz (by omega), ci_nz (by omega)]
                    first
                    | (exfalso; omega)
                    | (have hmm := cu_mono (w := v) hk0 hk1 i (n9 - i)
                       rw [show i + (n9 - i) = n9 by omega] at hmm
                       rw [if_neg (by omega)])
                    | (rw [if_neg (by omega)])
                    | (rw [if_pos (by omega)])
                    | (exfalso; omega))
              · skip
                rw [show (100000 : Int32) = nI 100000 from rfl, nI_ltI (by omega) (by omega)] at c_57
                refine cb_iload (pc := 60) O dX10_begin_60 rfl ?_
                refine cb_sipush (pc := 62) (v := 1000) O dX10_begin_62 (by decide) ?_
                refine cb_imul (pc := 65) O dX10_begin_65 ?_
                refine cb_iload (pc := 66) O dX10_begin_66 rfl ?_
                refine cb_iadd (pc := 68) O dX10_begin_68 ?_
                refine cb_iconst (pc := 69) (v := 1) O dX10_begin_69 (by decide) ?_
                refine cb_isub (pc := 70) O dX10_begin_70 ?_
                refine cb_iload (pc := 71) O dX10_begin_71 rfl ?_
                refine cb_idiv (pc := 73) O dX10_begin_73 (ci_nn0 hk0 hk1) ?_
                refine cb_topv (nI (cu_un (1000 - s) v (i + 1))) (ci_up (by omega) hk0 hk1) ?_
                refine cb_istore (pc := 74) O dX10_begin_74 (by decide) ?_
                dsimp only [List.set]
                refine cb_iinc (pc := 76) O (nI (i + 1)) dX10_begin_76 rfl (by decide) (ci_inc i) ?_
                dsimp only [List.set]
                refine cb_goto (pc := 79) O 46 dX10_begin_79 (by decide) ?_
                exact ih_46 (i + 1) (by omega) (cu_upb (by omega) hk1) (by omega)
        exact L_46 (n9 + 1) 0 (by omega) (by show v ≤ _; omega) (by omega)
      · skip
        refine cb_iconst (pc := 31) (v := (-1)) O dX10_begin_31 (by decide) ?_
        exact cb_iret (pc := 32) O Rt rfl (Nat.le_of_ble_eq_true rfl) (Nat.le_of_ble_eq_true rfl) dX10_begin_32 (by
          have hv : ¬ sv_begin n s w9 := by
            intro h
            first | exact c_7 h.1 | exact c_18 h.2.1 | exact c_28 h.2.2
          exact ⟨by rw [sr_begin, if_neg hv], rfl⟩)

theorem c_goodOf (w : cb_W) (m n9 s : Nat) (hm : m ≤ 100001) (hn9 : n9 ≤ 20) (hs9 : s ≤ 999) : cb_Pu yX11_goodOf cX11_goodOf 5 (some .int) 0 0 [.inl (nI m), .inl (nI n9), .inl (nI s)] w (nI (cu_gd (1000 - s) m n9)) := by
  have hk1 : 1000 - s ≤ 1000 := by omega
  refine cb_con (by decide) (Nat.le_of_ble_eq_true rfl) (fun κ O Rt hnm => ?_)
  show cb_X κ w 0 0 0 [some (.inl (nI m)), some (.inl (nI n9)), some (.inl (nI s)), none, none] []
  refine cb_iload_n (pc := 0) O dX11_goodOf_0 rfl ?_
  refine cb_istore_n (pc := 1) O dX11_goodOf_1 (by decide) ?_
  dsimp only [List.set]
  refine cb_iconst (pc := 2) (v := 0) O dX11_goodOf_2 (by decide) ?_
  refine cb_istore (pc := 3) O dX11_goodOf_3 (by decide) ?_
  dsimp only [List.set]
  have L_5 : ∀ (n : Nat) (i : Nat), i ≤ n9 → n9 + 1 ≤ i + n → cb_X κ w 0 0 5 [some (.inl (nI m)), some (.inl (nI n9)), some (.inl (nI s)), some (.inl (nI (cu_gd (1000 - s) m i))), some (.inl (nI i))] [] := by
    intro n
    induction n with
    | zero =>
      intro i hi hn
      exact absurd hn (by omega)
    | succ n ih_5 =>
      intro i hi hn
      refine cb_iload (pc := 5) O dX11_goodOf_5 rfl ?_
      refine cb_iload_n (pc := 7) O dX11_goodOf_7 rfl ?_
      refine cb_icmp_ge (pc := 8) O 29 dX11_goodOf_8 (by decide) (fun c_8 => ?_) (fun c_8 => ?_)
      · skip
        have e : i = n9 := by
          have := ci_ge c_8 (by omega) (by omega)
          omega
        subst e
        refine cb_iload_n (pc := 29) O dX11_goodOf_29 rfl ?_
        exact cb_iret (pc := 30) O Rt rfl (Nat.le_of_ble_eq_true rfl) (Nat.le_of_ble_eq_true rfl) dX11_goodOf_30 ⟨rfl, rfl⟩
      · skip
        have hlt : i < n9 := ci_nge c_8 (by omega) (by omega)
        have hg := cu_gdle (m := m) hk1 i
        refine cb_iload_n (pc := 11) O dX11_goodOf_11 rfl ?_
        refine cb_sipush (pc := 12) (v := 1000) O dX11_goodOf_12 (by decide) ?_
        refine cb_iload_n (pc := 15) O dX11_goodOf_15 rfl ?_
        refine cb_isub (pc := 16) O dX11_goodOf_16 ?_
        refine cb_topv _ (ci_ks hs9) ?_
        refine cb_imul (pc := 17) O dX11_goodOf_17 ?_
        refine cb_sipush (pc := 18) (v := 1000) O dX11_goodOf_18 (by decide) ?_
        refine cb_idiv (pc := 21) O dX11_goodOf_21 (by decide) ?_
        refine cb_topv (nI (cu_gd (1000 - s) m (i + 1))) (ci_dn (by omega) hk1) ?_
        refine cb_istore_n (pc := 22) O dX11_goodOf_22 (by decide) ?_
        dsimp only [List.set]
        refine cb_iinc (pc := 23) O (nI (i + 1)) dX11_goodOf_23 rfl (by decide) (ci_inc i) ?_
        dsimp only [List.set]
        refine cb_goto (pc := 26) O 5 dX11_goodOf_26 (by decide) ?_
        exact ih_5 (i + 1) (by omega) (by omega)
  exact L_5 (n9 + 1) 0 (by omega) (by omega)

theorem m_begin (w : cb_W) (n s w9 : Int32) : cb_Con yX11_begin cX11_begin 7 (some .int) 1 24 0 0 (fun _ => true) [.inr (some 1000), .inl n, .inl s, .inl w9] w (cb_pi (fun x w' => x = sr_begin n s w9 ∧ w' = w)) := by
  refine cb_con (by decide) (Nat.le_of_ble_eq_true rfl) (fun κ O Rt hnm => ?_)
  show cb_X κ w 0 0 0 [some (.inr (some 1000)), some (.inl n), some (.inl s), some (.inl w9), none, none, none] []
  refine cb_iload_n (pc := 0) O dX11_begin_0 rfl ?_
  refine cb_iconst (pc := 1) (v := 0) O dX11_begin_1 (by decide) ?_
  refine cb_bipush (pc := 2) (v := 20) O dX11_begin_2 (by decide) ?_
  refine cb_cSp (pc := 4) O (c_X11_within _ _ _ _) my_X11_within mt_X11_within ml_X11_90 dX11_begin_4 rfl rfl ⟨(Nat.le_of_ble_eq_true rfl), (Nat.le_of_ble_eq_true rfl)⟩ (Nat.le_of_ble_eq_true rfl) rfl ⟨(Nat.le_of_ble_eq_true rfl), (Nat.le_of_ble_eq_true rfl)⟩ ?_
  refine cb_ifp_eq (pc := 7) O 31 dX11_begin_7 (by decide) (fun c_7 => ?_) (fun c_7 => ?_)
  · skip
    refine cb_iconst (pc := 31) (v := (-1)) O dX11_begin_31 (by decide) ?_
    exact cb_iret (pc := 32) O Rt rfl (Nat.le_of_ble_eq_true rfl) (Nat.le_of_ble_eq_true rfl) dX11_begin_32 (by
      have hv : ¬ sv_begin n s w9 := by
        intro h
        first | exact c_7 h.1 | exact c_18 h.2.1 | exact c_28 h.2.2
      exact ⟨by rw [sr_begin, if_neg hv], rfl⟩)
  · skip
    refine cb_iload_n (pc := 10) O dX11_begin_10 rfl ?_
    refine cb_iconst (pc := 11) (v := 0) O dX11_begin_11 (by decide) ?_
    refine cb_sipush (pc := 12) (v := 999) O dX11_begin_12 (by decide) ?_
    refine cb_cSp (pc := 15) O (c_X11_within _ _ _ _) my_X11_within mt_X11_within ml_X11_90 dX11_begin_15 rfl rfl ⟨(Nat.le_of_ble_eq_true rfl), (Nat.le_of_ble_eq_true rfl)⟩ (Nat.le_of_ble_eq_true rfl) rfl ⟨(Nat.le_of_ble_eq_true rfl), (Nat.le_of_ble_eq_true rfl)⟩ ?_
    refine cb_ifp_eq (pc := 18) O 31 dX11_begin_18 (by decide) (fun c_18 => ?_) (fun c_18 => ?_)
    · skip
      refine cb_iconst (pc := 31) (v := (-1)) O dX11_begin_31 (by decide) ?_
      exact cb_iret (pc := 32) O Rt rfl (Nat.le_of_ble_eq_true rfl) (Nat.le_of_ble_eq_true rfl) dX11_begin_32 (by
        have hv : ¬ sv_begin n s w9 := by
          intro h
          first | exact c_7 h.1 | exact c_18 h.2.1 | exact c_28 h.2.2
        exact ⟨by rw [sr_begin, if_neg hv], rfl⟩)
    · skip
      refine cb_iload_n (pc := 21) O dX11_begin_21 rfl ?_
      refine cb_iconst (pc := 22) (v := 1) O dX11_begin_22 (by decide) ?_
      refine cb_bipush (pc := 23) (v := 100) O dX11_begin_23 (by decide) ?_
      refine cb_cSp (pc := 25) O (c_X11_within _ _ _ _) my_X11_within mt_X11_within ml_X11_90 dX11_begin_25 rfl rfl ⟨(Nat.le_of_ble_eq_true rfl), (Nat.le_of_ble_eq_true rfl)⟩ (Nat.le_of_ble_eq_true rfl) rfl ⟨(Nat.le_of_ble_eq_true rfl), (Nat.le_of_ble_eq_true rfl)⟩ ?_
      refine cb_ifp_ne (pc := 28) O 33 dX11_begin_28 (by decide) (fun c_28 => ?_) (fun c_28 => ?_)
      · skip
        have hv : sv_begin n s w9 := ⟨c_7, c_18, c_28⟩
        obtain ⟨n9, hn9, rfl⟩ := ci_in (n := 20) c_7 rfl
        obtain ⟨s, hs9, rfl⟩ := ci_in (n := 999) c_18 rfl
        obtain ⟨v, hv1, hv9, rfl⟩ := ci_in1 (n := 100) c_28 rfl
        have hk0 : 0 < 1000 - s := by omega
        have hk1 : 1000 - s ≤ 1000 := by omega
        refine cb_iconst (pc := 33) (v := 1) O dX11_begin_33 (by decide) ?_
        refine cb_istore (pc := 34) O dX11_begin_34 (by decide) ?_
        dsimp only [List.set]
        refine cb_ldc (pc := 36) O dX11_begin_36 kc_X11_213 ?_
        refine cb_istore (pc := 38) O dX11_begin_38 (by decide) ?_
        dsimp only [List.set]
        obtain ⟨U, hU⟩ : ∃ U, U = cu_un (1000 - s) v n9 := ⟨_, rfl⟩
        have hU1 : 1 ≤ U := by
          have hmm := cu_mono (w := v) hk0 hk1 0 n9
          rw [Nat.zero_add, ← hU] at hmm
          exact Nat.le_trans hv1 hmm
        have L_40 : ∀ (n : Nat) (a b : Nat) (x6 : Option cb_V), 1 ≤ a → a ≤ U → a ≤ 100001 → (U ≤ b ∨ b = 100001) → b ≤ 100001 → a ≤ b → b + 1 ≤ a + n → cb_X κ w 0 0 40 [some (.inr (some 1000)), some (.inl (nI n9)), some (.inl (nI s)), some (.inl (nI v)), some (.inl (nI a)), some (.inl (nI b)), x6] [] := by
          intro n
          induction n with
          | zero =>
            intro a b x6 h1 h2 h3 h4 h5 h6 hn
            exact absurd hn (by omega)
          | succ n ih_40 =>
            intro a b x6 h1 h2 h3 h4 h5 h6 hn
            refine cb_iload (pc := 40) O dX11_begin_40 rfl ?_
            refine cb_iload (pc := 42) O dX11_begin_42 rfl ?_
            refine cb_icmp_ge (pc := 44) O 83 dX11_begin_44 (by decide) (fun c_44 => ?_) (fun c_44 => ?_)
            · skip
              have e : a = b := by
                have := ci_ge c_44 (by omega) (by omega)
                omega
              subst e
              refine cb_iload (pc := 83) O dX11_begin_83 rfl ?_
              refine cb_ldc (pc := 85) O dX11_begin_85 kc_X11_218 ?_
              refine cb_icmp_le (pc := 87) O 95 dX11_begin_87 (by decide) (fun c_87 => ?_) (fun c_87 => ?_)
              · skip
                rw [show (100000 : Int32) = nI 100000 from rfl, nI_leI (by omega) (by omega)] at c_87
                refine cb_iload (pc := 95) O dX11_begin_95 rfl ?_
                exact cb_iret (pc := 97) O Rt rfl (Nat.le_of_ble_eq_true rfl) (Nat.le_of_ble_eq_true rfl) dX11_begin_97 (by
                  refine ⟨?_, rfl⟩
                  rw [sr_begin, if_pos hv, ci_nz (by omega), ci_nz (by omega), ci_nz (by omega)]
                  rw [← hU]
                  first
                  | (rw [if_neg (by omega)])
                  | (rw [if_pos (by omega)]; congr 1; omega))
              · skip
                rw [show (100000 : Int32) = nI 100000 from rfl, nI_leI (by omega) (by omega)] at c_87
                refine cb_bipush (pc := 90) (v := (-4)) O dX11_begin_90 (by decide) ?_
                refine cb_goto (pc := 92) O 97 dX11_begin_92 (by decide) ?_
                exact cb_iret (pc := 97) O Rt rfl (Nat.le_of_ble_eq_true rfl) (Nat.le_of_ble_eq_true rfl) dX11_begin_97 (by
                  refine ⟨?_, rfl⟩
                  rw [sr_begin, if_pos hv, ci_nz (by omega), ci_nz (by omega), ci_nz (by omega)]
                  rw [← hU]
                  first
                  | (rw [if_neg (by omega)])
                  | (rw [if_pos (by omega)]; congr 1; omega))
            · skip
              have hlt : a < b := ci_nge c_44 (by omega) (by omega)
              refine cb_iload (pc := 47) O dX11_begin_47 rfl ?_
              refine cb_iload (pc := 49) O dX11_begin_49 rfl ?_
              refine cb_iadd (pc := 51) O dX11_begin_51 ?_
              refine cb_iconst (pc := 52) (v := 2) O dX11_begin_52 (by decide) ?_
              refine cb_idiv (pc := 53) O dX11_begin_53 (by decide) ?_
              refine cb_topv _ (ci_half (by omega) (by omega)) ?_
              refine cb_istore (pc := 54) O dX11_begin_54 (by decide) ?_
              dsimp only [List.set]
              refine cb_iload (pc := 56) O dX11_begin_56 rfl ?_
              refine cb_iload_n (pc := 58) O dX11_begin_58 rfl ?_
              refine cb_iload_n (pc := 59) O dX11_begin_59 rfl ?_
              refine cb_cSp (pc := 60) O (c_goodOf w ((a + b) / 2) n9 s (by omega) (by omega) (by omega)) my_X11_goodOf mt_X11_goodOf ml_X11_214 dX11_begin_60 rfl rfl ⟨(Nat.le_of_ble_eq_true rfl), (Nat.le_of_ble_eq_true rfl)⟩ (Nat.le_of_ble_eq_true rfl) rfl ⟨(Nat.le_of_ble_eq_true rfl), (Nat.le_of_ble_eq_true rfl)⟩ ?_
              refine cb_iload_n (pc := 63) O dX11_begin_63 rfl ?_
              refine cb_icmp_lt (pc := 64) O 74 dX11_begin_64 (by decide) (fun c_64 => ?_) (fun c_64 => ?_)
              · skip
                rw [nI_ltI (by have := cu_gdle (m := (a + b) / 2) hk1 n9; omega) (by omega)] at c_64
                have hnu : ¬ U ≤ (a + b) / 2 := by
                  rw [hU, ← cu_both hk0]
                  omega
                refine cb_iload (pc := 74) O dX11_begin_74 rfl ?_
                refine cb_iconst (pc := 76) (v := 1) O dX11_begin_76 (by decide) ?_
                refine cb_iadd (pc := 77) O dX11_begin_77 ?_
                refine cb_topv _ (nI_1 _) ?_
                refine cb_istore (pc := 78) O dX11_begin_78 (by decide) ?_
                dsimp only [List.set]
                refine cb_goto (pc := 80) O 40 dX11_begin_80 (by decide) ?_
                first
                | exact ih_40 a ((a + b) / 2) _ (by omega) (by omega) (by omega) (by omega) (by omega) (by omega) (by omega)
                | exact ih_40 ((a + b) / 2 + 1) b _ (by omega) (by omega) (by omega) (by omega) (by omega) (by omega) (by omega)
              · skip
                rw [nI_ltI (by have := cu_gdle (m := (a + b) / 2) hk1 n9; omega) (by omega)] at c_64
                have hnu : U ≤ (a + b) / 2 := by
                  rw [hU, ← cu_both hk0]
                  omega
                refine cb_iload (pc := 67) O dX11_begin_67 rfl ?_
                refine cb_istore (pc := 69) O dX11_begin_69 (by decide) ?_
                dsimp only [List.set]
                refine cb_goto (pc := 71) O 80 dX11_begin_71 (by decide) ?_
                refine cb_goto (pc := 80) O 40 dX11_begin_80 (by decide) ?_
                first
                | exact ih_40 a ((a + b) / 2) _ (by omega) (by omega) (by omega) (by omega) (by omega) (by omega) (by omega)
                | exact ih_40 ((a + b) / 2 + 1) b _ (by omega) (by omega) (by omega) (by omega) (by omega) (by omega) (by omega)
        exact L_40 100002 1 100001 none (by omega) (by omega) (by omega) (by omega) (by omega) (by omega) (by omega)
      · skip
        refine cb_iconst (pc := 31) (v := (-1)) O dX11_begin_31 (by decide) ?_
        exact cb_iret (pc := 32) O Rt rfl (Nat.le_of_ble_eq_true rfl) (Nat.le_of_ble_eq_true rfl) dX11_begin_32 (by
          have hv : ¬ sv_begin n s w9 := by
            intro h
            first | exact c_7 h.1 | exact c_18 h.2.1 | exact c_28 h.2.2
          exact ⟨by rw [sr_begin, if_neg hv], rfl⟩)

theorem cu_skip {p : Nat → Bool} {m : Nat} : ∀ d, (∀ k, m ≤ k → k < m + d → p k = false) → fb_ct p (m + d) = fb_ct p m
  | 0, _ => rfl
  | d + 1, h => by
    rw [← Nat.add_assoc, fb_ct_succ, h (m + d) (by omega) (by omega), cu_skip d (fun k h1 h2 => h k h1 (by omega))]
    rfl
theorem cu_eqv {p : Nat → Bool} {m m' : Nat} (h : ∀ k, p k = true → (k < m ↔ k < m')) : fb_ct p m = fb_ct p m' := by
  have key : ∀ a b : Nat, a ≤ b → (∀ k, p k = true → (k < a ↔ k < b)) → fb_ct p b = fb_ct p a := fun a b hab h => by
    rw [show b = a + (b - a) by omega]
    refine cu_skip _ (fun k h1 h2 => ?_)
    cases e : p k
    · rfl
    · have := h k e; omega
  rcases Nat.le_total m m' with h1 | h1
  · exact (key m m' h1 h).symm
  · exact key m' m h1 (fun k hk => (h k hk).symm)
theorem cu_lt {p q : Nat → Bool} {n k : Nat} (h : ∀ i, i < n → p i = true → q i = true) (hk : k < n) (h1 : p k = false) (h2 : q k = true) : fb_ct p n < fb_ct q n := by
  have e := fb_ct_upd p true hk
  rw [h1] at e
  simp only [Bool.false_eq_true, if_false, if_true] at e
  have l : fb_ct (fun i => if i = k then true else p i) n ≤ fb_ct q n := fb_ct_sub (fun i hi hp => by
    by_cases e1 : i = k
    · rw [e1]; exact h2
    · simp only [e1, if_false] at hp; exact h i hi hp)
  omega
def cb_pz (w : cb_W) (r : Nat) (P : Nat → Bool) (m : Nat) (v : Int32) : cb_W := (w.1, fun q k => if q = r ∧ P k = true ∧ k < m then v else w.2.1 q k, w.2.2)
theorem cb_pzE (w : cb_W) (r : Nat) (P : Nat → Bool) (v : Int32) {m m' : Nat} (h : ∀ k, P k = true → (k < m ↔ k < m')) : cb_pz w r P m v = cb_pz w r P m' v := by
  refine cb_W.ext rfl (fun q k => ?_) rfl
  show (if q = r ∧ P k = true ∧ k < m then v else w.2.1 q k) = (if q = r ∧ P k = true ∧ k < m' then v else w.2.1 q k)
  refine ci_if ⟨fun e => ⟨e.1, e.2.1, (h k e.2.1).mp e.2.2⟩, fun e => ⟨e.1, e.2.1, (h k e.2.1).mpr e.2.2⟩⟩
theorem cb_pz0 (w : cb_W) (r : Nat) (P : Nat → Bool) (v : Int32) {m : Nat} (h : ∀ k, P k = true → m ≤ k) : cb_pz w r P m v = w := by
  refine cb_W.ext rfl (fun q k => ?_) rfl
  show (if q = r ∧ P k = true ∧ k < m then v else w.2.1 q k) = _
  rw [if_neg (fun e => by have := h k e.2.1; have := e.2.2; omega)]
theorem cb_pzN (w : cb_W) (r : Nat) (P : Nat → Bool) (v : Int32) {m : Nat} (h : ¬ P m = true) : cb_pz w r P m v = cb_pz w r P (m + 1) v :=
  cb_pzE w r P v (fun k hk => ⟨fun _ => by omega, fun _ => by
    rcases (show k < m ∨ k = m by omega) with h1 | h1
    · exact h1
    · subst h1; exact absurd hk h⟩)
theorem cb_pzS (w : cb_W) (r : Nat) (P : Nat → Bool) (v : Int32) {m : Nat} (h : P m = true) : cb_um (cb_pz w r P m v) r m v = cb_pz w r P (m + 1) v := by
  refine cb_W.ext rfl (fun q k => ?_) rfl
  show cb_u2 (cb_pz w r P m v).2.1 r m v q k = (if q = r ∧ P k = true ∧ k < m + 1 then v else w.2.1 q k)
  by_cases e : q = r ∧ k = m
  · obtain ⟨rfl, rfl⟩ := e
    rw [cb_u2s, if_pos ⟨rfl, h, by omega⟩]
  · rw [cb_u2n (by omega)]
    show (if q = r ∧ P k = true ∧ k < m then v else w.2.1 q k) = _
    refine ci_if ⟨fun e2 => ⟨e2.1, e2.2.1, by have := e2.2.2; omega⟩, fun e2 => ⟨e2.1, e2.2.1, by have := e2.1; have := e2.2.2; omega⟩⟩
theorem cm_I.pz {w : cb_W} {A : ca_A} {z : Int32} {k a : Nat} {P : Nat → Bool} {N : Nat} {v : Int32} (h : cm_I w A z) (hk : k ≠ 0) (hv : ∀ i, ca_R k i = true → v = ca_v k i a) : cm_I (cb_pz w (1000 + k) P N v) (fun q i => if q = k ∧ P i = true ∧ i < N then a else A q i) z := by
  obtain ⟨h1, h2, h3⟩ := h
  refine ⟨h1, fun k' i' hk' => ?_, ?_⟩
  · show (if 1000 + k' = 1000 + k ∧ P i' = true ∧ i' < N then v else w.2.1 (1000 + k') i') = ca_v k' i' (if k' = k ∧ P i' = true ∧ i' < N then a else A k' i')
    by_cases e : k' = k ∧ P i' = true ∧ i' < N
    · rw [if_pos ⟨by rw [e.1], e.2⟩, if_pos e]
      obtain ⟨rfl, -⟩ := e
      exact hv i' hk'
    · rw [if_neg (fun q => e ⟨by have := q.1; omega, q.2⟩), if_neg e]
      exact h2 k' i' hk'
  · show (if 1000 = 1000 + k ∧ P 7 = true ∧ 7 < N then v else w.2.1 1000 7) = z
    rw [if_neg (fun q => hk (by have := q.1; omega))]
    exact h3
theorem cb_C1.pz {w w' : cb_W} {r N : Nat} {P : Nat → Bool} {v : Int32} (h : cb_C1 w w') (hr : 1000 ≤ r) : cb_C1 w (cb_pz w' r P N v) := by
  refine ⟨h.1, h.2.1, fun q hq => ?_⟩
  funext k
  show (if q = r ∧ P k = true ∧ k < N then v else w'.2.1 q k) = _
  rw [if_neg (fun e => by have := e.1; omega)]
  rw [h.2.2 q hq]
theorem cb_M1.pz {w w' : cb_W} {r N : Nat} {P : Nat → Bool} {v : Int32} (h : cb_M1 w w') (hr : r < 1000) : cb_M1 w (cb_pz w' r P N v) := by
  refine fun q hq => ⟨(h q hq).1, ?_, (h q hq).2.2⟩
  funext k
  show (if q = r ∧ P k = true ∧ k < N then v else w'.2.1 q k) = _
  rw [if_neg (fun e => by have := e.1; omega)]
  rw [(h q hq).2.1]
theorem ci_m8 (i c : Nat) : (8 : Int32) * nI i + nI c = nI (8 * i + c) := by rw [show (8 : Int32) = nI 8 from rfl, pk_mul, nI_add]
theorem c_X11_takeCells (w : cb_W) (A : ca_A) (z : Int32) (hI : ca_I A) (hM : cm_I w A z) (x : Int32) : cb_Con yX11_takeCells cX11_takeCells 2 (some .boolean) 0 0 0 0 (fun _ => true) [.inr (some 1000), .inl x] w (cb_pi (fun y w' => y = (if sv_rect A x then 1 else 0) ∧ cm_I w' A z ∧ cb_C1 w w' ∧ (sv_rect A x → w'.2.1 1000 37 = nI (x.toInt.toNat / 512) ∧ w'.2.1 1000 38 = nI (x.toInt.toNat / 64 % 8) ∧ w'.2.1 1000 39 = nI (x.toInt.toNat / 8 % 8) ∧ w'.2.1 1000 40 = nI (x.toInt.toNat % 8)))) := by
  refine cb_con (by decide) (Nat.le_of_ble_eq_true rfl) (fun κ O Rt hnm => ?_)
  show cb_X κ w 0 0 0 [some (.inr (some 1000)), some (.inl x)] []
  refine cb_iload_n (pc := 0) O dX11_takeCells_0 rfl ?_
  refine cb_if_lt (pc := 1) O 11 dX11_takeCells_1 (by decide) (fun c_1 => ?_) (fun c_1 => ?_)
  · skip
    refine cb_iconst (pc := 11) (v := 0) O dX11_takeCells_11 (by decide) ?_
    exact cb_iret (pc := 12) O Rt rfl (Nat.le_of_ble_eq_true rfl) (Nat.le_of_ble_eq_true rfl) dX11_takeCells_12 (by
      have hv : ¬ sv_rect A x := by
        intro h
        have h1 := h.1
        have h2 := h.2
        have l := hI.1
        unfold ca_rv at h2
        first
        | (rw [ci_lt0] at c_1; omega)
        | (rw [ci_lt] at c_8; have e : (4096 : Int32).toInt = 4096 := rfl; rw [e] at c_8; omega)
      exact ⟨by rw [if_neg hv], hM, cb_C1.rfl', fun h => absurd h hv⟩)
  · skip
    refine cb_iload_n (pc := 4) O dX11_takeCells_4 rfl ?_
    refine cb_sipush (pc := 5) (v := 4096) O dX11_takeCells_5 (by decide) ?_
    refine cb_icmp_lt (pc := 8) O 13 dX11_takeCells_8 (by decide) (fun c_8 => ?_) (fun c_8 => ?_)
    · skip
      obtain ⟨j, hj, rfl⟩ : ∃ j : Nat, j < 4096 ∧ x = nI j := by
        rw [ci_lt] at c_8
        rw [ci_lt0] at c_1
        have e : (4096 : Int32).toInt = 4096 := rfl
        rw [e] at c_8
        exact ⟨x.toInt.toNat, by omega, by rw [ci_eq, ci_n (by omega)]; omega⟩
      have l := hI.1
      refine cb_aload_n (pc := 13) O dX11_takeCells_13 rfl ?_
      refine cb_iload_n (pc := 14) O dX11_takeCells_14 rfl ?_
      refine cb_sipush (pc := 15) (v := 512) O dX11_takeCells_15 (by decide) ?_
      refine cb_idiv (pc := 18) O dX11_takeCells_18 (by decide) ?_
      refine cb_topv _ (ci_dl 512 rfl (by omega) (by decide) (by decide)) ?_
      refine cb_putIc (pc := 19) O fl_X11_120 (Or.inl rfl) rfl rfl dX11_takeCells_19 rfl rfl (hM.1.1 _ rfl) ?_
      refine cb_aload_n (pc := 22) O dX11_takeCells_22 rfl ?_
      refine cb_iload_n (pc := 23) O dX11_takeCells_23 rfl ?_
      refine cb_bipush (pc := 24) (v := 64) O dX11_takeCells_24 (by decide) ?_
      refine cb_idiv (pc := 26) O dX11_takeCells_26 (by decide) ?_
      refine cb_topv _ (ci_dl 64 rfl (by omega) (by decide) (by decide)) ?_
      refine cb_bipush (pc := 27) (v := 8) O dX11_takeCells_27 (by decide) ?_
      refine cb_irem (pc := 29) O dX11_takeCells_29 (by decide) ?_
      refine cb_topv _ (ci_r8 (by omega)) ?_
      refine cb_putIc (pc := 30) O fl_X11_123 (Or.inl rfl) rfl rfl dX11_takeCells_30 rfl rfl (hM.1.1 _ rfl) ?_
      refine cb_aload_n (pc := 33) O dX11_takeCells_33 rfl ?_
      refine cb_iload_n (pc := 34) O dX11_takeCells_34 rfl ?_
      refine cb_bipush (pc := 35) (v := 8) O dX11_takeCells_35 (by decide) ?_
      refine cb_idiv (pc := 37) O dX11_takeCells_37 (by decide) ?_
      refine cb_topv _ (ci_d8 (by omega)) ?_
      refine cb_bipush (pc := 38) (v := 8) O dX11_takeCells_38 (by decide) ?_
      refine cb_irem (pc := 40) O dX11_takeCells_40 (by decide) ?_
      refine cb_topv _ (ci_r8 (by omega)) ?_
      refine cb_putIc (pc := 41) O fl_X11_126 (Or.inl rfl) rfl rfl dX11_takeCells_41 rfl rfl (hM.1.1 _ rfl) ?_
      refine cb_aload_n (pc := 44) O dX11_takeCells_44 rfl ?_
      refine cb_iload_n (pc := 45) O dX11_takeCells_45 rfl ?_
      refine cb_bipush (pc := 46) (v := 8) O dX11_takeCells_46 (by decide) ?_
      refine cb_irem (pc := 48) O dX11_takeCells_48 (by decide) ?_
      refine cb_topv _ (ci_r8 (by omega)) ?_
      refine cb_putIc (pc := 49) O fl_X11_129 (Or.inl rfl) rfl rfl dX11_takeCells_49 rfl rfl (hM.1.1 _ rfl) ?_
      refine cb_aload_n (pc := 52) O dX11_takeCells_52 rfl ?_
      refine cb_getI (pc := 53) O fl_X11_120 rfl rfl dX11_takeCells_53 (hM.1.1 _ rfl) ?_
      refine cb_topv (nI (j / 512)) rfl ?_
      refine cb_aload_n (pc := 56) O dX11_takeCells_56 rfl ?_
      refine cb_getI (pc := 57) O fl_X11_123 rfl rfl dX11_takeCells_57 (hM.1.1 _ rfl) ?_
      refine cb_topv (nI (j / 64 % 8)) rfl ?_
      refine cb_icmp_gt (pc := 60) O 100 dX11_takeCells_60 (by decide) (fun c_60 => ?_) (fun c_60 => ?_)
      · skip
        rw [nI_ltI (by omega) (by omega)] at c_60
        refine cb_iconst (pc := 100) (v := 0) O dX11_takeCells_100 (by decide) ?_
        exact cb_iret (pc := 101) O Rt rfl (Nat.le_of_ble_eq_true rfl) (Nat.le_of_ble_eq_true rfl) dX11_takeCells_101 (by
          have l := hI.1
          have hsv : sv_rect A (nI j) ↔ ca_rv A j := by
            unfold sv_rect
            rw [ci_tn (by omega), ci_n (by omega)]
            exact ⟨fun h => h.2, fun h => ⟨by omega, h⟩⟩
          refine ⟨?_, (((hM.sc (k := 0) (i := 37) (by omega) _ rfl).sc (k := 0) (i := 38) (by omega) _ rfl).sc (k := 0) (i := 39) (by omega) _ rfl).sc (k := 0) (i := 40) (by omega) _ rfl, (((cb_C1.rfl'.um (by omega)).um (by omega)).um (by omega)).um (by omega), fun _ => ?_⟩
          · rw [ci_if hsv]
            unfold ca_rv
            split <;> first | rfl | (exfalso; omega)
          · rw [ci_tn (by omega)]
            exact ⟨rfl, rfl, rfl, rfl⟩)
      · skip
        rw [nI_ltI (by omega) (by omega)] at c_60
        refine cb_aload_n (pc := 63) O dX11_takeCells_63 rfl ?_
        refine cb_getI (pc := 64) O fl_X11_123 rfl rfl dX11_takeCells_64 (hM.1.1 _ rfl) ?_
        refine cb_topv (nI (j / 64 % 8)) rfl ?_
        refine cb_aload_n (pc := 67) O dX11_takeCells_67 rfl ?_
        refine cb_getI (pc := 68) O fl_X11_94 rfl rfl dX11_takeCells_68 (hM.1.1 _ rfl) ?_
        refine cb_topv (nI (A 0 0)) (cm_at hM 0 0 rfl (by omega)) ?_
        refine cb_icmp_ge (pc := 71) O 100 dX11_takeCells_71 (by decide) (fun c_71 => ?_) (fun c_71 => ?_)
        · skip
          rw [nI_leI (by omega) (by omega)] at c_71
          refine cb_iconst (pc := 100) (v := 0) O dX11_takeCells_100 (by decide) ?_
          exact cb_iret (pc := 101) O Rt rfl (Nat.le_of_ble_eq_true rfl) (Nat.le_of_ble_eq_true rfl) dX11_takeCells_101 (by
            have l := hI.1
            have hsv : sv_rect A (nI j) ↔ ca_rv A j := by
              unfold sv_rect
              rw [ci_tn (by omega), ci_n (by omega)]
              exact ⟨fun h => h.2, fun h => ⟨by omega, h⟩⟩
            refine ⟨?_, (((hM.sc (k := 0) (i := 37) (by omega) _ rfl).sc (k := 0) (i := 38) (by omega) _ rfl).sc (k := 0) (i := 39) (by omega) _ rfl).sc (k := 0) (i := 40) (by omega) _ rfl, (((cb_C1.rfl'.um (by omega)).um (by omega)).um (by omega)).um (by omega), fun _ => ?_⟩
            · rw [ci_if hsv]
              unfold ca_rv
              split <;> first | rfl | (exfalso; omega)
            · rw [ci_tn (by omega)]
              exact ⟨rfl, rfl, rfl, rfl⟩)
        · skip
          rw [nI_leI (by omega) (by omega)] at c_71
          refine cb_aload_n (pc := 74) O dX11_takeCells_74 rfl ?_
          refine cb_getI (pc := 75) O fl_X11_126 rfl rfl dX11_takeCells_75 (hM.1.1 _ rfl) ?_
          refine cb_topv (nI (j / 8 % 8)) rfl ?_
          refine cb_aload_n (pc := 78) O dX11_takeCells_78 rfl ?_
          refine cb_getI (pc := 79) O fl_X11_129 rfl rfl dX11_takeCells_79 (hM.1.1 _ rfl) ?_
          refine cb_topv (nI (j % 8)) rfl ?_
          refine cb_icmp_gt (pc := 82) O 100 dX11_takeCells_82 (by decide) (fun c_82 => ?_) (fun c_82 => ?_)
          · skip
            rw [nI_ltI (by omega) (by omega)] at c_82
            refine cb_iconst (pc := 100) (v := 0) O dX11_takeCells_100 (by decide) ?_
            exact cb_iret (pc := 101) O Rt rfl (Nat.le_of_ble_eq_true rfl) (Nat.le_of_ble_eq_true rfl) dX11_takeCells_101 (by
              have l := hI.1
              have hsv : sv_rect A (nI j) ↔ ca_rv A j := by
                unfold sv_rect
                rw [ci_tn (by omega), ci_n (by omega)]
                exact ⟨fun h => h.2, fun h => ⟨by omega, h⟩⟩
              refine ⟨?_, (((hM.sc (k := 0) (i := 37) (by omega) _ rfl).sc (k := 0) (i := 38) (by omega) _ rfl).sc (k := 0) (i := 39) (by omega) _ rfl).sc (k := 0) (i := 40) (by omega) _ rfl, (((cb_C1.rfl'.um (by omega)).um (by omega)).um (by omega)).um (by omega), fun _ => ?_⟩
              · rw [ci_if hsv]
                unfold ca_rv
                split <;> first | rfl | (exfalso; omega)
              · rw [ci_tn (by omega)]
                exact ⟨rfl, rfl, rfl, rfl⟩)
          · skip
            rw [nI_ltI (by omega) (by omega)] at c_82
            refine cb_aload_n (pc := 85) O dX11_takeCells_85 rfl ?_
            refine cb_getI (pc := 86) O fl_X11_129 rfl rfl dX11_takeCells_86 (hM.1.1 _ rfl) ?_
            refine cb_topv (nI (j % 8)) rfl ?_
            refine cb_aload_n (pc := 89) O dX11_takeCells_89 rfl ?_
            refine cb_getI (pc := 90) O fl_X11_97 rfl rfl dX11_takeCells_90 (hM.1.1 _ rfl) ?_
            refine cb_topv (nI (A 0 1)) (cm_at hM 0 1 rfl (by omega)) ?_
            refine cb_icmp_ge (pc := 93) O 100 dX11_takeCells_93 (by decide) (fun c_93 => ?_) (fun c_93 => ?_)
            · skip
              rw [nI_leI (by omega) (by omega)] at c_93
              refine cb_iconst (pc := 100) (v := 0) O dX11_takeCells_100 (by decide) ?_
              exact cb_iret (pc := 101) O Rt rfl (Nat.le_of_ble_eq_true rfl) (Nat.le_of_ble_eq_true rfl) dX11_takeCells_101 (by
                have l := hI.1
                have hsv : sv_rect A (nI j) ↔ ca_rv A j := by
                  unfold sv_rect
                  rw [ci_tn (by omega), ci_n (by omega)]
                  exact ⟨fun h => h.2, fun h => ⟨by omega, h⟩⟩
                refine ⟨?_, (((hM.sc (k := 0) (i := 37) (by omega) _ rfl).sc (k := 0) (i := 38) (by omega) _ rfl).sc (k := 0) (i := 39) (by omega) _ rfl).sc (k := 0) (i := 40) (by omega) _ rfl, (((cb_C1.rfl'.um (by omega)).um (by omega)).um (by omega)).um (by omega), fun _ => ?_⟩
                · rw [ci_if hsv]
                  unfold ca_rv
                  split <;> first | rfl | (exfalso; omega)
                · rw [ci_tn (by omega)]
                  exact ⟨rfl, rfl, rfl, rfl⟩)
            · skip
              rw [nI_leI (by omega) (by omega)] at c_93
              refine cb_iconst (pc := 96) (v := 1) O dX11_takeCells_96 (by decide) ?_
              refine cb_goto (pc := 97) O 101 dX11_takeCells_97 (by decide) ?_
              exact cb_iret (pc := 101) O Rt rfl (Nat.le_of_ble_eq_true rfl) (Nat.le_of_ble_eq_true rfl) dX11_takeCells_101 (by
                have l := hI.1
                have hsv : sv_rect A (nI j) ↔ ca_rv A j := by
                  unfold sv_rect
                  rw [ci_tn (by omega), ci_n (by omega)]
                  exact ⟨fun h => h.2, fun h => ⟨by omega, h⟩⟩
                refine ⟨?_, (((hM.sc (k := 0) (i := 37) (by omega) _ rfl).sc (k := 0) (i := 38) (by omega) _ rfl).sc (k := 0) (i := 39) (by omega) _ rfl).sc (k := 0) (i := 40) (by omega) _ rfl, (((cb_C1.rfl'.um (by omega)).um (by omega)).um (by omega)).um (by omega), fun _ => ?_⟩
                · rw [ci_if hsv]
                  unfold ca_rv
                  split <;> first | rfl | (exfalso; omega)
                · rw [ci_tn (by omega)]
                  exact ⟨rfl, rfl, rfl, rfl⟩)
    · skip
      refine cb_iconst (pc := 11) (v := 0) O dX11_takeCells_11 (by decide) ?_
      exact cb_iret (pc := 12) O Rt rfl (Nat.le_of_ble_eq_true rfl) (Nat.le_of_ble_eq_true rfl) dX11_takeCells_12 (by
        have hv : ¬ sv_rect A x := by
          intro h
          have h1 := h.1
          have h2 := h.2
          have l := hI.1
          unfold ca_rv at h2
          first
          | (rw [ci_lt0] at c_1; omega)
          | (rw [ci_lt] at c_8; have e : (4096 : Int32).toInt = 4096 := rfl; rw [e] at c_8; omega)
        exact ⟨by rw [if_neg hv], hM, cb_C1.rfl', fun h => absurd h hv⟩)

theorem m_cut (w : cb_W) (A : ca_A) (z : Int32) (hI : ca_I A) (hM : cm_I w A z) (x : Int32) : cb_Con yX11_cut cX11_cut 6 (some .int) 1 21 0 0 (fun _ => true) [.inr (some 1000), .inl x] w (cb_pi (fun y w' => y = sr_cut A x ∧ cm_I w' (sA_cut A x) z ∧ cb_C1 w w')) := by
  refine cb_con (by decide) (Nat.le_of_ble_eq_true rfl) (fun κ O Rt hnm => ?_)
  show cb_X κ w 0 0 0 [some (.inr (some 1000)), some (.inl x), none, none, none, none] []
  refine cb_aload_n (pc := 0) O dX11_cut_0 rfl ?_
  refine cb_iload_n (pc := 1) O dX11_cut_1 rfl ?_
  refine cb_cVi (pc := 2) O (c_X11_takeCells w A z hI hM x) my_X11_takeCells mi_X11_takeCells mx_X11_takeCells ml_X11_132 dX11_cut_2 rfl ct_11 rfl rfl rfl ⟨(Nat.le_of_ble_eq_true rfl), (Nat.le_of_ble_eq_true rfl)⟩ (Nat.le_of_ble_eq_true rfl) rfl ⟨(Nat.le_of_ble_eq_true rfl), (Nat.le_of_ble_eq_true rfl)⟩ (fun _ _ => rfl) (hM.1.1 _ rfl) (fun x_2 w_2 hp_2 => ?_)
  obtain ⟨ey, hM2, hC2, hF⟩ := hp_2
  subst ey
  refine cb_ifp_ne (pc := 5) O 10 dX11_cut_5 (by decide) (fun c_5 => ?_) (fun c_5 => ?_)
  · skip
    have hbx := fb_rng x
    obtain ⟨j, hj, e⟩ : ∃ j : Nat, j < 2147483648 ∧ x = nI j := ⟨x.toInt.toNat, by omega, by rw [ci_eq, ci_n (by have := c_5.1; omega)]; have := c_5.1; omega⟩
    subst e
    obtain ⟨f0, f1, f2, f3⟩ := hF c_5
    rw [ci_tn hj] at f0 f1 f2 f3
    have hrv : ca_rv A j := by
      have := c_5.2
      rw [ci_tn hj] at this
      exact this
    have l := hI.1
    obtain ⟨r1, r2, r3, r4⟩ := id hrv
    obtain ⟨a, ea⟩ : ∃ a, a = j / 512 := ⟨_, rfl⟩
    obtain ⟨b, eb⟩ : ∃ b, b = j / 64 % 8 := ⟨_, rfl⟩
    obtain ⟨c, ec⟩ : ∃ c, c = j / 8 % 8 := ⟨_, rfl⟩
    obtain ⟨d, ed⟩ : ∃ d, d = j % 8 := ⟨_, rfl⟩
    rw [← ea] at f0 r1
    rw [← eb] at f1 r1 r2
    rw [← ec] at f2 r3
    rw [← ed] at f3 r3 r4
    have hin : ∀ k, ca_in j k ↔ (a ≤ k / 8 ∧ k / 8 ≤ b) ∧ (c ≤ k % 8 ∧ k % 8 ≤ d) := fun k => by
      unfold ca_in
      rw [ea, eb, ec, ed]
    refine cb_iconst (pc := 10) (v := 0) O dX11_cut_10 (by decide) ?_
    refine cb_istore_n (pc := 11) O dX11_cut_11 (by decide) ?_
    dsimp only [List.set]
    refine cb_aload_n (pc := 12) O dX11_cut_12 rfl ?_
    refine cb_getI (pc := 13) O fl_X11_120 rfl rfl dX11_cut_13 (hM2.1.1 _ rfl) ?_
    refine cb_topv (nI a) f0 ?_
    refine cb_istore_n (pc := 16) O dX11_cut_16 (by decide) ?_
    dsimp only [List.set]
    have L_17 : ∀ (n : Nat) (r : Nat) (x4 x5 : Option cb_V), a ≤ r → r ≤ b + 1 → (∀ k, k < 8 * r + c → ca_in j k → A 10 k = 0 → A 12 (A 11 k) = 0) → b + 2 ≤ r + n → cb_X κ w_2 0 0 17 [some (.inr (some 1000)), some (.inl (nI j)), some (.inl (nI (fb_ct (ca_cs A j) (8 * r + c)))), some (.inl (nI r)), x4, x5] [] := by
      intro n
      induction n with
      | zero =>
        intro r x4 x5 hr1 hr2 ha hn
        exact absurd hn (by omega)
      | succ n ih_17 =>
        intro r x4 x5 hr1 hr2 ha hn
        refine cb_iload_n (pc := 17) O dX11_cut_17 rfl ?_
        refine cb_aload_n (pc := 18) O dX11_cut_18 rfl ?_
        refine cb_getI (pc := 19) O fl_X11_123 rfl rfl dX11_cut_19 (hM2.1.1 _ rfl) ?_
        refine cb_topv (nI b) f1 ?_
        refine cb_icmp_gt (pc := 22) O 107 dX11_cut_22 (by decide) (fun c_22 => ?_) (fun c_22 => ?_)
        · skip
          rw [nI_ltI (by omega) (by omega)] at c_22
          have er : r = b + 1 := by omega
          subst er
          refine cb_aload_n (pc := 107) O dX11_cut_107 rfl ?_
          refine cb_getI (pc := 108) O fl_X11_120 rfl rfl dX11_cut_108 (hM2.1.1 _ rfl) ?_
          refine cb_topv (nI a) f0 ?_
          refine cb_istore_n (pc := 111) O dX11_cut_111 (by decide) ?_
          dsimp only [List.set]
          rw [cu_eqv (p := ca_cs A j) (m := 8 * (b + 1) + c) (m' := 64) (fun k hk => by
            have h9 := (hin k).mp (of_decide_eq_true hk).1
            omega)]
          have hbd : ca_bd A j := fun k hk h h2 => ha k (by have := (hin k).mp h; omega) h h2
          rw [← cb_pz0 w_2 1010 (fun k => decide (ca_in j k)) 1 (m := 8 * a + c) (fun k hk => by
            have h9 := (hin k).mp (of_decide_eq_true hk)
            omega)]
          have L_112 : ∀ (n : Nat) (r : Nat) (x4 x5 : Option cb_V), a ≤ r → r ≤ b + 1 → b + 2 ≤ r + n → cb_X κ (cb_pz w_2 1010 (fun k => decide (ca_in j k)) (8 * r + c) 1) 0 0 112 [some (.inr (some 1000)), some (.inl (nI j)), some (.inl (nI (fb_ct (ca_cs A j) 64))), some (.inl (nI r)), x4, x5] [] := by
            intro n
            induction n with
            | zero =>
              intro r x4 x5 hr1 hr2 hn
              exact absurd hn (by omega)
            | succ n ih_112 =>
              intro r x4 x5 hr1 hr2 hn
              refine cb_iload_n (pc := 112) O dX11_cut_112 rfl ?_
              refine cb_aload_n (pc := 113) O dX11_cut_113 rfl ?_
              refine cb_getI (pc := 114) O fl_X11_123 rfl rfl dX11_cut_114 (hM2.1.1 _ rfl) ?_
              refine cb_topv (nI b) f1 ?_
              refine cb_icmp_gt (pc := 117) O 160 dX11_cut_117 (by decide) (fun c_117 => ?_) (fun c_117 => ?_)
              · skip
                rw [nI_ltI (by omega) (by omega)] at c_117
                have er : r = b + 1 := by omega
                subst er
                refine cb_iload_n (pc := 160) O dX11_cut_160 rfl ?_
                exact cb_iret (pc := 161) O Rt rfl (Nat.le_of_ble_eq_true rfl) (Nat.le_of_ble_eq_true rfl) dX11_cut_161 (by
                  refine ⟨by rw [sr_cut, if_pos c_5, ci_tn hj, if_pos hbd], ?_, hC2.pz (by omega)⟩
                  rw [sA_cut, if_pos ⟨c_5, by rw [ci_tn hj]; exact hbd⟩, ci_tn hj]
                  have h9 := hM2.pz (k := 10) (a := 1) (P := fun k => decide (ca_in j k)) (N := 8 * (b + 1) + c) (v := 1) (by decide) (fun i _ => rfl)
                  rw [show ca_ct A j = (fun q i => if q = 10 ∧ decide (ca_in j i) = true ∧ i < 8 * (b + 1) + c then 1 else A q i) from by
                    funext q i
                    refine ci_if ⟨fun h => ⟨h.1, decide_eq_true h.2, by have := (hin i).mp h.2; omega⟩, fun h => ⟨h.1, of_decide_eq_true h.2.1⟩⟩]
                  exact h9)
              · skip
                rw [nI_ltI (by omega) (by omega)] at c_117
                refine cb_aload_n (pc := 120) O dX11_cut_120 rfl ?_
                refine cb_getI (pc := 121) O fl_X11_126 rfl rfl dX11_cut_121 (hM2.1.1 _ rfl) ?_
                refine cb_topv (nI c) f2 ?_
                refine cb_istore (pc := 124) O dX11_cut_124 (by decide) ?_
                dsimp only [List.set]
                have L_126 : ∀ (n : Nat) (q : Nat), c ≤ q → q ≤ d + 1 → d + 2 ≤ q + n → cb_X κ (cb_pz w_2 1010 (fun k => decide (ca_in j k)) (8 * r + q) 1) 0 0 126 [some (.inr (some 1000)), some (.inl (nI j)), some (.inl (nI (fb_ct (ca_cs A j) 64))), some (.inl (nI r)), some (.inl (nI q)), x5] [] := by
                  intro n
                  induction n with
                  | zero =>
                    intro q hq1 hq2 hn
                    exact absurd hn (by omega)
                  | succ n ih_126 =>
                    intro q hq1 hq2 hn
                    refine cb_iload (pc := 126) O dX11_cut_126 rfl ?_
                    refine cb_aload_n (pc := 128) O dX11_cut_128 rfl ?_
                    refine cb_getI (pc := 129) O fl_X11_129 rfl rfl dX11_cut_129 (hM2.1.1 _ rfl) ?_
                    refine cb_topv (nI d) f3 ?_
                    refine cb_icmp_gt (pc := 132) O 154 dX11_cut_132 (by decide) (fun c_132 => ?_) (fun c_132 => ?_)
                    · skip
                      rw [nI_ltI (by omega) (by omega)] at c_132
                      have eq : q = d + 1 := by omega
                      subst eq
                      refine cb_iinc (pc := 154) O (nI (r + 1)) dX11_cut_154 rfl (by decide) (ci_inc r) ?_
                      dsimp only [List.set]
                      refine cb_goto (pc := 157) O 112 dX11_cut_157 (by decide) ?_
                      rw [cb_pzE w_2 1010 _ 1 (m := 8 * r + (d + 1)) (m' := 8 * (r + 1) + c) (fun k hk => by
                        have h9 := (hin k).mp (of_decide_eq_true hk)
                        omega)]
                      exact ih_112 (r + 1) _ _ (by omega) (by omega) (by omega)
                    · skip
                      rw [nI_ltI (by omega) (by omega)] at c_132
                      have hk64 : 8 * r + q < 64 := by omega
                      have hik : ca_in j (8 * r + q) := (hin _).mpr (by omega)
                      refine cb_aload_n (pc := 135) O dX11_cut_135 rfl ?_
                      refine cb_getR (pc := 136) O fl_X11_23 rfl rfl dX11_cut_136 (hM2.1.1 _ rfl) (hM2.1.2 _ _ _ rfl) ?_
                      refine cb_bipush (pc := 139) (v := 8) O dX11_cut_139 (by decide) ?_
                      refine cb_iload_n (pc := 141) O dX11_cut_141 rfl ?_
                      refine cb_imul (pc := 142) O dX11_cut_142 ?_
                      refine cb_iload (pc := 143) O dX11_cut_143 rfl ?_
                      refine cb_iadd (pc := 145) O dX11_cut_145 ?_
                      refine cb_topv _ (ci_m8 r q) ?_
                      refine cb_iconst (pc := 146) (v := 1) O dX11_cut_146 (by decide) ?_
                      refine cb_zast (pc := 147) O (8 * r + q) rfl dX11_cut_147 (by decide) (hM2.1.1 _ rfl) rfl (by omega) rfl ?_
                      refine cb_iinc (pc := 148) O (nI (q + 1)) dX11_cut_148 rfl (by decide) (ci_inc q) ?_
                      dsimp only [List.set]
                      refine cb_goto (pc := 151) O 126 dX11_cut_151 (by decide) ?_
                      rw [cb_pzS _ _ _ _ (decide_eq_true hik)]
                      exact ih_126 (q + 1) (by omega) (by omega) (by omega)
                exact L_126 (d + 2) c (by omega) (by omega) (by omega)
          exact L_112 (b + 2) a _ _ (by omega) (by omega) (by omega)
        · skip
          rw [nI_ltI (by omega) (by omega)] at c_22
          refine cb_aload_n (pc := 25) O dX11_cut_25 rfl ?_
          refine cb_getI (pc := 26) O fl_X11_126 rfl rfl dX11_cut_26 (hM2.1.1 _ rfl) ?_
          refine cb_topv (nI c) f2 ?_
          refine cb_istore (pc := 29) O dX11_cut_29 (by decide) ?_
          dsimp only [List.set]
          have L_31 : ∀ (n : Nat) (q : Nat) (x5 : Option cb_V), c ≤ q → q ≤ d + 1 → (∀ k, k < 8 * r + q → ca_in j k → A 10 k = 0 → A 12 (A 11 k) = 0) → d + 2 ≤ q + n → cb_X κ w_2 0 0 31 [some (.inr (some 1000)), some (.inl (nI j)), some (.inl (nI (fb_ct (ca_cs A j) (8 * r + q)))), some (.inl (nI r)), some (.inl (nI q)), x5] [] := by
            intro n
            induction n with
            | zero =>
              intro q x5 hq1 hq2 hb hn
              exact absurd hn (by omega)
            | succ n ih_31 =>
              intro q x5 hq1 hq2 hb hn
              refine cb_iload (pc := 31) O dX11_cut_31 rfl ?_
              refine cb_aload_n (pc := 33) O dX11_cut_33 rfl ?_
              refine cb_getI (pc := 34) O fl_X11_129 rfl rfl dX11_cut_34 (hM2.1.1 _ rfl) ?_
              refine cb_topv (nI d) f3 ?_
              refine cb_icmp_gt (pc := 37) O 101 dX11_cut_37 (by decide) (fun c_37 => ?_) (fun c_37 => ?_)
              · skip
                rw [nI_ltI (by omega) (by omega)] at c_37
                have eq : q = d + 1 := by omega
                subst eq
                refine cb_iinc (pc := 101) O (nI (r + 1)) dX11_cut_101 rfl (by decide) (ci_inc r) ?_
                dsimp only [List.set]
                refine cb_goto (pc := 104) O 17 dX11_cut_104 (by decide) ?_
                rw [cu_eqv (p := ca_cs A j) (m := 8 * r + (d + 1)) (m' := 8 * (r + 1) + c) (fun k hk => by
                  have h9 := (hin k).mp (of_decide_eq_true hk).1
                  omega)]
                exact ih_17 (r + 1) _ _ (by omega) (by omega) (fun k hk h => hb k (by have := (hin k).mp h; omega) h) (by omega)
              · skip
                rw [nI_ltI (by omega) (by omega)] at c_37
                have hk64 : 8 * r + q < 64 := by omega
                have hik : ca_in j (8 * r + q) := (hin _).mpr (by omega)
                have e10 : w_2.2.1 1010 (8 * r + q) = nI (A 10 (8 * r + q)) := cm_at hM2 10 _ (by simp [ca_R]; omega) (by omega)
                have l10 := hI.2.2.2.1.1 (8 * r + q)
                have e11 : w_2.2.1 1011 (8 * r + q) = nI (A 11 (8 * r + q)) := cm_at hM2 11 _ (by simp [ca_R]; omega) (by omega)
                have l11 := hI.2.2.2.1.2.1 (8 * r + q)
                have e12 : w_2.2.1 1012 (A 11 (8 * r + q)) = nI (A 12 (A 11 (8 * r + q))) := cm_at hM2 12 _ (by simp [ca_R]; omega) (by omega)
                have l12 := hI.2.2.2.1.2.2.2 (A 11 (8 * r + q))
                refine cb_bipush (pc := 40) (v := 8) O dX11_cut_40 (by decide) ?_
                refine cb_iload_n (pc := 42) O dX11_cut_42 rfl ?_
                refine cb_imul (pc := 43) O dX11_cut_43 ?_
                refine cb_iload (pc := 44) O dX11_cut_44 rfl ?_
                refine cb_iadd (pc := 46) O dX11_cut_46 ?_
                refine cb_topv _ (ci_m8 r q) ?_
                refine cb_istore (pc := 47) O dX11_cut_47 (by decide) ?_
                dsimp only [List.set]
                refine cb_aload_n (pc := 49) O dX11_cut_49 rfl ?_
                refine cb_getR (pc := 50) O fl_X11_23 rfl rfl dX11_cut_50 (hM2.1.1 _ rfl) (hM2.1.2 _ _ _ rfl) ?_
                refine cb_iload (pc := 53) O dX11_cut_53 rfl ?_
                refine cb_zald (pc := 55) O (8 * r + q) rfl dX11_cut_55 (by decide) (hM2.1.1 _ rfl) rfl (by omega) ?_
                refine cb_topv _ e10 ?_
                refine cb_if_ne (pc := 56) O 77 dX11_cut_56 (by decide) (fun c_56 => ?_) (fun c_56 => ?_)
                · skip
                  have hgood : A 10 (8 * r + q) = 0 → A 12 (A 11 (8 * r + q)) = 0 := fun e => absurd (by rw [e]; rfl) c_56
                  refine cb_iload_n (pc := 77) O dX11_cut_77 rfl ?_
                  refine cb_aload_n (pc := 78) O dX11_cut_78 rfl ?_
                  refine cb_getR (pc := 79) O fl_X11_23 rfl rfl dX11_cut_79 (hM2.1.1 _ rfl) (hM2.1.2 _ _ _ rfl) ?_
                  refine cb_iload (pc := 82) O dX11_cut_82 rfl ?_
                  refine cb_zald (pc := 84) O (8 * r + q) rfl dX11_cut_84 (by decide) (hM2.1.1 _ rfl) rfl (by omega) ?_
                  refine cb_topv _ e10 ?_
                  refine cb_if_eq (pc := 85) O 92 dX11_cut_85 (by decide) (fun c_85 => ?_) (fun c_85 => ?_)
                  · skip
                    refine cb_iconst (pc := 92) (v := 1) O dX11_cut_92 (by decide) ?_
                    refine cb_iadd (pc := 93) O dX11_cut_93 ?_
                    refine cb_topv (nI (fb_ct (ca_cs A j) (8 * r + (q + 1)))) (by
                      rw [← Nat.add_assoc, ca_csS, ← nI_add]
                      congr 1
                      rw [show (0 : Int32) = nI 0 from rfl, nI_eq (by omega) (by omega)] at c_85
                      first
                      | (rw [if_pos ⟨hik, c_85⟩]; rfl)
                      | (rw [if_neg (fun h => c_85 h.2)]; rfl)) ?_
                    refine cb_istore_n (pc := 94) O dX11_cut_94 (by decide) ?_
                    dsimp only [List.set]
                    refine cb_iinc (pc := 95) O (nI (q + 1)) dX11_cut_95 rfl (by decide) (ci_inc q) ?_
                    dsimp only [List.set]
                    refine cb_goto (pc := 98) O 31 dX11_cut_98 (by decide) ?_
                    exact ih_31 (q + 1) _ (by omega) (by omega) (fun k hk h h2 => by
                      rcases (show k < 8 * r + q ∨ k = 8 * r + q by omega) with e9 | e9
                      · exact hb k e9 h h2
                      · subst e9; exact hgood h2) (by omega)
                  · skip
                    refine cb_iconst (pc := 88) (v := 0) O dX11_cut_88 (by decide) ?_
                    refine cb_goto (pc := 89) O 93 dX11_cut_89 (by decide) ?_
                    refine cb_iadd (pc := 93) O dX11_cut_93 ?_
                    refine cb_topv (nI (fb_ct (ca_cs A j) (8 * r + (q + 1)))) (by
                      rw [← Nat.add_assoc, ca_csS, ← nI_add]
                      congr 1
                      rw [show (0 : Int32) = nI 0 from rfl, nI_eq (by omega) (by omega)] at c_85
                      first
                      | (rw [if_pos ⟨hik, c_85⟩]; rfl)
                      | (rw [if_neg (fun h => c_85 h.2)]; rfl)) ?_
                    refine cb_istore_n (pc := 94) O dX11_cut_94 (by decide) ?_
                    dsimp only [List.set]
                    refine cb_iinc (pc := 95) O (nI (q + 1)) dX11_cut_95 rfl (by decide) (ci_inc q) ?_
                    dsimp only [List.set]
                    refine cb_goto (pc := 98) O 31 dX11_cut_98 (by decide) ?_
                    exact ih_31 (q + 1) _ (by omega) (by omega) (fun k hk h h2 => by
                      rcases (show k < 8 * r + q ∨ k = 8 * r + q by omega) with e9 | e9
                      · exact hb k e9 h h2
                      · subst e9; exact hgood h2) (by omega)
                · skip
                  refine cb_aload_n (pc := 59) O dX11_cut_59 rfl ?_
                  refine cb_getR (pc := 60) O fl_X11_29 rfl rfl dX11_cut_60 (hM2.1.1 _ rfl) (hM2.1.2 _ _ _ rfl) ?_
                  refine cb_aload_n (pc := 63) O dX11_cut_63 rfl ?_
                  refine cb_getR (pc := 64) O fl_X11_26 rfl rfl dX11_cut_64 (hM2.1.1 _ rfl) (hM2.1.2 _ _ _ rfl) ?_
                  refine cb_iload (pc := 67) O dX11_cut_67 rfl ?_
                  refine cb_iald (pc := 69) O (8 * r + q) rfl dX11_cut_69 (by decide) (hM2.1.1 _ rfl) rfl (by omega) ?_
                  refine cb_zald (pc := 70) O (A 11 (8 * r + q)) rfl dX11_cut_70 (by decide) (hM2.1.1 _ rfl) e11 (by omega) ?_
                  refine cb_topv _ e12 ?_
                  refine cb_if_eq (pc := 71) O 77 dX11_cut_71 (by decide) (fun c_71 => ?_) (fun c_71 => ?_)
                  · skip
                    have hgood : A 10 (8 * r + q) = 0 → A 12 (A 11 (8 * r + q)) = 0 := fun _ => by
                      rw [show (0 : Int32) = nI 0 from rfl, nI_eq (by omega) (by omega)] at c_71
                      exact c_71
                    refine cb_iload_n (pc := 77) O dX11_cut_77 rfl ?_
                    refine cb_aload_n (pc := 78) O dX11_cut_78 rfl ?_
                    refine cb_getR (pc := 79) O fl_X11_23 rfl rfl dX11_cut_79 (hM2.1.1 _ rfl) (hM2.1.2 _ _ _ rfl) ?_
                    refine cb_iload (pc := 82) O dX11_cut_82 rfl ?_
                    refine cb_zald (pc := 84) O (8 * r + q) rfl dX11_cut_84 (by decide) (hM2.1.1 _ rfl) rfl (by omega) ?_
                    refine cb_topv _ e10 ?_
                    refine cb_if_eq (pc := 85) O 92 dX11_cut_85 (by decide) (fun c_85 => ?_) (fun c_85 => ?_)
                    · skip
                      refine cb_iconst (pc := 92) (v := 1) O dX11_cut_92 (by decide) ?_
                      refine cb_iadd (pc := 93) O dX11_cut_93 ?_
                      refine cb_topv (nI (fb_ct (ca_cs A j) (8 * r + (q + 1)))) (by
                        rw [← Nat.add_assoc, ca_csS, ← nI_add]
                        congr 1
                        rw [show (0 : Int32) = nI 0 from rfl, nI_eq (by omega) (by omega)] at c_85
                        first
                        | (rw [if_pos ⟨hik, c_85⟩]; rfl)
                        | (rw [if_neg (fun h => c_85 h.2)]; rfl)) ?_
                      refine cb_istore_n (pc := 94) O dX11_cut_94 (by decide) ?_
                      dsimp only [List.set]
                      refine cb_iinc (pc := 95) O (nI (q + 1)) dX11_cut_95 rfl (by decide) (ci_inc q) ?_
                      dsimp only [List.set]
                      refine cb_goto (pc := 98) O 31 dX11_cut_98 (by decide) ?_
                      exact ih_31 (q + 1) _ (by omega) (by omega) (fun k hk h h2 => by
                        rcases (show k < 8 * r + q ∨ k = 8 * r + q by omega) with e9 | e9
                        · exact hb k e9 h h2
                        · subst e9; exact hgood h2) (by omega)
                    · skip
                      refine cb_iconst (pc := 88) (v := 0) O dX11_cut_88 (by decide) ?_
                      refine cb_goto (pc := 89) O 93 dX11_cut_89 (by decide) ?_
                      refine cb_iadd (pc := 93) O dX11_cut_93 ?_
                      refine cb_topv (nI (fb_ct (ca_cs A j) (8 * r + (q + 1)))) (by
                        rw [← Nat.add_assoc, ca_csS, ← nI_add]
                        congr 1
                        rw [show (0 : Int32) = nI 0 from rfl, nI_eq (by omega) (by omega)] at c_85
                        first
                        | (rw [if_pos ⟨hik, c_85⟩]; rfl)
                        | (rw [if_neg (fun h => c_85 h.2)]; rfl)) ?_
                      refine cb_istore_n (pc := 94) O dX11_cut_94 (by decide) ?_
                      dsimp only [List.set]
                      refine cb_iinc (pc := 95) O (nI (q + 1)) dX11_cut_95 rfl (by decide) (ci_inc q) ?_
                      dsimp only [List.set]
                      refine cb_goto (pc := 98) O 31 dX11_cut_98 (by decide) ?_
                      exact ih_31 (q + 1) _ (by omega) (by omega) (fun k hk h h2 => by
                        rcases (show k < 8 * r + q ∨ k = 8 * r + q by omega) with e9 | e9
                        · exact hb k e9 h h2
                        · subst e9; exact hgood h2) (by omega)
                  · skip
                    refine cb_bipush (pc := 74) (v := (-3)) O dX11_cut_74 (by decide) ?_
                    exact cb_iret (pc := 76) O Rt rfl (Nat.le_of_ble_eq_true rfl) (Nat.le_of_ble_eq_true rfl) dX11_cut_76 (by
                      have hnb : ¬ ca_bd A j := fun h => c_71 (by
                        rw [show (0 : Int32) = nI 0 from rfl, nI_eq (by omega) (by omega)]
                        exact h _ hk64 hik (by rcases (show A 10 (8 * r + q) = 0 ∨ A 10 (8 * r + q) = 1 by omega) with e | e
                                               · exact e
                                               · rw [e] at c_56; exact absurd c_56 (by decide)))
                      refine ⟨by rw [sr_cut, if_pos c_5, ci_tn hj, if_neg hnb], ?_, hC2⟩
                      rw [sA_cut, if_neg (fun h => hnb (by have := h.2; rw [ci_tn hj] at this; exact this))]
                      exact hM2)
          exact L_31 (d + 2) c _ (by omega) (by omega) ha (by omega)
    refine cb_eqX (lv' := [some (.inr (some 1000)), some (.inl (nI j)), some (.inl (nI (fb_ct (ca_cs A j) (8 * a + c)))), some (.inl (nI a)), _, _]) rfl rfl (by
      rw [cu_eqv (m := 8 * a + c) (m' := 0) (fun k hk => by
      have h9 := (hin k).mp (of_decide_eq_true hk).1
      omega)]
      rfl) rfl ?_
    exact L_17 (b + 2) a _ _ (by omega) (by omega) (fun k hk h => by have := (hin k).mp h; omega) (by omega)
  · skip
    refine cb_iconst (pc := 8) (v := (-1)) O dX11_cut_8 (by decide) ?_
    exact cb_iret (pc := 9) O Rt rfl (Nat.le_of_ble_eq_true rfl) (Nat.le_of_ble_eq_true rfl) dX11_cut_9 (by
      exact ⟨by rw [sr_cut, if_neg c_5], by rw [sA_cut, if_neg (fun h => c_5 h.1)]; exact hM2, hC2⟩)

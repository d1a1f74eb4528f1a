def MI9 (w w' : cb_W) (D : List Nat) : Prop := (∀ q, q ≠ 1000 → (∀ f, f ∈ D → q ≠ 1001 + f) → w'.1 q = w.1 q ∧ w'.2.1 q = w.2.1 q ∧ w'.2.2 q = w.2.2 q) ∧ w'.1 1000 = w.1 1000 ∧ (∀ f, f ∈ D → w'.1 (1001 + f) = true ∧ w'.2.1 (1001 + f) = (fun _ => 0) ∧ w'.2.2 1000 f = some (1001 + f) ∧ w'.2.2 (1001 + f) = (fun _ => none)) ∧ (∀ k q, w'.2.2 1000 k = some q → 1000 ≤ q)
theorem MI9.nil {w : cb_W} (h : ∀ k, w.2.2 1000 k = none) : MI9 w w [] := ⟨fun _ _ _ => ⟨rfl, rfl, rfl⟩, rfl, fun f hf => absurd hf List.not_mem_nil, fun k q hk => by rw [h k] at hk; cases hk⟩
theorem MI9.add {w w' : cb_W} {D : List Nat} (h : MI9 w w' D) (f : Nat) (hf : ¬ f ∈ D) : MI9 w (cb_ur (cb_nw1 w' (1001 + f)) 1000 f (some (1001 + f))) (f :: D) := by
  obtain ⟨h1, h2, h3, h4⟩ := h
  refine ⟨fun q hq hd => ?_, ?_, fun f' hf' => ?_, fun k q hk => ?_⟩
  · have hne : q ≠ 1001 + f := hd f List.mem_cons_self
    obtain ⟨a1, a2, a3⟩ := h1 q hq (fun g hg => hd g (List.mem_cons_of_mem _ hg))
    refine ⟨?_, ?_, ?_⟩
    · show (if q = 1001 + f then true else w'.1 q) = _
      rw [if_neg hne]; exact a1
    · show (if q = 1001 + f then (fun _ => (0 : Int32)) else w'.2.1 q) = _
      rw [if_neg hne]; exact a2
    · show cb_u2 _ 1000 f _ q = _
      rw [cb_u2r hq]
      show (if q = 1001 + f then (fun _ => none) else w'.2.2 q) = _
      rw [if_neg hne]; exact a3
  · show (if 1000 = 1001 + f then true else w'.1 1000) = _
    rw [if_neg (by omega)]; exact h2
  · rcases List.mem_cons.mp hf' with e | e
    · subst e
      refine ⟨?_, ?_, ?_, ?_⟩
      · show (if 1001 + f' = 1001 + f' then true else _) = true
        rw [if_pos rfl]
      · show (if 1001 + f' = 1001 + f' then (fun _ => (0 : Int32)) else _) = _
        rw [if_pos rfl]
      · show cb_u2 _ 1000 f' _ 1000 f' = _
        rw [cb_u2s]
      · show cb_u2 _ 1000 f' _ (1001 + f') = _
        rw [cb_u2r (by omega)]
        show (if 1001 + f' = 1001 + f' then (fun _ => none) else _) = _
        rw [if_pos rfl]
    · have hne : f' ≠ f := fun x => hf (x ▸ e)
      obtain ⟨a1, a2, a3, a4⟩ := h3 f' e
      refine ⟨?_, ?_, ?_, ?_⟩
      · show (if 1001 + f' = 1001 + f then true else w'.1 (1001 + f')) = true
        rw [if_neg (by omega)]; exact a1
      · show (if 1001 + f' = 1001 + f then (fun _ => (0 : Int32)) else w'.2.1 (1001 + f')) = _
        rw [if_neg (by omega)]; exact a2
      · show cb_u2 (cb_nw1 w' (1001 + f)).2.2 1000 f _ 1000 f' = _
        rw [cb_u2n (by omega)]
        show (if 1000 = 1001 + f then (fun _ => none) else w'.2.2 1000) f' = _
        rw [if_neg (by omega)]; exact a3
      · show cb_u2 _ 1000 f _ (1001 + f') = _
        rw [cb_u2r (by omega)]
        show (if 1001 + f' = 1001 + f then (fun _ => none) else w'.2.2 (1001 + f')) = _
        rw [if_neg (by omega)]; exact a4
  · by_cases e : k = f
    · subst e
      have hk2 : cb_u2 (cb_nw1 w' (1001 + k)).2.2 1000 k (some (1001 + k)) 1000 k = some q := hk
      rw [cb_u2s] at hk2
      cases hk2
      omega
    · have hk2 : cb_u2 (cb_nw1 w' (1001 + f)).2.2 1000 f (some (1001 + f)) 1000 k = some q := hk
      rw [cb_u2n (by omega)] at hk2
      have hk3 : (if 1000 = 1001 + f then (fun _ => none) else w'.2.2 1000) k = some q := hk2
      rw [if_neg (by omega)] at hk3
      exact h4 k q hk3
theorem MI9.um {w w' : cb_W} {D : List Nat} (h : MI9 w w' D) (k : Nat) (x : Int32) : MI9 w (cb_um w' 1000 k x) D := by
  obtain ⟨h1, h2, h3, h4⟩ := h
  refine ⟨fun q hq hd => ⟨(h1 q hq hd).1, ?_, (h1 q hq hd).2.2⟩, h2, fun f hf => ⟨(h3 f hf).1, ?_, (h3 f hf).2.2⟩, h4⟩
  · show cb_u2 w'.2.1 1000 k x q = _
    rw [cb_u2r hq]; exact (h1 q hq hd).2.1
  · show cb_u2 w'.2.1 1000 k x (1001 + f) = _
    rw [cb_u2r (by omega)]; exact (h3 f hf).2.1
def M_D : List Nat := [35,34,32,31,30,27,25,24,23,22,21,19,18,17,16,15,14,13,11,10,9,5,4,3,2]
theorem M_lv : ∀ i, i < 42 → cm_Lv (1000 + i) = true → i = 0 ∨ (i - 1) ∈ M_D := by decide +kernel
theorem M_rf : ∀ k, k < 41 → cb_ir 11 k = true → k ∈ M_D := by decide +kernel
theorem cm_Lv_hi {r : Nat} (h : cm_Lv r = true) : r < 1042 := by
  rcases Nat.lt_or_ge r 1042 with h1 | h1
  · exact h1
  · unfold cm_Lv cb_sh at h
    rw [if_neg (by omega), if_neg (by omega), if_neg (by omega), if_neg (by omega), if_neg (by omega), if_neg (by omega), if_neg (by omega), if_neg (by omega), if_neg (by omega), if_neg (by omega), List.getD_eq_getElem?_getD, List.getElem?_eq_none (by show 42 ≤ r - 1000; omega)] at h
    simp at h
theorem M_R : ∀ k, k < 42 → (k == 3 || k == 4 || k == 5 || k == 6 || k == 10 || k == 11 || k == 12 || k == 15 || k == 16 || k == 17 || k == 18 || k == 19 || k == 20 || k == 22 || k == 23 || k == 24 || k == 25 || k == 26 || k == 31 || k == 33 || k == 35) = true → (k - 1) ∈ M_D := by decide +kernel
theorem ca_R_lt {k i : Nat} (h0 : k ≠ 0) (h : ca_R k i = true) : k < 42 ∧ (k - 1) ∈ M_D := by
  unfold ca_R at h
  rw [if_neg h0] at h
  have hk : k = 3 ∨ k = 4 ∨ k = 5 ∨ k = 6 ∨ k = 10 ∨ k = 11 ∨ k = 12 ∨ k = 15 ∨ k = 16 ∨ k = 17 ∨ k = 18 ∨ k = 19 ∨ k = 20 ∨ k = 22 ∨ k = 23 ∨ k = 24 ∨ k = 25 ∨ k = 26 ∨ k = 31 ∨ k = 33 ∨ k = 35 := by
    simp at h
    omega
  rcases hk with rfl | rfl | rfl | rfl | rfl | rfl | rfl | rfl | rfl | rfl | rfl | rfl | rfl | rfl | rfl | rfl | rfl | rfl | rfl | rfl | rfl <;> exact ⟨by decide, by decide⟩
theorem MI9.I {w w1 w' : cb_W} (h : MI9 w w1 M_D) (h0 : w1.2.1 1000 = fun i => if i = 33 then -1 else 0) (hl : w.1 1000 = true) (hw1 : w'.1 = w1.1) (hw2 : w'.2.2 = w1.2.2) (hw3 : ∀ r k, r ≠ 1003 → r ≠ 1004 → w'.2.1 r k = w1.2.1 r k) (h3 : ∀ i, i < 160 → w'.2.1 1003 i = nI (i / 16 + 1)) (h4 : ∀ i, i < 10 → w'.2.1 1004 i = nI 60) : cm_I w' A_0 0 := by
  obtain ⟨g1, g2, g3, g4⟩ := h
  refine ⟨⟨fun r hr => ?_, fun r k q hq => ?_⟩, fun k i hk => ?_, ?_⟩
  · rw [hw1]
    have hlo := cm_Lv_lo hr
    have hhi := cm_Lv_hi hr
    rcases M_lv (r - 1000) (by omega) (by rw [show 1000 + (r - 1000) = r by omega]; exact hr) with e | e
    · rw [show r = 1000 by omega, g2]; exact hl
    · have hne : r ≠ 1000 := fun e2 => by
        rw [e2] at e
        exact absurd e (by decide)
      have := (g3 _ e).1
      rw [show 1001 + (r - 1000 - 1) = r by omega] at this
      exact this
  · have hr := cm_Rf_lo hq
    subst hr
    unfold cm_Rf at hq
    rw [if_pos rfl] at hq
    by_cases e : (cb_ir 11 k && decide (k < 41)) = true
    · rw [if_pos e] at hq
      cases hq
      rw [Bool.and_eq_true, decide_eq_true_iff] at e
      rw [hw2]
      exact (g3 k (M_rf k e.2 e.1)).2.2.1
    · rw [if_neg e] at hq
      cases hq
  · by_cases e0 : k = 0
    · subst e0
      show w'.2.1 1000 i = _
      rw [hw3 1000 i (by decide) (by decide), h0]
      unfold ca_v
      rw [A_0o (by omega)]
      by_cases e : i = 33
      · subst e; rfl
      · rw [if_neg (by omega)]
        show (if i = 33 then (-1 : Int32) else 0) = _
        rw [if_neg e]
        rfl
    · obtain ⟨hk42, hkD⟩ := ca_R_lt e0 hk
      by_cases e3 : k = 3
      · subst e3
        have hi : i < 160 := by simp [ca_R] at hk; exact hk
        rw [show 1000 + 3 = 1003 from rfl, h3 i hi]
        unfold ca_v A_0
        rw [if_neg (by omega), if_pos rfl, if_pos hi]
      · by_cases e4 : k = 4
        · subst e4
          have hi : i < 10 := by simp [ca_R] at hk; exact hk
          rw [show 1000 + 4 = 1004 from rfl, h4 i hi]
          rfl
        · rw [hw3 _ _ (by omega) (by omega)]
          have h9 := (g3 _ hkD).2.1
          rw [show 1001 + (k - 1) = 1000 + k by omega] at h9
          rw [h9]
          unfold ca_v A_0
          rw [if_neg (c := k = 3) e3, if_neg (c := k = 4) e4]
          by_cases e5 : k = 16 ∨ k = 24 ∨ k = 35
          · rw [if_pos (by omega), if_pos e5]
            rfl
          · rw [if_neg (by omega), if_neg e5]
            rfl
  · rw [hw3 1000 7 (by decide) (by decide), h0]
    rfl
theorem c_X11_init (w : cb_W) (hl : w.1 1000 = true) (hr0 : ∀ k, w.2.2 1000 k = none) (hM0 : w.2.1 1000 = fun _ => 0) (hd : ∀ q, 1000 < q → w.1 q = false) : cb_Con yX11_init cX11_init 3 none 1 20 25 8045 cb_kpub [.inr (some 1000)] w (cb_pv (fun w' => cm_I w' A_0 0 ∧ (∀ q, q < 1000 ∨ 1100 ≤ q → w'.1 q = w.1 q ∧ w'.2.1 q = w.2.1 q ∧ w'.2.2 q = w.2.2 q) ∧ (∀ r k q, 1000 ≤ r → r < 1100 → w'.1 r = true → w'.2.2 r k = some q → 1000 ≤ q))) := by
  refine cb_con (by decide) (Nat.le_of_ble_eq_true rfl) (fun κ O Rt hnm => ?_)
  show cb_X κ w 0 0 0 [some (.inr (some 1000)), none, none] []
  refine cb_aload_n (pc := 0) O dX11_init_0 rfl ?_
  refine cb_objInit (pc := 1) O dX11_init_1 oi_X11_1 oi_inst oi_code ⟨(Nat.le_of_ble_eq_true rfl), (Nat.le_of_ble_eq_true rfl)⟩ (Nat.le_of_ble_eq_true rfl) ?_
  refine cb_genw (fun v_0 hv_0 => ?_)
  have hm_0 : MI9 w v_0 [] := by
    rw [hv_0]
    exact MI9.nil hr0
  have hz_0 : v_0.2.1 1000 = fun _ => 0 := by rw [hv_0]; exact hM0
  refine cb_aload_n (pc := 4) O dX11_init_4 rfl ?_
  refine cb_sipush (pc := 5) (v := 160) O dX11_init_5 (by decide) ?_
  refine cb_newa (pc := 8) (atype := .int) (ty := .int) O 1003 rfl (Or.inl ⟨rfl, rfl⟩) ac_int rfl dX11_init_8 (by decide) rfl (by decide) (by decide) (by rw [Rt.2.2]; rfl) rfl (Nat.le_of_ble_eq_true rfl) (Nat.le_of_ble_eq_true rfl) (by rw [(hm_0.1 1003 (by decide) (by decide)).1]; exact hd 1003 (by decide)) ?_
  refine cb_putRc (pc := 10) O fl_X11_9 (Or.inr ⟨rfl, hnm, rfl, fm_X11_9⟩) rfl rfl dX11_init_10 (fun _ => rfl) (fun _ => rfl) (by show (if 1000 = 1003 then true else v_0.1 1000) = true; rw [if_neg (by decide), hm_0.2.1]; exact hl) (by show (if 1003 = 1003 then true else v_0.1 1003) = true; rw [if_pos rfl]) ?_
  refine cb_genw (fun v_1 hv_1 => ?_)
  have hm_1 : MI9 w v_1 [2] := by
    rw [hv_1]
    exact hm_0.add 2 (by decide)
  have hz_1 : v_1.2.1 1000 = v_0.2.1 1000 := by
    rw [hv_1]
    show (if 1000 = 1003 then (fun _ => (0 : Int32)) else v_0.2.1 1000) = _
    rw [if_neg (by decide)]
  refine cb_aload_n (pc := 13) O dX11_init_13 rfl ?_
  refine cb_bipush (pc := 14) (v := 10) O dX11_init_14 (by decide) ?_
  refine cb_newa (pc := 16) (atype := .int) (ty := .int) O 1004 rfl (Or.inl ⟨rfl, rfl⟩) ac_int rfl dX11_init_16 (by decide) rfl (by decide) (by decide) (by rw [Rt.2.2]; rfl) rfl (Nat.le_of_ble_eq_true rfl) (Nat.le_of_ble_eq_true rfl) (by rw [(hm_1.1 1004 (by decide) (by decide)).1]; exact hd 1004 (by decide)) ?_
  refine cb_putRc (pc := 18) O fl_X11_13 (Or.inr ⟨rfl, hnm, rfl, fm_X11_13⟩) rfl rfl dX11_init_18 (fun _ => rfl) (fun _ => rfl) (by show (if 1000 = 1004 then true else v_1.1 1000) = true; rw [if_neg (by decide), hm_1.2.1]; exact hl) (by show (if 1004 = 1004 then true else v_1.1 1004) = true; rw [if_pos rfl]) ?_
  refine cb_genw (fun v_2 hv_2 => ?_)
  have hm_2 : MI9 w v_2 [3, 2] := by
    rw [hv_2]
    exact hm_1.add 3 (by decide)
  have hz_2 : v_2.2.1 1000 = v_1.2.1 1000 := by
    rw [hv_2]
    show (if 1000 = 1004 then (fun _ => (0 : Int32)) else v_1.2.1 1000) = _
    rw [if_neg (by decide)]
  refine cb_aload_n (pc := 21) O dX11_init_21 rfl ?_
  refine cb_bipush (pc := 22) (v := 100) O dX11_init_22 (by decide) ?_
  refine cb_newa (pc := 24) (atype := .boolean) (ty := .boolean) O 1005 rfl (Or.inr ⟨rfl, rfl⟩) ac_boolean rfl dX11_init_24 (by decide) rfl (by decide) (by decide) (by rw [Rt.2.2]; rfl) rfl (Nat.le_of_ble_eq_true rfl) (Nat.le_of_ble_eq_true rfl) (by rw [(hm_2.1 1005 (by decide) (by decide)).1]; exact hd 1005 (by decide)) ?_
  refine cb_putRc (pc := 26) O fl_X11_16 (Or.inr ⟨rfl, hnm, rfl, fm_X11_16⟩) rfl rfl dX11_init_26 (fun _ => rfl) (fun _ => rfl) (by show (if 1000 = 1005 then true else v_2.1 1000) = true; rw [if_neg (by decide), hm_2.2.1]; exact hl) (by show (if 1005 = 1005 then true else v_2.1 1005) = true; rw [if_pos rfl]) ?_
  refine cb_genw (fun v_3 hv_3 => ?_)
  have hm_3 : MI9 w v_3 [4, 3, 2] := by
    rw [hv_3]
    exact hm_2.add 4 (by decide)
  have hz_3 : v_3.2.1 1000 = v_2.2.1 1000 := by
    rw [hv_3]
    show (if 1000 = 1005 then (fun _ => (0 : Int32)) else v_2.2.1 1000) = _
    rw [if_neg (by decide)]
  refine cb_aload_n (pc := 29) O dX11_init_29 rfl ?_
  refine cb_bipush (pc := 30) (v := 100) O dX11_init_30 (by decide) ?_
  refine cb_newa (pc := 32) (atype := .int) (ty := .int) O 1006 rfl (Or.inl ⟨rfl, rfl⟩) ac_int rfl dX11_init_32 (by decide) rfl (by decide) (by decide) (by rw [Rt.2.2]; rfl) rfl (Nat.le_of_ble_eq_true rfl) (Nat.le_of_ble_eq_true rfl) (by rw [(hm_3.1 1006 (by decide) (by decide)).1]; exact hd 1006 (by decide)) ?_
  refine cb_putRc (pc := 34) O fl_X11_20 (Or.inr ⟨rfl, hnm, rfl, fm_X11_20⟩) rfl rfl dX11_init_34 (fun _ => rfl) (fun _ => rfl) (by show (if 1000 = 1006 then true else v_3.1 1000) = true; rw [if_neg (by decide), hm_3.2.1]; exact hl) (by show (if 1006 = 1006 then true else v_3.1 1006) = true; rw [if_pos rfl]) ?_
  refine cb_genw (fun v_4 hv_4 => ?_)
  have hm_4 : MI9 w v_4 [5, 4, 3, 2] := by
    rw [hv_4]
    exact hm_3.add 5 (by decide)
  have hz_4 : v_4.2.1 1000 = v_3.2.1 1000 := by
    rw [hv_4]
    show (if 1000 = 1006 then (fun _ => (0 : Int32)) else v_3.2.1 1000) = _
    rw [if_neg (by decide)]
  refine cb_aload_n (pc := 37) O dX11_init_37 rfl ?_
  refine cb_bipush (pc := 38) (v := 64) O dX11_init_38 (by decide) ?_
  refine cb_newa (pc := 40) (atype := .boolean) (ty := .boolean) O 1010 rfl (Or.inr ⟨rfl, rfl⟩) ac_boolean rfl dX11_init_40 (by decide) rfl (by decide) (by decide) (by rw [Rt.2.2]; rfl) rfl (Nat.le_of_ble_eq_true rfl) (Nat.le_of_ble_eq_true rfl) (by rw [(hm_4.1 1010 (by decide) (by decide)).1]; exact hd 1010 (by decide)) ?_
  refine cb_putRc (pc := 42) O fl_X11_23 (Or.inr ⟨rfl, hnm, rfl, fm_X11_23⟩) rfl rfl dX11_init_42 (fun _ => rfl) (fun _ => rfl) (by show (if 1000 = 1010 then true else v_4.1 1000) = true; rw [if_neg (by decide), hm_4.2.1]; exact hl) (by show (if 1010 = 1010 then true else v_4.1 1010) = true; rw [if_pos rfl]) ?_
  refine cb_genw (fun v_5 hv_5 => ?_)
  have hm_5 : MI9 w v_5 [9, 5, 4, 3, 2] := by
    rw [hv_5]
    exact hm_4.add 9 (by decide)
  have hz_5 : v_5.2.1 1000 = v_4.2.1 1000 := by
    rw [hv_5]
    show (if 1000 = 1010 then (fun _ => (0 : Int32)) else v_4.2.1 1000) = _
    rw [if_neg (by decide)]
  refine cb_aload_n (pc := 45) O dX11_init_45 rfl ?_
  refine cb_bipush (pc := 46) (v := 64) O dX11_init_46 (by decide) ?_
  refine cb_newa (pc := 48) (atype := .int) (ty := .int) O 1011 rfl (Or.inl ⟨rfl, rfl⟩) ac_int rfl dX11_init_48 (by decide) rfl (by decide) (by decide) (by rw [Rt.2.2]; rfl) rfl (Nat.le_of_ble_eq_true rfl) (Nat.le_of_ble_eq_true rfl) (by rw [(hm_5.1 1011 (by decide) (by decide)).1]; exact hd 1011 (by decide)) ?_
  refine cb_putRc (pc := 50) O fl_X11_26 (Or.inr ⟨rfl, hnm, rfl, fm_X11_26⟩) rfl rfl dX11_init_50 (fun _ => rfl) (fun _ => rfl) (by show (if 1000 = 1011 then true else v_5.1 1000) = true; rw [if_neg (by decide), hm_5.2.1]; exact hl) (by show (if 1011 = 1011 then true else v_5.1 1011) = true; rw [if_pos rfl]) ?_
  refine cb_genw (fun v_6 hv_6 => ?_)
  have hm_6 : MI9 w v_6 [10, 9, 5, 4, 3, 2] := by
    rw [hv_6]
    exact hm_5.add 10 (by decide)
  have hz_6 : v_6.2.1 1000 = v_5.2.1 1000 := by
    rw [hv_6]
    show (if 1000 = 1011 then (fun _ => (0 : Int32)) else v_5.2.1 1000) = _
    rw [if_neg (by decide)]
  refine cb_aload_n (pc := 53) O dX11_init_53 rfl ?_
  refine cb_bipush (pc := 54) (v := 8) O dX11_init_54 (by decide) ?_
  refine cb_newa (pc := 56) (atype := .boolean) (ty := .boolean) O 1012 rfl (Or.inr ⟨rfl, rfl⟩) ac_boolean rfl dX11_init_56 (by decide) rfl (by decide) (by decide) (by rw [Rt.2.2]; rfl) rfl (Nat.le_of_ble_eq_true rfl) (Nat.le_of_ble_eq_true rfl) (by rw [(hm_6.1 1012 (by decide) (by decide)).1]; exact hd 1012 (by decide)) ?_
  refine cb_putRc (pc := 58) O fl_X11_29 (Or.inr ⟨rfl, hnm, rfl, fm_X11_29⟩) rfl rfl dX11_init_58 (fun _ => rfl) (fun _ => rfl) (by show (if 1000 = 1012 then true else v_6.1 1000) = true; rw [if_neg (by decide), hm_6.2.1]; exact hl) (by show (if 1012 = 1012 then true else v_6.1 1012) = true; rw [if_pos rfl]) ?_
  refine cb_genw (fun v_7 hv_7 => ?_)
  have hm_7 : MI9 w v_7 [11, 10, 9, 5, 4, 3, 2] := by
    rw [hv_7]
    exact hm_6.add 11 (by decide)
  have hz_7 : v_7.2.1 1000 = v_6.2.1 1000 := by
    rw [hv_7]
    show (if 1000 = 1012 then (fun _ => (0 : Int32)) else v_6.2.1 1000) = _
    rw [if_neg (by decide)]
  refine cb_aload_n (pc := 61) O dX11_init_61 rfl ?_
  refine cb_bipush (pc := 62) (v := 64) O dX11_init_62 (by decide) ?_
  refine cb_newa (pc := 64) (atype := .int) (ty := .int) O 1014 rfl (Or.inl ⟨rfl, rfl⟩) ac_int rfl dX11_init_64 (by decide) rfl (by decide) (by decide) (by rw [Rt.2.2]; rfl) rfl (Nat.le_of_ble_eq_true rfl) (Nat.le_of_ble_eq_true rfl) (by rw [(hm_7.1 1014 (by decide) (by decide)).1]; exact hd 1014 (by decide)) ?_
  refine cb_putRc (pc := 66) O fl_X11_32 (Or.inr ⟨rfl, hnm, rfl, fm_X11_32⟩) rfl rfl dX11_init_66 (fun _ => rfl) (fun _ => rfl) (by show (if 1000 = 1014 then true else v_7.1 1000) = true; rw [if_neg (by decide), hm_7.2.1]; exact hl) (by show (if 1014 = 1014 then true else v_7.1 1014) = true; rw [if_pos rfl]) ?_
  refine cb_genw (fun v_8 hv_8 => ?_)
  have hm_8 : MI9 w v_8 [13, 11, 10, 9, 5, 4, 3, 2] := by
    rw [hv_8]
    exact hm_7.add 13 (by decide)
  have hz_8 : v_8.2.1 1000 = v_7.2.1 1000 := by
    rw [hv_8]
    show (if 1000 = 1014 then (fun _ => (0 : Int32)) else v_7.2.1 1000) = _
    rw [if_neg (by decide)]
  refine cb_aload_n (pc := 69) O dX11_init_69 rfl ?_
  refine cb_sipush (pc := 70) (v := 1280) O dX11_init_70 (by decide) ?_
  refine cb_newa (pc := 73) (atype := .int) (ty := .int) O 1015 rfl (Or.inl ⟨rfl, rfl⟩) ac_int rfl dX11_init_73 (by decide) rfl (by decide) (by decide) (by rw [Rt.2.2]; rfl) rfl (Nat.le_of_ble_eq_true rfl) (Nat.le_of_ble_eq_true rfl) (by rw [(hm_8.1 1015 (by decide) (by decide)).1]; exact hd 1015 (by decide)) ?_
  refine cb_putRc (pc := 75) O fl_X11_35 (Or.inr ⟨rfl, hnm, rfl, fm_X11_35⟩) rfl rfl dX11_init_75 (fun _ => rfl) (fun _ => rfl) (by show (if 1000 = 1015 then true else v_8.1 1000) = true; rw [if_neg (by decide), hm_8.2.1]; exact hl) (by show (if 1015 = 1015 then true else v_8.1 1015) = true; rw [if_pos rfl]) ?_
  refine cb_genw (fun v_9 hv_9 => ?_)
  have hm_9 : MI9 w v_9 [14, 13, 11, 10, 9, 5, 4, 3, 2] := by
    rw [hv_9]
    exact hm_8.add 14 (by decide)
  have hz_9 : v_9.2.1 1000 = v_8.2.1 1000 := by
    rw [hv_9]
    show (if 1000 = 1015 then (fun _ => (0 : Int32)) else v_8.2.1 1000) = _
    rw [if_neg (by decide)]
  refine cb_aload_n (pc := 78) O dX11_init_78 rfl ?_
  refine cb_sipush (pc := 79) (v := 1280) O dX11_init_79 (by decide) ?_
  refine cb_newa (pc := 82) (atype := .int) (ty := .int) O 1016 rfl (Or.inl ⟨rfl, rfl⟩) ac_int rfl dX11_init_82 (by decide) rfl (by decide) (by decide) (by rw [Rt.2.2]; rfl) rfl (Nat.le_of_ble_eq_true rfl) (Nat.le_of_ble_eq_true rfl) (by rw [(hm_9.1 1016 (by decide) (by decide)).1]; exact hd 1016 (by decide)) ?_
  refine cb_putRc (pc := 84) O fl_X11_38 (Or.inr ⟨rfl, hnm, rfl, fm_X11_38⟩) rfl rfl dX11_init_84 (fun _ => rfl) (fun _ => rfl) (by show (if 1000 = 1016 then true else v_9.1 1000) = true; rw [if_neg (by decide), hm_9.2.1]; exact hl) (by show (if 1016 = 1016 then true else v_9.1 1016) = true; rw [if_pos rfl]) ?_
  refine cb_genw (fun v_10 hv_10 => ?_)
  have hm_10 : MI9 w v_10 [15, 14, 13, 11, 10, 9, 5, 4, 3, 2] := by
    rw [hv_10]
    exact hm_9.add 15 (by decide)
  have hz_10 : v_10.2.1 1000 = v_9.2.1 1000 := by
    rw [hv_10]
    show (if 1000 = 1016 then (fun _ => (0 : Int32)) else v_9.2.1 1000) = _
    rw [if_neg (by decide)]
  refine cb_aload_n (pc := 87) O dX11_init_87 rfl ?_
  refine cb_sipush (pc := 88) (v := 1280) O dX11_init_88 (by decide) ?_
  refine cb_newa (pc := 91) (atype := .int) (ty := .int) O 1017 rfl (Or.inl ⟨rfl, rfl⟩) ac_int rfl dX11_init_91 (by decide) rfl (by decide) (by decide) (by rw [Rt.2.2]; rfl) rfl (Nat.le_of_ble_eq_true rfl) (Nat.le_of_ble_eq_true rfl) (by rw [(hm_10.1 1017 (by decide) (by decide)).1]; exact hd 1017 (by decide)) ?_
  refine cb_putRc (pc := 93) O fl_X11_41 (Or.inr ⟨rfl, hnm, rfl, fm_X11_41⟩) rfl rfl dX11_init_93 (fun _ => rfl) (fun _ => rfl) (by show (if 1000 = 1017 then true else v_10.1 1000) = true; rw [if_neg (by decide), hm_10.2.1]; exact hl) (by show (if 1017 = 1017 then true else v_10.1 1017) = true; rw [if_pos rfl]) ?_
  refine cb_genw (fun v_11 hv_11 => ?_)
  have hm_11 : MI9 w v_11 [16, 15, 14, 13, 11, 10, 9, 5, 4, 3, 2] := by
    rw [hv_11]
    exact hm_10.add 16 (by decide)
  have hz_11 : v_11.2.1 1000 = v_10.2.1 1000 := by
    rw [hv_11]
    show (if 1000 = 1017 then (fun _ => (0 : Int32)) else v_10.2.1 1000) = _
    rw [if_neg (by decide)]
  refine cb_aload_n (pc := 96) O dX11_init_96 rfl ?_
  refine cb_sipush (pc := 97) (v := 1280) O dX11_init_97 (by decide) ?_
  refine cb_newa (pc := 100) (atype := .int) (ty := .int) O 1018 rfl (Or.inl ⟨rfl, rfl⟩) ac_int rfl dX11_init_100 (by decide) rfl (by decide) (by decide) (by rw [Rt.2.2]; rfl) rfl (Nat.le_of_ble_eq_true rfl) (Nat.le_of_ble_eq_true rfl) (by rw [(hm_11.1 1018 (by decide) (by decide)).1]; exact hd 1018 (by decide)) ?_
  refine cb_putRc (pc := 102) O fl_X11_44 (Or.inr ⟨rfl, hnm, rfl, fm_X11_44⟩) rfl rfl dX11_init_102 (fun _ => rfl) (fun _ => rfl) (by show (if 1000 = 1018 then true else v_11.1 1000) = true; rw [if_neg (by decide), hm_11.2.1]; exact hl) (by show (if 1018 = 1018 then true else v_11.1 1018) = true; rw [if_pos rfl]) ?_
  refine cb_genw (fun v_12 hv_12 => ?_)
  have hm_12 : MI9 w v_12 [17, 16, 15, 14, 13, 11, 10, 9, 5, 4, 3, 2] := by
    rw [hv_12]
    exact hm_11.add 17 (by decide)
  have hz_12 : v_12.2.1 1000 = v_11.2.1 1000 := by
    rw [hv_12]
    show (if 1000 = 1018 then (fun _ => (0 : Int32)) else v_11.2.1 1000) = _
    rw [if_neg (by decide)]
  refine cb_aload_n (pc := 105) O dX11_init_105 rfl ?_
  refine cb_sipush (pc := 106) (v := 1280) O dX11_init_106 (by decide) ?_
  refine cb_newa (pc := 109) (atype := .int) (ty := .int) O 1019 rfl (Or.inl ⟨rfl, rfl⟩) ac_int rfl dX11_init_109 (by decide) rfl (by decide) (by decide) (by rw [Rt.2.2]; rfl) rfl (Nat.le_of_ble_eq_true rfl) (Nat.le_of_ble_eq_true rfl) (by rw [(hm_12.1 1019 (by decide) (by decide)).1]; exact hd 1019 (by decide)) ?_
  refine cb_putRc (pc := 111) O fl_X11_47 (Or.inr ⟨rfl, hnm, rfl, fm_X11_47⟩) rfl rfl dX11_init_111 (fun _ => rfl) (fun _ => rfl) (by show (if 1000 = 1019 then true else v_12.1 1000) = true; rw [if_neg (by decide), hm_12.2.1]; exact hl) (by show (if 1019 = 1019 then true else v_12.1 1019) = true; rw [if_pos rfl]) ?_
  refine cb_genw (fun v_13 hv_13 => ?_)
  have hm_13 : MI9 w v_13 [18, 17, 16, 15, 14, 13, 11, 10, 9, 5, 4, 3, 2] := by
    rw [hv_13]
    exact hm_12.add 18 (by decide)
  have hz_13 : v_13.2.1 1000 = v_12.2.1 1000 := by
    rw [hv_13]
    show (if 1000 = 1019 then (fun _ => (0 : Int32)) else v_12.2.1 1000) = _
    rw [if_neg (by decide)]
  refine cb_aload_n (pc := 114) O dX11_init_114 rfl ?_
  refine cb_bipush (pc := 115) (v := 20) O dX11_init_115 (by decide) ?_
  refine cb_newa (pc := 117) (atype := .boolean) (ty := .boolean) O 1020 rfl (Or.inr ⟨rfl, rfl⟩) ac_boolean rfl dX11_init_117 (by decide) rfl (by decide) (by decide) (by rw [Rt.2.2]; rfl) rfl (Nat.le_of_ble_eq_true rfl) (Nat.le_of_ble_eq_true rfl) (by rw [(hm_13.1 1020 (by decide) (by decide)).1]; exact hd 1020 (by decide)) ?_
  refine cb_putRc (pc := 119) O fl_X11_50 (Or.inr ⟨rfl, hnm, rfl, fm_X11_50⟩) rfl rfl dX11_init_119 (fun _ => rfl) (fun _ => rfl) (by show (if 1000 = 1020 then true else v_13.1 1000) = true; rw [if_neg (by decide), hm_13.2.1]; exact hl) (by show (if 1020 = 1020 then true else v_13.1 1020) = true; rw [if_pos rfl]) ?_
  refine cb_genw (fun v_14 hv_14 => ?_)
  have hm_14 : MI9 w v_14 [19, 18, 17, 16, 15, 14, 13, 11, 10, 9, 5, 4, 3, 2] := by
    rw [hv_14]
    exact hm_13.add 19 (by decide)
  have hz_14 : v_14.2.1 1000 = v_13.2.1 1000 := by
    rw [hv_14]
    show (if 1000 = 1020 then (fun _ => (0 : Int32)) else v_13.2.1 1000) = _
    rw [if_neg (by decide)]
  refine cb_aload_n (pc := 122) O dX11_init_122 rfl ?_
  refine cb_sipush (pc := 123) (v := 200) O dX11_init_123 (by decide) ?_
  refine cb_newa (pc := 126) (atype := .int) (ty := .int) O 1022 rfl (Or.inl ⟨rfl, rfl⟩) ac_int rfl dX11_init_126 (by decide) rfl (by decide) (by decide) (by rw [Rt.2.2]; rfl) rfl (Nat.le_of_ble_eq_true rfl) (Nat.le_of_ble_eq_true rfl) (by rw [(hm_14.1 1022 (by decide) (by decide)).1]; exact hd 1022 (by decide)) ?_
  refine cb_putRc (pc := 128) O fl_X11_53 (Or.inr ⟨rfl, hnm, rfl, fm_X11_53⟩) rfl rfl dX11_init_128 (fun _ => rfl) (fun _ => rfl) (by show (if 1000 = 1022 then true else v_14.1 1000) = true; rw [if_neg (by decide), hm_14.2.1]; exact hl) (by show (if 1022 = 1022 then true else v_14.1 1022) = true; rw [if_pos rfl]) ?_
  refine cb_genw (fun v_15 hv_15 => ?_)
  have hm_15 : MI9 w v_15 [21, 19, 18, 17, 16, 15, 14, 13, 11, 10, 9, 5, 4, 3, 2] := by
    rw [hv_15]
    exact hm_14.add 21 (by decide)
  have hz_15 : v_15.2.1 1000 = v_14.2.1 1000 := by
    rw [hv_15]
    show (if 1000 = 1022 then (fun _ => (0 : Int32)) else v_14.2.1 1000) = _
    rw [if_neg (by decide)]
  refine cb_aload_n (pc := 131) O dX11_init_131 rfl ?_
  refine cb_sipush (pc := 132) (v := 200) O dX11_init_132 (by decide) ?_
  refine cb_newa (pc := 135) (atype := .int) (ty := .int) O 1023 rfl (Or.inl ⟨rfl, rfl⟩) ac_int rfl dX11_init_135 (by decide) rfl (by decide) (by decide) (by rw [Rt.2.2]; rfl) rfl (Nat.le_of_ble_eq_true rfl) (Nat.le_of_ble_eq_true rfl) (by rw [(hm_15.1 1023 (by decide) (by decide)).1]; exact hd 1023 (by decide)) ?_
  refine cb_putRc (pc := 137) O fl_X11_56 (Or.inr ⟨rfl, hnm, rfl, fm_X11_56⟩) rfl rfl dX11_init_137 (fun _ => rfl) (fun _ => rfl) (by show (if 1000 = 1023 then true else v_15.1 1000) = true; rw [if_neg (by decide), hm_15.2.1]; exact hl) (by show (if 1023 = 1023 then true else v_15.1 1023) = true; rw [if_pos rfl]) ?_
  refine cb_genw (fun v_16 hv_16 => ?_)
  have hm_16 : MI9 w v_16 [22, 21, 19, 18, 17, 16, 15, 14, 13, 11, 10, 9, 5, 4, 3, 2] := by
    rw [hv_16]
    exact hm_15.add 22 (by decide)
  have hz_16 : v_16.2.1 1000 = v_15.2.1 1000 := by
    rw [hv_16]
    show (if 1000 = 1023 then (fun _ => (0 : Int32)) else v_15.2.1 1000) = _
    rw [if_neg (by decide)]
  refine cb_aload_n (pc := 140) O dX11_init_140 rfl ?_
  refine cb_sipush (pc := 141) (v := 200) O dX11_init_141 (by decide) ?_
  refine cb_newa (pc := 144) (atype := .int) (ty := .int) O 1024 rfl (Or.inl ⟨rfl, rfl⟩) ac_int rfl dX11_init_144 (by decide) rfl (by decide) (by decide) (by rw [Rt.2.2]; rfl) rfl (Nat.le_of_ble_eq_true rfl) (Nat.le_of_ble_eq_true rfl) (by rw [(hm_16.1 1024 (by decide) (by decide)).1]; exact hd 1024 (by decide)) ?_
  refine cb_putRc (pc := 146) O fl_X11_59 (Or.inr ⟨rfl, hnm, rfl, fm_X11_59⟩) rfl rfl dX11_init_146 (fun _ => rfl) (fun _ => rfl) (by show (if 1000 = 1024 then true else v_16.1 1000) = true; rw [if_neg (by decide), hm_16.2.1]; exact hl) (by show (if 1024 = 1024 then true else v_16.1 1024) = true; rw [if_pos rfl]) ?_
  refine cb_genw (fun v_17 hv_17 => ?_)
  have hm_17 : MI9 w v_17 [23, 22, 21, 19, 18, 17, 16, 15, 14, 13, 11, 10, 9, 5, 4, 3, 2] := by
    rw [hv_17]
    exact hm_16.add 23 (by decide)
  have hz_17 : v_17.2.1 1000 = v_16.2.1 1000 := by
    rw [hv_17]
    show (if 1000 = 1024 then (fun _ => (0 : Int32)) else v_16.2.1 1000) = _
    rw [if_neg (by decide)]
  refine cb_aload_n (pc := 149) O dX11_init_149 rfl ?_
  refine cb_sipush (pc := 150) (v := 200) O dX11_init_150 (by decide) ?_
  refine cb_newa (pc := 153) (atype := .int) (ty := .int) O 1025 rfl (Or.inl ⟨rfl, rfl⟩) ac_int rfl dX11_init_153 (by decide) rfl (by decide) (by decide) (by rw [Rt.2.2]; rfl) rfl (Nat.le_of_ble_eq_true rfl) (Nat.le_of_ble_eq_true rfl) (by rw [(hm_17.1 1025 (by decide) (by decide)).1]; exact hd 1025 (by decide)) ?_
  refine cb_putRc (pc := 155) O fl_X11_62 (Or.inr ⟨rfl, hnm, rfl, fm_X11_62⟩) rfl rfl dX11_init_155 (fun _ => rfl) (fun _ => rfl) (by show (if 1000 = 1025 then true else v_17.1 1000) = true; rw [if_neg (by decide), hm_17.2.1]; exact hl) (by show (if 1025 = 1025 then true else v_17.1 1025) = true; rw [if_pos rfl]) ?_
  refine cb_genw (fun v_18 hv_18 => ?_)
  have hm_18 : MI9 w v_18 [24, 23, 22, 21, 19, 18, 17, 16, 15, 14, 13, 11, 10, 9, 5, 4, 3, 2] := by
    rw [hv_18]
    exact hm_17.add 24 (by decide)
  have hz_18 : v_18.2.1 1000 = v_17.2.1 1000 := by
    rw [hv_18]
    show (if 1000 = 1025 then (fun _ => (0 : Int32)) else v_17.2.1 1000) = _
    rw [if_neg (by decide)]
  refine cb_aload_n (pc := 158) O dX11_init_158 rfl ?_
  refine cb_sipush (pc := 159) (v := 200) O dX11_init_159 (by decide) ?_
  refine cb_newa (pc := 162) (atype := .int) (ty := .int) O 1026 rfl (Or.inl ⟨rfl, rfl⟩) ac_int rfl dX11_init_162 (by decide) rfl (by decide) (by decide) (by rw [Rt.2.2]; rfl) rfl (Nat.le_of_ble_eq_true rfl) (Nat.le_of_ble_eq_true rfl) (by rw [(hm_18.1 1026 (by decide) (by decide)).1]; exact hd 1026 (by decide)) ?_
  refine cb_putRc (pc := 164) O fl_X11_65 (Or.inr ⟨rfl, hnm, rfl, fm_X11_65⟩) rfl rfl dX11_init_164 (fun _ => rfl) (fun _ => rfl) (by show (if 1000 = 1026 then true else v_18.1 1000) = true; rw [if_neg (by decide), hm_18.2.1]; exact hl) (by show (if 1026 = 1026 then true else v_18.1 1026) = true; rw [if_pos rfl]) ?_
  refine cb_genw (fun v_19 hv_19 => ?_)
  have hm_19 : MI9 w v_19 [25, 24, 23, 22, 21, 19, 18, 17, 16, 15, 14, 13, 11, 10, 9, 5, 4, 3, 2] := by
    rw [hv_19]
    exact hm_18.add 25 (by decide)
  have hz_19 : v_19.2.1 1000 = v_18.2.1 1000 := by
    rw [hv_19]
    show (if 1000 = 1026 then (fun _ => (0 : Int32)) else v_18.2.1 1000) = _
    rw [if_neg (by decide)]
  refine cb_aload_n (pc := 167) O dX11_init_167 rfl ?_
  refine cb_bipush (pc := 168) (v := 8) O dX11_init_168 (by decide) ?_
  refine cb_newa (pc := 170) (atype := .int) (ty := .int) O 1028 rfl (Or.inl ⟨rfl, rfl⟩) ac_int rfl dX11_init_170 (by decide) rfl (by decide) (by decide) (by rw [Rt.2.2]; rfl) rfl (Nat.le_of_ble_eq_true rfl) (Nat.le_of_ble_eq_true rfl) (by rw [(hm_19.1 1028 (by decide) (by decide)).1]; exact hd 1028 (by decide)) ?_
  refine cb_putRc (pc := 172) O fl_X11_68 (Or.inr ⟨rfl, hnm, rfl, fm_X11_68⟩) rfl rfl dX11_init_172 (fun _ => rfl) (fun _ => rfl) (by show (if 1000 = 1028 then true else v_19.1 1000) = true; rw [if_neg (by decide), hm_19.2.1]; exact hl) (by show (if 1028 = 1028 then true else v_19.1 1028) = true; rw [if_pos rfl]) ?_
  refine cb_genw (fun v_20 hv_20 => ?_)
  have hm_20 : MI9 w v_20 [27, 25, 24, 23, 22, 21, 19, 18, 17, 16, 15, 14, 13, 11, 10, 9, 5, 4, 3, 2] := by
    rw [hv_20]
    exact hm_19.add 27 (by decide)
  have hz_20 : v_20.2.1 1000 = v_19.2.1 1000 := by
    rw [hv_20]
    show (if 1000 = 1028 then (fun _ => (0 : Int32)) else v_19.2.1 1000) = _
    rw [if_neg (by decide)]
  refine cb_aload_n (pc := 175) O dX11_init_175 rfl ?_
  refine cb_bipush (pc := 176) (v := 16) O dX11_init_176 (by decide) ?_
  refine cb_newa (pc := 178) (atype := .int) (ty := .int) O 1031 rfl (Or.inl ⟨rfl, rfl⟩) ac_int rfl dX11_init_178 (by decide) rfl (by decide) (by decide) (by rw [Rt.2.2]; rfl) rfl (Nat.le_of_ble_eq_true rfl) (Nat.le_of_ble_eq_true rfl) (by rw [(hm_20.1 1031 (by decide) (by decide)).1]; exact hd 1031 (by decide)) ?_
  refine cb_putRc (pc := 180) O fl_X11_71 (Or.inr ⟨rfl, hnm, rfl, fm_X11_71⟩) rfl rfl dX11_init_180 (fun _ => rfl) (fun _ => rfl) (by show (if 1000 = 1031 then true else v_20.1 1000) = true; rw [if_neg (by decide), hm_20.2.1]; exact hl) (by show (if 1031 = 1031 then true else v_20.1 1031) = true; rw [if_pos rfl]) ?_
  refine cb_genw (fun v_21 hv_21 => ?_)
  have hm_21 : MI9 w v_21 [30, 27, 25, 24, 23, 22, 21, 19, 18, 17, 16, 15, 14, 13, 11, 10, 9, 5, 4, 3, 2] := by
    rw [hv_21]
    exact hm_20.add 30 (by decide)
  have hz_21 : v_21.2.1 1000 = v_20.2.1 1000 := by
    rw [hv_21]
    show (if 1000 = 1031 then (fun _ => (0 : Int32)) else v_20.2.1 1000) = _
    rw [if_neg (by decide)]
  refine cb_aload_n (pc := 183) O dX11_init_183 rfl ?_
  refine cb_iconst (pc := 184) (v := 5) O dX11_init_184 (by decide) ?_
  refine cb_newa (pc := 185) (atype := .int) (ty := .int) O 1032 rfl (Or.inl ⟨rfl, rfl⟩) ac_int rfl dX11_init_185 (by decide) rfl (by decide) (by decide) (by rw [Rt.2.2]; rfl) rfl (Nat.le_of_ble_eq_true rfl) (Nat.le_of_ble_eq_true rfl) (by rw [(hm_21.1 1032 (by decide) (by decide)).1]; exact hd 1032 (by decide)) ?_
  refine cb_putRc (pc := 187) O fl_X11_74 (Or.inr ⟨rfl, hnm, rfl, fm_X11_74⟩) rfl rfl dX11_init_187 (fun _ => rfl) (fun _ => rfl) (by show (if 1000 = 1032 then true else v_21.1 1000) = true; rw [if_neg (by decide), hm_21.2.1]; exact hl) (by show (if 1032 = 1032 then true else v_21.1 1032) = true; rw [if_pos rfl]) ?_
  refine cb_genw (fun v_22 hv_22 => ?_)
  have hm_22 : MI9 w v_22 [31, 30, 27, 25, 24, 23, 22, 21, 19, 18, 17, 16, 15, 14, 13, 11, 10, 9, 5, 4, 3, 2] := by
    rw [hv_22]
    exact hm_21.add 31 (by decide)
  have hz_22 : v_22.2.1 1000 = v_21.2.1 1000 := by
    rw [hv_22]
    show (if 1000 = 1032 then (fun _ => (0 : Int32)) else v_21.2.1 1000) = _
    rw [if_neg (by decide)]
  refine cb_aload_n (pc := 190) O dX11_init_190 rfl ?_
  refine cb_iconst (pc := 191) (v := 5) O dX11_init_191 (by decide) ?_
  refine cb_newa (pc := 192) (atype := .int) (ty := .int) O 1033 rfl (Or.inl ⟨rfl, rfl⟩) ac_int rfl dX11_init_192 (by decide) rfl (by decide) (by decide) (by rw [Rt.2.2]; rfl) rfl (Nat.le_of_ble_eq_true rfl) (Nat.le_of_ble_eq_true rfl) (by rw [(hm_22.1 1033 (by decide) (by decide)).1]; exact hd 1033 (by decide)) ?_
  refine cb_putRc (pc := 194) O fl_X11_77 (Or.inr ⟨rfl, hnm, rfl, fm_X11_77⟩) rfl rfl dX11_init_194 (fun _ => rfl) (fun _ => rfl) (by show (if 1000 = 1033 then true else v_22.1 1000) = true; rw [if_neg (by decide), hm_22.2.1]; exact hl) (by show (if 1033 = 1033 then true else v_22.1 1033) = true; rw [if_pos rfl]) ?_
  refine cb_genw (fun v_23 hv_23 => ?_)
  have hm_23 : MI9 w v_23 [32, 31, 30, 27, 25, 24, 23, 22, 21, 19, 18, 17, 16, 15, 14, 13, 11, 10, 9, 5, 4, 3, 2] := by
    rw [hv_23]
    exact hm_22.add 32 (by decide)
  have hz_23 : v_23.2.1 1000 = v_22.2.1 1000 := by
    rw [hv_23]
    show (if 1000 = 1033 then (fun _ => (0 : Int32)) else v_22.2.1 1000) = _
    rw [if_neg (by decide)]
  refine cb_aload_n (pc := 197) O dX11_init_197 rfl ?_
  refine cb_iconst (pc := 198) (v := (-1)) O dX11_init_198 (by decide) ?_
  refine cb_putIc (pc := 199) O fl_X11_80 (Or.inl rfl) rfl rfl dX11_init_199 rfl rfl (by rw [hm_23.2.1]; exact hl) ?_
  refine cb_genw (fun v_24 hv_24 => ?_)
  have hm_24 : MI9 w v_24 [32, 31, 30, 27, 25, 24, 23, 22, 21, 19, 18, 17, 16, 15, 14, 13, 11, 10, 9, 5, 4, 3, 2] := by
    rw [hv_24]
    exact hm_23.um 33 (-1)
  have h33 : v_24.2.1 1000 = fun i => if i = 33 then -1 else 0 := by
    rw [hv_24]
    funext i
    show cb_u2 v_23.2.1 1000 33 (-1) 1000 i = _
    by_cases e : i = 33
    · rw [e, cb_u2s]
      rfl
    · rw [cb_u2n (by omega), hz_23, hz_22, hz_21, hz_20, hz_19, hz_18, hz_17, hz_16, hz_15, hz_14, hz_13, hz_12, hz_11, hz_10, hz_9, hz_8, hz_7, hz_6, hz_5, hz_4, hz_3, hz_2, hz_1, hz_0, if_neg e]
  refine cb_aload_n (pc := 202) O dX11_init_202 rfl ?_
  refine cb_bipush (pc := 203) (v := 16) O dX11_init_203 (by decide) ?_
  refine cb_newa (pc := 205) (atype := .int) (ty := .int) O 1035 rfl (Or.inl ⟨rfl, rfl⟩) ac_int rfl dX11_init_205 (by decide) rfl (by decide) (by decide) (by rw [Rt.2.2]; rfl) rfl (Nat.le_of_ble_eq_true rfl) (Nat.le_of_ble_eq_true rfl) (by rw [(hm_24.1 1035 (by decide) (by decide)).1]; exact hd 1035 (by decide)) ?_
  refine cb_putRc (pc := 207) O fl_X11_84 (Or.inr ⟨rfl, hnm, rfl, fm_X11_84⟩) rfl rfl dX11_init_207 (fun _ => rfl) (fun _ => rfl) (by show (if 1000 = 1035 then true else v_24.1 1000) = true; rw [if_neg (by decide), hm_24.2.1]; exact hl) (by show (if 1035 = 1035 then true else v_24.1 1035) = true; rw [if_pos rfl]) ?_
  refine cb_genw (fun v_25 hv_25 => ?_)
  have hm_25 : MI9 w v_25 [34, 32, 31, 30, 27, 25, 24, 23, 22, 21, 19, 18, 17, 16, 15, 14, 13, 11, 10, 9, 5, 4, 3, 2] := by
    rw [hv_25]
    exact hm_24.add 34 (by decide)
  have hz_25 : v_25.2.1 1000 = v_24.2.1 1000 := by
    rw [hv_25]
    show (if 1000 = 1035 then (fun _ => (0 : Int32)) else v_24.2.1 1000) = _
    rw [if_neg (by decide)]
  refine cb_aload_n (pc := 210) O dX11_init_210 rfl ?_
  refine cb_iconst (pc := 211) (v := 5) O dX11_init_211 (by decide) ?_
  refine cb_newa (pc := 212) (atype := .int) (ty := .int) O 1036 rfl (Or.inl ⟨rfl, rfl⟩) ac_int rfl dX11_init_212 (by decide) rfl (by decide) (by decide) (by rw [Rt.2.2]; rfl) rfl (Nat.le_of_ble_eq_true rfl) (Nat.le_of_ble_eq_true rfl) (by rw [(hm_25.1 1036 (by decide) (by decide)).1]; exact hd 1036 (by decide)) ?_
  refine cb_putRc (pc := 214) O fl_X11_87 (Or.inr ⟨rfl, hnm, rfl, fm_X11_87⟩) rfl rfl dX11_init_214 (fun _ => rfl) (fun _ => rfl) (by show (if 1000 = 1036 then true else v_25.1 1000) = true; rw [if_neg (by decide), hm_25.2.1]; exact hl) (by show (if 1036 = 1036 then true else v_25.1 1036) = true; rw [if_pos rfl]) ?_
  refine cb_genw (fun v_26 hv_26 => ?_)
  have hm_26 : MI9 w v_26 [35, 34, 32, 31, 30, 27, 25, 24, 23, 22, 21, 19, 18, 17, 16, 15, 14, 13, 11, 10, 9, 5, 4, 3, 2] := by
    rw [hv_26]
    exact hm_25.add 35 (by decide)
  have hz_26 : v_26.2.1 1000 = v_25.2.1 1000 := by
    rw [hv_26]
    show (if 1000 = 1036 then (fun _ => (0 : Int32)) else v_25.2.1 1000) = _
    rw [if_neg (by decide)]
  refine cb_iconst (pc := 217) (v := 0) O dX11_init_217 (by decide) ?_
  refine cb_istore_n (pc := 218) O dX11_init_218 (by decide) ?_
  dsimp only [List.set]
  have hm : MI9 w v_26 M_D := hm_26
  have hz : v_26.2.1 1000 = fun i => if i = 33 then -1 else 0 := by rw [hz_26, hz_25, h33]
  have L_219 : ∀ (n : Nat) (i : Nat) (w9 : cb_W) (x2 : Option cb_V), i ≤ 10 → w9.1 = v_26.1 → w9.2.2 = v_26.2.2 → (∀ r k, r ≠ 1003 → r ≠ 1004 → w9.2.1 r k = v_26.2.1 r k) → (∀ k, k < 16 * i → w9.2.1 1003 k = nI (k / 16 + 1)) → (∀ k, k < i → w9.2.1 1004 k = nI 60) → 11 ≤ i + n → cb_X κ w9 25 8045 219 [some (.inr (some 1000)), some (.inl (nI i)), x2] [] := by
    intro n
    induction n with
    | zero =>
      intro i w9 x2 hi hw1 hw2 hw3 h3 h4 hn
      exact absurd hn (by omega)
    | succ n ih_219 =>
      intro i w9 x2 hi hw1 hw2 hw3 h3 h4 hn
      refine cb_iload_n (pc := 219) O dX11_init_219 rfl ?_
      refine cb_bipush (pc := 220) (v := 10) O dX11_init_220 (by decide) ?_
      refine cb_icmp_ge (pc := 222) O 267 dX11_init_222 (by decide) (fun c_222 => ?_) (fun c_222 => ?_)
      · skip
        have e : i = 10 := by
          have := ci_ge (b := 10) c_222 (by omega) (by decide)
          omega
        subst e
        exact cb_vret (pc := 267) O Rt (Nat.le_of_ble_eq_true rfl) (Nat.le_of_ble_eq_true rfl) dX11_init_267 (by
          refine ⟨hm.I hz hl hw1 hw2 hw3 h3 h4, fun q hq => ?_, fun r k q h1 h2 h5 h6 => ?_⟩
          · have hnD : ∀ f, f ∈ M_D → q ≠ 1001 + f := fun f hf => by
              have : ∀ f, f ∈ M_D → f < 41 := by decide
              have := this f hf
              omega
            obtain ⟨a1, a2, a3⟩ := hm.1 q (by omega) hnD
            exact ⟨by rw [hw1]; exact a1, by rw [← a2]; funext k; exact hw3 q k (by omega) (by omega), by rw [hw2]; exact a3⟩
          · rw [hw2] at h6
            by_cases e : r = 1000
            · subst e
              exact hm.2.2.2 k q h6
            · by_cases e2 : ∃ f, f ∈ M_D ∧ r = 1001 + f
              · obtain ⟨f, hf, rfl⟩ := e2
                rw [(hm.2.2.1 f hf).2.2.2] at h6
                cases h6
              · have hx := hm.1 r e (fun f hf e3 => e2 ⟨f, hf, e3⟩)
                rw [hw1, hx.1, hd r (by omega)] at h5
                cases h5)
      · skip
        have hi10 : i < 10 := ci_nge (b := 10) c_222 (by omega) (by decide)
        refine cb_aload_n (pc := 225) O dX11_init_225 rfl ?_
        refine cb_getR (pc := 226) O fl_X11_13 rfl rfl dX11_init_226 (by rw [hw1, hm.2.1]; exact hl) (by rw [hw2]; exact (hm.2.2.1 3 (by decide)).2.2.1) ?_
        refine cb_iload_n (pc := 229) O dX11_init_229 rfl ?_
        refine cb_bipush (pc := 230) (v := 60) O dX11_init_230 (by decide) ?_
        refine cb_iast (pc := 232) O i rfl dX11_init_232 (by decide) (by rw [hw1]; exact (hm.2.2.1 3 (by decide)).1) rfl (by omega) ?_
        refine cb_iconst (pc := 233) (v := 0) O dX11_init_233 (by decide) ?_
        refine cb_istore_n (pc := 234) O dX11_init_234 (by decide) ?_
        dsimp only [List.set]
        have L_235 : ∀ (n : Nat) (c : Nat) (w9 : cb_W), c ≤ 16 → w9.1 = v_26.1 → w9.2.2 = v_26.2.2 → (∀ r k, r ≠ 1003 → r ≠ 1004 → w9.2.1 r k = v_26.2.1 r k) → (∀ k, k < 16 * i + c → w9.2.1 1003 k = nI (k / 16 + 1)) → (∀ k, k < i + 1 → w9.2.1 1004 k = nI 60) → 17 ≤ c + n → cb_X κ w9 25 8045 235 [some (.inr (some 1000)), some (.inl (nI i)), some (.inl (nI c))] [] := by
          intro n
          induction n with
          | zero =>
            intro c w9 hc hw1 hw2 hw3 h3 h4 hn
            exact absurd hn (by omega)
          | succ n ih_235 =>
            intro c w9 hc hw1 hw2 hw3 h3 h4 hn
            refine cb_iload_n (pc := 235) O dX11_init_235 rfl ?_
            refine cb_bipush (pc := 236) (v := 16) O dX11_init_236 (by decide) ?_
            refine cb_icmp_ge (pc := 238) O 261 dX11_init_238 (by decide) (fun c_238 => ?_) (fun c_238 => ?_)
            · skip
              have e : c = 16 := by
                have := ci_ge (b := 16) c_238 (by omega) (by decide)
                omega
              subst e
              refine cb_iinc (pc := 261) O (nI (i + 1)) dX11_init_261 rfl (by decide) (ci_inc i) ?_
              dsimp only [List.set]
              refine cb_goto (pc := 264) O 219 dX11_init_264 (by decide) ?_
              exact ih_219 (i + 1) w9 _ (by omega) hw1 hw2 hw3 (fun k hk => h3 k (by omega)) h4 (by omega)
            · skip
              have hc16 : c < 16 := ci_nge (b := 16) c_238 (by omega) (by decide)
              refine cb_aload_n (pc := 241) O dX11_init_241 rfl ?_
              refine cb_getR (pc := 242) O fl_X11_9 rfl rfl dX11_init_242 (by rw [hw1, hm.2.1]; exact hl) (by rw [hw2]; exact (hm.2.2.1 2 (by decide)).2.2.1) ?_
              refine cb_bipush (pc := 245) (v := 16) O dX11_init_245 (by decide) ?_
              refine cb_iload_n (pc := 247) O dX11_init_247 rfl ?_
              refine cb_imul (pc := 248) O dX11_init_248 ?_
              refine cb_iload_n (pc := 249) O dX11_init_249 rfl ?_
              refine cb_iadd (pc := 250) O dX11_init_250 ?_
              refine cb_topv (nI (16 * i + c)) (ci_m16 _ _) ?_
              refine cb_iload_n (pc := 251) O dX11_init_251 rfl ?_
              refine cb_iconst (pc := 252) (v := 1) O dX11_init_252 (by decide) ?_
              refine cb_iadd (pc := 253) O dX11_init_253 ?_
              refine cb_topv (nI (i + 1)) (nI_add _ _) ?_
              refine cb_iast (pc := 254) O (16 * i + c) rfl dX11_init_254 (by decide) (by rw [hw1]; exact (hm.2.2.1 2 (by decide)).1) rfl (by omega) ?_
              refine cb_iinc (pc := 255) O (nI (c + 1)) dX11_init_255 rfl (by decide) (ci_inc c) ?_
              dsimp only [List.set]
              refine cb_goto (pc := 258) O 235 dX11_init_258 (by decide) ?_
              exact ih_235 (c + 1) _ (by omega) hw1 hw2 (fun r k g1 g2 => by simp only [cb_um]; rw [cb_u2n (Or.inl g1)]; exact hw3 r k g1 g2) (fun k hk => by
                simp only [cb_um]
                by_cases e : k = 16 * i + c
                · rw [e, cb_u2s, show (16 * i + c) / 16 + 1 = i + 1 by omega]
                · rw [cb_u2n (by omega)]; exact h3 k (by omega)) (fun k hk => by simp only [cb_um]; rw [cb_u2n (by omega)]; exact h4 k hk) (by omega)
        exact L_235 17 0 _ (by omega) hw1 hw2 (fun r k g1 g2 => by simp only [cb_um]; rw [cb_u2n (Or.inl g2)]; exact hw3 r k g1 g2) (fun k hk => by simp only [cb_um]; rw [cb_u2n (by omega)]; exact h3 k (by omega)) (fun k hk => by
          simp only [cb_um]
          by_cases e : k = i
          · rw [e, cb_u2s]
            rfl
          · rw [cb_u2n (by omega)]; exact h4 k (by omega)) (by omega)
  exact L_219 11 0 v_26 none (by omega) rfl rfl (fun _ _ _ _ => rfl) (fun k h => absurd h (by omega)) (fun k h => absurd h (by omega)) (by omega)

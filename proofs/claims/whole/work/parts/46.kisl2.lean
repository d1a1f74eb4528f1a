theorem inF.mono {f f' : Nat → Nat} {s s' x : Nat} (h : inF f s x) (hs : s ≤ s') (he : ∀ i, i < s → f' i = f i) : inF f' s' x := by
  obtain ⟨i, h1, h2⟩ := h
  exact ⟨i, by omega, by rw [he i h1]; exact h2⟩
theorem c_X1_markIsland (w : cb_W) (A : ca_A) (z : Int32) (hI : ca_I A) (hC : cc_I w A z) (st cnt : Nat) (hrt : rt A st) (hc : w.2.1 20 8 = nI cnt) (hcnt : cnt ≤ 64) (hM0 : ∀ x, x < 64 → cn A st x → w.2.1 24 x = -1) : cb_Con yX1_markIsland cX1_markIsland 4 (some .int) 3 71 0 0 (fun _ => true) [.inr (some 20), .inl (nI st)] w (cb_pi (fun v w' => v = nI (sz A st) ∧ cc_I w' A z ∧ cb_M1 w w' ∧ w'.2.1 20 = w.2.1 20 ∧ ∀ x, x < 64 → (cn A st x → w'.2.1 24 x = nI cnt) ∧ (¬ cn A st x → w'.2.1 24 x = w.2.1 24 x))) := by
  have l := hI.1
  have hst := ca_p64 hI hrt.1
  have hpst : ∀ x, cn A st x → ca_p A x := fun x h => h.p hrt.1
  refine cb_con (by decide) (Nat.le_of_ble_eq_true rfl) (fun κ O Rt hnm => ?_)
  show cb_X κ w 0 0 0 [some (.inr (some 20)), some (.inl (nI st)), none, none] []
  refine cb_aload_n (pc := 0) O dX1_markIsland_0 rfl ?_
  refine cb_getR (pc := 1) O fl_X1_24 rfl rfl dX1_markIsland_1 (by first | exact hC9.1.1 _ rfl | (simp only [cb_um]; exact hC9.1.1 _ rfl) | exact hC.1.1 _ rfl) (by first | exact hC9.1.2 _ _ _ rfl | (simp only [cb_um]; exact hC9.1.2 _ _ _ rfl) | exact hC.1.2 _ _ _ rfl) ?_
  refine cb_iconst (pc := 4) (v := 0) O dX1_markIsland_4 (by decide) ?_
  refine cb_iload_n (pc := 5) O dX1_markIsland_5 rfl ?_
  refine cb_iast (pc := 6) O 0 rfl dX1_markIsland_6 (by decide) (by first | exact hC9.1.1 _ rfl | (simp only [cb_um]; exact hC9.1.1 _ rfl) | exact hC.1.1 _ rfl) rfl (by omega) ?_
  refine cb_aload_n (pc := 7) O dX1_markIsland_7 rfl ?_
  refine cb_getR (pc := 8) O fl_X1_21 rfl rfl dX1_markIsland_8 (by first | exact hC9.1.1 _ rfl | (simp only [cb_um]; exact hC9.1.1 _ rfl) | exact hC.1.1 _ rfl) (by first | exact hC9.1.2 _ _ _ rfl | (simp only [cb_um]; exact hC9.1.2 _ _ _ rfl) | exact hC.1.2 _ _ _ rfl) ?_
  refine cb_iload_n (pc := 11) O dX1_markIsland_11 rfl ?_
  refine cb_aload_n (pc := 12) O dX1_markIsland_12 rfl ?_
  refine cb_getI (pc := 13) O fl_X1_80 rfl rfl dX1_markIsland_13 (by first | exact hC9.1.1 _ rfl | (simp only [cb_um]; exact hC9.1.1 _ rfl) | exact hC.1.1 _ rfl) ?_
  refine cb_topv (nI cnt) (by simp only [cb_um]; rw [cb_u2n (by omega)]; exact hc) ?_
  refine cb_iast (pc := 16) O st rfl dX1_markIsland_16 (by decide) (by first | exact hC9.1.1 _ rfl | (simp only [cb_um]; exact hC9.1.1 _ rfl) | exact hC.1.1 _ rfl) rfl hst ?_
  refine cb_iconst (pc := 17) (v := 1) O dX1_markIsland_17 (by decide) ?_
  refine cb_istore_n (pc := 18) O dX1_markIsland_18 (by decide) ?_
  dsimp only [List.set]
  refine cb_iconst (pc := 19) (v := 0) O dX1_markIsland_19 (by decide) ?_
  refine cb_istore_n (pc := 20) O dX1_markIsland_20 (by decide) ?_
  dsimp only [List.set]
  have hb1 : bfs_I A st cnt (w.2.1 24) (cb_um (cb_um w 25 0 (nI st)) 24 st (nI cnt)).2.1 (fun i => if i = 0 then st else 0) 1 := by
    have h := (bfs_I.zero (A := A) (st := st) (cnt := cnt) (M := w.2.1) (fun _ => 0)).add hst (cn.refl A st) (fun ⟨i, hi, _⟩ => absurd hi (by omega))
    rw [cb_u2k _ (by decide)] at h
    exact h
  have hb2 := cc_I.bf (w' := cb_um (cb_um w 25 0 (nI st)) 24 st (nI cnt)) hC hI rfl rfl (fun r k h => by
    simp only [cb_um]
    rw [cb_u2n (by omega), cb_u2n (by omega)])
  have L_21 : ∀ (n : Nat) (k s : Nat) (f : Nat → Nat) (w9 : cb_W), k ≤ s → s ≤ 64 → bfs_I A st cnt (w.2.1 24) w9.2.1 f s → 1 ≤ s → f 0 = st → (∀ i, i < k → ∀ y, adj A (f i) y → inF f s y) → cc_I w9 A z → cb_M1 w w9 → w9.2.1 20 = w.2.1 20 → 65 ≤ k + n → cb_X κ w9 0 0 21 [some (.inr (some 20)), some (.inl (nI st)), some (.inl (nI s)), some (.inl (nI k))] [] := by
    intro n
    induction n with
    | zero =>
      intro k s f w9 hk hk64 hB9 hs1 hf0 hcl hC9 hM9 h29 hn
      exact absurd hn (by omega)
    | succ n ih_21 =>
      intro k s f w9 hk hk64 hB9 hs1 hf0 hcl hC9 hM9 h29 hn
      have hl9 := hB9.le
      refine cb_iload_n (pc := 21) O dX1_markIsland_21 rfl ?_
      refine cb_iload_n (pc := 22) O dX1_markIsland_22 rfl ?_
      refine cb_icmp_ge (pc := 23) O 50 dX1_markIsland_23 (by decide) (fun c_23 => ?_) (fun c_23 => ?_)
      · skip
        rw [nI_leI (by omega) (by omega)] at c_23
        have hks : k = s := by omega
        refine cb_iload_n (pc := 50) O dX1_markIsland_50 rfl ?_
        exact cb_iret (pc := 51) O Rt rfl (Nat.le_of_ble_eq_true rfl) (Nat.le_of_ble_eq_true rfl) dX1_markIsland_51 (by
          have hall : ∀ y, cn A st y → inF f s y := fun y h => h (fun y => inF f s y) ⟨0, by omega, hf0⟩ (fun x y hx ha => by
            obtain ⟨i, hi, rfl⟩ := hx
            exact hcl i (by omega) y ha)
          have hiff : ∀ y, inF f s y ↔ cn A st y := fun y => ⟨fun ⟨i, hi, e⟩ => by rw [← e]; exact (hB9.1 i hi).2.2, hall y⟩
          have hsz : sz A st = s := by
            rw [hB9.2.2]
            unfold sz
            refine fb_ct_cong (fun k _ => ?_)
            rw [Bool.eq_iff_iff, cmb_t, inB_t, hiff]
            exact ⟨fun h => h.2, fun h => ⟨hrt, h⟩⟩
          rw [hsz]
          exact ⟨rfl, hC9, hM9, h29, fun x hx => ⟨fun h => (hB9.2.1 x hx).1 (hall x h), fun h => (hB9.2.1 x hx).2 (fun g => h ((hiff x).mp g))⟩⟩)
      · skip
        rw [nI_leI (by omega) (by omega)] at c_23
        refine cb_iload_n (pc := 26) O dX1_markIsland_26 rfl ?_
        refine cb_bipush (pc := 27) (v := 64) O dX1_markIsland_27 (by decide) ?_
        refine cb_icmp_ge (pc := 29) O 50 dX1_markIsland_29 (by decide) (fun c_29 => ?_) (fun c_29 => ?_)
        · skip
          have h64 := ci_ge (b := 64) c_29 (by omega) (by decide)
          have hks : k = s := by omega
          refine cb_iload_n (pc := 50) O dX1_markIsland_50 rfl ?_
          exact cb_iret (pc := 51) O Rt rfl (Nat.le_of_ble_eq_true rfl) (Nat.le_of_ble_eq_true rfl) dX1_markIsland_51 (by
            have hall : ∀ y, cn A st y → inF f s y := fun y h => h (fun y => inF f s y) ⟨0, by omega, hf0⟩ (fun x y hx ha => by
              obtain ⟨i, hi, rfl⟩ := hx
              exact hcl i (by omega) y ha)
            have hiff : ∀ y, inF f s y ↔ cn A st y := fun y => ⟨fun ⟨i, hi, e⟩ => by rw [← e]; exact (hB9.1 i hi).2.2, hall y⟩
            have hsz : sz A st = s := by
              rw [hB9.2.2]
              unfold sz
              refine fb_ct_cong (fun k _ => ?_)
              rw [Bool.eq_iff_iff, cmb_t, inB_t, hiff]
              exact ⟨fun h => h.2, fun h => ⟨hrt, h⟩⟩
            rw [hsz]
            exact ⟨rfl, hC9, hM9, h29, fun x hx => ⟨fun h => (hB9.2.1 x hx).1 (hall x h), fun h => (hB9.2.1 x hx).2 (fun g => h ((hiff x).mp g))⟩⟩)
        · skip
          refine cb_aload_n (pc := 32) O dX1_markIsland_32 rfl ?_
          refine cb_aload_n (pc := 33) O dX1_markIsland_33 rfl ?_
          refine cb_getR (pc := 34) O fl_X1_24 rfl rfl dX1_markIsland_34 (by first | exact hC9.1.1 _ rfl | (simp only [cb_um]; exact hC9.1.1 _ rfl) | exact hC.1.1 _ rfl) (by first | exact hC9.1.2 _ _ _ rfl | (simp only [cb_um]; exact hC9.1.2 _ _ _ rfl) | exact hC.1.2 _ _ _ rfl) ?_
          refine cb_iload_n (pc := 37) O dX1_markIsland_37 rfl ?_
          refine cb_iald (pc := 38) O k rfl dX1_markIsland_38 (by decide) (by first | exact hC9.1.1 _ rfl | (simp only [cb_um]; exact hC9.1.1 _ rfl) | exact hC.1.1 _ rfl) rfl (by omega) ?_
          refine cb_topv (nI (f k)) (hB9.1 k (by omega)).1 ?_
          refine cb_iload_n (pc := 39) O dX1_markIsland_39 rfl ?_
          refine cb_cVi (pc := 40) O (c_X1_findNeighbours w9 A z hI hC9 st cnt (w.2.1 24) f s hB9 hM0 (by rw [h29]; exact hc) hcnt hpst (f k) ⟨k, by omega, rfl⟩) my_X1_findNeighbours mi_X1_findNeighbours mx_X1_findNeighbours ml_X1_96 dX1_markIsland_40 rfl ct_1 rfl rfl rfl ⟨(Nat.le_of_ble_eq_true rfl), (Nat.le_of_ble_eq_true rfl)⟩ (Nat.le_of_ble_eq_true rfl) rfl ⟨(Nat.le_of_ble_eq_true rfl), (Nat.le_of_ble_eq_true rfl)⟩ (fun _ _ => rfl) (by first | exact hC9.1.1 _ rfl | (simp only [cb_um]; exact hC9.1.1 _ rfl) | exact hC.1.1 _ rfl) (fun x_40 w_40 hp_40 => ?_)
          obtain ⟨f', s', rfl, hss, hex, hB', had, hC', hM', h2'⟩ := hp_40
          refine cb_istore_n (pc := 43) O dX1_markIsland_43 (by decide) ?_
          dsimp only [List.set]
          refine cb_iinc (pc := 44) O (nI (k + 1)) dX1_markIsland_44 rfl (by decide) (ci_inc k) ?_
          dsimp only [List.set]
          refine cb_goto (pc := 47) O 21 dX1_markIsland_47 (by decide) ?_
          exact ih_21 (k + 1) s' f' _ (by omega) hB'.le hB' (by omega) (by rw [hex 0 (by omega)]; exact hf0) (fun i hi y ha => by
            rcases Nat.lt_or_ge i k with h | h
            · rw [hex i (by omega)] at ha
              exact (hcl i h y ha).mono hss hex
            · have e : i = k := by omega
              rw [e, hex k (by omega)] at ha
              exact had y ha) hC' (hM9.trans hM') (h2'.trans h29) (by omega)
  exact L_21 65 0 1 _ _ (by omega) (by omega) hb1 (by omega) (if_pos rfl) (fun i hi => absurd hi (by omega)) hb2.1 hb2.2 (by
    funext k9
    simp only [cb_um]
    rw [cb_u2n (by omega), cb_u2n (by omega)]) (by omega)

def MI (A : ca_A) (M : Nat → Nat → Int32) (c : Nat) : Prop := ∀ k, k < 64 → (∀ g, g < c → rt A g → cn A g k → M 24 k = nI (is_c A g)) ∧ ((¬ ∃ g, g < c ∧ rt A g ∧ cn A g k) → M 24 k = -1)
theorem MI.no {A : ca_A} {M : Nat → Nat → Int32} {c : Nat} (h : MI A M c) (hn : ¬ rt A c) : MI A M (c + 1) := by
  intro k hk
  refine ⟨fun g hg hr hc => ?_, fun h9 => (h k hk).2 (fun ⟨g, h1, h2⟩ => h9 ⟨g, by omega, h2⟩)⟩
  rcases Nat.lt_or_ge g c with h1 | h1
  · exact (h k hk).1 g h1 hr hc
  · have e : g = c := by omega
    rw [e] at hr
    exact absurd hr hn
theorem MI.yes {A : ca_A} {M M' : Nat → Nat → Int32} {c : Nat} (h : MI A M c) (hr : rt A c) (h1 : ∀ x, x < 64 → (cn A c x → M' 24 x = nI (is_c A c)) ∧ (¬ cn A c x → M' 24 x = M 24 x)) : MI A M' (c + 1) := by
  intro k hk
  refine ⟨fun g hg hrg hc => ?_, fun h9 => ?_⟩
  · rcases Nat.lt_or_ge g c with h2 | h2
    · rw [(h1 k hk).2 (fun h3 => by have := rt_one hrg hr (hc.trans h3.symm); omega)]
      exact (h k hk).1 g h2 hrg hc
    · have e : g = c := by omega
      subst e
      exact (h1 k hk).1 hc
  · rw [(h1 k hk).2 (fun h3 => h9 ⟨c, by omega, hr, h3⟩)]
    exact (h k hk).2 (fun ⟨g, g1, g2⟩ => h9 ⟨g, by omega, g2⟩)
theorem MI.at {A : ca_A} {M : Nat → Nat → Int32} {c k : Nat} (h : MI A M c) (hk : k < 64) : (M 24 k = -1 ∧ ¬ ∃ g, g < c ∧ rt A g ∧ cn A g k) ∨ (∃ g, g < c ∧ rt A g ∧ cn A g k ∧ M 24 k = nI (is_c A g)) := by
  by_cases e : ∃ g, g < c ∧ rt A g ∧ cn A g k
  · obtain ⟨g, h1, h2, h3⟩ := e
    exact Or.inr ⟨g, h1, h2, h3, (h k hk).1 g h1 h2 h3⟩
  · exact Or.inl ⟨(h k hk).2 e, e⟩
theorem is_cb (A : ca_A) (n : Nat) : is_c A n ≤ n := fb_ct_le _ _
theorem ci_n1 {n : Nat} (h : n < 2147483648) : ¬ nI n = -1 := by
  rw [ci_eq, ci_n h]
  show ¬ (n : Int) = -1
  omega
theorem c_X1_markIslands (w : cb_W) (A : ca_A) (z : Int32) (hI : ca_I A) (hC : cc_I w A z)  : cb_Con yX1_markIslands cX1_markIslands 2 none 4 94 0 0 (fun _ => true) [.inr (some 20)] w (cb_pv (fun w' => cc_I w' A z ∧ cb_M1 w w' ∧ w'.2.1 20 8 = nI (is_c A 64) ∧ w'.2.1 20 9 = nI (is_m A 64) ∧ MI A w'.2.1 64)) := by
  have l := hI.1
  refine cb_con (by decide) (Nat.le_of_ble_eq_true rfl) (fun κ O Rt hnm => ?_)
  show cb_X κ w 0 0 0 [some (.inr (some 20)), none] []
  refine cb_aload_n (pc := 0) O dX1_markIslands_0 rfl ?_
  refine cb_getR (pc := 1) O fl_X1_21 rfl rfl dX1_markIslands_1 (by first | exact hC9.1.1 _ rfl | exact hC.1.1 _ rfl | (simp only [cb_um, cb_fl]; exact hC.1.1 _ rfl)) (by first | exact hC9.1.2 _ _ _ rfl | exact hC.1.2 _ _ _ rfl) ?_
  refine cb_iconst (pc := 4) (v := (-1)) O dX1_markIslands_4 (by decide) ?_
  refine cb_cSv (pc := 5) O (c_fill w 24 64 (-1) rfl (hC.1.1 _ rfl) (by decide)) my_J7_fill_53178 mt_J7_fill_53178 ml_X1_77 dX1_markIslands_5 rfl rfl ⟨(Nat.le_of_ble_eq_true rfl), (Nat.le_of_ble_eq_true rfl)⟩ (Nat.le_of_ble_eq_true rfl) rfl ⟨(Nat.le_of_ble_eq_true rfl), (Nat.le_of_ble_eq_true rfl)⟩ (fun _ _ => rfl) (fun w_5 hp_5 => ?_)
  rw [hp_5]
  refine cb_aload_n (pc := 8) O dX1_markIslands_8 rfl ?_
  refine cb_iconst (pc := 9) (v := 0) O dX1_markIslands_9 (by decide) ?_
  refine cb_putIc (pc := 10) O fl_X1_80 (Or.inl rfl) rfl rfl dX1_markIslands_10 rfl rfl (by first | exact hC9.1.1 _ rfl | exact hC.1.1 _ rfl | (simp only [cb_um, cb_fl]; exact hC.1.1 _ rfl)) ?_
  refine cb_aload_n (pc := 13) O dX1_markIslands_13 rfl ?_
  refine cb_iconst (pc := 14) (v := 0) O dX1_markIslands_14 (by decide) ?_
  refine cb_putIc (pc := 15) O fl_X1_83 (Or.inl rfl) rfl rfl dX1_markIslands_15 rfl rfl (by first | exact hC9.1.1 _ rfl | exact hC.1.1 _ rfl | (simp only [cb_um, cb_fl]; exact hC.1.1 _ rfl)) ?_
  refine cb_iconst (pc := 18) (v := 0) O dX1_markIslands_18 (by decide) ?_
  refine cb_istore_n (pc := 19) O dX1_markIslands_19 (by decide) ?_
  dsimp only [List.set]
  have hb2 := cc_I.bf (w' := cb_um (cb_um (cb_fl w 24 0 64 (-1)) 20 8 0) 20 9 0) hC hI rfl rfl (fun r k h => by
    simp only [cb_um]
    rw [cb_u2n (by omega), cb_u2n (by omega)]
    exact if_neg (by omega))
  have L_20 : ∀ (n : Nat) (c : Nat) (w9 : cb_W), c ≤ 64 → cc_I w9 A z → cb_M1 w w9 → w9.2.1 20 8 = nI (is_c A c) → w9.2.1 20 9 = nI (is_m A c) → MI A w9.2.1 c → 65 ≤ c + n → cb_X κ w9 0 0 20 [some (.inr (some 20)), some (.inl (nI c))] [] := by
    intro n
    induction n with
    | zero =>
      intro c w9 hcc hC9 hM9 h8 h9 hMI hn
      exact absurd hn (by omega)
    | succ n ih_20 =>
      intro c w9 hcc hC9 hM9 h8 h9 hMI hn
      refine cb_iload_n (pc := 20) O dX1_markIslands_20 rfl ?_
      refine cb_bipush (pc := 21) (v := 64) O dX1_markIslands_21 (by decide) ?_
      refine cb_icmp_ge (pc := 23) O 76 dX1_markIslands_23 (by decide) (fun c_23 => ?_) (fun c_23 => ?_)
      · skip
        have e : c = 64 := by
          have := ci_ge (b := 64) c_23 (by omega) (by decide)
          omega
        subst e
        exact cb_vret (pc := 76) O Rt (Nat.le_of_ble_eq_true rfl) (Nat.le_of_ble_eq_true rfl) dX1_markIslands_76 ⟨hC9, hM9, h8, h9, hMI⟩
      · skip
        have hlt : c < 64 := ci_nge (b := 64) c_23 (by omega) (by decide)
        have hcb := is_cb A c
        have hmb := is_m64 A c
        refine cb_aload_n (pc := 26) O dX1_markIslands_26 rfl ?_
        refine cb_iload_n (pc := 27) O dX1_markIslands_27 rfl ?_
        refine cb_cVp (pc := 28) O (c_X1_prints w9 A z hI hC9 c hlt) my_X1_prints mi_X1_prints mx_X1_prints ml_X1_58 dX1_markIslands_28 rfl ct_1 rfl rfl rfl ⟨(Nat.le_of_ble_eq_true rfl), (Nat.le_of_ble_eq_true rfl)⟩ (Nat.le_of_ble_eq_true rfl) rfl ⟨(Nat.le_of_ble_eq_true rfl), (Nat.le_of_ble_eq_true rfl)⟩ (by first | exact hC9.1.1 _ rfl | exact hC.1.1 _ rfl | (simp only [cb_um, cb_fl]; exact hC.1.1 _ rfl)) ?_
        refine cb_ifp_eq (pc := 31) O 70 dX1_markIslands_31 (by decide) (fun c_31 => ?_) (fun c_31 => ?_)
        · skip
          have hnr : ¬ rt A c := fun h => c_31 h.1
          refine cb_iinc (pc := 70) O (nI (c + 1)) dX1_markIslands_70 rfl (by decide) (ci_inc c) ?_
          dsimp only [List.set]
          refine cb_goto (pc := 73) O 20 dX1_markIslands_73 (by decide) ?_
          first
          | exact ih_20 (c + 1) w9 (by omega) hC9 hM9 (by rw [is_cN hnr]; exact h8) (by rw [is_mN hnr]; exact h9) (hMI.no hnr) (by omega)
          | exact ih_20 (c + 1) _ (by omega) hbf.1 ((hM9.trans hM5).trans hbf.2) (by simp only [cb_um]; rw [cb_u2s]) (by simp only [cb_um]; rw [cb_u2n (by omega), cb_u2s]) (hMI.yes hrc (fun x hx => by
              simp only [cb_um]
              rw [cb_u2n (by omega), cb_u2n (by omega)]
              exact h5x x hx)) (by omega)
        · skip
          refine cb_aload_n (pc := 34) O dX1_markIslands_34 rfl ?_
          refine cb_getR (pc := 35) O fl_X1_21 rfl rfl dX1_markIslands_35 (by first | exact hC9.1.1 _ rfl | exact hC.1.1 _ rfl | (simp only [cb_um, cb_fl]; exact hC.1.1 _ rfl)) (by first | exact hC9.1.2 _ _ _ rfl | exact hC.1.2 _ _ _ rfl) ?_
          refine cb_iload_n (pc := 38) O dX1_markIslands_38 rfl ?_
          refine cb_iald (pc := 39) O c rfl dX1_markIslands_39 (by decide) (by first | exact hC9.1.1 _ rfl | exact hC.1.1 _ rfl | (simp only [cb_um, cb_fl]; exact hC.1.1 _ rfl)) rfl (by omega) ?_
          refine cb_iconst (pc := 40) (v := (-1)) O dX1_markIslands_40 (by decide) ?_
          refine cb_icmp_ne (pc := 41) O 70 dX1_markIslands_41 (by decide) (fun c_41 => ?_) (fun c_41 => ?_)
          · skip
            have hnr : ¬ rt A c := fun h => c_41 ((hMI c hlt).2 (fun ⟨g, g1, g2, g3⟩ => by have := h.2 g g3.symm; omega))
            refine cb_iinc (pc := 70) O (nI (c + 1)) dX1_markIslands_70 rfl (by decide) (ci_inc c) ?_
            dsimp only [List.set]
            refine cb_goto (pc := 73) O 20 dX1_markIslands_73 (by decide) ?_
            first
            | exact ih_20 (c + 1) w9 (by omega) hC9 hM9 (by rw [is_cN hnr]; exact h8) (by rw [is_mN hnr]; exact h9) (hMI.no hnr) (by omega)
            | exact ih_20 (c + 1) _ (by omega) hbf.1 ((hM9.trans hM5).trans hbf.2) (by simp only [cb_um]; rw [cb_u2s]) (by simp only [cb_um]; rw [cb_u2n (by omega), cb_u2s]) (hMI.yes hrc (fun x hx => by
                simp only [cb_um]
                rw [cb_u2n (by omega), cb_u2n (by omega)]
                exact h5x x hx)) (by omega)
          · skip
            have hrc : rt A c := by
              refine ⟨c_31, fun x hx => ?_⟩
              rcases Nat.lt_or_ge x c with h | h
              · obtain ⟨g, g1, g2, g3⟩ := rt_ex x x (Nat.le_refl _) (hx.p c_31)
                have := (hMI c hlt).1 g (by omega) g1 (g2.trans hx.symm)
                rw [this] at c_41
                exact absurd c_41 (ci_n1 (by have := is_cb A g; omega))
              · exact h
            have hM0 : ∀ x, x < 64 → cn A c x → w9.2.1 24 x = -1 := fun x hx hcx => (hMI x hx).2 (fun ⟨g, g1, g2, g3⟩ => by
              have := hrc.2 g (hcx.trans g3.symm)
              omega)
            have hzb := sz_64 A c
            refine cb_aload_n (pc := 44) O dX1_markIslands_44 rfl ?_
            refine cb_aload_n (pc := 45) O dX1_markIslands_45 rfl ?_
            refine cb_getI (pc := 46) O fl_X1_83 rfl rfl dX1_markIslands_46 (by first | exact hC9.1.1 _ rfl | exact hC.1.1 _ rfl | (simp only [cb_um, cb_fl]; exact hC.1.1 _ rfl)) ?_
            refine cb_topv _ h9 ?_
            refine cb_aload_n (pc := 49) O dX1_markIslands_49 rfl ?_
            refine cb_iload_n (pc := 50) O dX1_markIslands_50 rfl ?_
            refine cb_cVi (pc := 51) O (c_X1_markIsland w9 A z hI hC9 c (is_c A c) hrc h8 (by omega) hM0) my_X1_markIsland mi_X1_markIsland mx_X1_markIsland ml_X1_86 dX1_markIslands_51 rfl ct_1 rfl rfl rfl ⟨(Nat.le_of_ble_eq_true rfl), (Nat.le_of_ble_eq_true rfl)⟩ (Nat.le_of_ble_eq_true rfl) rfl ⟨(Nat.le_of_ble_eq_true rfl), (Nat.le_of_ble_eq_true rfl)⟩ (fun _ _ => rfl) (by first | exact hC9.1.1 _ rfl | exact hC.1.1 _ rfl | (simp only [cb_um, cb_fl]; exact hC.1.1 _ rfl)) (fun x_51 w_51 hp_51 => ?_)
            obtain ⟨rfl, hC5, hM5, h5r, h5x⟩ := hp_51
            refine cb_cSp (pc := 54) O (c_max _ _ _) my_J9_max_7cf53 mt_J9_max_7cf53 ml_X1_90 dX1_markIslands_54 rfl rfl ⟨(Nat.le_of_ble_eq_true rfl), (Nat.le_of_ble_eq_true rfl)⟩ (Nat.le_of_ble_eq_true rfl) rfl ⟨(Nat.le_of_ble_eq_true rfl), (Nat.le_of_ble_eq_true rfl)⟩ ?_
            refine cb_topv (nI (is_m A (c + 1))) (ci_max (by omega) (by omega)) ?_
            refine cb_putIc (pc := 57) O fl_X1_83 (Or.inl rfl) rfl rfl dX1_markIslands_57 rfl rfl (hC5.1.1 _ rfl) ?_
            refine cb_aload_n (pc := 60) O dX1_markIslands_60 rfl ?_
            refine cb_dup (pc := 61) O dX1_markIslands_61 ?_
            refine cb_getI (pc := 62) O fl_X1_80 rfl rfl dX1_markIslands_62 (hC5.1.1 _ rfl) ?_
            refine cb_topv (nI (is_c A c)) (by simp only [cb_um]; rw [cb_u2n (by omega), h5r]; exact h8) ?_
            refine cb_iconst (pc := 65) (v := 1) O dX1_markIslands_65 (by decide) ?_
            refine cb_iadd (pc := 66) O dX1_markIslands_66 ?_
            refine cb_topv (nI (is_c A (c + 1))) (by rw [is_cY hrc]; exact nI_add _ _) ?_
            refine cb_putIc (pc := 67) O fl_X1_80 (Or.inl rfl) rfl rfl dX1_markIslands_67 rfl rfl (hC5.1.1 _ rfl) ?_
            have hbf := cc_I.bf (w' := cb_um (cb_um w_51 20 9 (nI (is_m A (c + 1)))) 20 8 (nI (is_c A (c + 1)))) hC5 hI rfl rfl (fun r k h => by
              simp only [cb_um]
              rw [cb_u2n (by omega), cb_u2n (by omega)])
            refine cb_iinc (pc := 70) O (nI (c + 1)) dX1_markIslands_70 rfl (by decide) (ci_inc c) ?_
            dsimp only [List.set]
            refine cb_goto (pc := 73) O 20 dX1_markIslands_73 (by decide) ?_
            first
            | exact ih_20 (c + 1) w9 (by omega) hC9 hM9 (by rw [is_cN hnr]; exact h8) (by rw [is_mN hnr]; exact h9) (hMI.no hnr) (by omega)
            | exact ih_20 (c + 1) _ (by omega) hbf.1 ((hM9.trans hM5).trans hbf.2) (by simp only [cb_um]; rw [cb_u2s]) (by simp only [cb_um]; rw [cb_u2n (by omega), cb_u2s]) (hMI.yes hrc (fun x hx => by
                simp only [cb_um]
                rw [cb_u2n (by omega), cb_u2n (by omega)]
                exact h5x x hx)) (by omega)
  exact L_20 65 0 _ (by omega) hb2.1 hb2.2 (by
    simp only [cb_um]
    rw [cb_u2n (by omega), cb_u2s]
    rfl) (by
    simp only [cb_um]
    rw [cb_u2s]
    rfl) (fun k hk => ⟨fun g hg => absurd hg (by omega), fun _ => by
      simp only [cb_um]
      rw [cb_u2n (by omega), cb_u2n (by omega)]
      exact if_pos ⟨rfl, by omega, hk⟩⟩) (by omega)

theorem k_islands (w : cb_W) (A : ca_A) (z : Int32) (hI : ca_I A) (hC : cc_I w A z) (a : Int32) : cb_Con yX10_islands cX10_islands 2 (some .int) 5 115 0 0 (fun _ => true) [.inr (some 0), .inl a] w (cb_pi (fun x w' => x = sr_islands A a ∧ cc_I w' A z ∧ cb_M1 w w')) := by
  have l := hI.1
  refine cb_con (by decide) (Nat.le_of_ble_eq_true rfl) (fun κ O Rt hnm => ?_)
  show cb_X κ w 0 0 0 [some (.inr (some 0)), some (.inl a)] []
  refine cb_iload_n (pc := 0) O dX10_islands_0 rfl ?_
  refine cb_iconst (pc := 1) (v := 0) O dX10_islands_1 (by decide) ?_
  refine cb_iconst (pc := 2) (v := 2) O dX10_islands_2 (by decide) ?_
  refine cb_cSp (pc := 3) O (c_X10_within _ _ _ _) my_X10_within mt_X10_within ml_X10_81 dX10_islands_3 rfl rfl ⟨(Nat.le_of_ble_eq_true rfl), (Nat.le_of_ble_eq_true rfl)⟩ (Nat.le_of_ble_eq_true rfl) rfl ⟨(Nat.le_of_ble_eq_true rfl), (Nat.le_of_ble_eq_true rfl)⟩ ?_
  refine cb_ifp_ne (pc := 6) O 11 dX10_islands_6 (by decide) (fun c_6 => ?_) (fun c_6 => ?_)
  · skip
    refine cb_iload_n (pc := 11) O dX10_islands_11 rfl ?_
    refine cb_iconst (pc := 12) (v := 2) O dX10_islands_12 (by decide) ?_
    refine cb_icmp_ne (pc := 13) O 24 dX10_islands_13 (by decide) (fun c_13 => ?_) (fun c_13 => ?_)
    · skip
      refine cb_aload_n (pc := 24) O dX10_islands_24 rfl ?_
      refine cb_getR (pc := 25) O fl_X10_60 rfl rfl dX10_islands_25 (by first | exact hC9.1.1 _ rfl | (simp only [cb_um]; exact hC9.1.1 _ rfl) | exact hC.1.1 _ rfl) (by first | exact hC9.1.2 _ _ _ rfl | (simp only [cb_um]; exact hC9.1.2 _ _ _ rfl) | exact hC.1.2 _ _ _ rfl) ?_
      refine cb_cVv (pc := 28) O (c_X1_markIslands w A z hI hC) my_X1_markIslands mi_X1_markIslands mx_X1_markIslands ml_X10_173 dX10_islands_28 rfl ct_1 rfl rfl rfl ⟨(Nat.le_of_ble_eq_true rfl), (Nat.le_of_ble_eq_true rfl)⟩ (Nat.le_of_ble_eq_true rfl) rfl ⟨(Nat.le_of_ble_eq_true rfl), (Nat.le_of_ble_eq_true rfl)⟩ (fun _ _ => rfl) (by first | exact hC9.1.1 _ rfl | (simp only [cb_um]; exact hC9.1.1 _ rfl) | exact hC.1.1 _ rfl) (fun w_28 hp_28 => ?_)
      obtain ⟨hC9, hM9, h8, h9, hMI⟩ := hp_28
      refine cb_iload_n (pc := 31) O dX10_islands_31 rfl ?_
      refine cb_if_ne (pc := 32) O 45 dX10_islands_32 (by decide) (fun c_32 => ?_) (fun c_32 => ?_)
      · skip
        refine cb_aload_n (pc := 45) O dX10_islands_45 rfl ?_
        refine cb_getR (pc := 46) O fl_X10_60 rfl rfl dX10_islands_46 (by first | exact hC9.1.1 _ rfl | (simp only [cb_um]; exact hC9.1.1 _ rfl) | exact hC.1.1 _ rfl) (by first | exact hC9.1.2 _ _ _ rfl | (simp only [cb_um]; exact hC9.1.2 _ _ _ rfl) | exact hC.1.2 _ _ _ rfl) ?_
        refine cb_getI (pc := 49) O fl_X10_179 rfl rfl dX10_islands_49 (by first | exact hC9.1.1 _ rfl | (simp only [cb_um]; exact hC9.1.1 _ rfl) | exact hC.1.1 _ rfl) ?_
        refine cb_topv _ h9 ?_
        exact cb_iret (pc := 52) O Rt rfl (Nat.le_of_ble_eq_true rfl) (Nat.le_of_ble_eq_true rfl) dX10_islands_52 (by
          refine ⟨?_, hC9, hM9⟩
          rw [sr_islands, if_pos c_6]
          first
          | rw [if_pos c_32]
          | (rw [if_neg c_32, if_pos]
             obtain ⟨h1, h2⟩ := c_6
             rw [ci_le] at h1 h2
             rw [ci_eq] at c_32 c_13 ⊢
             have e2 : (2 : Int32).toInt = 2 := rfl
             have e1 : (1 : Int32).toInt = 1 := rfl
             have e0 : (0 : Int32).toInt = 0 := rfl
             omega))
      · skip
        refine cb_aload_n (pc := 35) O dX10_islands_35 rfl ?_
        refine cb_getR (pc := 36) O fl_X10_60 rfl rfl dX10_islands_36 (by first | exact hC9.1.1 _ rfl | (simp only [cb_um]; exact hC9.1.1 _ rfl) | exact hC.1.1 _ rfl) (by first | exact hC9.1.2 _ _ _ rfl | (simp only [cb_um]; exact hC9.1.2 _ _ _ rfl) | exact hC.1.2 _ _ _ rfl) ?_
        refine cb_getI (pc := 39) O fl_X10_176 rfl rfl dX10_islands_39 (by first | exact hC9.1.1 _ rfl | (simp only [cb_um]; exact hC9.1.1 _ rfl) | exact hC.1.1 _ rfl) ?_
        refine cb_topv _ h8 ?_
        refine cb_goto (pc := 42) O 52 dX10_islands_42 (by decide) ?_
        exact cb_iret (pc := 52) O Rt rfl (Nat.le_of_ble_eq_true rfl) (Nat.le_of_ble_eq_true rfl) dX10_islands_52 (by
          refine ⟨?_, hC9, hM9⟩
          rw [sr_islands, if_pos c_6]
          first
          | rw [if_pos c_32]
          | (rw [if_neg c_32, if_pos]
             obtain ⟨h1, h2⟩ := c_6
             rw [ci_le] at h1 h2
             rw [ci_eq] at c_32 c_13 ⊢
             have e2 : (2 : Int32).toInt = 2 := rfl
             have e1 : (1 : Int32).toInt = 1 := rfl
             have e0 : (0 : Int32).toInt = 0 := rfl
             omega))
    · skip
      refine cb_aload_n (pc := 16) O dX10_islands_16 rfl ?_
      refine cb_getR (pc := 17) O fl_X10_60 rfl rfl dX10_islands_17 (by first | exact hC9.1.1 _ rfl | (simp only [cb_um]; exact hC9.1.1 _ rfl) | exact hC.1.1 _ rfl) (by first | exact hC9.1.2 _ _ _ rfl | (simp only [cb_um]; exact hC9.1.2 _ _ _ rfl) | exact hC.1.2 _ _ _ rfl) ?_
      refine cb_cVp (pc := 20) O (c_X1_printingCells w A z hI hC) my_X1_printingCells mi_X1_printingCells mx_X1_printingCells ml_X10_169 dX10_islands_20 rfl ct_1 rfl rfl rfl ⟨(Nat.le_of_ble_eq_true rfl), (Nat.le_of_ble_eq_true rfl)⟩ (Nat.le_of_ble_eq_true rfl) rfl ⟨(Nat.le_of_ble_eq_true rfl), (Nat.le_of_ble_eq_true rfl)⟩ (by first | exact hC9.1.1 _ rfl | (simp only [cb_um]; exact hC9.1.1 _ rfl) | exact hC.1.1 _ rfl) ?_
      exact cb_iret (pc := 23) O Rt rfl (Nat.le_of_ble_eq_true rfl) (Nat.le_of_ble_eq_true rfl) dX10_islands_23 (by
        refine ⟨?_, hC, cb_M1.rfl'⟩
        rw [sr_islands, if_pos c_6, c_13]
        rfl)
  · skip
    refine cb_iconst (pc := 9) (v := (-1)) O dX10_islands_9 (by decide) ?_
    exact cb_iret (pc := 10) O Rt rfl (Nat.le_of_ble_eq_true rfl) (Nat.le_of_ble_eq_true rfl) dX10_islands_10 (by
      exact ⟨by rw [sr_islands, if_neg c_6], hC, cb_M1.rfl'⟩)

theorem k_joined (w : cb_W) (A : ca_A) (z : Int32) (hI : ca_I A) (hC : cc_I w A z) (a b : Int32) : cb_Con yX10_joined cX10_joined 3 (some .int) 5 115 0 0 (fun _ => true) [.inr (some 0), .inl a, .inl b] w (cb_pi (fun x w' => x = sr_joined A a b ∧ cc_I w' A z ∧ cb_M1 w w')) := by
  have l := hI.1
  refine cb_con (by decide) (Nat.le_of_ble_eq_true rfl) (fun κ O Rt hnm => ?_)
  show cb_X κ w 0 0 0 [some (.inr (some 0)), some (.inl a), some (.inl b)] []
  refine cb_aload_n (pc := 0) O dX10_joined_0 rfl ?_
  refine cb_getR (pc := 1) O fl_X10_60 rfl rfl dX10_joined_1 (by first | exact hC9.1.1 _ rfl | (simp only [cb_um]; exact hC9.1.1 _ rfl) | exact hC.1.1 _ rfl) (by first | exact hC9.1.2 _ _ _ rfl | (simp only [cb_um]; exact hC9.1.2 _ _ _ rfl) | exact hC.1.2 _ _ _ rfl) ?_
  refine cb_iload_n (pc := 4) O dX10_joined_4 rfl ?_
  refine cb_cVp (pc := 5) O (c_X1_hasCell w A z hI hC a) my_X1_hasCell mi_X1_hasCell mx_X1_hasCell ml_X10_160 dX10_joined_5 rfl ct_1 rfl rfl rfl ⟨(Nat.le_of_ble_eq_true rfl), (Nat.le_of_ble_eq_true rfl)⟩ (Nat.le_of_ble_eq_true rfl) rfl ⟨(Nat.le_of_ble_eq_true rfl), (Nat.le_of_ble_eq_true rfl)⟩ (by first | exact hC9.1.1 _ rfl | (simp only [cb_um]; exact hC9.1.1 _ rfl) | exact hC.1.1 _ rfl) ?_
  refine cb_ifp_eq (pc := 8) O 22 dX10_joined_8 (by decide) (fun c_8 => ?_) (fun c_8 => ?_)
  · skip
    refine cb_iconst (pc := 22) (v := (-1)) O dX10_joined_22 (by decide) ?_
    exact cb_iret (pc := 23) O Rt rfl (Nat.le_of_ble_eq_true rfl) (Nat.le_of_ble_eq_true rfl) dX10_joined_23 (by
      have hv : ¬ (ca_c A a ∧ ca_c A b) := fun h => by
        first | exact c_8 h.1 | exact c_19 h.2
      exact ⟨by rw [sr_joined, if_neg hv], hC, cb_M1.rfl'⟩)
  · skip
    refine cb_aload_n (pc := 11) O dX10_joined_11 rfl ?_
    refine cb_getR (pc := 12) O fl_X10_60 rfl rfl dX10_joined_12 (by first | exact hC9.1.1 _ rfl | (simp only [cb_um]; exact hC9.1.1 _ rfl) | exact hC.1.1 _ rfl) (by first | exact hC9.1.2 _ _ _ rfl | (simp only [cb_um]; exact hC9.1.2 _ _ _ rfl) | exact hC.1.2 _ _ _ rfl) ?_
    refine cb_iload_n (pc := 15) O dX10_joined_15 rfl ?_
    refine cb_cVp (pc := 16) O (c_X1_hasCell w A z hI hC b) my_X1_hasCell mi_X1_hasCell mx_X1_hasCell ml_X10_160 dX10_joined_16 rfl ct_1 rfl rfl rfl ⟨(Nat.le_of_ble_eq_true rfl), (Nat.le_of_ble_eq_true rfl)⟩ (Nat.le_of_ble_eq_true rfl) rfl ⟨(Nat.le_of_ble_eq_true rfl), (Nat.le_of_ble_eq_true rfl)⟩ (by first | exact hC9.1.1 _ rfl | (simp only [cb_um]; exact hC9.1.1 _ rfl) | exact hC.1.1 _ rfl) ?_
    refine cb_ifp_ne (pc := 19) O 24 dX10_joined_19 (by decide) (fun c_19 => ?_) (fun c_19 => ?_)
    · skip
      have hv : ca_c A a ∧ ca_c A b := ⟨c_8, c_19⟩
      obtain ⟨a, ha, rfl, hoa⟩ := ca_c64 hI c_8
      obtain ⟨b, hb, rfl, hob⟩ := ca_c64 hI c_19
      refine cb_aload_n (pc := 24) O dX10_joined_24 rfl ?_
      refine cb_getR (pc := 25) O fl_X10_60 rfl rfl dX10_joined_25 (by first | exact hC9.1.1 _ rfl | (simp only [cb_um]; exact hC9.1.1 _ rfl) | exact hC.1.1 _ rfl) (by first | exact hC9.1.2 _ _ _ rfl | (simp only [cb_um]; exact hC9.1.2 _ _ _ rfl) | exact hC.1.2 _ _ _ rfl) ?_
      refine cb_cVv (pc := 28) O (c_X1_markIslands w A z hI hC) my_X1_markIslands mi_X1_markIslands mx_X1_markIslands ml_X10_173 dX10_joined_28 rfl ct_1 rfl rfl rfl ⟨(Nat.le_of_ble_eq_true rfl), (Nat.le_of_ble_eq_true rfl)⟩ (Nat.le_of_ble_eq_true rfl) rfl ⟨(Nat.le_of_ble_eq_true rfl), (Nat.le_of_ble_eq_true rfl)⟩ (fun _ _ => rfl) (by first | exact hC9.1.1 _ rfl | (simp only [cb_um]; exact hC9.1.1 _ rfl) | exact hC.1.1 _ rfl) (fun w_28 hp_28 => ?_)
      obtain ⟨hC9, hM9, h8, h9, hMI⟩ := hp_28
      refine cb_aload_n (pc := 31) O dX10_joined_31 rfl ?_
      refine cb_getR (pc := 32) O fl_X10_60 rfl rfl dX10_joined_32 (by first | exact hC9.1.1 _ rfl | (simp only [cb_um]; exact hC9.1.1 _ rfl) | exact hC.1.1 _ rfl) (by first | exact hC9.1.2 _ _ _ rfl | (simp only [cb_um]; exact hC9.1.2 _ _ _ rfl) | exact hC.1.2 _ _ _ rfl) ?_
      refine cb_getR (pc := 35) O fl_X10_182 rfl rfl dX10_joined_35 (by first | exact hC9.1.1 _ rfl | (simp only [cb_um]; exact hC9.1.1 _ rfl) | exact hC.1.1 _ rfl) (by first | exact hC9.1.2 _ _ _ rfl | (simp only [cb_um]; exact hC9.1.2 _ _ _ rfl) | exact hC.1.2 _ _ _ rfl) ?_
      refine cb_iload_n (pc := 38) O dX10_joined_38 rfl ?_
      refine cb_iald (pc := 39) O a rfl dX10_joined_39 (by decide) (by first | exact hC9.1.1 _ rfl | (simp only [cb_um]; exact hC9.1.1 _ rfl) | exact hC.1.1 _ rfl) rfl (by omega) ?_
      refine cb_iconst (pc := 40) (v := (-1)) O dX10_joined_40 (by decide) ?_
      refine cb_icmp_eq (pc := 41) O 69 dX10_joined_41 (by decide) (fun c_41 => ?_) (fun c_41 => ?_)
      · skip
        have hr : ¬ (ca_p A a ∧ cn A a b) := fun h => by
          obtain ⟨g, g1, g2, g3⟩ := rt_ex a a (Nat.le_refl _) h.1
          rw [(hMI a ha).1 g (by omega) g1 g2] at c_41
          exact absurd c_41 (ci_n1 (by have := is_cb A g; omega))
        refine cb_iconst (pc := 69) (v := 0) O dX10_joined_69 (by decide) ?_
        refine cb_cSp (pc := 70) O (c_X10_answer _ _) my_X10_answer mt_X10_answer ml_X10_185 dX10_joined_70 rfl rfl ⟨(Nat.le_of_ble_eq_true rfl), (Nat.le_of_ble_eq_true rfl)⟩ (Nat.le_of_ble_eq_true rfl) rfl ⟨(Nat.le_of_ble_eq_true rfl), (Nat.le_of_ble_eq_true rfl)⟩ ?_
        exact cb_iret (pc := 73) O Rt rfl (Nat.le_of_ble_eq_true rfl) (Nat.le_of_ble_eq_true rfl) dX10_joined_73 (by
          refine ⟨?_, hC9, hM9⟩
          rw [sr_joined, if_pos hv, ci_tn (by omega), ci_tn (by omega)]
          first | (rw [jn_1 hr]; rfl) | (rw [jn_0 hr]; rfl))
      · skip
        obtain ⟨g, g1, g2, g3, g4⟩ : ∃ g, g < 64 ∧ rt A g ∧ cn A g a ∧ w_28.2.1 24 a = nI (is_c A g) := (hMI.at ha).resolve_left (fun h => c_41 h.1)
        have gb := is_cb A g
        refine cb_aload_n (pc := 44) O dX10_joined_44 rfl ?_
        refine cb_getR (pc := 45) O fl_X10_60 rfl rfl dX10_joined_45 (by first | exact hC9.1.1 _ rfl | (simp only [cb_um]; exact hC9.1.1 _ rfl) | exact hC.1.1 _ rfl) (by first | exact hC9.1.2 _ _ _ rfl | (simp only [cb_um]; exact hC9.1.2 _ _ _ rfl) | exact hC.1.2 _ _ _ rfl) ?_
        refine cb_getR (pc := 48) O fl_X10_182 rfl rfl dX10_joined_48 (by first | exact hC9.1.1 _ rfl | (simp only [cb_um]; exact hC9.1.1 _ rfl) | exact hC.1.1 _ rfl) (by first | exact hC9.1.2 _ _ _ rfl | (simp only [cb_um]; exact hC9.1.2 _ _ _ rfl) | exact hC.1.2 _ _ _ rfl) ?_
        refine cb_iload_n (pc := 51) O dX10_joined_51 rfl ?_
        refine cb_iald (pc := 52) O a rfl dX10_joined_52 (by decide) (by first | exact hC9.1.1 _ rfl | (simp only [cb_um]; exact hC9.1.1 _ rfl) | exact hC.1.1 _ rfl) rfl (by omega) ?_
        refine cb_aload_n (pc := 53) O dX10_joined_53 rfl ?_
        refine cb_getR (pc := 54) O fl_X10_60 rfl rfl dX10_joined_54 (by first | exact hC9.1.1 _ rfl | (simp only [cb_um]; exact hC9.1.1 _ rfl) | exact hC.1.1 _ rfl) (by first | exact hC9.1.2 _ _ _ rfl | (simp only [cb_um]; exact hC9.1.2 _ _ _ rfl) | exact hC.1.2 _ _ _ rfl) ?_
        refine cb_getR (pc := 57) O fl_X10_182 rfl rfl dX10_joined_57 (by first | exact hC9.1.1 _ rfl | (simp only [cb_um]; exact hC9.1.1 _ rfl) | exact hC.1.1 _ rfl) (by first | exact hC9.1.2 _ _ _ rfl | (simp only [cb_um]; exact hC9.1.2 _ _ _ rfl) | exact hC.1.2 _ _ _ rfl) ?_
        refine cb_iload_n (pc := 60) O dX10_joined_60 rfl ?_
        refine cb_iald (pc := 61) O b rfl dX10_joined_61 (by decide) (by first | exact hC9.1.1 _ rfl | (simp only [cb_um]; exact hC9.1.1 _ rfl) | exact hC.1.1 _ rfl) rfl (by omega) ?_
        refine cb_icmp_ne (pc := 62) O 69 dX10_joined_62 (by decide) (fun c_62 => ?_) (fun c_62 => ?_)
        · skip
          rw [g4] at c_62
          have hr : ¬ (ca_p A a ∧ cn A a b) := fun h => c_62 ((hMI b hb).1 g g1 g2 (g3.trans h.2)).symm
          refine cb_iconst (pc := 69) (v := 0) O dX10_joined_69 (by decide) ?_
          refine cb_cSp (pc := 70) O (c_X10_answer _ _) my_X10_answer mt_X10_answer ml_X10_185 dX10_joined_70 rfl rfl ⟨(Nat.le_of_ble_eq_true rfl), (Nat.le_of_ble_eq_true rfl)⟩ (Nat.le_of_ble_eq_true rfl) rfl ⟨(Nat.le_of_ble_eq_true rfl), (Nat.le_of_ble_eq_true rfl)⟩ ?_
          exact cb_iret (pc := 73) O Rt rfl (Nat.le_of_ble_eq_true rfl) (Nat.le_of_ble_eq_true rfl) dX10_joined_73 (by
            refine ⟨?_, hC9, hM9⟩
            rw [sr_joined, if_pos hv, ci_tn (by omega), ci_tn (by omega)]
            first | (rw [jn_1 hr]; rfl) | (rw [jn_0 hr]; rfl))
        · skip
          rw [g4] at c_62
          have hr : ca_p A a ∧ cn A a b := by
            refine ⟨g3.p g2.1, ?_⟩
            rcases hMI.at hb with h | ⟨g', k1, k2, k3, k4⟩
            · rw [h.1] at c_62
              exact absurd c_62 (ci_n1 (by omega))
            · rw [k4, nI_eq (by omega) (by have := is_cb A g'; omega)] at c_62
              have e := is_cinj g2 k2 c_62
              subst e
              exact g3.symm.trans k3
          refine cb_iconst (pc := 65) (v := 1) O dX10_joined_65 (by decide) ?_
          refine cb_goto (pc := 66) O 70 dX10_joined_66 (by decide) ?_
          refine cb_cSp (pc := 70) O (c_X10_answer _ _) my_X10_answer mt_X10_answer ml_X10_185 dX10_joined_70 rfl rfl ⟨(Nat.le_of_ble_eq_true rfl), (Nat.le_of_ble_eq_true rfl)⟩ (Nat.le_of_ble_eq_true rfl) rfl ⟨(Nat.le_of_ble_eq_true rfl), (Nat.le_of_ble_eq_true rfl)⟩ ?_
          exact cb_iret (pc := 73) O Rt rfl (Nat.le_of_ble_eq_true rfl) (Nat.le_of_ble_eq_true rfl) dX10_joined_73 (by
            refine ⟨?_, hC9, hM9⟩
            rw [sr_joined, if_pos hv, ci_tn (by omega), ci_tn (by omega)]
            first | (rw [jn_1 hr]; rfl) | (rw [jn_0 hr]; rfl))
    · skip
      refine cb_iconst (pc := 22) (v := (-1)) O dX10_joined_22 (by decide) ?_
      exact cb_iret (pc := 23) O Rt rfl (Nat.le_of_ble_eq_true rfl) (Nat.le_of_ble_eq_true rfl) dX10_joined_23 (by
        have hv : ¬ (ca_c A a ∧ ca_c A b) := fun h => by
          first | exact c_8 h.1 | exact c_19 h.2
        exact ⟨by rw [sr_joined, if_neg hv], hC, cb_M1.rfl'⟩)

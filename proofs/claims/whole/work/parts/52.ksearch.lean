def Ls (L : Nat → Bool) (s : Nat) : Nat → Bool := fun j => L j && !(s.testBit (fb_ct L j))
def sw (L : Nat → Bool) (s c : Nat) : Nat := if L c = true then s ||| 2 ^ fb_ct L c else s
theorem Ls_0 (L : Nat → Bool) : Ls L 0 = L := by
  funext j
  unfold Ls
  rw [Nat.zero_testBit]
  simp
theorem Ls_sw (L : Nat → Bool) (s c : Nat) : Ls L (sw L s c) = rv (Ls L s) c := by
  funext j
  unfold Ls rv sw
  cases hc : L c
  · by_cases e : j = c
    · rw [e, hc]
      simp
    · simp [e]
  · rw [if_pos rfl, fb_bit_set]
    cases hj : L j
    · simp [hj]
    · by_cases e : j = c
      · simp [e]
      · have : ¬ fb_ct L j = fb_ct L c := fun h => e (fb_ct_kth_one hj hc h)
        simp [e, this, hj]
theorem nm_lt {L : Nat → Bool} {c : Nat} (hc : c < 16) (h : L c = true) : fb_ct L c < fb_ct L 16 := by
  have h1 := fb_ct_mono L (show c + 1 ≤ 16 by omega)
  rw [fb_ct_succ, if_pos h] at h1
  omega
theorem sw_lt {L : Nat → Bool} {s c : Nat} (hc : c < 16) (hs : s < 2 ^ fb_ct L 16) : sw L s c < 2 ^ fb_ct L 16 := by
  unfold sw
  split
  · rename_i h
    exact Nat.or_lt_two_pow hs (Nat.pow_lt_pow_right (by decide) (nm_lt hc h))
  · exact hs
theorem Ls_full {L : Nat → Bool} {s : Nat} (hs : s < 2 ^ fb_ct L 16) : (∀ j, j < 16 → Ls L s j = false) ↔ 2 ^ fb_ct L 16 - 1 = s := by
  constructor
  · intro h
    apply Nat.eq_of_testBit_eq
    intro k
    rw [Nat.testBit_two_pow_sub_one]
    rcases Nat.lt_or_ge k (fb_ct L 16) with h1 | h1
    · obtain ⟨j, hj, hl, e⟩ := fb_ct_kth h1
      have h2 := h j hj
      unfold Ls at h2
      rw [hl, e] at h2
      simp at h2
      rw [h2]
      simp [h1]
    · rw [Nat.testBit_lt_two_pow (Nat.lt_of_lt_of_le hs (Nat.pow_le_pow_right (by decide) h1))]
      simp
      omega
  · intro h j hj
    unfold Ls
    cases hl : L j
    · rfl
    · rw [← h, Nat.testBit_two_pow_sub_one]
      simp [nm_lt hj hl]
def hold (k : Nat) : Nat := ([2863311530, 3435973836, 4042322160, 4278255360, 4294901760] : List Nat).getD k 0
theorem hold_I : ∀ k, k < 5 → ([0xAAAAAAAA, 0xCCCCCCCC, 0xF0F0F0F0, 0xFF00FF00, 0xFFFF0000] : List Int32).getD k 0 = nI (hold k) := by decide +kernel
theorem hold_t : ∀ k, k < 5 → ∀ s, s < 32 → (s.testBit k = true → (hold k).testBit s = true ∧ (hold k).testBit (s + 2 ^ k) = false ∧ s ||| 2 ^ k = s) ∧ (s.testBit k = false → (hold k).testBit s = false ∧ (hold k).testBit (s + 2 ^ k) = true ∧ s ||| 2 ^ k = s + 2 ^ k) := by decide +kernel
def sa (L : Nat → Bool) (e c : Nat) : Nat := if L c = true then (e &&& hold (fb_ct L c)) ||| ((e &&& hold (fb_ct L c)) / 2 ^ (2 ^ fb_ct L c)) else e
theorem sa_t {L : Nat → Bool} {e c s : Nat} (hk : L c = true → fb_ct L c < 5) (hs : s < 32) : (sa L e c).testBit s = e.testBit (sw L s c) := by
  unfold sa sw
  cases hc : L c
  · rfl
  · rw [if_pos rfl, if_pos rfl, Nat.testBit_or, Nat.testBit_div_two_pow, Nat.testBit_and, Nat.testBit_and]
    obtain ⟨h1, h2⟩ := hold_t _ (hk hc) s hs
    cases hb : s.testBit (fb_ct L c)
    · obtain ⟨g1, g2, g3⟩ := h2 hb
      rw [g1, g2, g3]
      simp
    · obtain ⟨g1, g2, g3⟩ := h1 hb
      rw [g1, g2, g3]
      simp
theorem sa_lt {L : Nat → Bool} {e c : Nat} (he : e < 4294967296) : sa L e c < 4294967296 := by
  unfold sa
  split
  · have h1 : (e &&& hold (fb_ct L c)) < 2 ^ 32 := Nat.lt_of_le_of_lt Nat.and_le_left he
    exact Nat.or_lt_two_pow (n := 32) h1 (Nat.lt_of_le_of_lt (Nat.div_le_self _ _) h1)
  · exact he
theorem ci_shl32a : ∀ c, c < 32 → (1 : Int32) <<< (nI c &&& 31) = nI (2 ^ c) := by decide +kernel
theorem ci_p2s : ∀ k, k < 5 → 2 ^ k < 32 := by decide
def NB (M : Nat → Nat → Int32) (L : Nat → Bool) (n : Nat) : Prop := ∀ c, c < n → (L c = true → M 12 c = nI (fb_ct L c)) ∧ (L c = false → M 12 c = -1)
def EN9 (A : ca_A) (u : Nat) (L : Nat → Bool) (M : Nat → Nat → Int32) (q n : Nat) : Prop := ∀ c, c < n → ∃ e, e < 4294967296 ∧ M (130 + q) c = nI e ∧ ∀ s, s < 2 ^ fb_ct L 16 → (e.testBit s = true ↔ mkb A u q c (Ls L s) = true)
theorem p2nd {k : Nat} (h : k ≤ 5) : 2 ^ k ≤ 32 := (Nat.pow_le_pow_right (show 2 > 0 by decide) h : 2 ^ k ≤ 2 ^ 5)
theorem cc_I.se {w w' : cb_W} {A : ca_A} {z : Int32} (hC : cc_I w A z) (hI : ca_I A) (h1 : w'.1 = w.1) (h2 : w'.2.2 = w.2.2) (h3 : ∀ r k, ¬ (r = 6 ∨ r = 12 ∨ (130 ≤ r ∧ r < 136)) → w'.2.1 r k = w.2.1 r k) : cc_I w' A z ∧ cb_M1 w w' := by
  obtain ⟨hW, hB, hN, hK, hS, hE, hP, hL, l1, l2, l3⟩ := hC
  exact ⟨⟨by unfold cb_CW; rw [h1, h2]; exact hW, hB.cg (fun r k e => h3 r k (by omega)) (fun _ _ _ => rfl), hN.cg (fun r k e => h3 r k (by omega)) (fun _ _ _ => rfl), hK.cg (fun r k e => h3 r k (by omega)) (fun _ _ _ => rfl), hS.cg hI.1.2.2.2.1 (fun r _ _ => by rw [h1]) (fun r k _ => by rw [h2]) (fun r k g1 g2 => h3 r k (by omega)) (fun _ _ _ => rfl), hE.cg hI.1.2.2.2.2.1 (fun r _ _ => by rw [h1]) (fun k => by rw [h2]) (fun r k g1 g2 => h3 r k (by omega)) (fun _ _ _ => rfl), hP.cg (fun r k e => h3 r k (by omega)) (fun _ _ _ => rfl), hL.cg (fun r k e => h3 r k (by omega)) (fun _ _ _ => rfl), by rw [h1]; exact l1, by rw [h1]; exact l2, by rw [h1, h2]; exact l3⟩, fun r hr => ⟨by rw [h1], funext fun k => h3 r k (by omega), fun _ => by rw [h2]⟩⟩
theorem c_X8_numberNeeded (w : cb_W) (A : ca_A) (hI : ca_I A) (hW : cb_CW w) (hK : cc_K w.2.1 A) (x : Nat) (hx : x < 65536) (h5 : fb_ct (Nat.testBit x) 16 ≤ 5) : cb_Con yX8_numberNeeded cX8_numberNeeded 4 none 1 21 0 0 (fun _ => true) [.inr (some 6), .inl (nI x)] w (cb_pv (fun w' => w'.1 = w.1 ∧ w'.2.2 = w.2.2 ∧ (∀ r k, r ≠ 12 → w'.2.1 r k = w.2.1 r k) ∧ NB w'.2.1 (Nat.testBit x) 16)) := by
  refine cb_con (by decide) (Nat.le_of_ble_eq_true rfl) (fun κ O Rt hnm => ?_)
  show cb_X κ w 0 0 0 [some (.inr (some 6)), some (.inl (nI x)), none, none] []
  refine cb_iconst (pc := 0) (v := 0) O dX8_numberNeeded_0 (by decide) ?_
  refine cb_istore_n (pc := 1) O dX8_numberNeeded_1 (by decide) ?_
  dsimp only [List.set]
  refine cb_iconst (pc := 2) (v := 0) O dX8_numberNeeded_2 (by decide) ?_
  refine cb_istore_n (pc := 3) O dX8_numberNeeded_3 (by decide) ?_
  dsimp only [List.set]
  have L_4 : ∀ (n : Nat) (c : Nat) (w9 : cb_W), c ≤ 16 → w9.1 = w.1 → w9.2.2 = w.2.2 → (∀ r k, r ≠ 12 → w9.2.1 r k = w.2.1 r k) → NB w9.2.1 (Nat.testBit x) c → 17 ≤ c + n → cb_X κ w9 0 0 4 [some (.inr (some 6)), some (.inl (nI x)), some (.inl (nI (fb_ct (Nat.testBit x) c))), some (.inl (nI c))] [] := by
    intro n
    induction n with
    | zero =>
      intro c w9 hc hw1 hw2 hw3 hnb hn
      exact absurd hn (by omega)
    | succ n ih_4 =>
      intro c w9 hc hw1 hw2 hw3 hnb hn
      refine cb_iload_n (pc := 4) O dX8_numberNeeded_4 rfl ?_
      refine cb_bipush (pc := 5) (v := 16) O dX8_numberNeeded_5 (by decide) ?_
      refine cb_icmp_ge (pc := 7) O 46 dX8_numberNeeded_7 (by decide) (fun c_7 => ?_) (fun c_7 => ?_)
      · skip
        have e : c = 16 := by
          have := ci_ge (b := 16) c_7 (by omega) (by decide)
          omega
        subst e
        exact cb_vret (pc := 46) O Rt (Nat.le_of_ble_eq_true rfl) (Nat.le_of_ble_eq_true rfl) dX8_numberNeeded_46 ⟨hw1, hw2, hw3, hnb⟩
      · skip
        have hlt : c < 16 := ci_nge (b := 16) c_7 (by omega) (by decide)
        refine cb_aload_n (pc := 10) O dX8_numberNeeded_10 rfl ?_
        refine cb_getR (pc := 11) O fl_X8_9 rfl rfl dX8_numberNeeded_11 (by first | exact hW.1 _ rfl | (rw [hw1]; exact hW.1 _ rfl) | (simp only [cb_um]; rw [hw1]; exact hW.1 _ rfl)) (by first | exact hW.2 _ _ _ rfl | (rw [hw2]; exact hW.2 _ _ _ rfl) | (simp only [cb_um]; rw [hw2]; exact hW.2 _ _ _ rfl)) ?_
        refine cb_iload_n (pc := 14) O dX8_numberNeeded_14 rfl ?_
        refine cb_iconst (pc := 15) (v := (-1)) O dX8_numberNeeded_15 (by decide) ?_
        refine cb_iast (pc := 16) O c rfl dX8_numberNeeded_16 (by decide) (by first | exact hW.1 _ rfl | (rw [hw1]; exact hW.1 _ rfl) | (simp only [cb_um]; rw [hw1]; exact hW.1 _ rfl)) rfl (by omega) ?_
        refine cb_iload_n (pc := 17) O dX8_numberNeeded_17 rfl ?_
        refine cb_iload_n (pc := 18) O dX8_numberNeeded_18 rfl ?_
        refine cb_cSp (pc := 19) O (c_X10_has _ _ _) my_X10_has mt_X10_has ml_X8_50 dX8_numberNeeded_19 rfl rfl ⟨(Nat.le_of_ble_eq_true rfl), (Nat.le_of_ble_eq_true rfl)⟩ (Nat.le_of_ble_eq_true rfl) rfl ⟨(Nat.le_of_ble_eq_true rfl), (Nat.le_of_ble_eq_true rfl)⟩ ?_
        refine cb_ifp_eq (pc := 22) O 40 dX8_numberNeeded_22 (by decide) (fun c_22 => ?_) (fun c_22 => ?_)
        · skip
          rw [ci_has (by omega) (by omega)] at c_22
          have hs0 : fb_ct (Nat.testBit x) c = fb_ct (Nat.testBit x) (c + 1) := by
            rw [fb_ct_succ, if_neg c_22]
            rfl
          refine cb_iinc (pc := 40) O (nI (c + 1)) dX8_numberNeeded_40 rfl (by decide) (ci_inc c) ?_
          dsimp only [List.set]
          refine cb_goto (pc := 43) O 4 dX8_numberNeeded_43 (by decide) ?_
          first
          | (rw [hs0]
             exact ih_4 (c + 1) _ (by omega) hw1 hw2 (fun r k h => by simp only [cb_um]; rw [cb_u2n (Or.inl h)]; exact hw3 r k h) (fun c' hc' => by
               simp only [cb_um]
               by_cases e : c' = c
               · rw [e, cb_u2s]
                 exact ⟨fun h => absurd h c_22, fun _ => rfl⟩
               · rw [cb_u2n (Or.inr e)]
                 exact hnb c' (by omega)) (by omega))
          | exact ih_4 (c + 1) _ (by omega) hw1 hw2 (fun r k h => by simp only [cb_um]; rw [cb_u2n (Or.inl h), cb_u2n (Or.inl h)]; exact hw3 r k h) (fun c' hc' => by
               simp only [cb_um]
               by_cases e : c' = c
               · rw [e, cb_u2s]
                 exact ⟨fun _ => rfl, fun h => absurd c_22 (by rw [h]; decide)⟩
               · rw [cb_u2n (Or.inr e), cb_u2n (Or.inr e)]
                 exact hnb c' (by omega)) (by omega)
        · skip
          rw [ci_has (by omega) (by omega)] at c_22
          have hs1 : fb_ct (Nat.testBit x) (c + 1) = fb_ct (Nat.testBit x) c + 1 := by
            rw [fb_ct_succ, if_pos c_22]
          have hm := nm_lt (L := Nat.testBit x) hlt c_22
          refine cb_iload_n (pc := 25) O dX8_numberNeeded_25 rfl ?_
          refine cb_iconst (pc := 26) (v := 5) O dX8_numberNeeded_26 (by decide) ?_
          refine cb_icmp_ge (pc := 27) O 40 dX8_numberNeeded_27 (by decide) (fun c_27 => ?_) (fun c_27 => ?_)
          · skip
            exact absurd (ci_ge (b := 5) c_27 (by omega) (by decide)) (by omega)
            skip
          · skip
            refine cb_aload_n (pc := 30) O dX8_numberNeeded_30 rfl ?_
            refine cb_getR (pc := 31) O fl_X8_9 rfl rfl dX8_numberNeeded_31 (by first | exact hW.1 _ rfl | (rw [hw1]; exact hW.1 _ rfl) | (simp only [cb_um]; rw [hw1]; exact hW.1 _ rfl)) (by first | exact hW.2 _ _ _ rfl | (rw [hw2]; exact hW.2 _ _ _ rfl) | (simp only [cb_um]; rw [hw2]; exact hW.2 _ _ _ rfl)) ?_
            refine cb_iload_n (pc := 34) O dX8_numberNeeded_34 rfl ?_
            refine cb_iload_n (pc := 35) O dX8_numberNeeded_35 rfl ?_
            refine cb_iast (pc := 36) O c rfl dX8_numberNeeded_36 (by decide) (by first | exact hW.1 _ rfl | (rw [hw1]; exact hW.1 _ rfl) | (simp only [cb_um]; rw [hw1]; exact hW.1 _ rfl)) rfl (by omega) ?_
            refine cb_iinc (pc := 37) O (nI (fb_ct (Nat.testBit x) (c + 1))) dX8_numberNeeded_37 rfl (by decide) (by rw [hs1]; exact ci_inc _) ?_
            dsimp only [List.set]
            refine cb_iinc (pc := 40) O (nI (c + 1)) dX8_numberNeeded_40 rfl (by decide) (ci_inc c) ?_
            dsimp only [List.set]
            refine cb_goto (pc := 43) O 4 dX8_numberNeeded_43 (by decide) ?_
            first
            | (rw [hs0]
               exact ih_4 (c + 1) _ (by omega) hw1 hw2 (fun r k h => by simp only [cb_um]; rw [cb_u2n (Or.inl h)]; exact hw3 r k h) (fun c' hc' => by
                 simp only [cb_um]
                 by_cases e : c' = c
                 · rw [e, cb_u2s]
                   exact ⟨fun h => absurd h c_22, fun _ => rfl⟩
                 · rw [cb_u2n (Or.inr e)]
                   exact hnb c' (by omega)) (by omega))
            | exact ih_4 (c + 1) _ (by omega) hw1 hw2 (fun r k h => by simp only [cb_um]; rw [cb_u2n (Or.inl h), cb_u2n (Or.inl h)]; exact hw3 r k h) (fun c' hc' => by
                 simp only [cb_um]
                 by_cases e : c' = c
                 · rw [e, cb_u2s]
                   exact ⟨fun _ => rfl, fun h => absurd c_22 (by rw [h]; decide)⟩
                 · rw [cb_u2n (Or.inr e), cb_u2n (Or.inr e)]
                   exact hnb c' (by omega)) (by omega)
  exact L_4 17 0 w (by omega) rfl rfl (fun _ _ _ => rfl) (fun c hc => absurd hc (by omega)) (by omega)

theorem c_X8_setsAhead (w : cb_W) (A : ca_A) (hI : ca_I A) (hW : cb_CW w) (hK : cc_K w.2.1 A) (L : Nat → Bool) (hnb : NB w.2.1 L 16) (h5 : fb_ct L 16 ≤ 5) (e c : Nat) (he : e < 4294967296) (hc : c < 16) : cb_Pu yX8_setsAhead cX8_setsAhead 5 (some .int) 0 0 [.inr (some 6), .inl (nI e), .inl (nI c)] w (nI (sa L e c)) := by
  have hb := hnb c hc
  refine cb_con (by decide) (Nat.le_of_ble_eq_true rfl) (fun κ O Rt hnm => ?_)
  show cb_X κ w 0 0 0 [some (.inr (some 6)), some (.inl (nI e)), some (.inl (nI c)), none, none] []
  refine cb_aload_n (pc := 0) O dX8_setsAhead_0 rfl ?_
  refine cb_getR (pc := 1) O fl_X8_9 rfl rfl dX8_setsAhead_1 (by first | exact hW.1 _ rfl | (rw [hw1]; exact hW.1 _ rfl) | (simp only [cb_um]; rw [hw1]; exact hW.1 _ rfl)) (by first | exact hW.2 _ _ _ rfl | (rw [hw2]; exact hW.2 _ _ _ rfl) | (simp only [cb_um]; rw [hw2]; exact hW.2 _ _ _ rfl)) ?_
  refine cb_iload_n (pc := 4) O dX8_setsAhead_4 rfl ?_
  refine cb_iald (pc := 5) O c rfl dX8_setsAhead_5 (by decide) (by first | exact hW.1 _ rfl | (rw [hw1]; exact hW.1 _ rfl) | (simp only [cb_um]; rw [hw1]; exact hW.1 _ rfl)) rfl hc ?_
  refine cb_top (fun y hy => ?_)
  refine cb_istore_n (pc := 6) O dX8_setsAhead_6 (by decide) ?_
  dsimp only [List.set]
  refine cb_iload_n (pc := 7) O dX8_setsAhead_7 rfl ?_
  refine cb_iconst (pc := 8) (v := (-1)) O dX8_setsAhead_8 (by decide) ?_
  refine cb_icmp_ne (pc := 9) O 14 dX8_setsAhead_9 (by decide) (fun c_9 => ?_) (fun c_9 => ?_)
  · skip
    have hl : L c = true := by
      cases h : L c
      · exact absurd (hy.trans (hb.2 h)) c_9
      · rfl
    have hm := nm_lt hc hl
    have hyk := hy.trans (hb.1 hl)
    rw [hyk]
    have hh : (e &&& hold (fb_ct L c)) < 4294967296 := Nat.lt_of_le_of_lt Nat.and_le_left he
    refine cb_iload_n (pc := 14) O dX8_setsAhead_14 rfl ?_
    refine cb_gets (pc := 15) O 0 (by decide) (by decide) fs_X8_63 dX8_setsAhead_15 ?_
    refine cb_iload_n (pc := 18) O dX8_setsAhead_18 rfl ?_
    refine cb_ialdS (pc := 19) O 0 (fb_ct L c) (by decide) dX8_setsAhead_19 (by show 5 < 2147483648; decide) rfl (by show fb_ct L c < 5; omega) ?_
    refine cb_topv (nI (hold (fb_ct L c))) (hold_I _ (by omega)) ?_
    refine cb_iand (pc := 20) O dX8_setsAhead_20 ?_
    refine cb_topv _ (fa_and _ _) ?_
    refine cb_istore (pc := 21) O dX8_setsAhead_21 (by decide) ?_
    dsimp only [List.set]
    refine cb_iload (pc := 23) O dX8_setsAhead_23 rfl ?_
    refine cb_iload (pc := 25) O dX8_setsAhead_25 rfl ?_
    refine cb_iconst (pc := 27) (v := 1) O dX8_setsAhead_27 (by decide) ?_
    refine cb_iload_n (pc := 28) O dX8_setsAhead_28 rfl ?_
    refine cb_ishl (pc := 29) O dX8_setsAhead_29 ?_
    refine cb_topv _ (ci_shl (by omega)) ?_
    refine cb_iushr (pc := 30) O dX8_setsAhead_30 ?_
    refine cb_topv _ (ci_ush hh (ci_p2s _ (by omega))) ?_
    refine cb_ior (pc := 31) O dX8_setsAhead_31 ?_
    refine cb_topv (nI (sa L e c)) (by
      unfold sa
      rw [if_pos hl]
      exact fa_or _ _) ?_
    exact cb_iret (pc := 32) O Rt rfl (Nat.le_of_ble_eq_true rfl) (Nat.le_of_ble_eq_true rfl) dX8_setsAhead_32 ⟨rfl, rfl⟩
  · skip
    have hl : ¬ L c = true := fun h => by
      have hm := nm_lt hc h
      rw [hy, hb.1 h] at c_9
      exact ci_n1 (by omega) c_9
    refine cb_iload_n (pc := 12) O dX8_setsAhead_12 rfl ?_
    exact cb_iret (pc := 13) O Rt rfl (Nat.le_of_ble_eq_true rfl) (Nat.le_of_ble_eq_true rfl) dX8_setsAhead_13 ⟨by unfold sa; rw [if_neg hl], rfl⟩

theorem c_X8_setWith (w : cb_W) (A : ca_A) (hI : ca_I A) (hW : cb_CW w) (hK : cc_K w.2.1 A) (L : Nat → Bool) (hnb : NB w.2.1 L 16) (h5 : fb_ct L 16 ≤ 5) (s c : Nat) (hc : c < 16) : cb_Pu yX8_setWith cX8_setWith 3 (some .int) 0 0 [.inr (some 6), .inl (nI s), .inl (nI c)] w (nI (sw L s c)) := by
  have hb := hnb c hc
  refine cb_con (by decide) (Nat.le_of_ble_eq_true rfl) (fun κ O Rt hnm => ?_)
  show cb_X κ w 0 0 0 [some (.inr (some 6)), some (.inl (nI s)), some (.inl (nI c))] []
  refine cb_aload_n (pc := 0) O dX8_setWith_0 rfl ?_
  refine cb_getR (pc := 1) O fl_X8_9 rfl rfl dX8_setWith_1 (by first | exact hW.1 _ rfl | (rw [hw1]; exact hW.1 _ rfl) | (simp only [cb_um]; rw [hw1]; exact hW.1 _ rfl)) (by first | exact hW.2 _ _ _ rfl | (rw [hw2]; exact hW.2 _ _ _ rfl) | (simp only [cb_um]; rw [hw2]; exact hW.2 _ _ _ rfl)) ?_
  refine cb_iload_n (pc := 4) O dX8_setWith_4 rfl ?_
  refine cb_iald (pc := 5) O c rfl dX8_setWith_5 (by decide) (by first | exact hW.1 _ rfl | (rw [hw1]; exact hW.1 _ rfl) | (simp only [cb_um]; rw [hw1]; exact hW.1 _ rfl)) rfl hc ?_
  refine cb_iconst (pc := 6) (v := (-1)) O dX8_setWith_6 (by decide) ?_
  refine cb_icmp_ne (pc := 7) O 14 dX8_setWith_7 (by decide) (fun c_7 => ?_) (fun c_7 => ?_)
  · skip
    have hl : L c = true := by
      cases h : L c
      · exact absurd (hb.2 h) c_7
      · rfl
    have hm := nm_lt hc hl
    refine cb_iload_n (pc := 14) O dX8_setWith_14 rfl ?_
    refine cb_iconst (pc := 15) (v := 1) O dX8_setWith_15 (by decide) ?_
    refine cb_aload_n (pc := 16) O dX8_setWith_16 rfl ?_
    refine cb_getR (pc := 17) O fl_X8_9 rfl rfl dX8_setWith_17 (by first | exact hW.1 _ rfl | (rw [hw1]; exact hW.1 _ rfl) | (simp only [cb_um]; rw [hw1]; exact hW.1 _ rfl)) (by first | exact hW.2 _ _ _ rfl | (rw [hw2]; exact hW.2 _ _ _ rfl) | (simp only [cb_um]; rw [hw2]; exact hW.2 _ _ _ rfl)) ?_
    refine cb_iload_n (pc := 20) O dX8_setWith_20 rfl ?_
    refine cb_iald (pc := 21) O c rfl dX8_setWith_21 (by decide) (by first | exact hW.1 _ rfl | (rw [hw1]; exact hW.1 _ rfl) | (simp only [cb_um]; rw [hw1]; exact hW.1 _ rfl)) rfl hc ?_
    refine cb_topv _ (hb.1 hl) ?_
    refine cb_ishl (pc := 22) O dX8_setWith_22 ?_
    refine cb_topv _ (ci_shl (by omega)) ?_
    refine cb_ior (pc := 23) O dX8_setWith_23 ?_
    refine cb_topv (nI (sw L s c)) (by
      unfold sw
      rw [if_pos hl]
      exact fa_or _ _) ?_
    exact cb_iret (pc := 24) O Rt rfl (Nat.le_of_ble_eq_true rfl) (Nat.le_of_ble_eq_true rfl) dX8_setWith_24 ⟨rfl, rfl⟩
  · skip
    have hl : ¬ L c = true := fun h => by
      have hm := nm_lt hc h
      rw [hb.1 h] at c_7
      exact ci_n1 (by omega) c_7
    refine cb_iload_n (pc := 10) O dX8_setWith_10 rfl ?_
    refine cb_topv (nI (sw L s c)) (by unfold sw; rw [if_neg hl]) ?_
    refine cb_goto (pc := 11) O 24 dX8_setWith_11 (by decide) ?_
    exact cb_iret (pc := 24) O Rt rfl (Nat.le_of_ble_eq_true rfl) (Nat.le_of_ble_eq_true rfl) dX8_setWith_24 ⟨rfl, rfl⟩

def FE9 (A : ca_A) (u : Nat) (L : Nat → Bool) (q c i e : Nat) : Prop := e < 4294967296 ∧ ∀ s, s < 2 ^ fb_ct L 16 → (e.testBit s = true ↔ ∃ i', i' < i ∧ fib A u q c (Ls L s) i' = true)
theorem FE9_n {A : ca_A} {u q c e : Nat} {L : Nat → Bool} (h : FE9 A u L q c 10 e) : ∀ s, s < 2 ^ fb_ct L 16 → (e.testBit s = true ↔ mkb A u (q + 1) c (Ls L s) = true) := fun s hs => by
  rw [h.2 s hs, mkb_S]
  exact ⟨fun ⟨i, h1, h2⟩ => ⟨i, h1, fib_t.mp h2⟩, fun ⟨i, h1, h2⟩ => ⟨i, h1, fib_t.mpr h2⟩⟩
theorem FE9_x {A : ca_A} {u q c e i : Nat} {L : Nat → Bool} (h : FE9 A u L q c i e) (hn : ¬ u.testBit i = true) : FE9 A u L q c (i + 1) e := ⟨h.1, fun s hs => by
  rw [h.2 s hs]
  constructor
  · rintro ⟨i', h1, h2⟩
    exact ⟨i', by omega, h2⟩
  · rintro ⟨i', h1, h2⟩
    rcases Nat.lt_or_ge i' i with g | g
    · exact ⟨i', g, h2⟩
    · have e : i' = i := by omega
      subst e
      exact absurd (fib_t.mp h2).1 hn⟩
theorem FE9_s {A : ca_A} {u q c e e0 i : Nat} {L : Nat → Bool} (h : FE9 A u L q c i e) (hu : u.testBit i = true) (hx : A 3 (16 * i + c) < 16) (h5 : fb_ct L 16 ≤ 5) (he : e0 < 4294967296) (h0 : ∀ s, s < 2 ^ fb_ct L 16 → (e0.testBit s = true ↔ mkb A u q (A 3 (16 * i + c)) (Ls L s) = true)) : FE9 A u L q c (i + 1) (e ||| sa L e0 (A 3 (16 * i + c))) := by
  refine ⟨Nat.or_lt_two_pow (n := 32) h.1 (sa_lt he), fun s hs => ?_⟩
  have h32 : s < 32 := Nat.lt_of_lt_of_le hs (p2nd h5)
  rw [tb_oo, h.2 s hs, sa_t (fun hl => Nat.lt_of_lt_of_le (nm_lt hx hl) h5) h32, h0 _ (sw_lt hx hs), Ls_sw]
  constructor
  · rintro (⟨i', h1, h2⟩ | h1)
    · exact ⟨i', by omega, h2⟩
    · exact ⟨i, by omega, fib_t.mpr ⟨hu, h1⟩⟩
  · rintro ⟨i', h1, h2⟩
    rcases Nat.lt_or_ge i' i with g | g
    · exact Or.inl ⟨i', g, h2⟩
    · have e : i' = i := by omega
      subst e
      exact Or.inr (fib_t.mp h2).2
theorem cc_K.w {M M' : Nat → Nat → Int32} {A : ca_A} (h : cc_K M A) (hm : ∀ r k, ¬ (r = 6 ∨ r = 12 ∨ (130 ≤ r ∧ r < 136)) → M' r k = M r k) : cc_K M' A := h.cg (fun r k e => hm r k (by omega)) (fun _ _ _ => rfl)
theorem c_X8_fillEndings (w : cb_W) (A : ca_A) (hI : ca_I A) (hW : cb_CW w) (hK : cc_K w.2.1 A) (L : Nat → Bool) (u q : Nat) (hu : u ≤ 1023) (hq : q ≤ 4) (hal : w.2.1 6 3 = nI u) (hnb : NB w.2.1 L 16) (h5 : fb_ct L 16 ≤ 5) (hen : EN9 A u L w.2.1 q 16) : cb_Con yX8_fillEndings cX8_fillEndings 6 none 1 24 0 0 (fun _ => true) [.inr (some 6), .inl (nI (q + 1))] w (cb_pv (fun w' => w'.1 = w.1 ∧ w'.2.2 = w.2.2 ∧ (∀ r k, r ≠ 130 + (q + 1) → w'.2.1 r k = w.2.1 r k) ∧ EN9 A u L w'.2.1 (q + 1) 16)) := by
  refine cb_con (by decide) (Nat.le_of_ble_eq_true rfl) (fun κ O Rt hnm => ?_)
  show cb_X κ w 0 0 0 [some (.inr (some 6)), some (.inl (nI (q + 1))), none, none, none, none] []
  refine cb_iconst (pc := 0) (v := 0) O dX8_fillEndings_0 (by decide) ?_
  refine cb_istore_n (pc := 1) O dX8_fillEndings_1 (by decide) ?_
  dsimp only [List.set]
  have L_2 : ∀ (n : Nat) (c : Nat) (w9 : cb_W) (x3 x4 x5 : Option cb_V), c ≤ 16 → w9.1 = w.1 → w9.2.2 = w.2.2 → (∀ r k, r ≠ 130 + (q + 1) → w9.2.1 r k = w.2.1 r k) → EN9 A u L w9.2.1 (q + 1) c → 17 ≤ c + n → cb_X κ w9 0 0 2 [some (.inr (some 6)), some (.inl (nI (q + 1))), some (.inl (nI c)), x3, x4, x5] [] := by
    intro n
    induction n with
    | zero =>
      intro c w9 x3 x4 x5 hc hw1 hw2 hw3 he9 hn
      exact absurd hn (by omega)
    | succ n ih_2 =>
      intro c w9 x3 x4 x5 hc hw1 hw2 hw3 he9 hn
      refine cb_iload_n (pc := 2) O dX8_fillEndings_2 rfl ?_
      refine cb_bipush (pc := 3) (v := 16) O dX8_fillEndings_3 (by decide) ?_
      refine cb_icmp_ge (pc := 5) O 87 dX8_fillEndings_5 (by decide) (fun c_5 => ?_) (fun c_5 => ?_)
      · skip
        have e : c = 16 := by
          have := ci_ge (b := 16) c_5 (by omega) (by decide)
          omega
        subst e
        exact cb_vret (pc := 87) O Rt (Nat.le_of_ble_eq_true rfl) (Nat.le_of_ble_eq_true rfl) dX8_fillEndings_87 ⟨hw1, hw2, hw3, he9⟩
      · skip
        have hc16 : c < 16 := ci_nge (b := 16) c_5 (by omega) (by decide)
        refine cb_iconst (pc := 8) (v := 0) O dX8_fillEndings_8 (by decide) ?_
        refine cb_istore_n (pc := 9) O dX8_fillEndings_9 (by decide) ?_
        dsimp only [List.set]
        refine cb_iconst (pc := 10) (v := 0) O dX8_fillEndings_10 (by decide) ?_
        refine cb_istore (pc := 11) O dX8_fillEndings_11 (by decide) ?_
        dsimp only [List.set]
        have L_13 : ∀ (n : Nat) (i e : Nat) (x5 : Option cb_V), i ≤ 10 → FE9 A u L q c i e → 11 ≤ i + n → cb_X κ w9 0 0 13 [some (.inr (some 6)), some (.inl (nI (q + 1))), some (.inl (nI c)), some (.inl (nI e)), some (.inl (nI i)), x5] [] := by
          intro n
          induction n with
          | zero =>
            intro i e x5 hi hfe hn
            exact absurd hn (by omega)
          | succ n ih_13 =>
            intro i e x5 hi hfe hn
            refine cb_iload (pc := 13) O dX8_fillEndings_13 rfl ?_
            refine cb_bipush (pc := 15) (v := 10) O dX8_fillEndings_15 (by decide) ?_
            refine cb_icmp_ge (pc := 17) O 72 dX8_fillEndings_17 (by decide) (fun c_17 => ?_) (fun c_17 => ?_)
            · skip
              have e : i = 10 := by
                have := ci_ge (b := 10) c_17 (by omega) (by decide)
                omega
              subst e
              refine cb_aload_n (pc := 72) O dX8_fillEndings_72 rfl ?_
              refine cb_getR (pc := 73) O fl_X8_17 rfl rfl dX8_fillEndings_73 (by first | exact hW.1 _ rfl | (rw [hw1]; exact hW.1 _ rfl) | (simp only [cb_um]; rw [hw1]; exact hW.1 _ rfl)) (by first | exact hW.2 _ _ _ rfl | (rw [hw2]; exact hW.2 _ _ _ rfl) | (simp only [cb_um]; rw [hw2]; exact hW.2 _ _ _ rfl)) ?_
              refine cb_iload_n (pc := 76) O dX8_fillEndings_76 rfl ?_
              refine cb_aald (pc := 77) O (q + 1) rfl (by decide) (by decide) dX8_fillEndings_77 (by decide) (by rw [hw1]; exact hW.1 _ rfl) rfl (by omega) (by rw [hw2]; exact hW.2 13 (q + 1) (130 + (q + 1)) (by simp [cc_Rf]; omega)) ?_
              refine cb_iload_n (pc := 78) O dX8_fillEndings_78 rfl ?_
              refine cb_iload_n (pc := 79) O dX8_fillEndings_79 rfl ?_
              refine cb_iast (pc := 80) O c (sh_en (by omega)) dX8_fillEndings_80 (by decide) (by rw [hw1]; exact hW.1 _ (lv_f (by omega))) rfl hc16 ?_
              refine cb_iinc (pc := 81) O (nI (c + 1)) dX8_fillEndings_81 rfl (by decide) (ci_inc c) ?_
              dsimp only [List.set]
              refine cb_goto (pc := 84) O 2 dX8_fillEndings_84 (by decide) ?_
              exact ih_2 (c + 1) _ _ _ _ (by omega) hw1 hw2 (fun r k h => by simp only [cb_um]; rw [cb_u2n (Or.inl h)]; exact hw3 r k h) (fun c' hc' => by
                simp only [cb_um]
                by_cases e9 : c' = c
                · rw [e9, cb_u2s]
                  exact ⟨e, hfe.1, rfl, FE9_n hfe⟩
                · rw [cb_u2n (Or.inr e9)]
                  exact he9 c' (by omega)) (by omega)
            · skip
              have hi10 : i < 10 := ci_nge (b := 10) c_17 (by omega) (by decide)
              have h16 : (A 3 (16 * i + c)) < 16 := hI.2.2.1.1 _
              have hK9 : cc_K w9.2.1 A := hK.w (fun r k h => hw3 r k (by omega))
              have hnb9 : NB w9.2.1 L 16 := fun c hc => by rw [hw3 12 c (by omega)]; exact hnb c hc
              have hW9 : cb_CW w9 := by unfold cb_CW; rw [hw1, hw2]; exact hW
              refine cb_aload_n (pc := 20) O dX8_fillEndings_20 rfl ?_
              refine cb_getI (pc := 21) O fl_X8_20 rfl rfl dX8_fillEndings_21 (by first | exact hW.1 _ rfl | (rw [hw1]; exact hW.1 _ rfl) | (simp only [cb_um]; rw [hw1]; exact hW.1 _ rfl)) ?_
              refine cb_topv (nI u) (by rw [hw3 6 3 (by omega)]; exact hal) ?_
              refine cb_iload (pc := 24) O dX8_fillEndings_24 rfl ?_
              refine cb_cSp (pc := 26) O (c_X10_has _ _ _) my_X10_has mt_X10_has ml_X8_50 dX8_fillEndings_26 rfl rfl ⟨(Nat.le_of_ble_eq_true rfl), (Nat.le_of_ble_eq_true rfl)⟩ (Nat.le_of_ble_eq_true rfl) (cb_kpT _ _) ⟨(Nat.le_of_ble_eq_true rfl), (Nat.le_of_ble_eq_true rfl)⟩ ?_
              refine cb_ifp_eq (pc := 29) O 66 dX8_fillEndings_29 (by decide) (fun c_29 => ?_) (fun c_29 => ?_)
              · skip
                rw [ci_has (by omega) (by omega)] at c_29
                refine cb_iinc (pc := 66) O (nI (i + 1)) dX8_fillEndings_66 rfl (by decide) (ci_inc i) ?_
                dsimp only [List.set]
                refine cb_goto (pc := 69) O 13 dX8_fillEndings_69 (by decide) ?_
                first
                | exact ih_13 (i + 1) e _ (by omega) (FE9_x hfe c_29) (by omega)
                | exact ih_13 (i + 1) _ _ (by omega) (FE9_s hfe c_29 h16 h5 hel heb) (by omega)
              · skip
                rw [ci_has (by omega) (by omega)] at c_29
                obtain ⟨e0, hel, hev, heb⟩ := hen (A 3 (16 * i + c)) h16
                refine cb_aload_n (pc := 32) O dX8_fillEndings_32 rfl ?_
                refine cb_getR (pc := 33) O fl_X8_24 rfl rfl dX8_fillEndings_33 (by first | exact hW.1 _ rfl | (rw [hw1]; exact hW.1 _ rfl) | (simp only [cb_um]; rw [hw1]; exact hW.1 _ rfl)) (by first | exact hW.2 _ _ _ rfl | (rw [hw2]; exact hW.2 _ _ _ rfl) | (simp only [cb_um]; rw [hw2]; exact hW.2 _ _ _ rfl)) ?_
                refine cb_getR (pc := 36) O fl_X8_54 rfl rfl dX8_fillEndings_36 (by first | exact hW.1 _ rfl | (rw [hw1]; exact hW.1 _ rfl) | (simp only [cb_um]; rw [hw1]; exact hW.1 _ rfl)) (by first | exact hW.2 _ _ _ rfl | (rw [hw2]; exact hW.2 _ _ _ rfl) | (simp only [cb_um]; rw [hw2]; exact hW.2 _ _ _ rfl)) ?_
                refine cb_iload (pc := 39) O dX8_fillEndings_39 rfl ?_
                refine cb_aald (pc := 41) O i rfl (by decide) (by decide) dX8_fillEndings_41 (by decide) (by rw [hw1]; exact hW.1 _ rfl) rfl hi10 (by rw [hw2]; exact hW.2 8 i (100 + i) (by simp [cc_Rf]; omega)) ?_
                refine cb_iload_n (pc := 42) O dX8_fillEndings_42 rfl ?_
                refine cb_iald (pc := 43) O c (sh_mk hi10) dX8_fillEndings_43 (by decide) (by rw [hw1]; exact hW.1 _ (lv_f (by omega))) rfl hc16 ?_
                refine cb_topv (nI (A 3 (16 * i + c))) (hK9.1 i c hi10 hc16) ?_
                refine cb_istore (pc := 44) O dX8_fillEndings_44 (by decide) ?_
                dsimp only [List.set]
                refine cb_iload_n (pc := 46) O dX8_fillEndings_46 rfl ?_
                refine cb_aload_n (pc := 47) O dX8_fillEndings_47 rfl ?_
                refine cb_aload_n (pc := 48) O dX8_fillEndings_48 rfl ?_
                refine cb_getR (pc := 49) O fl_X8_17 rfl rfl dX8_fillEndings_49 (by first | exact hW.1 _ rfl | (rw [hw1]; exact hW.1 _ rfl) | (simp only [cb_um]; rw [hw1]; exact hW.1 _ rfl)) (by first | exact hW.2 _ _ _ rfl | (rw [hw2]; exact hW.2 _ _ _ rfl) | (simp only [cb_um]; rw [hw2]; exact hW.2 _ _ _ rfl)) ?_
                refine cb_iload_n (pc := 52) O dX8_fillEndings_52 rfl ?_
                refine cb_iconst (pc := 53) (v := 1) O dX8_fillEndings_53 (by decide) ?_
                refine cb_isub (pc := 54) O dX8_fillEndings_54 ?_
                refine cb_topv (nI q) (nI_p1 _) ?_
                refine cb_aald (pc := 55) O q rfl (by decide) (by decide) dX8_fillEndings_55 (by decide) (by rw [hw1]; exact hW.1 _ rfl) rfl (by omega) (by rw [hw2]; exact hW.2 13 q (130 + q) (by simp [cc_Rf]; omega)) ?_
                refine cb_iload (pc := 56) O dX8_fillEndings_56 rfl ?_
                refine cb_iald (pc := 58) O (A 3 (16 * i + c)) (sh_en (by omega)) dX8_fillEndings_58 (by decide) (by rw [hw1]; exact hW.1 _ (lv_f (by omega))) rfl h16 ?_
                refine cb_topv (nI e0) (by rw [hw3 (130 + q) _ (by omega)]; exact hev) ?_
                refine cb_iload (pc := 59) O dX8_fillEndings_59 rfl ?_
                refine cb_cVp (pc := 61) O (c_X8_setsAhead w9 A hI hW9 hK9 L hnb9 h5 e0 (A 3 (16 * i + c)) hel h16) my_X8_setsAhead mi_X8_setsAhead mx_X8_setsAhead ml_X8_59 dX8_fillEndings_61 rfl ct_8 rfl rfl rfl ⟨(Nat.le_of_ble_eq_true rfl), (Nat.le_of_ble_eq_true rfl)⟩ (Nat.le_of_ble_eq_true rfl) rfl ⟨(Nat.le_of_ble_eq_true rfl), (Nat.le_of_ble_eq_true rfl)⟩ (by first | exact hW.1 _ rfl | (rw [hw1]; exact hW.1 _ rfl) | (simp only [cb_um]; rw [hw1]; exact hW.1 _ rfl)) ?_
                refine cb_ior (pc := 64) O dX8_fillEndings_64 ?_
                refine cb_topv _ (fa_or _ _) ?_
                refine cb_istore_n (pc := 65) O dX8_fillEndings_65 (by decide) ?_
                dsimp only [List.set]
                refine cb_iinc (pc := 66) O (nI (i + 1)) dX8_fillEndings_66 rfl (by decide) (ci_inc i) ?_
                dsimp only [List.set]
                refine cb_goto (pc := 69) O 13 dX8_fillEndings_69 (by decide) ?_
                first
                | exact ih_13 (i + 1) e _ (by omega) (FE9_x hfe c_29) (by omega)
                | exact ih_13 (i + 1) _ _ (by omega) (FE9_s hfe c_29 h16 h5 hel heb) (by omega)
        exact L_13 11 0 0 _ (by omega) ⟨by omega, fun s _ => by
          rw [Nat.zero_testBit]
          exact iff_of_false (by decide) (fun ⟨i, h, _⟩ => absurd h (by omega))⟩ (by omega)
  exact L_2 17 0 w none none none (by omega) rfl rfl (fun _ _ _ => rfl) (fun c hc => absurd hc (by omega)) (by omega)

def SR9 (A : ca_A) (u : Nat) (w' : cb_W) : Prop := w'.2.1 6 3 = nI u ∧ NB w'.2.1 (nL A) 16 ∧ fb_ct (nL A) 16 ≤ 5 ∧ ∀ q, q ≤ ln A u (nL A) → EN9 A u (nL A) w'.2.1 q 16
theorem c_X8_leastPulls (w : cb_W) (A : ca_A) (z : Int32) (hI : ca_I A) (hC : cc_I w A z) (u : Nat) (hu : u ≤ 1023) : cb_Con yX8_leastPulls cX8_leastPulls 6 (some .int) 2 49 0 0 (fun _ => true) [.inr (some 6), .inl (nI u), .inl (nI (wcs A 16))] w (cb_pi (fun x w' => x = (if ln A u (nL A) < 6 then nI (ln A u (nL A)) else -4) ∧ cc_I w' A z ∧ cb_M1 w w' ∧ (ln A u (nL A) < 6 → SR9 A u w'))) := by
  have hwl := wcs_lt hI 16
  have hrl := rmb_le (wcs A 16) 0
  have hnd := fb_ct_le (nL A) 16
  refine cb_con (by decide) (Nat.le_of_ble_eq_true rfl) (fun κ O Rt hnm => ?_)
  show cb_X κ w 0 0 0 [some (.inr (some 6)), some (.inl (nI u)), some (.inl (nI (wcs A 16))), none, none, none] []
  refine cb_iload_n (pc := 0) O dX8_leastPulls_0 rfl ?_
  refine cb_cSp (pc := 1) O (c_X10_withoutPaper _ _) my_X10_withoutPaper mt_X10_withoutPaper ml_X8_28 dX8_leastPulls_1 rfl rfl ⟨(Nat.le_of_ble_eq_true rfl), (Nat.le_of_ble_eq_true rfl)⟩ (Nat.le_of_ble_eq_true rfl) rfl ⟨(Nat.le_of_ble_eq_true rfl), (Nat.le_of_ble_eq_true rfl)⟩ ?_
  refine cb_topv _ (ci_rm0 _) ?_
  refine cb_cSp (pc := 4) O (c_bitCount w (rmb (wcs A 16) 0) (by omega)) my_J6_bitCount_0f7a4 mt_J6_bitCount_0f7a4 ml_X8_32 dX8_leastPulls_4 rfl rfl ⟨(Nat.le_of_ble_eq_true rfl), (Nat.le_of_ble_eq_true rfl)⟩ (Nat.le_of_ble_eq_true rfl) rfl ⟨(Nat.le_of_ble_eq_true rfl), (Nat.le_of_ble_eq_true rfl)⟩ ?_
  refine cb_topv (nI (fb_ct (nL A) 16)) rfl ?_
  refine cb_istore_n (pc := 7) O dX8_leastPulls_7 (by decide) ?_
  dsimp only [List.set]
  refine cb_iload_n (pc := 8) O dX8_leastPulls_8 rfl ?_
  refine cb_iconst (pc := 9) (v := 5) O dX8_leastPulls_9 (by decide) ?_
  refine cb_icmp_le (pc := 10) O 16 dX8_leastPulls_10 (by decide) (fun c_10 => ?_) (fun c_10 => ?_)
  · skip
    rw [show (5 : Int32) = nI 5 from rfl, nI_leI (by omega) (by omega)] at c_10
    have hp2 := p2nd c_10
    have hp0 : 0 < 2 ^ fb_ct (nL A) 16 := Nat.pow_pos (by decide)
    refine cb_aload_n (pc := 16) O dX8_leastPulls_16 rfl ?_
    refine cb_iload_n (pc := 17) O dX8_leastPulls_17 rfl ?_
    refine cb_putIc (pc := 18) O fl_X8_20 (Or.inl rfl) rfl rfl dX8_leastPulls_18 rfl rfl (by first | exact hC.1.1 _ rfl | exact hC9.1.1 _ rfl | exact hCb.1.1 _ rfl | exact hCa.1.1 _ rfl) ?_
    have hCa := (cc_I.se (w' := cb_um w 6 3 (nI u)) hC hI rfl rfl (fun r k h => by simp only [cb_um]; rw [cb_u2n (by omega)])).1
    refine cb_aload_n (pc := 21) O dX8_leastPulls_21 rfl ?_
    refine cb_iload_n (pc := 22) O dX8_leastPulls_22 rfl ?_
    refine cb_cSp (pc := 23) O (c_X10_withoutPaper _ _) my_X10_withoutPaper mt_X10_withoutPaper ml_X8_28 dX8_leastPulls_23 rfl rfl ⟨(Nat.le_of_ble_eq_true rfl), (Nat.le_of_ble_eq_true rfl)⟩ (Nat.le_of_ble_eq_true rfl) rfl ⟨(Nat.le_of_ble_eq_true rfl), (Nat.le_of_ble_eq_true rfl)⟩ ?_
    refine cb_topv _ (ci_rm0 _) ?_
    refine cb_cVv (pc := 26) O (c_X8_numberNeeded (cb_um w 6 3 (nI u)) A hI hCa.1 hCa.2.2.2.1 (rmb (wcs A 16) 0) (by omega) c_10) my_X8_numberNeeded mi_X8_numberNeeded mx_X8_numberNeeded ml_X8_37 dX8_leastPulls_26 rfl ct_8 rfl rfl rfl ⟨(Nat.le_of_ble_eq_true rfl), (Nat.le_of_ble_eq_true rfl)⟩ (Nat.le_of_ble_eq_true rfl) rfl ⟨(Nat.le_of_ble_eq_true rfl), (Nat.le_of_ble_eq_true rfl)⟩ (fun _ _ => rfl) (hCa.1.1 _ rfl) (fun w_26 hp_26 => ?_)
    obtain ⟨k1, k2, k3, k4⟩ := hp_26
    have hSb := cc_I.se (w' := w_26) hC hI k1 k2 (fun r k h => by rw [k3 r k (by omega)]; simp only [cb_um]; rw [cb_u2n (by omega)])
    have hCb := hSb.1
    refine cb_iconst (pc := 29) (v := 1) O dX8_leastPulls_29 (by decide) ?_
    refine cb_iload_n (pc := 30) O dX8_leastPulls_30 rfl ?_
    refine cb_ishl (pc := 31) O dX8_leastPulls_31 ?_
    refine cb_topv _ (ci_shl (by omega)) ?_
    refine cb_iconst (pc := 32) (v := 1) O dX8_leastPulls_32 (by decide) ?_
    refine cb_isub (pc := 33) O dX8_leastPulls_33 ?_
    refine cb_topv (nI (2 ^ fb_ct (nL A) 16 - 1)) (ci_p1 hp0) ?_
    refine cb_istore (pc := 34) O dX8_leastPulls_34 (by decide) ?_
    dsimp only [List.set]
    refine cb_aload_n (pc := 36) O dX8_leastPulls_36 rfl ?_
    refine cb_getR (pc := 37) O fl_X8_17 rfl rfl dX8_leastPulls_37 (hCb.1.1 _ rfl) (hCb.1.2 _ _ _ rfl) ?_
    refine cb_iconst (pc := 40) (v := 0) O dX8_leastPulls_40 (by decide) ?_
    refine cb_aald (pc := 41) O 0 rfl (by decide) (by decide) dX8_leastPulls_41 (by decide) (hCb.1.1 _ rfl) rfl (by omega) (hCb.1.2 13 0 130 rfl) ?_
    refine cb_iconst (pc := 42) (v := 1) O dX8_leastPulls_42 (by decide) ?_
    refine cb_iload (pc := 43) O dX8_leastPulls_43 rfl ?_
    refine cb_ishl (pc := 45) O dX8_leastPulls_45 ?_
    refine cb_topv _ (ci_shl32a _ (by omega)) ?_
    refine cb_cSv (pc := 46) O (c_fill w_26 130 16 (nI (2 ^ (2 ^ fb_ct (nL A) 16 - 1))) rfl (hCb.1.1 _ rfl) (by decide)) my_J7_fill_53178 mt_J7_fill_53178 ml_X8_41 dX8_leastPulls_46 rfl rfl ⟨(Nat.le_of_ble_eq_true rfl), (Nat.le_of_ble_eq_true rfl)⟩ (Nat.le_of_ble_eq_true rfl) rfl ⟨(Nat.le_of_ble_eq_true rfl), (Nat.le_of_ble_eq_true rfl)⟩ (fun _ _ => rfl) (fun w_46 hp_46 => ?_)
    rw [hp_46]
    obtain ⟨wf, hwf⟩ : ∃ wf, wf = cb_fl w_26 130 0 16 (nI (2 ^ (2 ^ fb_ct (nL A) 16 - 1))) := ⟨_, rfl⟩
    rw [← hwf]
    have f1 : wf.1 = w.1 := by rw [hwf]; exact k1
    have f2 : wf.2.2 = w.2.2 := by rw [hwf]; exact k2
    have f3 : ∀ r k, r ≠ 130 → wf.2.1 r k = w_26.2.1 r k := fun r k h => by rw [hwf]; exact if_neg (fun e => h e.1)
    have hSc := cc_I.se (w' := wf) hC hI f1 f2 (fun r k h => by rw [f3 r k (by omega), k3 r k (by omega)]; simp only [cb_um]; rw [cb_u2n (by omega)])
    have hC9 := hSc.1
    have hal : wf.2.1 6 3 = nI u := by rw [f3 6 3 (by omega), k3 6 3 (by omega)]; simp only [cb_um]; rw [cb_u2s]
    have hnb : NB wf.2.1 (nL A) 16 := fun c hc => by rw [f3 12 c (by omega)]; exact k4 c hc
    have hen : EN9 A u (nL A) wf.2.1 0 16 := fun c hc => ⟨2 ^ (2 ^ fb_ct (nL A) 16 - 1), by
      have : 2 ^ (2 ^ fb_ct (nL A) 16 - 1) < 2 ^ 32 := Nat.pow_lt_pow_right (by decide) (by omega)
      exact this, by rw [hwf]; exact if_pos ⟨rfl, by omega, hc⟩, fun s hs => by
      rw [Nat.testBit_two_pow, decide_eq_true_iff, mkb_0, Ls_full hs]⟩
    refine cb_iload_n (pc := 49) O dX8_leastPulls_49 rfl ?_
    refine cb_if_ne (pc := 50) O 55 dX8_leastPulls_50 (by decide) (fun c_50 => ?_) (fun c_50 => ?_)
    · skip
      rw [show (0 : Int32) = nI 0 from rfl, nI_eq (by omega) (by omega)] at c_50
      have hm0 : ¬ mkb A u 0 0 (nL A) = true := fun h => by have := mkb_ct hI 0 0 _ h; omega
      refine cb_iconst (pc := 55) (v := 1) O dX8_leastPulls_55 (by decide) ?_
      refine cb_istore (pc := 56) O dX8_leastPulls_56 (by decide) ?_
      dsimp only [List.set]
      have L_58 : ∀ (n : Nat) (q : Nat) (w9 : cb_W), q ≤ 5 → cc_I w9 A z → cb_M1 w w9 → w9.2.1 6 3 = nI u → NB w9.2.1 (nL A) 16 → (∀ j, j ≤ q → EN9 A u (nL A) w9.2.1 j 16) → (∀ j, j ≤ q → ¬ mkb A u j 0 (nL A) = true) → 6 ≤ q + n → cb_X κ w9 0 0 58 [some (.inr (some 6)), some (.inl (nI u)), some (.inl (nI (wcs A 16))), some (.inl (nI (fb_ct (nL A) 16))), some (.inl (nI (2 ^ fb_ct (nL A) 16 - 1))), some (.inl (nI (q + 1)))] [] := by
        intro n
        induction n with
        | zero =>
          intro q w9 hq hC9 hM9 hal hnb hen hnm hn
          exact absurd hn (by omega)
        | succ n ih_58 =>
          intro q w9 hq hC9 hM9 hal hnb hen hnm hn
          refine cb_iload (pc := 58) O dX8_leastPulls_58 rfl ?_
          refine cb_iconst (pc := 60) (v := 5) O dX8_leastPulls_60 (by decide) ?_
          refine cb_icmp_gt (pc := 61) O 95 dX8_leastPulls_61 (by decide) (fun c_61 => ?_) (fun c_61 => ?_)
          · skip
            rw [show (5 : Int32) = nI 5 from rfl, nI_ltI (by omega) (by omega)] at c_61
            have hln : ln A u (nL A) = 6 := ln_no (fun m hm => hnm m (by omega))
            refine cb_bipush (pc := 95) (v := (-4)) O dX8_leastPulls_95 (by decide) ?_
            exact cb_iret (pc := 97) O Rt rfl (Nat.le_of_ble_eq_true rfl) (Nat.le_of_ble_eq_true rfl) dX8_leastPulls_97 (by
              rw [hln]
              exact ⟨by rw [if_neg (by omega)], hC9, hM9, fun h => absurd h (by omega)⟩)
          · skip
            rw [show (5 : Int32) = nI 5 from rfl, nI_ltI (by omega) (by omega)] at c_61
            refine cb_aload_n (pc := 64) O dX8_leastPulls_64 rfl ?_
            refine cb_iload (pc := 65) O dX8_leastPulls_65 rfl ?_
            refine cb_cVv (pc := 67) O (c_X8_fillEndings w9 A hI hC9.1 hC9.2.2.2.1 (nL A) u q hu (by omega) hal hnb c_10 (hen q (by omega))) my_X8_fillEndings mi_X8_fillEndings mx_X8_fillEndings ml_X8_47 dX8_leastPulls_67 rfl ct_8 rfl rfl rfl ⟨(Nat.le_of_ble_eq_true rfl), (Nat.le_of_ble_eq_true rfl)⟩ (Nat.le_of_ble_eq_true rfl) rfl ⟨(Nat.le_of_ble_eq_true rfl), (Nat.le_of_ble_eq_true rfl)⟩ (fun _ _ => rfl) (by first | exact hC.1.1 _ rfl | exact hC9.1.1 _ rfl | exact hCb.1.1 _ rfl | exact hCa.1.1 _ rfl) (fun w_67 hp_67 => ?_)
            obtain ⟨g1, g2, g3, g4⟩ := hp_67
            have hSd := cc_I.se (w' := w_67) hC9 hI g1 g2 (fun r k h => g3 r k (by omega))
            have hCd := hSd.1
            have hal2 : w_67.2.1 6 3 = nI u := by rw [g3 6 3 (by omega)]; exact hal
            have hnb2 : NB w_67.2.1 (nL A) 16 := fun c hc => by rw [g3 12 c (by omega)]; exact hnb c hc
            have hen2 : ∀ j, j ≤ q + 1 → EN9 A u (nL A) w_67.2.1 j 16 := fun j hj => by
              rcases Nat.lt_or_ge j (q + 1) with h | h
              · intro c hc
                obtain ⟨e, y1, y2, y3⟩ := hen j (by omega) c hc
                exact ⟨e, y1, by rw [g3 _ _ (by omega)]; exact y2, y3⟩
              · rw [show j = q + 1 by omega]; exact g4
            obtain ⟨e0, hel, hev, heb⟩ := g4 0 (by omega)
            refine cb_aload_n (pc := 70) O dX8_leastPulls_70 rfl ?_
            refine cb_getR (pc := 71) O fl_X8_17 rfl rfl dX8_leastPulls_71 (hCd.1.1 _ rfl) (hCd.1.2 _ _ _ rfl) ?_
            refine cb_iload (pc := 74) O dX8_leastPulls_74 rfl ?_
            refine cb_aald (pc := 76) O (q + 1) rfl (by decide) (by decide) dX8_leastPulls_76 (by decide) (hCd.1.1 _ rfl) rfl (by omega) (hCd.1.2 13 (q + 1) (130 + (q + 1)) (by simp [cc_Rf]; omega)) ?_
            refine cb_iconst (pc := 77) (v := 0) O dX8_leastPulls_77 (by decide) ?_
            refine cb_iald (pc := 78) O 0 (sh_en (by omega)) dX8_leastPulls_78 (by decide) (hCd.1.1 _ (lv_f (by omega))) rfl (by omega) ?_
            refine cb_topv (nI e0) hev ?_
            refine cb_iconst (pc := 79) (v := 0) O dX8_leastPulls_79 (by decide) ?_
            refine cb_topv (nI 0) rfl ?_
            refine cb_cSp (pc := 80) O (c_X10_has _ _ _) my_X10_has mt_X10_has ml_X8_50 dX8_leastPulls_80 rfl rfl ⟨(Nat.le_of_ble_eq_true rfl), (Nat.le_of_ble_eq_true rfl)⟩ (Nat.le_of_ble_eq_true rfl) rfl ⟨(Nat.le_of_ble_eq_true rfl), (Nat.le_of_ble_eq_true rfl)⟩ ?_
            refine cb_ifp_eq (pc := 83) O 89 dX8_leastPulls_83 (by decide) (fun c_83 => ?_) (fun c_83 => ?_)
            · skip
              rw [ci_has (m := 0) hel (by omega), heb 0 (by omega), Ls_0] at c_83
              refine cb_iinc (pc := 89) O (nI (q + 1 + 1)) dX8_leastPulls_89 rfl (by decide) (ci_inc _) ?_
              dsimp only [List.set]
              refine cb_goto (pc := 92) O 58 dX8_leastPulls_92 (by decide) ?_
              exact ih_58 (q + 1) w_67 (by omega) hCd (hM9.trans hSd.2) hal2 hnb2 hen2 (fun j hj => by
                rcases Nat.lt_or_ge j (q + 1) with h | h
                · exact hnm j (by omega)
                · rw [show j = q + 1 by omega]; exact c_83) (by omega)
            · skip
              rw [ci_has (m := 0) hel (by omega), heb 0 (by omega), Ls_0] at c_83
              have hln : ln A u (nL A) = q + 1 := ln_yes (by omega) c_83 (fun m hm => hnm m (by omega))
              refine cb_iload (pc := 86) O dX8_leastPulls_86 rfl ?_
              exact cb_iret (pc := 88) O Rt rfl (Nat.le_of_ble_eq_true rfl) (Nat.le_of_ble_eq_true rfl) dX8_leastPulls_88 (by
                refine ⟨by rw [hln, if_pos (by omega)], hCd, hM9.trans hSd.2, fun _ => ⟨hal2, hnb2, c_10, fun j hj => hen2 j (by rw [hln] at hj; omega)⟩⟩)
      exact L_58 6 0 wf (by omega) hC9 hSc.2 hal hnb (fun j hj => by rw [show j = 0 by omega]; exact hen) (fun j hj => by rw [show j = 0 by omega]; exact hm0) (by omega)
    · skip
      rw [show (0 : Int32) = nI 0 from rfl, nI_eq (by omega) (by omega)] at c_50
      have hln : ln A u (nL A) = 0 := ln_yes (by omega) (mkb_0.mpr (fb_ct_zero.mp c_50)) (fun m hm => absurd hm (by omega))
      refine cb_iconst (pc := 53) (v := 0) O dX8_leastPulls_53 (by decide) ?_
      exact cb_iret (pc := 54) O Rt rfl (Nat.le_of_ble_eq_true rfl) (Nat.le_of_ble_eq_true rfl) dX8_leastPulls_54 (by
        refine ⟨by rw [hln, if_pos (by omega)]; rfl, hC9, hSc.2, fun _ => ⟨hal, hnb, c_10, fun q hq => ?_⟩⟩
        rw [hln] at hq
        rw [show q = 0 by omega]
        exact hen)
  · skip
    rw [show (5 : Int32) = nI 5 from rfl, nI_leI (by omega) (by omega)] at c_10
    have hln : ln A u (nL A) = 6 := ln_no (fun m hm h => by have := mkb_ct hI m 0 _ h; omega)
    refine cb_bipush (pc := 13) (v := (-4)) O dX8_leastPulls_13 (by decide) ?_
    exact cb_iret (pc := 15) O Rt rfl (Nat.le_of_ble_eq_true rfl) (Nat.le_of_ble_eq_true rfl) dX8_leastPulls_15 (by
      rw [hln]
      exact ⟨by rw [if_neg (by omega)], hC, cb_M1.rfl', fun h => absurd h (by omega)⟩)

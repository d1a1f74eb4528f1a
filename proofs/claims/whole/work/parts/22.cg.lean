theorem ci_in {x b : Int32} {n : Nat} (h : 0 ≤ x ∧ x ≤ b) (hb : b.toInt = (n : Int)) : ∃ j : Nat, j ≤ n ∧ x = nI j := by
  rw [ci_le, ci_le, hb] at h
  exact ci_of h
theorem ci_nz {n : Nat} (h : n < 2147483648) : (nI n).toNatClampNeg = n := nI_clamp h
theorem cb_CW.um {w : cb_W} {r k : Nat} {x : Int32} (h : cb_CW w) : cb_CW (cb_um w r k x) := h
theorem cb_MW.um {w : cb_W} {r k : Nat} {x : Int32} (h : cb_MW w) : cb_MW (cb_um w r k x) := h
theorem cc_B.cg {M M' : Nat → Nat → Int32} {A A' : ca_A} (h : cc_B M A) (hm : ∀ r k, (r = 20 ∧ (k = 0 ∨ k = 1 ∨ k = 5)) ∨ r = 21 ∨ r = 22 ∨ r = 23 → M' r k = M r k) (ha : ∀ k i, (k = 0 ∧ (i = 0 ∨ i = 1 ∨ i = 12)) ∨ k = 10 ∨ k = 11 ∨ k = 12 → A' k i = A k i) : cc_B M' A' := by
  obtain ⟨⟨b0, b1, b5⟩, b2, b3, b4⟩ := h
  refine ⟨⟨?_, ?_, ?_⟩, fun k hk => ?_, fun k hk => ?_, fun k hk => ?_⟩
  · rw [hm 20 0 (by omega), ha 0 0 (by omega)]; exact b0
  · rw [hm 20 1 (by omega), ha 0 1 (by omega)]; exact b1
  · rw [hm 20 5 (by omega), ha 0 12 (by omega)]; exact b5
  · rw [hm 21 k (by omega)]
    unfold ca_o
    rw [ha 0 0 (by omega), ha 0 1 (by omega), ha 10 k (by omega)]
    exact b2 k hk
  · rw [hm 22 k (by omega), ha 11 k (by omega)]; exact b3 k hk
  · rw [ha 0 12 (by omega)] at hk
    rw [hm 23 k (by omega), ha 12 k (by omega)]
    exact b4 k hk
theorem cc_N.cg {M M' : Nat → Nat → Int32} {A A' : ca_A} {z : Int32} (h : cc_N M A z) (hm : ∀ r k, (r = 0 ∧ (k = 9 ∨ k = 10 ∨ k = 11)) ∨ (r = 2 ∧ (k = 0 ∨ k = 1)) → M' r k = M r k) (ha : ∀ k i, k = 0 ∧ (i = 20 ∨ i = 26 ∨ i = 8 ∨ i = 6) → A' k i = A k i) : cc_N M' A' z := by
  obtain ⟨b0, b1, b2, b3, b4⟩ := h
  refine ⟨?_, ?_, ?_, ?_, ?_⟩
  · rw [hm 0 9 (by omega), ha 0 20 (by omega)]; exact b0
  · rw [hm 0 10 (by omega), ha 0 26 (by omega)]; exact b1
  · rw [hm 0 11 (by omega), ha 0 8 (by omega)]; exact b2
  · rw [hm 2 0 (by omega)]; exact b3
  · rw [hm 2 1 (by omega), ha 0 6 (by omega)]; exact b4
theorem cc_K.cg {M M' : Nat → Nat → Int32} {A A' : ca_A} (h : cc_K M A) (hm : ∀ r k, r = 9 ∨ (100 ≤ r ∧ r < 130) → M' r k = M r k) (ha : ∀ k i, k = 3 ∨ k = 4 ∨ k = 5 ∨ k = 6 → A' k i = A k i) : cc_K M' A' := by
  obtain ⟨b0, b1, b2, b3⟩ := h
  refine ⟨fun i c hi hc => ?_, fun i hi => ?_, fun i c hi hc => ?_, fun i c hi hc => ?_⟩
  · rw [hm _ _ (by omega), ha 3 _ (by omega)]; exact b0 i c hi hc
  · rw [hm _ _ (by omega), ha 4 _ (by omega)]; exact b1 i hi
  · rw [hm _ _ (by omega), ha 5 _ (by omega)]; exact b2 i c hi hc
  · rw [hm _ _ (by omega), ha 6 _ (by omega)]; exact b3 i c hi hc
theorem cc_S.cg {w w' : cb_W} {A A' : ca_A} (h : cc_S w A) (h20 : A 0 20 ≤ 20) (hv : ∀ r, 200 ≤ r → r < 320 → w'.1 r = w.1 r) (hr : ∀ r k, r = 3 ∨ (200 ≤ r ∧ r < 320) → w'.2.2 r k = w.2.2 r k) (hm : ∀ r k, 200 ≤ r → r < 320 → w'.2.1 r k = w.2.1 r k) (ha : ∀ k i, (k = 0 ∧ i = 20) ∨ (15 ≤ k ∧ k ≤ 20) → A' k i = A k i) : cc_S w' A' := by
  obtain ⟨e1, e2⟩ := h
  have h20' : A' 0 20 = A 0 20 := ha 0 20 (by omega)
  refine ⟨fun s hs => ?_, fun s hs hs2 j hj => ?_⟩
  · rw [h20'] at hs
    obtain ⟨x1, x2, x3, x4, x5⟩ := e1 s hs
    refine ⟨fun j hj => by rw [hv _ (by omega) (by omega)]; exact x1 j hj, by rw [hr 3 s (by omega)]; exact x2, fun j hj => by rw [hr _ _ (by omega)]; exact x3 j hj, by rw [hm _ _ (by omega) (by omega), ha 20 s (by omega)]; exact x4, fun k hk => ?_⟩
    rw [hm _ _ (by omega) (by omega), hm _ _ (by omega) (by omega), hm _ _ (by omega) (by omega), hm _ _ (by omega) (by omega), hm _ _ (by omega) (by omega), ha 15 _ (by omega), ha 16 _ (by omega), ha 17 _ (by omega), ha 18 _ (by omega), ha 19 _ (by omega)]
    exact x5 k hk
  · rw [h20'] at hs
    rw [hv _ (by omega) (by omega)]
    exact e2 s hs hs2 j hj
theorem cc_E.cg {w w' : cb_W} {A A' : ca_A} (h : cc_E w A) (h26 : A 0 26 ≤ 200) (hv : ∀ r, 400 ≤ r → r < 600 → w'.1 r = w.1 r) (hr : ∀ k, w'.2.2 4 k = w.2.2 4 k) (hm : ∀ r k, 400 ≤ r → r < 600 → w'.2.1 r k = w.2.1 r k) (ha : ∀ k i, (k = 0 ∧ i = 26) ∨ (22 ≤ k ∧ k ≤ 26) → A' k i = A k i) : cc_E w' A' := by
  obtain ⟨e1, e2⟩ := h
  have h20' : A' 0 26 = A 0 26 := ha 0 26 (by omega)
  refine ⟨fun s hs => ?_, fun s hs hs2 => ?_⟩
  · rw [h20'] at hs
    rw [hv _ (by omega) (by omega), hr s, hm _ _ (by omega) (by omega), hm _ _ (by omega) (by omega), hm _ _ (by omega) (by omega), hm _ _ (by omega) (by omega), hm _ _ (by omega) (by omega), ha 22 _ (by omega), ha 23 _ (by omega), ha 24 _ (by omega), ha 25 _ (by omega), ha 26 _ (by omega)]
    exact e1 s hs
  · rw [h20'] at hs
    rw [hv _ (by omega) (by omega)]
    exact e2 s hs hs2
theorem cc_P.cg {M M' : Nat → Nat → Int32} {A A' : ca_A} (h : cc_P M A) (hm : ∀ r k, (r = 26 ∧ (k = 0 ∨ k = 1)) ∨ r = 27 → M' r k = M r k) (ha : ∀ k i, (k = 0 ∧ (i = 28 ∨ i = 29)) ∨ k = 31 → A' k i = A k i) : cc_P M' A' := by
  obtain ⟨b0, b1, b2⟩ := h
  refine ⟨?_, ?_, fun k hk => ?_⟩
  · rw [hm 26 0 (by omega), ha 0 28 (by omega)]; exact b0
  · rw [hm 26 1 (by omega), ha 0 29 (by omega)]; exact b1
  · rw [hm 27 k (by omega), ha 31 k (by omega)]; exact b2 k hk
theorem cc_L.cg {M M' : Nat → Nat → Int32} {A A' : ca_A} (h : cc_L M A) (hm : ∀ r k, (r = 14 ∧ k = 1) ∨ r = 15 ∨ r = 16 → M' r k = M r k) (ha : ∀ k i, (k = 0 ∧ i = 33) ∨ k = 33 ∨ k = 35 → A' k i = A k i) : cc_L M' A' := by
  obtain ⟨b0, b1, b2⟩ := h
  have h33 : A' 0 33 = A 0 33 := ha 0 33 (by omega)
  refine ⟨?_, fun k hk => ?_, fun k hk => ?_⟩
  · rw [hm 14 1 (by omega), h33]; exact b0
  · rw [h33] at hk
    rw [hm 15 k (by omega), ha 33 k (by omega)]; exact b1 k hk
  · rw [hm 16 k (by omega), h33, ha 35 k (by omega)]; exact b2 k hk
theorem cm_I.um {w : cb_W} {A : ca_A} {z : Int32} {k i a : Nat} (h : cm_I w A z) (hz : ¬ (k = 0 ∧ i = 7)) (x : Int32) (hx : ca_R k i = true → x = ca_v k i a) : cm_I (cb_um w (1000 + k) i x) (cb_u2 A k i a) z := by
  obtain ⟨h1, h2, h3⟩ := h
  refine ⟨h1, fun k' i' hk => ?_, ?_⟩
  · show cb_u2 w.2.1 (1000 + k) i x (1000 + k') i' = ca_v k' i' (cb_u2 A k i a k' i')
    by_cases e : k' = k ∧ i' = i
    · obtain ⟨rfl, rfl⟩ := e
      rw [cb_u2s, cb_u2s]
      exact hx hk
    · rw [cb_u2n (by omega), cb_u2n (by omega)]
      exact h2 k' i' hk
  · show cb_u2 w.2.1 (1000 + k) i x 1000 7 = z
    rw [cb_u2n (by omega)]
    exact h3
theorem cm_I.sc {w : cb_W} {A : ca_A} {z : Int32} {k i : Nat} (h : cm_I w A z) (hz : ¬ (k = 0 ∧ i = 7)) (x : Int32) (hx : ca_R k i = false) : cm_I (cb_um w (1000 + k) i x) A z := by
  obtain ⟨h1, h2, h3⟩ := h
  refine ⟨h1, fun k' i' hk => ?_, ?_⟩
  · show cb_u2 w.2.1 (1000 + k) i x (1000 + k') i' = ca_v k' i' (A k' i')
    by_cases e : k' = k ∧ i' = i
    · obtain ⟨rfl, rfl⟩ := e
      rw [hx] at hk; cases hk
    · rw [cb_u2n (by omega)]
      exact h2 k' i' hk
  · show cb_u2 w.2.1 (1000 + k) i x 1000 7 = z
    rw [cb_u2n (by omega)]
    exact h3
theorem cm_at {w : cb_W} {A : ca_A} {z : Int32} (h : cm_I w A z) (k i : Nat) (hk : ca_R k i = true) (h1 : ¬ (k = 16 ∨ k = 24 ∨ k = 35 ∨ (k = 0 ∧ i = 33))) : w.2.1 (1000 + k) i = nI (A k i) := by
  rw [h.2.1 k i hk, ca_v, if_neg h1]
theorem sh_mk {i : Nat} (h : i < 10) : cb_sh (100 + i) = (1, 16) := by
  unfold cb_sh
  rw [if_neg (by omega), if_neg (by omega), if_pos (by omega)]
theorem sh_cl {i : Nat} (h : i < 10) : cb_sh (110 + i) = (1, 10) := by
  unfold cb_sh
  rw [if_neg (by omega), if_neg (by omega), if_neg (by omega), if_pos (by omega)]
theorem sh_mx {i : Nat} (h : i < 10) : cb_sh (120 + i) = (1, 10) := by
  unfold cb_sh
  rw [if_neg (by omega), if_neg (by omega), if_neg (by omega), if_pos (by omega)]
theorem sh_en {i : Nat} (h : i < 6) : cb_sh (130 + i) = (1, 16) := by
  unfold cb_sh
  rw [if_neg (by omega), if_neg (by omega), if_neg (by omega), if_neg (by omega), if_pos (by omega)]
theorem sh_s0 {s : Nat} (h : s < 20) : cb_sh (200 + 6 * s) = (0, 9) := by
  unfold cb_sh
  rw [if_neg (by omega), if_neg (by omega), if_neg (by omega), if_neg (by omega), if_neg (by omega), if_neg (by omega), if_pos (by omega), if_pos (by omega)]
theorem sh_sj {s j r : Nat} (h : s < 20) (hj : j < 5) (hr : r = 201 + 6 * s + j) : cb_sh r = (1, 64) := by
  subst hr
  unfold cb_sh
  rw [if_neg (by omega), if_neg (by omega), if_neg (by omega), if_neg (by omega), if_neg (by omega), if_neg (by omega), if_pos (by omega), if_neg (by omega)]
theorem sh_e {p : Nat} (h : p < 200) : cb_sh (400 + p) = (0, 2) := by
  unfold cb_sh
  rw [if_neg (by omega), if_neg (by omega), if_neg (by omega), if_neg (by omega), if_neg (by omega), if_neg (by omega), if_neg (by omega), if_neg (by omega), if_pos (by omega)]
theorem lv_f {r : Nat} (h : 100 ≤ r ∧ r < 136) : cc_Lv r = true := by simp [cc_Lv]; omega

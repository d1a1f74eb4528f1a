theorem cc_Rf_0 {q k : Nat} (h : 27 ≤ q) : cc_Rf q k = none := by
  cases e : cc_Rf q k with
  | none => rfl
  | some x => exact absurd (cc_Rf_lo e) (by omega)
theorem s1_v (w : cb_W) : (∀ q, (q = 1 ∨ (8 ≤ q ∧ q < 12) ∨ (100 ≤ q ∧ q < 130)) → (s1 w).1 q = true) ∧ (∀ q k, (q = 1 ∨ (8 ≤ q ∧ q < 12) ∨ (100 ≤ q ∧ q < 130)) → (s1 w).2.2 q k = cc_Rf q k) ∧ (∀ i c, i < 10 → c < 16 → (s1 w).2.1 (100 + i) c = nI (i + 1)) ∧ (∀ i, i < 10 → (s1 w).2.1 9 i = 60) ∧ (∀ i j, i < 10 → (s1 w).2.1 (110 + i) j = 0) ∧ (∀ i j, i < 10 → (s1 w).2.1 (120 + i) j = 0) := by
  refine ⟨fun q hq => ?_, fun q k hq => ?_, fun i c hi hc => ?_, fun i hi => ?_, fun i j hi => ?_, fun i j hi => ?_⟩
  · rcases (show q = 1 ∨ q = 8 ∨ q = 9 ∨ q = 10 ∨ q = 11 ∨ (100 ≤ q ∧ q < 110) ∨ (110 ≤ q ∧ q < 120) ∨ (120 ≤ q ∧ q < 130) by omega) with rfl | rfl | rfl | rfl | rfl | h | h | h
    · simp [s1, s2, s3, s4, s5, s6, s7, s8, s9, cb_mkf, ik0, sr0, pl0, bd0, pc0, cb_fl, cb_ur, cb_um, cb_nwM, cb_nw1, cb_u2]
    · simp [s1, s2, s3, s4, s5, s6, s7, s8, s9, cb_mkf, ik0, sr0, pl0, bd0, pc0, cb_fl, cb_ur, cb_um, cb_nwM, cb_nw1, cb_u2]
    · simp [s1, s2, s3, s4, s5, s6, s7, s8, s9, cb_mkf, ik0, sr0, pl0, bd0, pc0, cb_fl, cb_ur, cb_um, cb_nwM, cb_nw1, cb_u2]
    · simp [s1, s2, s3, s4, s5, s6, s7, s8, s9, cb_mkf, ik0, sr0, pl0, bd0, pc0, cb_fl, cb_ur, cb_um, cb_nwM, cb_nw1, cb_u2]
    · simp [s1, s2, s3, s4, s5, s6, s7, s8, s9, cb_mkf, ik0, sr0, pl0, bd0, pc0, cb_fl, cb_ur, cb_um, cb_nwM, cb_nw1, cb_u2]
    · simp only [s1, cb_mkf, ik0, cb_fl, cb_ur, cb_nwM, cb_nw1]
      rw [if_neg (by omega), if_neg (by omega), if_neg (by omega), if_pos (by omega)]
    · simp only [s1, cb_mkf, ik0, cb_fl, cb_ur, cb_nwM, cb_nw1]
      rw [if_neg (by omega), if_pos (by omega)]
    · simp only [s1, cb_mkf, ik0, cb_fl, cb_ur, cb_nwM, cb_nw1]
      rw [if_pos (by omega)]
  · rcases (show q = 1 ∨ q = 8 ∨ q = 9 ∨ q = 10 ∨ q = 11 ∨ (100 ≤ q ∧ q < 110) ∨ (110 ≤ q ∧ q < 120) ∨ (120 ≤ q ∧ q < 130) by omega) with rfl | rfl | rfl | rfl | rfl | h | h | h
    · rcases k with _ | _ | _ | _ | k <;> simp [s1, s2, s3, s4, s5, s6, s7, s8, s9, cb_mkf, ik0, sr0, pl0, bd0, pc0, cb_fl, cb_ur, cb_um, cb_nwM, cb_nw1, cb_u2, cc_Rf]
    · simp [s1, s2, s3, s4, s5, s6, s7, s8, s9, cb_mkf, ik0, sr0, pl0, bd0, pc0, cb_fl, cb_ur, cb_um, cb_nwM, cb_nw1, cb_u2, cc_Rf]
    · simp [s1, s2, s3, s4, s5, s6, s7, s8, s9, cb_mkf, ik0, sr0, pl0, bd0, pc0, cb_fl, cb_ur, cb_um, cb_nwM, cb_nw1, cb_u2, cc_Rf]
    · simp [s1, s2, s3, s4, s5, s6, s7, s8, s9, cb_mkf, ik0, sr0, pl0, bd0, pc0, cb_fl, cb_ur, cb_um, cb_nwM, cb_nw1, cb_u2, cc_Rf]
    · simp [s1, s2, s3, s4, s5, s6, s7, s8, s9, cb_mkf, ik0, sr0, pl0, bd0, pc0, cb_fl, cb_ur, cb_um, cb_nwM, cb_nw1, cb_u2, cc_Rf]
    · rw [cc_Rf_0 (by omega)]
      show cb_u2 (cb_u2 (cb_nwM _ 11 120 10).2.2 1 3 (some 11)) 0 0 (some 1) q k = none
      rw [cb_u2n (by omega), cb_u2n (by omega)]
      simp only [cb_nwM, cb_ur, cb_nw1]
      rw [if_neg (by omega), if_neg (by omega), cb_u2n (by omega), if_neg (by omega), if_neg (by omega), cb_u2n (by omega), if_neg (by omega), cb_u2n (by omega), if_neg (by omega), if_pos (by omega)]
    · rw [cc_Rf_0 (by omega)]
      show cb_u2 (cb_u2 (cb_nwM _ 11 120 10).2.2 1 3 (some 11)) 0 0 (some 1) q k = none
      rw [cb_u2n (by omega), cb_u2n (by omega)]
      simp only [cb_nwM, cb_ur, cb_nw1]
      rw [if_neg (by omega), if_neg (by omega), cb_u2n (by omega), if_neg (by omega), if_pos (by omega)]
    · rw [cc_Rf_0 (by omega)]
      show cb_u2 (cb_u2 (cb_nwM _ 11 120 10).2.2 1 3 (some 11)) 0 0 (some 1) q k = none
      rw [cb_u2n (by omega), cb_u2n (by omega)]
      simp only [cb_nwM]
      rw [if_neg (by omega), if_pos (by omega)]
  · show (if 100 ≤ 100 + i ∧ 100 + i < 100 + 10 ∧ c < 16 then nI (100 + i - 99) else _) = _
    rw [if_pos ⟨by omega, by omega, hc⟩]
    congr 1
    omega
  · show (if 100 ≤ 9 ∧ 9 < 100 + 10 ∧ i < 16 then nI (9 - 99) else if 9 = 9 ∧ 0 ≤ i ∧ i < 10 then (60 : Int32) else _) = _
    rw [if_neg (by omega), if_pos ⟨rfl, by omega, hi⟩]
  · show (if 100 ≤ 110 + i ∧ 110 + i < 100 + 10 ∧ j < 16 then _ else if 110 + i = 9 ∧ _ then _ else (cb_nwM _ 11 120 10).2.1 (110 + i) j) = 0
    rw [if_neg (by omega), if_neg (by omega)]
    simp only [cb_nwM, cb_ur]
    rw [if_neg (by omega), if_pos (by omega)]
  · show (if 100 ≤ 120 + i ∧ 120 + i < 100 + 10 ∧ j < 16 then _ else if 120 + i = 9 ∧ _ then _ else (cb_nwM _ 11 120 10).2.1 (120 + i) j) = 0
    rw [if_neg (by omega), if_neg (by omega)]
    simp only [cb_nwM]
    rw [if_pos (by omega)]
theorem s2_v (w : cb_W) : (s2 w).1 2 = true ∧ (∀ k, (s2 w).2.2 2 k = cc_Rf 2 k) ∧ (s2 w).2.1 2 0 = 0 ∧ (s2 w).2.1 2 1 = 0 := by
  refine ⟨?_, fun k => ?_, ?_, ?_⟩ <;> simp [s1, s2, s3, s4, s5, s6, s7, s8, s9, cb_mkf, ik0, sr0, pl0, bd0, pc0, cb_fl, cb_ur, cb_um, cb_nwM, cb_nw1, cb_u2, cc_Rf]
theorem s3_v (w : cb_W) : (s3 w).1 3 = true ∧ (∀ k, (s3 w).2.2 3 k = cc_Rf 3 k) := by
  refine ⟨?_, fun k => ?_⟩ <;> simp [s1, s2, s3, s4, s5, s6, s7, s8, s9, cb_mkf, ik0, sr0, pl0, bd0, pc0, cb_fl, cb_ur, cb_um, cb_nwM, cb_nw1, cb_u2, cc_Rf]
theorem s4_v (w : cb_W) : (s4 w).1 4 = true ∧ (∀ k, (s4 w).2.2 4 k = cc_Rf 4 k) := by
  refine ⟨?_, fun k => ?_⟩ <;> simp [s1, s2, s3, s4, s5, s6, s7, s8, s9, cb_mkf, ik0, sr0, pl0, bd0, pc0, cb_fl, cb_ur, cb_um, cb_nwM, cb_nw1, cb_u2, cc_Rf]
theorem s5_v (w : cb_W) : (s5 w).1 5 = true ∧ (∀ k, (s5 w).2.2 5 k = cc_Rf 5 k) := by
  refine ⟨?_, fun k => ?_⟩ <;> simp [s1, s2, s3, s4, s5, s6, s7, s8, s9, cb_mkf, ik0, sr0, pl0, bd0, pc0, cb_fl, cb_ur, cb_um, cb_nwM, cb_nw1, cb_u2, cc_Rf]
theorem s6_v (w : cb_W) : (∀ q, (q = 6 ∨ q = 12 ∨ q = 13 ∨ (130 ≤ q ∧ q < 136)) → (s6 w).1 q = true) ∧ (∀ q k, (q = 6 ∨ q = 12 ∨ q = 13 ∨ (130 ≤ q ∧ q < 136)) → (s6 w).2.2 q k = cc_Rf q k) := by
  refine ⟨fun q hq => ?_, fun q k hq => ?_⟩
  · rcases (show q = 6 ∨ q = 12 ∨ q = 13 ∨ (130 ≤ q ∧ q < 136) by omega) with rfl | rfl | rfl | h
    · simp [s1, s2, s3, s4, s5, s6, s7, s8, s9, cb_mkf, ik0, sr0, pl0, bd0, pc0, cb_fl, cb_ur, cb_um, cb_nwM, cb_nw1, cb_u2]
    · simp [s1, s2, s3, s4, s5, s6, s7, s8, s9, cb_mkf, ik0, sr0, pl0, bd0, pc0, cb_fl, cb_ur, cb_um, cb_nwM, cb_nw1, cb_u2]
    · simp [s1, s2, s3, s4, s5, s6, s7, s8, s9, cb_mkf, ik0, sr0, pl0, bd0, pc0, cb_fl, cb_ur, cb_um, cb_nwM, cb_nw1, cb_u2]
    · show (if q = 13 ∨ (130 ≤ q ∧ q < 130 + 6) then true else _) = true
      rw [if_pos (by omega)]
  · rcases (show q = 6 ∨ q = 12 ∨ q = 13 ∨ (130 ≤ q ∧ q < 136) by omega) with rfl | rfl | rfl | h
    · rcases k with _ | _ | _ | k <;> simp [s1, s2, s3, s4, s5, s6, s7, s8, s9, cb_mkf, ik0, sr0, pl0, bd0, pc0, cb_fl, cb_ur, cb_um, cb_nwM, cb_nw1, cb_u2, cc_Rf]
    · simp [s1, s2, s3, s4, s5, s6, s7, s8, s9, cb_mkf, ik0, sr0, pl0, bd0, pc0, cb_fl, cb_ur, cb_um, cb_nwM, cb_nw1, cb_u2, cc_Rf]
    · simp [s1, s2, s3, s4, s5, s6, s7, s8, s9, cb_mkf, ik0, sr0, pl0, bd0, pc0, cb_fl, cb_ur, cb_um, cb_nwM, cb_nw1, cb_u2, cc_Rf]
    · rw [cc_Rf_0 (by omega)]
      show cb_u2 (cb_u2 (cb_u2 (cb_nwM _ 13 130 6).2.2 6 1 (some 13)) 6 2 (some 1)) 0 5 (some 6) q k = none
      rw [cb_u2n (by omega), cb_u2n (by omega), cb_u2n (by omega)]
      simp only [cb_nwM]
      rw [if_neg (by omega), if_pos (by omega)]
theorem s7_v (w : cb_W) : (∀ q, (q = 7 ∨ (14 ≤ q ∧ q < 17)) → (s7 w).1 q = true) ∧ (∀ q k, (q = 7 ∨ (14 ≤ q ∧ q < 17)) → (s7 w).2.2 q k = cc_Rf q k) ∧ (s7 w).2.1 14 1 = 0 ∧ (∀ k, k < 16 → (s7 w).2.1 16 k = -1) := by
  refine ⟨fun q hq => ?_, fun q k hq => ?_, ?_, fun k hk => ?_⟩
  · rcases (show q = 7 ∨ q = 14 ∨ q = 15 ∨ q = 16 by omega) with rfl | rfl | rfl | rfl <;> simp [s1, s2, s3, s4, s5, s6, s7, s8, s9, cb_mkf, ik0, sr0, pl0, bd0, pc0, cb_fl, cb_ur, cb_um, cb_nwM, cb_nw1, cb_u2]
  · rcases (show q = 7 ∨ q = 14 ∨ q = 15 ∨ q = 16 by omega) with rfl | rfl | rfl | rfl
    · rcases k with _ | _ | k <;> simp [s1, s2, s3, s4, s5, s6, s7, s8, s9, cb_mkf, ik0, sr0, pl0, bd0, pc0, cb_fl, cb_ur, cb_um, cb_nwM, cb_nw1, cb_u2, cc_Rf]
    · rcases k with _ | k <;> simp [s1, s2, s3, s4, s5, s6, s7, s8, s9, cb_mkf, ik0, sr0, pl0, bd0, pc0, cb_fl, cb_ur, cb_um, cb_nwM, cb_nw1, cb_u2, cc_Rf]
    · simp [s1, s2, s3, s4, s5, s6, s7, s8, s9, cb_mkf, ik0, sr0, pl0, bd0, pc0, cb_fl, cb_ur, cb_um, cb_nwM, cb_nw1, cb_u2, cc_Rf]
    · simp [s1, s2, s3, s4, s5, s6, s7, s8, s9, cb_mkf, ik0, sr0, pl0, bd0, pc0, cb_fl, cb_ur, cb_um, cb_nwM, cb_nw1, cb_u2, cc_Rf]
  · simp [s1, s2, s3, s4, s5, s6, s7, s8, s9, cb_mkf, ik0, sr0, pl0, bd0, pc0, cb_fl, cb_ur, cb_um, cb_nwM, cb_nw1, cb_u2]
  · simp [s1, s2, s3, s4, s5, s6, s7, s8, s9, cb_mkf, ik0, sr0, pl0, bd0, pc0, cb_fl, cb_ur, cb_um, cb_nwM, cb_nw1, cb_u2, hk]
theorem s8_v (w : cb_W) : (∀ q, ((20 ≤ q ∧ q < 26)) → (s8 w).1 q = true) ∧ (∀ q k, ((20 ≤ q ∧ q < 26)) → (s8 w).2.2 q k = cc_Rf q k) ∧ ((s8 w).2.1 20 0 = 0 ∧ (s8 w).2.1 20 1 = 0 ∧ (s8 w).2.1 20 5 = 0) ∧ (∀ k, (s8 w).2.1 21 k = 0) ∧ (∀ k, (s8 w).2.1 22 k = 0) := by
  refine ⟨fun q hq => ?_, fun q k hq => ?_, ⟨?_, ?_, ?_⟩, fun k => ?_, fun k => ?_⟩
  · rcases (show q = 20 ∨ q = 21 ∨ q = 22 ∨ q = 23 ∨ q = 24 ∨ q = 25 by omega) with rfl | rfl | rfl | rfl | rfl | rfl <;> simp [s1, s2, s3, s4, s5, s6, s7, s8, s9, cb_mkf, ik0, sr0, pl0, bd0, pc0, cb_fl, cb_ur, cb_um, cb_nwM, cb_nw1, cb_u2]
  · rcases (show q = 20 ∨ q = 21 ∨ q = 22 ∨ q = 23 ∨ q = 24 ∨ q = 25 by omega) with rfl | rfl | rfl | rfl | rfl | rfl
    · rcases k with _ | _ | _ | _ | _ | _ | _ | _ | k <;> simp [s1, s2, s3, s4, s5, s6, s7, s8, s9, cb_mkf, ik0, sr0, pl0, bd0, pc0, cb_fl, cb_ur, cb_um, cb_nwM, cb_nw1, cb_u2, cc_Rf]
    all_goals simp [s1, s2, s3, s4, s5, s6, s7, s8, s9, cb_mkf, ik0, sr0, pl0, bd0, pc0, cb_fl, cb_ur, cb_um, cb_nwM, cb_nw1, cb_u2, cc_Rf]
  all_goals simp [s1, s2, s3, s4, s5, s6, s7, s8, s9, cb_mkf, ik0, sr0, pl0, bd0, pc0, cb_fl, cb_ur, cb_um, cb_nwM, cb_nw1, cb_u2]
theorem s9_v (w : cb_W) : (∀ q, (q = 26 ∨ q = 27) → (s9 w).1 q = true) ∧ (∀ q k, (q = 26 ∨ q = 27) → (s9 w).2.2 q k = cc_Rf q k) ∧ ((s9 w).2.1 26 0 = 0 ∧ (s9 w).2.1 26 1 = 0) ∧ (∀ k, (s9 w).2.1 27 k = 0) := by
  refine ⟨fun q hq => ?_, fun q k hq => ?_, ⟨?_, ?_⟩, fun k => ?_⟩
  · rcases (show q = 26 ∨ q = 27 by omega) with rfl | rfl <;> simp [s1, s2, s3, s4, s5, s6, s7, s8, s9, cb_mkf, ik0, sr0, pl0, bd0, pc0, cb_fl, cb_ur, cb_um, cb_nwM, cb_nw1, cb_u2]
  · rcases (show q = 26 ∨ q = 27 by omega) with rfl | rfl
    · rcases k with _ | _ | _ | k <;> simp [s1, s2, s3, s4, s5, s6, s7, s8, s9, cb_mkf, ik0, sr0, pl0, bd0, pc0, cb_fl, cb_ur, cb_um, cb_nwM, cb_nw1, cb_u2, cc_Rf]
    · simp [s1, s2, s3, s4, s5, s6, s7, s8, s9, cb_mkf, ik0, sr0, pl0, bd0, pc0, cb_fl, cb_ur, cb_um, cb_nwM, cb_nw1, cb_u2, cc_Rf]
  all_goals simp [s1, s2, s3, s4, s5, s6, s7, s8, s9, cb_mkf, ik0, sr0, pl0, bd0, pc0, cb_fl, cb_ur, cb_um, cb_nwM, cb_nw1, cb_u2]
theorem c_init_I (w : cb_W) (h0 : w.1 0 = true) (hd : ∀ q, q ≠ 0 → w.1 q = false) (hr0 : ∀ k, w.2.2 0 k = none) : cc_I (s10 (s9 (s8 (s7 (s6 (s5 (s4 (s3 (s2 (s1 w)))))))))) A_0 0 ∧ (∀ q, 1000 ≤ q → EQ9 w (s10 (s9 (s8 (s7 (s6 (s5 (s4 (s3 (s2 (s1 w)))))))))) q) := by
  obtain ⟨v1, hv1⟩ : ∃ v, v = s1 w := ⟨_, rfl⟩
  have f1 : ∀ q, q ≠ 0 → ¬ (q = 1 ∨ (8 ≤ q ∧ q < 12) ∨ (100 ≤ q ∧ q < 130)) → EQ9 w v1 q := fun q a b => by rw [hv1]; exact s1_f w a b
  have z1 : v1.1 0 = w.1 0 ∧ v1.2.1 0 = w.2.1 0 ∧ ∀ j, v1.2.2 0 j = if j = 0 then some 1 else w.2.2 0 j := by rw [hv1]; exact s1_z w
  have x1 := s1_v w
  rw [← hv1] at x1
  obtain ⟨v2, hv2⟩ : ∃ v, v = s2 v1 := ⟨_, rfl⟩
  have f2 : ∀ q, q ≠ 0 → ¬ (q = 2) → EQ9 v1 v2 q := fun q a b => by rw [hv2]; exact s2_f v1 a b
  have z2 : v2.1 0 = v1.1 0 ∧ v2.2.1 0 = v1.2.1 0 ∧ ∀ j, v2.2.2 0 j = if j = 1 then some 2 else v1.2.2 0 j := by rw [hv2]; exact s2_z v1
  have x2 := s2_v v1
  rw [← hv2] at x2
  obtain ⟨v3, hv3⟩ : ∃ v, v = s3 v2 := ⟨_, rfl⟩
  have f3 : ∀ q, q ≠ 0 → ¬ (q = 3) → EQ9 v2 v3 q := fun q a b => by rw [hv3]; exact s3_f v2 a b
  have z3 : v3.1 0 = v2.1 0 ∧ v3.2.1 0 = v2.2.1 0 ∧ ∀ j, v3.2.2 0 j = if j = 2 then some 3 else v2.2.2 0 j := by rw [hv3]; exact s3_z v2
  have x3 := s3_v v2
  rw [← hv3] at x3
  obtain ⟨v4, hv4⟩ : ∃ v, v = s4 v3 := ⟨_, rfl⟩
  have f4 : ∀ q, q ≠ 0 → ¬ (q = 4) → EQ9 v3 v4 q := fun q a b => by rw [hv4]; exact s4_f v3 a b
  have z4 : v4.1 0 = v3.1 0 ∧ v4.2.1 0 = v3.2.1 0 ∧ ∀ j, v4.2.2 0 j = if j = 3 then some 4 else v3.2.2 0 j := by rw [hv4]; exact s4_z v3
  have x4 := s4_v v3
  rw [← hv4] at x4
  obtain ⟨v5, hv5⟩ : ∃ v, v = s5 v4 := ⟨_, rfl⟩
  have f5 : ∀ q, q ≠ 0 → ¬ (q = 5) → EQ9 v4 v5 q := fun q a b => by rw [hv5]; exact s5_f v4 a b
  have z5 : v5.1 0 = v4.1 0 ∧ v5.2.1 0 = v4.2.1 0 ∧ ∀ j, v5.2.2 0 j = if j = 4 then some 5 else v4.2.2 0 j := by rw [hv5]; exact s5_z v4
  have x5 := s5_v v4
  rw [← hv5] at x5
  obtain ⟨v6, hv6⟩ : ∃ v, v = s6 v5 := ⟨_, rfl⟩
  have f6 : ∀ q, q ≠ 0 → ¬ (q = 6 ∨ q = 12 ∨ q = 13 ∨ (130 ≤ q ∧ q < 136)) → EQ9 v5 v6 q := fun q a b => by rw [hv6]; exact s6_f v5 a b
  have z6 : v6.1 0 = v5.1 0 ∧ v6.2.1 0 = v5.2.1 0 ∧ ∀ j, v6.2.2 0 j = if j = 5 then some 6 else v5.2.2 0 j := by rw [hv6]; exact s6_z v5
  have x6 := s6_v v5
  rw [← hv6] at x6
  obtain ⟨v7, hv7⟩ : ∃ v, v = s7 v6 := ⟨_, rfl⟩
  have f7 : ∀ q, q ≠ 0 → ¬ (q = 7 ∨ (14 ≤ q ∧ q < 17)) → EQ9 v6 v7 q := fun q a b => by rw [hv7]; exact s7_f v6 a b
  have z7 : v7.1 0 = v6.1 0 ∧ v7.2.1 0 = v6.2.1 0 ∧ ∀ j, v7.2.2 0 j = if j = 6 then some 7 else v6.2.2 0 j := by rw [hv7]; exact s7_z v6
  have x7 := s7_v v6
  rw [← hv7] at x7
  obtain ⟨v8, hv8⟩ : ∃ v, v = s8 v7 := ⟨_, rfl⟩
  have f8 : ∀ q, q ≠ 0 → ¬ ((20 ≤ q ∧ q < 26)) → EQ9 v7 v8 q := fun q a b => by rw [hv8]; exact s8_f v7 a b
  have z8 : v8.1 0 = v7.1 0 ∧ v8.2.1 0 = v7.2.1 0 ∧ ∀ j, v8.2.2 0 j = if j = 7 then some 20 else v7.2.2 0 j := by rw [hv8]; exact s8_z v7
  have x8 := s8_v v7
  rw [← hv8] at x8
  obtain ⟨v9, hv9⟩ : ∃ v, v = s9 v8 := ⟨_, rfl⟩
  have f9 : ∀ q, q ≠ 0 → ¬ (q = 26 ∨ q = 27) → EQ9 v8 v9 q := fun q a b => by rw [hv9]; exact s9_f v8 a b
  have z9 : v9.1 0 = v8.1 0 ∧ v9.2.1 0 = v8.2.1 0 ∧ ∀ j, v9.2.2 0 j = if j = 8 then some 26 else v8.2.2 0 j := by rw [hv9]; exact s9_z v8
  have x9 := s9_v v8
  rw [← hv9] at x9
  obtain ⟨v10, hv10⟩ : ∃ v, v = s10 v9 := ⟨_, rfl⟩
  have f10 : ∀ q, q ≠ 0 → EQ9 v9 v10 q := fun q a => by rw [hv10]; exact s10_f v9 a
  rw [← hv1, ← hv2, ← hv3, ← hv4, ← hv5, ← hv6, ← hv7, ← hv8, ← hv9, ← hv10]
  have G1 : ∀ q, (q = 1 ∨ (8 ≤ q ∧ q < 12) ∨ (100 ≤ q ∧ q < 130)) → EQ9 v1 v10 q := fun q h => (((((((((f2 q (by omega) (by omega)).trans (f3 q (by omega) (by omega))).trans (f4 q (by omega) (by omega))).trans (f5 q (by omega) (by omega))).trans (f6 q (by omega) (by omega))).trans (f7 q (by omega) (by omega))).trans (f8 q (by omega) (by omega))).trans (f9 q (by omega) (by omega))).trans (f10 q (by omega)))
  have G2 : ∀ q, (q = 2) → EQ9 v2 v10 q := fun q h => ((((((((f3 q (by omega) (by omega)).trans (f4 q (by omega) (by omega))).trans (f5 q (by omega) (by omega))).trans (f6 q (by omega) (by omega))).trans (f7 q (by omega) (by omega))).trans (f8 q (by omega) (by omega))).trans (f9 q (by omega) (by omega))).trans (f10 q (by omega)))
  have G3 : ∀ q, (q = 3) → EQ9 v3 v10 q := fun q h => (((((((f4 q (by omega) (by omega)).trans (f5 q (by omega) (by omega))).trans (f6 q (by omega) (by omega))).trans (f7 q (by omega) (by omega))).trans (f8 q (by omega) (by omega))).trans (f9 q (by omega) (by omega))).trans (f10 q (by omega)))
  have G4 : ∀ q, (q = 4) → EQ9 v4 v10 q := fun q h => ((((((f5 q (by omega) (by omega)).trans (f6 q (by omega) (by omega))).trans (f7 q (by omega) (by omega))).trans (f8 q (by omega) (by omega))).trans (f9 q (by omega) (by omega))).trans (f10 q (by omega)))
  have G5 : ∀ q, (q = 5) → EQ9 v5 v10 q := fun q h => (((((f6 q (by omega) (by omega)).trans (f7 q (by omega) (by omega))).trans (f8 q (by omega) (by omega))).trans (f9 q (by omega) (by omega))).trans (f10 q (by omega)))
  have G6 : ∀ q, (q = 6 ∨ q = 12 ∨ q = 13 ∨ (130 ≤ q ∧ q < 136)) → EQ9 v6 v10 q := fun q h => ((((f7 q (by omega) (by omega)).trans (f8 q (by omega) (by omega))).trans (f9 q (by omega) (by omega))).trans (f10 q (by omega)))
  have G7 : ∀ q, (q = 7 ∨ (14 ≤ q ∧ q < 17)) → EQ9 v7 v10 q := fun q h => (((f8 q (by omega) (by omega)).trans (f9 q (by omega) (by omega))).trans (f10 q (by omega)))
  have G8 : ∀ q, ((20 ≤ q ∧ q < 26)) → EQ9 v8 v10 q := fun q h => ((f9 q (by omega) (by omega)).trans (f10 q (by omega)))
  have G9 : ∀ q, (q = 26 ∨ q = 27) → EQ9 v9 v10 q := fun q h => (f10 q (by omega))
  have G0 : ∀ q, q ≠ 0 → ¬ ((q = 1 ∨ (8 ≤ q ∧ q < 12) ∨ (100 ≤ q ∧ q < 130)) ∨ (q = 2) ∨ (q = 3) ∨ (q = 4) ∨ (q = 5) ∨ (q = 6 ∨ q = 12 ∨ q = 13 ∨ (130 ≤ q ∧ q < 136)) ∨ (q = 7 ∨ (14 ≤ q ∧ q < 17)) ∨ ((20 ≤ q ∧ q < 26)) ∨ (q = 26 ∨ q = 27)) → EQ9 w v10 q := fun q a b => ((((((((((f1 q a (by omega)).trans (f2 q a (by omega))).trans (f3 q a (by omega))).trans (f4 q a (by omega))).trans (f5 q a (by omega))).trans (f6 q a (by omega))).trans (f7 q a (by omega))).trans (f8 q a (by omega))).trans (f9 q a (by omega))).trans (f10 q a))
  have Z : ∀ j, v10.2.2 0 j = cc_Rf 0 j := fun j => by
    have e : v10.2.2 0 j = v9.2.2 0 j := by rw [hv10]; rfl
    rw [e, z9.2.2, z8.2.2, z7.2.2, z6.2.2, z5.2.2, z4.2.2, z3.2.2, z2.2.2, z1.2.2, hr0]
    rcases j with _ | _ | _ | _ | _ | _ | _ | _ | _ | j <;> simp [cc_Rf]
  have L0 : v10.1 0 = true := by
    have e : v10.1 0 = v9.1 0 := by rw [hv10]; rfl
    rw [e, z9.1, z8.1, z7.1, z6.1, z5.1, z4.1, z3.1, z2.1, z1.1]; exact h0
  have LV : ∀ q, q ≠ 0 → ((q = 1 ∨ (8 ≤ q ∧ q < 12) ∨ (100 ≤ q ∧ q < 130)) ∨ (q = 2) ∨ (q = 3) ∨ (q = 4) ∨ (q = 5) ∨ (q = 6 ∨ q = 12 ∨ q = 13 ∨ (130 ≤ q ∧ q < 136)) ∨ (q = 7 ∨ (14 ≤ q ∧ q < 17)) ∨ ((20 ≤ q ∧ q < 26)) ∨ (q = 26 ∨ q = 27)) → v10.1 q = true ∧ ∀ k, v10.2.2 q k = cc_Rf q k := fun q a b => by
    rcases b with b | b | b | b | b | b | b | b | b
    · rw [(G1 q b).1, (G1 q b).2.2]; exact ⟨x1.1 q b, fun k => x1.2.1 q k b⟩
    · rw [(G2 q b).1, (G2 q b).2.2, b]; exact ⟨x2.1, x2.2.1⟩
    · rw [(G3 q b).1, (G3 q b).2.2, b]; exact ⟨x3.1, x3.2⟩
    · rw [(G4 q b).1, (G4 q b).2.2, b]; exact ⟨x4.1, x4.2⟩
    · rw [(G5 q b).1, (G5 q b).2.2, b]; exact ⟨x5.1, x5.2⟩
    · rw [(G6 q b).1, (G6 q b).2.2]; exact ⟨x6.1 q b, fun k => x6.2 q k b⟩
    · rw [(G7 q b).1, (G7 q b).2.2]; exact ⟨x7.1 q b, fun k => x7.2.1 q k b⟩
    · rw [(G8 q b).1, (G8 q b).2.2]; exact ⟨x8.1 q b, fun k => x8.2.1 q k b⟩
    · rw [(G9 q b).1, (G9 q b).2.2]; exact ⟨x9.1 q b, fun k => x9.2.1 q k b⟩
  have DE : ∀ q, q ≠ 0 → ¬ ((q = 1 ∨ (8 ≤ q ∧ q < 12) ∨ (100 ≤ q ∧ q < 130)) ∨ (q = 2) ∨ (q = 3) ∨ (q = 4) ∨ (q = 5) ∨ (q = 6 ∨ q = 12 ∨ q = 13 ∨ (130 ≤ q ∧ q < 136)) ∨ (q = 7 ∨ (14 ≤ q ∧ q < 17)) ∨ ((20 ≤ q ∧ q < 26)) ∨ (q = 26 ∨ q = 27)) → v10.1 q = false := fun q a b => by rw [(G0 q a b).1]; exact hd q a
  have RA : ∀ r k, v10.1 r = true → v10.2.2 r k = cc_Rf r k := fun r k h => by
    by_cases e : r = 0
    · subst e; exact Z k
    · by_cases e2 : ((r = 1 ∨ (8 ≤ r ∧ r < 12) ∨ (100 ≤ r ∧ r < 130)) ∨ (r = 2) ∨ (r = 3) ∨ (r = 4) ∨ (r = 5) ∨ (r = 6 ∨ r = 12 ∨ r = 13 ∨ (130 ≤ r ∧ r < 136)) ∨ (r = 7 ∨ (14 ≤ r ∧ r < 17)) ∨ ((20 ≤ r ∧ r < 26)) ∨ (r = 26 ∨ r = 27))
      · exact (LV r e e2).2 k
      · rw [DE r e e2] at h; cases h
  have zo : ∀ q i, q ≠ 3 ∧ q ≠ 4 ∧ q ≠ 16 ∧ q ≠ 24 ∧ q ≠ 35 → A_0 q i = 0 := fun q i h => A_0o h
  have LA : ∀ r, cc_Lv r = true → v10.1 r = true := fun r hr => by
    by_cases e : r = 0
    · subst e; exact L0
    · refine (LV r e ?_).1
      simp [cc_Lv] at hr
      omega
  refine ⟨⟨⟨LA, fun r k q hq => ?_⟩, ⟨⟨?_, ?_, ?_⟩, fun k hk => ?_, fun k hk => ?_, fun p hp => ?_⟩, ⟨?_, ?_, ?_, ?_, ?_⟩, ⟨fun i c hi hc => ?_, fun i hi => ?_, fun i j hi hj => ?_, fun i j hi hj => ?_⟩, ⟨fun s hs => ?_, fun s _ hs j hj => ?_⟩, ⟨fun p hp => ?_, fun p _ hp => ?_⟩, ⟨?_, ?_, fun k hk => ?_⟩, ⟨?_, fun k hk => ?_, fun k hk => ?_⟩, fun r g1 g2 => ?_, fun r g1 => ?_, fun r k q h1 h2 h3 h4 h5 => ?_⟩, fun q hq => ?_⟩
  · rw [RA r k (LA r (by
      have h9 := cc_Rf_lo hq
      unfold cc_Lv
      by_cases e : r < 17 ∨ (20 ≤ r ∧ r < 28)
      · simp; omega
      · exfalso
        have e17 : r = 17 ∨ r = 18 ∨ r = 19 := by omega
        rcases e17 with rfl | rfl | rfl <;> simp [cc_Rf] at hq))]
    exact hq
  · rw [(G8 20 (by omega)).2.1, x8.2.2.1.1, zo 0 0 (by omega)]; rfl
  · rw [(G8 20 (by omega)).2.1, x8.2.2.1.2.1, zo 0 1 (by omega)]; rfl
  · rw [(G8 20 (by omega)).2.1, x8.2.2.1.2.2, zo 0 12 (by omega)]; rfl
  · rw [(G8 21 (by omega)).2.1, x8.2.2.2.1 k, if_neg (fun h => by
      have := h.1.1
      rw [zo 0 0 (by omega)] at this
      omega)]
    rfl
  · rw [(G8 22 (by omega)).2.1, x8.2.2.2.2 k, zo 11 k (by omega)]; rfl
  · rw [zo 0 12 (by omega)] at hp; omega
  · rw [hv10, zo 0 20 (by omega)]; simp [s10, cb_um, cb_u2]; rfl
  · rw [hv10, zo 0 26 (by omega)]; simp [s10, cb_um, cb_u2]; rfl
  · rw [hv10, zo 0 8 (by omega)]; simp [s10, cb_um, cb_u2]; rfl
  · rw [(G2 2 rfl).2.1]; exact x2.2.2.1
  · rw [(G2 2 rfl).2.1, x2.2.2.2, zo 0 6 (by omega)]; rfl
  · rw [(G1 (100 + i) (by omega)).2.1, x1.2.2.1 i c hi hc]
    unfold A_0
    rw [if_pos rfl, if_pos (by omega), show (16 * i + c) / 16 + 1 = i + 1 by omega]
  · rw [(G1 9 (by omega)).2.1, x1.2.2.2.1 i hi]
    rfl
  · rw [(G1 (110 + i) (by omega)).2.1, x1.2.2.2.2.1 i j hi, zo 5 _ (by omega)]; rfl
  · rw [(G1 (120 + i) (by omega)).2.1, x1.2.2.2.2.2 i j hi, zo 6 _ (by omega)]; rfl
  · rw [zo 0 20 (by omega)] at hs; omega
  · exact DE _ (by omega) (by omega)
  · rw [zo 0 26 (by omega)] at hp; omega
  · exact DE _ (by omega) (by omega)
  · rw [(G9 26 (by omega)).2.1, x9.2.2.1.1, zo 0 28 (by omega)]; rfl
  · rw [(G9 26 (by omega)).2.1, x9.2.2.1.2, zo 0 29 (by omega)]; rfl
  · rw [(G9 27 (by omega)).2.1, x9.2.2.2 k, zo 31 k (by omega)]; rfl
  · rw [(G7 14 (by omega)).2.1, x7.2.2.1, zo 0 33 (by omega)]; rfl
  · rw [zo 0 33 (by omega)] at hk; omega
  · rw [(G7 16 (by omega)).2.1, x7.2.2.2 k hk, if_pos (zo 0 33 (by omega))]
  · exact DE r (by omega) (by omega)
  · exact DE r (by omega) (by omega)
  · rw [← RA r k h1]; exact h3
  · exact G0 q (by omega) (by omega)
theorem cc_I.sh {w w' : cb_W} {A A' : ca_A} {z : Int32} (s k : Nat) (hC : cc_I w A z) (hI : ca_I A) (hs : s < A 0 20) (hk : k < 64) (h1 : w'.1 = w.1) (h2 : w'.2.2 = w.2.2) (h3 : ∀ r i, ¬ (200 + 6 * s ≤ r ∧ r < 206 + 6 * s) → w'.2.1 r i = w.2.1 r i) (h4 : ∀ r i, 201 + 6 * s ≤ r → r < 206 + 6 * s → i ≠ k → w'.2.1 r i = w.2.1 r i)
    (hA : ∀ q i, ¬ (15 ≤ q ∧ q ≤ 19 ∧ i = 64 * s + k) → ¬ (q = 20 ∧ i = s) → A' q i = A q i) (h5 : w'.2.1 (200 + 6 * s) 5 = nI (1 - A' 20 s))
    (h6 : w'.2.1 (201 + 6 * s) k = nI (A' 15 (64 * s + k)) ∧ w'.2.1 (202 + 6 * s) k = nI (A' 18 (64 * s + k)) ∧ w'.2.1 (203 + 6 * s) k = nI (A' 16 (64 * s + k)) - 1 ∧ w'.2.1 (204 + 6 * s) k = nI (A' 17 (64 * s + k)) ∧ w'.2.1 (205 + 6 * s) k = nI (A' 19 (64 * s + k))) : cc_I w' A' z := by
  obtain ⟨hW, hB, hN, hK, ⟨s1, s2⟩, hE, hP, hL, l1, l2, l3⟩ := hC
  have l20 := hI.1.2.2.2.1
  refine ⟨by unfold cb_CW; rw [h1, h2]; exact hW, hB.cg (fun r k e => h3 r k (by omega)) (fun k i e => hA k i (by omega) (by omega)), hN.cg (fun r k e => h3 r k (by omega)) (fun k i e => hA k i (by omega) (by omega)), hK.cg (fun r k e => h3 r k (by omega)) (fun k i e => hA k i (by omega) (by omega)), ⟨fun s' hs' => ?_, fun s' g1 g2 j hj => ?_⟩, hE.cg hI.1.2.2.2.2.1 (fun r g1 g2 => by rw [h1]) (fun k => by rw [h2]) (fun r k g1 g2 => h3 r k (by omega)) (fun k i e => hA k i (by omega) (by omega)), hP.cg (fun r k e => h3 r k (by omega)) (fun k i e => hA k i (by omega) (by omega)), hL.cg (fun r k e => h3 r k (by omega)) (fun k i e => hA k i (by omega) (by omega)), by rw [h1]; exact l1, by rw [h1]; exact l2, by rw [h1, h2]; exact l3⟩
  · rw [hA 0 20 (by omega) (by omega)] at hs'
    obtain ⟨x1, x2, x3, x4, x5⟩ := s1 s' hs'
    rw [h1, h2]
    refine ⟨x1, x2, x3, ?_, fun k' hk' => ?_⟩
    · by_cases e : s' = s
      · subst e; exact h5
      · rw [h3 _ _ (by omega), hA 20 s' (by omega) (by omega)]; exact x4
    · by_cases e : s' = s ∧ k' = k
      · obtain ⟨rfl, rfl⟩ := e
        exact h6
      · have hm : ∀ j, j < 5 → w'.2.1 (201 + 6 * s' + j) k' = w.2.1 (201 + 6 * s' + j) k' := fun j hj => by
          by_cases e2 : s' = s
          · subst e2
            exact h4 _ _ (by omega) (by omega) (fun e3 => e ⟨rfl, e3⟩)
          · exact h3 _ _ (by omega)
        have m0 := hm 0 (by omega)
        have m1 := hm 1 (by omega)
        have m2 := hm 2 (by omega)
        have m3 := hm 3 (by omega)
        have m4 := hm 4 (by omega)
        rw [show 201 + 6 * s' + 0 = 201 + 6 * s' by omega] at m0
        rw [show 201 + 6 * s' + 1 = 202 + 6 * s' by omega] at m1
        rw [show 201 + 6 * s' + 2 = 203 + 6 * s' by omega] at m2
        rw [show 201 + 6 * s' + 3 = 204 + 6 * s' by omega] at m3
        rw [show 201 + 6 * s' + 4 = 205 + 6 * s' by omega] at m4
        rw [m0, m1, m2, m3, m4, hA 15 _ (by omega) (by omega), hA 16 _ (by omega) (by omega), hA 17 _ (by omega) (by omega), hA 18 _ (by omega) (by omega), hA 19 _ (by omega) (by omega)]
        exact x5 k' hk'
  · rw [hA 0 20 (by omega) (by omega)] at g1
    rw [h1]
    exact s2 s' g1 g2 j hj
def cb_tk (w : cb_W) (B : ca_A) (s k i : Nat) : cb_W := cb_um (cb_um (cb_um (cb_um (if spc B s k i then cb_um w (200 + 6 * s) 5 0 else w) (201 + 6 * s) k (nI (B 3 (16 * i + B 15 (64 * s + k))))) (202 + 6 * s) k (nI i)) (205 + 6 * s) k (nI (B 0 8 + B 4 i))) (204 + 6 * s) k (nI (B 17 (64 * s + k) + 1))
theorem nI_p1 (n : Nat) : nI (n + 1) - 1 = nI n := by
  rw [← nI_add]
  exact Int32.add_sub_cancel _ _
theorem cc_tkC {w : cb_W} {B : ca_A} {z : Int32} {s k i : Nat} (hC : cc_I w B z) (hI : ca_I B) (hs : s < B 0 20) (hk : k < 64) : cc_I (cb_um (cb_tk w B s k i) (203 + 6 * s) k (nI (B 0 26))) (cb_u2 (tk B s k i) 20 s (if spc B s k i then 1 else B 20 s)) z ∧ cb_M1 w (cb_um (cb_tk w B s k i) (203 + 6 * s) k (nI (B 0 26))) ∧ (cb_um (cb_tk w B s k i) (203 + 6 * s) k (nI (B 0 26))).2.1 5 = w.2.1 5 := by
  have l20 := hI.1.2.2.2.1
  have e1 : (cb_tk w B s k i).1 = w.1 := by unfold cb_tk; split <;> rfl
  have e2 : (cb_tk w B s k i).2.2 = w.2.2 := by unfold cb_tk; split <;> rfl
  have e3 : ∀ r j, ¬ (200 + 6 * s ≤ r ∧ r < 206 + 6 * s) → (cb_um (cb_tk w B s k i) (203 + 6 * s) k (nI (B 0 26))).2.1 r j = w.2.1 r j := fun r j h => by
    unfold cb_tk
    simp only [cb_um]
    rw [cb_u2n (by omega), cb_u2n (by omega), cb_u2n (by omega), cb_u2n (by omega), cb_u2n (by omega)]
    split
    · simp only [cb_um]; rw [cb_u2n (by omega)]
    · rfl
  refine ⟨cc_I.sh s k hC hI hs hk e1 e2 e3 (fun r j h1 h2 h3 => ?_) (fun q x h1 h2 => ?_) ?_ ?_, fun r hr => ⟨congrFun e1 r, funext fun j => e3 r j (by omega), fun _ => congrFun e2 r⟩, funext fun j => e3 5 j (by omega)⟩
  · unfold cb_tk
    simp only [cb_um]
    rw [cb_u2n (Or.inr h3), cb_u2n (Or.inr h3), cb_u2n (Or.inr h3), cb_u2n (Or.inr h3), cb_u2n (Or.inr h3)]
    split
    · simp only [cb_um]; rw [cb_u2n (by omega)]
    · rfl
  · rw [cb_u2n (by omega), tk_o _ h1]
  · rw [cb_u2s]
    unfold cb_tk
    simp only [cb_um]
    rw [cb_u2n (by omega), cb_u2n (by omega), cb_u2n (by omega), cb_u2n (by omega), cb_u2n (by omega)]
    by_cases e : spc B s k i
    · rw [if_pos e, if_pos e]
      simp only [cb_um]
      rw [cb_u2s]
      rfl
    · rw [if_neg e, if_neg e]
      exact (hC.2.2.2.2.1.1 s hs).2.2.2.1
  · unfold cb_tk tk
    simp only [cb_um]
    refine ⟨?_, ?_, ?_, ?_, ?_⟩
    · rw [cb_u2n (by omega), cb_u2n (by omega), cb_u2n (by omega), cb_u2n (by omega), cb_u2s, cb_u2n (by omega), cb_u2n (by omega), cb_u2n (by omega), cb_u2n (by omega), cb_u2n (by omega), cb_u2s]
    · rw [cb_u2n (by omega), cb_u2n (by omega), cb_u2n (by omega), cb_u2s, cb_u2n (by omega), cb_u2n (by omega), cb_u2s]
    · rw [cb_u2s, cb_u2n (by omega), cb_u2n (by omega), cb_u2n (by omega), cb_u2n (by omega), cb_u2s, nI_p1]
    · rw [cb_u2n (by omega), cb_u2s, cb_u2n (by omega), cb_u2n (by omega), cb_u2n (by omega), cb_u2s]
    · rw [cb_u2n (by omega), cb_u2n (by omega), cb_u2s, cb_u2n (by omega), cb_u2s]
theorem ly_20 {B : ca_A} {rl : Nat → Nat} {s m : Nat} (h20 : B 20 s = 0) (hp : ca_p B m) : cb_u2 (tk (cb_u2 (ly B rl s m) 20 s (sp B rl s m)) s m (rl (m % 8))) 20 s (if spc (cb_u2 (ly B rl s m) 20 s (sp B rl s m)) s m (rl (m % 8)) then 1 else cb_u2 (ly B rl s m) 20 s (sp B rl s m) 20 s) = cb_u2 (ly B rl s (m + 1)) 20 s (sp B rl s (m + 1)) := by
  rw [tk_20, cb_u2t, cb_u2s]
  have e : spc (cb_u2 (ly B rl s m) 20 s (sp B rl s m)) s m (rl (m % 8)) ↔ spc B s m (rl (m % 8)) := by
    unfold spc
    rw [cb_u2n (by omega), cb_u2n (by omega), cb_u2n (by omega), cb_u2n (by omega), ly_o _ _ _ m (by omega), ly_o _ _ _ m (by omega), ly_o _ _ _ m (by omega), ly_o _ _ _ m (by omega)]
  rw [ci_if e, ly, if_pos hp]
  congr 1
  rw [sp]
  refine ci_if ⟨fun h => ⟨hp, h⟩, fun h => h.2⟩
theorem c_X9_take (w : cb_W) (A : ca_A) (z : Int32) (hI : ca_I A) (hC : cc_I w A z) (s k i : Nat) (hs : s < A 0 20) (hk : k < 64) (hi : i < 10) : cb_Con yX9_take cX9_take 5 none 0 0 0 0 (fun _ => true) [.inr (some (200 + 6 * s)), .inl (nI i), .inl (nI k), .inr (some 1), .inl (nI (A 0 8))] w (cb_pv (fun w' => w' = cb_tk w A s k i)) := by
  have l := hI.1
  obtain ⟨⟨v0, v1, v2, v3, v4, v5⟩, -, r0, r1, r2, r3, r4⟩ := hC.2.2.2.2.1.g hs
  obtain ⟨-, -, -, g4, g5⟩ := hC.2.2.2.2.1.1 s hs
  obtain ⟨p1, p2, p3, p4, p5⟩ := g5 k hk
  have l15 := hI.2.2.2.2.1.1 (64 * s + k)
  have l18 := hI.2.2.2.2.1.2.2.1 (64 * s + k)
  have l19 := hI.2.2.2.2.1.2.2.2.1 (64 * s + k)
  have l5 := hI.2.2.1.2.2.1 (10 * A 18 (64 * s + k) + i)
  have q5 := hC.2.2.2.1.2.2.1 (A 18 (64 * s + k)) i l18 hi
  have q3 := hC.2.2.2.1.1 i (A 15 (64 * s + k)) hi l15
  have q4 := hC.2.2.2.1.2.1 i hi
  refine cb_con (by decide) (Nat.le_of_ble_eq_true rfl) (fun κ O Rt hnm => ?_)
  show cb_X κ w 0 0 0 [some (.inr (some (200 + 6 * s))), some (.inl (nI i)), some (.inl (nI k)), some (.inr (some 1)), some (.inl (nI (A 0 8)))] []
  refine cb_iload (pc := 0) O dX9_take_0 rfl ?_
  refine cb_aload_n (pc := 2) O dX9_take_2 rfl ?_
  refine cb_getR (pc := 3) O fl_X9_24 rfl (sh_s0 (by omega)) dX9_take_3 (by first | exact v0 | (simp only [cb_um]; exact v0)) (by first | exact r4 | (simp only [cb_um]; exact r4)) ?_
  refine cb_iload_n (pc := 6) O dX9_take_6 rfl ?_
  refine cb_iald (pc := 7) O k (sh_sj (s := s) (j := 4) (by omega) (by omega) (by omega)) dX9_take_7 (by decide) v5 rfl hk ?_
  refine cb_topv _ p5 ?_
  refine cb_icmp_ge (pc := 8) O 33 dX9_take_8 (by decide) (fun c_8 => ?_) (fun c_8 => ?_)
  · skip
    rw [nI_leI (by omega) (by omega)] at c_8
    have hsp : ¬ spc A s k i := fun h => by have := h.1; omega
    refine cb_aload_n (pc := 33) O dX9_take_33 rfl ?_
    refine cb_getR (pc := 34) O fl_X9_9 rfl (sh_s0 (by omega)) dX9_take_34 (by first | exact v0 | (simp only [cb_um]; exact v0)) (by first | exact r0 | (simp only [cb_um]; exact r0)) ?_
    refine cb_iload_n (pc := 37) O dX9_take_37 rfl ?_
    refine cb_aload_n (pc := 38) O dX9_take_38 rfl ?_
    refine cb_getR (pc := 39) O fl_X9_43 rfl rfl dX9_take_39 (by first | exact hC.1.1 _ rfl | (simp only [cb_um]; exact hC.1.1 _ rfl)) (by first | exact hC.1.2 _ _ _ rfl | (simp only [cb_um]; exact hC.1.2 _ _ _ rfl)) ?_
    refine cb_iload_n (pc := 42) O dX9_take_42 rfl ?_
    refine cb_aald (pc := 43) O i rfl (by decide) (by decide) dX9_take_43 (by decide) (by first | exact hC.1.1 _ rfl | (simp only [cb_um]; exact hC.1.1 _ rfl)) rfl hi (hC.1.2 8 i (100 + i) (by simp [cc_Rf]; omega)) ?_
    refine cb_aload_n (pc := 44) O dX9_take_44 rfl ?_
    refine cb_getR (pc := 45) O fl_X9_9 rfl (sh_s0 (by omega)) dX9_take_45 (by first | exact v0 | (simp only [cb_um]; exact v0)) (by first | exact r0 | (simp only [cb_um]; exact r0)) ?_
    refine cb_iload_n (pc := 48) O dX9_take_48 rfl ?_
    refine cb_iald (pc := 49) O k (sh_sj (s := s) (j := 0) (by omega) (by omega) (by omega)) dX9_take_49 (by decide) (by first | exact v1 | (simp only [cb_um]; exact v1)) rfl hk ?_
    refine cb_topv (nI (A 15 (64 * s + k))) (by
      first | exact p1 | (simp only [cb_um]; rw [cb_u2n (by omega)]; exact p1)) ?_
    refine cb_iald (pc := 50) O (A 15 (64 * s + k)) (sh_mk hi) dX9_take_50 (by decide) (by first | exact hC.1.1 _ (lv_f (by omega)) | (simp only [cb_um]; exact hC.1.1 _ (lv_f (by omega)))) rfl l15 ?_
    refine cb_topv (nI (A 3 (16 * i + A 15 (64 * s + k)))) (by
      first | exact q3 | (simp only [cb_um]; rw [cb_u2n (by omega)]; exact q3)) ?_
    refine cb_iast (pc := 51) O k (sh_sj (s := s) (j := 0) (by omega) (by omega) (by omega)) dX9_take_51 (by decide) (by first | exact v1 | (simp only [cb_um]; exact v1)) rfl hk ?_
    refine cb_aload_n (pc := 52) O dX9_take_52 rfl ?_
    refine cb_getR (pc := 53) O fl_X9_15 rfl (sh_s0 (by omega)) dX9_take_53 (by first | exact v0 | (simp only [cb_um]; exact v0)) (by first | exact r1 | (simp only [cb_um]; exact r1)) ?_
    refine cb_iload_n (pc := 56) O dX9_take_56 rfl ?_
    refine cb_iload_n (pc := 57) O dX9_take_57 rfl ?_
    refine cb_iast (pc := 58) O k (sh_sj (s := s) (j := 1) (by omega) (by omega) (by omega)) dX9_take_58 (by decide) (by first | exact v2 | (simp only [cb_um]; exact v2)) rfl hk ?_
    refine cb_aload_n (pc := 59) O dX9_take_59 rfl ?_
    refine cb_getR (pc := 60) O fl_X9_24 rfl (sh_s0 (by omega)) dX9_take_60 (by first | exact v0 | (simp only [cb_um]; exact v0)) (by first | exact r4 | (simp only [cb_um]; exact r4)) ?_
    refine cb_iload_n (pc := 63) O dX9_take_63 rfl ?_
    refine cb_iload (pc := 64) O dX9_take_64 rfl ?_
    refine cb_aload_n (pc := 66) O dX9_take_66 rfl ?_
    refine cb_getR (pc := 67) O fl_X9_46 rfl rfl dX9_take_67 (by first | exact hC.1.1 _ rfl | (simp only [cb_um]; exact hC.1.1 _ rfl)) (by first | exact hC.1.2 _ _ _ rfl | (simp only [cb_um]; exact hC.1.2 _ _ _ rfl)) ?_
    refine cb_iload_n (pc := 70) O dX9_take_70 rfl ?_
    refine cb_iald (pc := 71) O i rfl dX9_take_71 (by decide) (by first | exact hC.1.1 _ rfl | (simp only [cb_um]; exact hC.1.1 _ rfl)) rfl hi ?_
    refine cb_iadd (pc := 72) O dX9_take_72 ?_
    refine cb_topv (nI (A 0 8 + A 4 i)) (by
      rw [← nI_add]
      congr 1
      simp only [cb_um]
      repeat rw [cb_u2n (by omega)]
      exact q4) ?_
    refine cb_iast (pc := 73) O k (sh_sj (s := s) (j := 4) (by omega) (by omega) (by omega)) dX9_take_73 (by decide) (by first | exact v5 | (simp only [cb_um]; exact v5)) rfl hk ?_
    refine cb_aload_n (pc := 74) O dX9_take_74 rfl ?_
    refine cb_getR (pc := 75) O fl_X9_21 rfl (sh_s0 (by omega)) dX9_take_75 (by first | exact v0 | (simp only [cb_um]; exact v0)) (by first | exact r3 | (simp only [cb_um]; exact r3)) ?_
    refine cb_iload_n (pc := 78) O dX9_take_78 rfl ?_
    refine cb_dup2 (pc := 79) O dX9_take_79 ?_
    refine cb_iald (pc := 80) O k (sh_sj (s := s) (j := 3) (by omega) (by omega) (by omega)) dX9_take_80 (by decide) (by first | exact v4 | (simp only [cb_um]; exact v4)) rfl hk ?_
    refine cb_iconst (pc := 81) (v := 1) O dX9_take_81 (by decide) ?_
    refine cb_iadd (pc := 82) O dX9_take_82 ?_
    refine cb_topv (nI (A 17 (64 * s + k) + 1)) (by
      simp only [cb_um]
      repeat rw [cb_u2n (by omega)]
      rw [p4]
      exact nI_add _ _) ?_
    refine cb_iast (pc := 83) O k (sh_sj (s := s) (j := 3) (by omega) (by omega) (by omega)) dX9_take_83 (by decide) (by first | exact v4 | (simp only [cb_um]; exact v4)) rfl hk ?_
    exact cb_vret (pc := 84) O Rt (Nat.le_of_ble_eq_true rfl) (Nat.le_of_ble_eq_true rfl) dX9_take_84 (by
      show _ = cb_tk w A s k i
      unfold cb_tk
      first | rw [if_neg hsp] | rw [if_pos hsp])
  · skip
    rw [nI_leI (by omega) (by omega)] at c_8
    refine cb_aload_n (pc := 11) O dX9_take_11 rfl ?_
    refine cb_getR (pc := 12) O fl_X9_37 rfl rfl dX9_take_12 (by first | exact hC.1.1 _ rfl | (simp only [cb_um]; exact hC.1.1 _ rfl)) (by first | exact hC.1.2 _ _ _ rfl | (simp only [cb_um]; exact hC.1.2 _ _ _ rfl)) ?_
    refine cb_aload_n (pc := 15) O dX9_take_15 rfl ?_
    refine cb_getR (pc := 16) O fl_X9_15 rfl (sh_s0 (by omega)) dX9_take_16 (by first | exact v0 | (simp only [cb_um]; exact v0)) (by first | exact r1 | (simp only [cb_um]; exact r1)) ?_
    refine cb_iload_n (pc := 19) O dX9_take_19 rfl ?_
    refine cb_iald (pc := 20) O k (sh_sj (s := s) (j := 1) (by omega) (by omega) (by omega)) dX9_take_20 (by decide) v2 rfl hk ?_
    refine cb_aald (pc := 21) O (A 18 (64 * s + k)) rfl (by decide) (by decide) dX9_take_21 (by decide) (hC.1.1 _ rfl) p2 l18 (hC.1.2 10 _ (110 + A 18 (64 * s + k)) (by simp [cc_Rf]; omega)) ?_
    refine cb_iload_n (pc := 22) O dX9_take_22 rfl ?_
    refine cb_iald (pc := 23) O i (sh_cl l18) dX9_take_23 (by decide) (hC.1.1 _ (lv_f (by omega))) rfl hi ?_
    refine cb_topv _ q5 ?_
    refine cb_iconst (pc := 24) (v := 1) O dX9_take_24 (by decide) ?_
    refine cb_icmp_ne (pc := 25) O 33 dX9_take_25 (by decide) (fun c_25 => ?_) (fun c_25 => ?_)
    · skip
      rw [show (1 : Int32) = nI 1 from rfl, nI_eq (by omega) (by omega)] at c_25
      have hsp : ¬ spc A s k i := fun h => c_25 h.2
      refine cb_aload_n (pc := 33) O dX9_take_33 rfl ?_
      refine cb_getR (pc := 34) O fl_X9_9 rfl (sh_s0 (by omega)) dX9_take_34 (by first | exact v0 | (simp only [cb_um]; exact v0)) (by first | exact r0 | (simp only [cb_um]; exact r0)) ?_
      refine cb_iload_n (pc := 37) O dX9_take_37 rfl ?_
      refine cb_aload_n (pc := 38) O dX9_take_38 rfl ?_
      refine cb_getR (pc := 39) O fl_X9_43 rfl rfl dX9_take_39 (by first | exact hC.1.1 _ rfl | (simp only [cb_um]; exact hC.1.1 _ rfl)) (by first | exact hC.1.2 _ _ _ rfl | (simp only [cb_um]; exact hC.1.2 _ _ _ rfl)) ?_
      refine cb_iload_n (pc := 42) O dX9_take_42 rfl ?_
      refine cb_aald (pc := 43) O i rfl (by decide) (by decide) dX9_take_43 (by decide) (by first | exact hC.1.1 _ rfl | (simp only [cb_um]; exact hC.1.1 _ rfl)) rfl hi (hC.1.2 8 i (100 + i) (by simp [cc_Rf]; omega)) ?_
      refine cb_aload_n (pc := 44) O dX9_take_44 rfl ?_
      refine cb_getR (pc := 45) O fl_X9_9 rfl (sh_s0 (by omega)) dX9_take_45 (by first | exact v0 | (simp only [cb_um]; exact v0)) (by first | exact r0 | (simp only [cb_um]; exact r0)) ?_
      refine cb_iload_n (pc := 48) O dX9_take_48 rfl ?_
      refine cb_iald (pc := 49) O k (sh_sj (s := s) (j := 0) (by omega) (by omega) (by omega)) dX9_take_49 (by decide) (by first | exact v1 | (simp only [cb_um]; exact v1)) rfl hk ?_
      refine cb_topv (nI (A 15 (64 * s + k))) (by
        first | exact p1 | (simp only [cb_um]; rw [cb_u2n (by omega)]; exact p1)) ?_
      refine cb_iald (pc := 50) O (A 15 (64 * s + k)) (sh_mk hi) dX9_take_50 (by decide) (by first | exact hC.1.1 _ (lv_f (by omega)) | (simp only [cb_um]; exact hC.1.1 _ (lv_f (by omega)))) rfl l15 ?_
      refine cb_topv (nI (A 3 (16 * i + A 15 (64 * s + k)))) (by
        first | exact q3 | (simp only [cb_um]; rw [cb_u2n (by omega)]; exact q3)) ?_
      refine cb_iast (pc := 51) O k (sh_sj (s := s) (j := 0) (by omega) (by omega) (by omega)) dX9_take_51 (by decide) (by first | exact v1 | (simp only [cb_um]; exact v1)) rfl hk ?_
      refine cb_aload_n (pc := 52) O dX9_take_52 rfl ?_
      refine cb_getR (pc := 53) O fl_X9_15 rfl (sh_s0 (by omega)) dX9_take_53 (by first | exact v0 | (simp only [cb_um]; exact v0)) (by first | exact r1 | (simp only [cb_um]; exact r1)) ?_
      refine cb_iload_n (pc := 56) O dX9_take_56 rfl ?_
      refine cb_iload_n (pc := 57) O dX9_take_57 rfl ?_
      refine cb_iast (pc := 58) O k (sh_sj (s := s) (j := 1) (by omega) (by omega) (by omega)) dX9_take_58 (by decide) (by first | exact v2 | (simp only [cb_um]; exact v2)) rfl hk ?_
      refine cb_aload_n (pc := 59) O dX9_take_59 rfl ?_
      refine cb_getR (pc := 60) O fl_X9_24 rfl (sh_s0 (by omega)) dX9_take_60 (by first | exact v0 | (simp only [cb_um]; exact v0)) (by first | exact r4 | (simp only [cb_um]; exact r4)) ?_
      refine cb_iload_n (pc := 63) O dX9_take_63 rfl ?_
      refine cb_iload (pc := 64) O dX9_take_64 rfl ?_
      refine cb_aload_n (pc := 66) O dX9_take_66 rfl ?_
      refine cb_getR (pc := 67) O fl_X9_46 rfl rfl dX9_take_67 (by first | exact hC.1.1 _ rfl | (simp only [cb_um]; exact hC.1.1 _ rfl)) (by first | exact hC.1.2 _ _ _ rfl | (simp only [cb_um]; exact hC.1.2 _ _ _ rfl)) ?_
      refine cb_iload_n (pc := 70) O dX9_take_70 rfl ?_
      refine cb_iald (pc := 71) O i rfl dX9_take_71 (by decide) (by first | exact hC.1.1 _ rfl | (simp only [cb_um]; exact hC.1.1 _ rfl)) rfl hi ?_
      refine cb_iadd (pc := 72) O dX9_take_72 ?_
      refine cb_topv (nI (A 0 8 + A 4 i)) (by
        rw [← nI_add]
        congr 1
        simp only [cb_um]
        repeat rw [cb_u2n (by omega)]
        exact q4) ?_
      refine cb_iast (pc := 73) O k (sh_sj (s := s) (j := 4) (by omega) (by omega) (by omega)) dX9_take_73 (by decide) (by first | exact v5 | (simp only [cb_um]; exact v5)) rfl hk ?_
      refine cb_aload_n (pc := 74) O dX9_take_74 rfl ?_
      refine cb_getR (pc := 75) O fl_X9_21 rfl (sh_s0 (by omega)) dX9_take_75 (by first | exact v0 | (simp only [cb_um]; exact v0)) (by first | exact r3 | (simp only [cb_um]; exact r3)) ?_
      refine cb_iload_n (pc := 78) O dX9_take_78 rfl ?_
      refine cb_dup2 (pc := 79) O dX9_take_79 ?_
      refine cb_iald (pc := 80) O k (sh_sj (s := s) (j := 3) (by omega) (by omega) (by omega)) dX9_take_80 (by decide) (by first | exact v4 | (simp only [cb_um]; exact v4)) rfl hk ?_
      refine cb_iconst (pc := 81) (v := 1) O dX9_take_81 (by decide) ?_
      refine cb_iadd (pc := 82) O dX9_take_82 ?_
      refine cb_topv (nI (A 17 (64 * s + k) + 1)) (by
        simp only [cb_um]
        repeat rw [cb_u2n (by omega)]
        rw [p4]
        exact nI_add _ _) ?_
      refine cb_iast (pc := 83) O k (sh_sj (s := s) (j := 3) (by omega) (by omega) (by omega)) dX9_take_83 (by decide) (by first | exact v4 | (simp only [cb_um]; exact v4)) rfl hk ?_
      exact cb_vret (pc := 84) O Rt (Nat.le_of_ble_eq_true rfl) (Nat.le_of_ble_eq_true rfl) dX9_take_84 (by
        show _ = cb_tk w A s k i
        unfold cb_tk
        first | rw [if_neg hsp] | rw [if_pos hsp])
    · skip
      rw [show (1 : Int32) = nI 1 from rfl, nI_eq (by omega) (by omega)] at c_25
      have hsp : spc A s k i := ⟨by omega, c_25⟩
      refine cb_aload_n (pc := 28) O dX9_take_28 rfl ?_
      refine cb_iconst (pc := 29) (v := 0) O dX9_take_29 (by decide) ?_
      refine cb_putIc (pc := 30) O fl_X9_27 (Or.inl rfl) rfl (sh_s0 (by omega)) dX9_take_30 rfl rfl v0 ?_
      refine cb_aload_n (pc := 33) O dX9_take_33 rfl ?_
      refine cb_getR (pc := 34) O fl_X9_9 rfl (sh_s0 (by omega)) dX9_take_34 (by first | exact v0 | (simp only [cb_um]; exact v0)) (by first | exact r0 | (simp only [cb_um]; exact r0)) ?_
      refine cb_iload_n (pc := 37) O dX9_take_37 rfl ?_
      refine cb_aload_n (pc := 38) O dX9_take_38 rfl ?_
      refine cb_getR (pc := 39) O fl_X9_43 rfl rfl dX9_take_39 (by first | exact hC.1.1 _ rfl | (simp only [cb_um]; exact hC.1.1 _ rfl)) (by first | exact hC.1.2 _ _ _ rfl | (simp only [cb_um]; exact hC.1.2 _ _ _ rfl)) ?_
      refine cb_iload_n (pc := 42) O dX9_take_42 rfl ?_
      refine cb_aald (pc := 43) O i rfl (by decide) (by decide) dX9_take_43 (by decide) (by first | exact hC.1.1 _ rfl | (simp only [cb_um]; exact hC.1.1 _ rfl)) rfl hi (hC.1.2 8 i (100 + i) (by simp [cc_Rf]; omega)) ?_
      refine cb_aload_n (pc := 44) O dX9_take_44 rfl ?_
      refine cb_getR (pc := 45) O fl_X9_9 rfl (sh_s0 (by omega)) dX9_take_45 (by first | exact v0 | (simp only [cb_um]; exact v0)) (by first | exact r0 | (simp only [cb_um]; exact r0)) ?_
      refine cb_iload_n (pc := 48) O dX9_take_48 rfl ?_
      refine cb_iald (pc := 49) O k (sh_sj (s := s) (j := 0) (by omega) (by omega) (by omega)) dX9_take_49 (by decide) (by first | exact v1 | (simp only [cb_um]; exact v1)) rfl hk ?_
      refine cb_topv (nI (A 15 (64 * s + k))) (by
        first | exact p1 | (simp only [cb_um]; rw [cb_u2n (by omega)]; exact p1)) ?_
      refine cb_iald (pc := 50) O (A 15 (64 * s + k)) (sh_mk hi) dX9_take_50 (by decide) (by first | exact hC.1.1 _ (lv_f (by omega)) | (simp only [cb_um]; exact hC.1.1 _ (lv_f (by omega)))) rfl l15 ?_
      refine cb_topv (nI (A 3 (16 * i + A 15 (64 * s + k)))) (by
        first | exact q3 | (simp only [cb_um]; rw [cb_u2n (by omega)]; exact q3)) ?_
      refine cb_iast (pc := 51) O k (sh_sj (s := s) (j := 0) (by omega) (by omega) (by omega)) dX9_take_51 (by decide) (by first | exact v1 | (simp only [cb_um]; exact v1)) rfl hk ?_
      refine cb_aload_n (pc := 52) O dX9_take_52 rfl ?_
      refine cb_getR (pc := 53) O fl_X9_15 rfl (sh_s0 (by omega)) dX9_take_53 (by first | exact v0 | (simp only [cb_um]; exact v0)) (by first | exact r1 | (simp only [cb_um]; exact r1)) ?_
      refine cb_iload_n (pc := 56) O dX9_take_56 rfl ?_
      refine cb_iload_n (pc := 57) O dX9_take_57 rfl ?_
      refine cb_iast (pc := 58) O k (sh_sj (s := s) (j := 1) (by omega) (by omega) (by omega)) dX9_take_58 (by decide) (by first | exact v2 | (simp only [cb_um]; exact v2)) rfl hk ?_
      refine cb_aload_n (pc := 59) O dX9_take_59 rfl ?_
      refine cb_getR (pc := 60) O fl_X9_24 rfl (sh_s0 (by omega)) dX9_take_60 (by first | exact v0 | (simp only [cb_um]; exact v0)) (by first | exact r4 | (simp only [cb_um]; exact r4)) ?_
      refine cb_iload_n (pc := 63) O dX9_take_63 rfl ?_
      refine cb_iload (pc := 64) O dX9_take_64 rfl ?_
      refine cb_aload_n (pc := 66) O dX9_take_66 rfl ?_
      refine cb_getR (pc := 67) O fl_X9_46 rfl rfl dX9_take_67 (by first | exact hC.1.1 _ rfl | (simp only [cb_um]; exact hC.1.1 _ rfl)) (by first | exact hC.1.2 _ _ _ rfl | (simp only [cb_um]; exact hC.1.2 _ _ _ rfl)) ?_
      refine cb_iload_n (pc := 70) O dX9_take_70 rfl ?_
      refine cb_iald (pc := 71) O i rfl dX9_take_71 (by decide) (by first | exact hC.1.1 _ rfl | (simp only [cb_um]; exact hC.1.1 _ rfl)) rfl hi ?_
      refine cb_iadd (pc := 72) O dX9_take_72 ?_
      refine cb_topv (nI (A 0 8 + A 4 i)) (by
        rw [← nI_add]
        congr 1
        simp only [cb_um]
        repeat rw [cb_u2n (by omega)]
        exact q4) ?_
      refine cb_iast (pc := 73) O k (sh_sj (s := s) (j := 4) (by omega) (by omega) (by omega)) dX9_take_73 (by decide) (by first | exact v5 | (simp only [cb_um]; exact v5)) rfl hk ?_
      refine cb_aload_n (pc := 74) O dX9_take_74 rfl ?_
      refine cb_getR (pc := 75) O fl_X9_21 rfl (sh_s0 (by omega)) dX9_take_75 (by first | exact v0 | (simp only [cb_um]; exact v0)) (by first | exact r3 | (simp only [cb_um]; exact r3)) ?_
      refine cb_iload_n (pc := 78) O dX9_take_78 rfl ?_
      refine cb_dup2 (pc := 79) O dX9_take_79 ?_
      refine cb_iald (pc := 80) O k (sh_sj (s := s) (j := 3) (by omega) (by omega) (by omega)) dX9_take_80 (by decide) (by first | exact v4 | (simp only [cb_um]; exact v4)) rfl hk ?_
      refine cb_iconst (pc := 81) (v := 1) O dX9_take_81 (by decide) ?_
      refine cb_iadd (pc := 82) O dX9_take_82 ?_
      refine cb_topv (nI (A 17 (64 * s + k) + 1)) (by
        simp only [cb_um]
        repeat rw [cb_u2n (by omega)]
        rw [p4]
        exact nI_add _ _) ?_
      refine cb_iast (pc := 83) O k (sh_sj (s := s) (j := 3) (by omega) (by omega) (by omega)) dX9_take_83 (by decide) (by first | exact v4 | (simp only [cb_um]; exact v4)) rfl hk ?_
      exact cb_vret (pc := 84) O Rt (Nat.le_of_ble_eq_true rfl) (Nat.le_of_ble_eq_true rfl) dX9_take_84 (by
        show _ = cb_tk w A s k i
        unfold cb_tk
        first | rw [if_neg hsp] | rw [if_pos hsp])

theorem c_X10_layRoll (w : cb_W) (A : ca_A) (z : Int32) (hI : ca_I A) (hC : cc_I w A z) (s : Nat) (hs : s < A 0 20) (h20 : A 20 s = 0) (h17 : ∀ k, k < 64 → A 17 (64 * s + k) ≤ 200) (rl : Nat → Nat) (hrl : ∀ c, rl c < 10) (hroll : ∀ c, c < 8 → w.2.1 5 c = nI (rl c)) : cb_Con yX10_layRoll cX10_layRoll 3 none 2 42 0 0 (fun _ => true) [.inr (some 0), .inr (some (200 + 6 * s))] w (cb_pv (fun w' => cc_I w' (cb_u2 (ly A rl s 64) 20 s (sp A rl s 64)) z ∧ w'.2.1 5 = w.2.1 5 ∧ cb_M1 w w')) := by
  have l := hI.1
  refine cb_con (by decide) (Nat.le_of_ble_eq_true rfl) (fun κ O Rt hnm => ?_)
  show cb_X κ w 0 0 0 [some (.inr (some 0)), some (.inr (some (200 + 6 * s))), none] []
  refine cb_iconst (pc := 0) (v := 0) O dX10_layRoll_0 (by decide) ?_
  refine cb_istore_n (pc := 1) O dX10_layRoll_1 (by decide) ?_
  dsimp only [List.set]
  have L_2 : ∀ (n : Nat) (k : Nat) (w9 : cb_W), k ≤ 64 → cc_I w9 (cb_u2 (ly A rl s k) 20 s (sp A rl s k)) z → w9.2.1 5 = w.2.1 5 → cb_M1 w w9 → 64 + 1 ≤ k + n → cb_X κ w9 0 0 2 [some (.inr (some 0)), some (.inr (some (200 + 6 * s))), some (.inl (nI k))] [] := by
    intro n
    induction n with
    | zero =>
      intro k w9 hk hC9 h59 hM9 hn
      exact absurd hn (by omega)
    | succ n ih_2 =>
      intro k w9 hk hC9 h59 hM9 hn
      refine cb_iload_n (pc := 2) O dX10_layRoll_2 rfl ?_
      refine cb_bipush (pc := 3) (v := 64) O dX10_layRoll_3 (by decide) ?_
      refine cb_icmp_ge (pc := 5) O 57 dX10_layRoll_5 (by decide) (fun c_5 => ?_) (fun c_5 => ?_)
      · skip
        have e : k = 64 := by
          have := ci_ge (b := 64) c_5 (by omega) (by decide)
          omega
        subst e
        exact cb_vret (pc := 57) O Rt (Nat.le_of_ble_eq_true rfl) (Nat.le_of_ble_eq_true rfl) dX10_layRoll_57 ⟨hC9, h59, hM9⟩
      · skip
        have hlt : k < 64 := ci_nge (b := 64) c_5 (by omega) (by decide)
        have hIk := (ly_I hI h17 hs hrl k (by omega)).u20 (s := s) (a := sp A rl s k) (by rw [ly_o _ _ _ k (by omega)]; exact hs) (sp_1 _ _ _ _)
        have hpe : ca_p (cb_u2 (ly A rl s k) 20 s (sp A rl s k)) k ↔ ca_p A k := by
          unfold ca_p ca_o
          rw [cb_u2n (by omega), cb_u2n (by omega), cb_u2n (by omega), cb_u2n (by omega), cb_u2n (by omega), ly_o _ _ _ k (by omega), ly_o _ _ _ k (by omega), ly_o _ _ _ k (by omega), ly_o _ _ _ k (by omega), ly_o _ _ _ k (by omega)]
        have e020 : cb_u2 (ly A rl s k) 20 s (sp A rl s k) 0 20 = A 0 20 := by
          rw [cb_u2n (by omega), ly_o _ _ _ k (by omega)]
        obtain ⟨B, hB⟩ : ∃ B, B = cb_u2 (ly A rl s k) 20 s (sp A rl s k) := ⟨_, rfl⟩
        rw [← hB] at hC9 hIk hpe e020
        refine cb_aload_n (pc := 8) O dX10_layRoll_8 rfl ?_
        refine cb_getR (pc := 9) O fl_X10_60 rfl rfl dX10_layRoll_9 (hC9.1.1 _ rfl) (hC9.1.2 _ _ _ rfl) ?_
        refine cb_iload_n (pc := 12) O dX10_layRoll_12 rfl ?_
        refine cb_cVp (pc := 13) O (c_X1_prints w9 B z hIk hC9 k hlt) my_X1_prints mi_X1_prints mx_X1_prints ml_X10_323 dX10_layRoll_13 rfl ct_1 rfl rfl rfl ⟨(Nat.le_of_ble_eq_true rfl), (Nat.le_of_ble_eq_true rfl)⟩ (Nat.le_of_ble_eq_true rfl) rfl ⟨(Nat.le_of_ble_eq_true rfl), (Nat.le_of_ble_eq_true rfl)⟩ (hC9.1.1 _ rfl) ?_
        refine cb_ifp_eq (pc := 16) O 51 dX10_layRoll_16 (by decide) (fun c_16 => ?_) (fun c_16 => ?_)
        · skip
          have hsame : cb_u2 (ly A rl s (k + 1)) 20 s (sp A rl s (k + 1)) = B := by
            have hnp : ¬ ca_p A k := fun h => c_16 (hpe.mpr h)
            rw [ly, if_neg hnp, sp, if_neg (fun h => hnp h.1), hB]
          refine cb_iinc (pc := 51) O (nI (k + 1)) dX10_layRoll_51 rfl (by decide) (ci_inc k) ?_
          dsimp only [List.set]
          refine cb_goto (pc := 54) O 2 dX10_layRoll_54 (by decide) ?_
          first
          | (rw [hB]; exact ih_2 (k + 1) _ (by omega) (by rw [← ly_20 h20 hpr]; exact htk.1) (htk.2.2.trans h59) (hM9.trans htk.2.1) (by omega))
          | exact ih_2 (k + 1) _ (by omega) (by rw [hsame]; exact hC9) h59 hM9 (by omega)
        · skip
          have hpr := hpe.mp c_16
          have htk := cc_tkC hC9 (s := s) (k := k) (i := rl (k % 8)) hIk (by omega) hlt
          have hgs := hC9.2.2.2.2.1.g (s := s) (by omega)
          have hrd : w9.2.1 5 (k % 8) = nI (rl (k % 8)) := by
            rw [h59]; exact hroll _ (by omega)
          rw [hB] at htk
          refine cb_aload_n (pc := 19) O dX10_layRoll_19 rfl ?_
          refine cb_aload_n (pc := 20) O dX10_layRoll_20 rfl ?_
          refine cb_getR (pc := 21) O fl_X10_35 rfl rfl dX10_layRoll_21 (hC9.1.1 _ rfl) (hC9.1.2 _ _ _ rfl) ?_
          refine cb_iload_n (pc := 24) O dX10_layRoll_24 rfl ?_
          refine cb_bipush (pc := 25) (v := 8) O dX10_layRoll_25 (by decide) ?_
          refine cb_irem (pc := 27) O dX10_layRoll_27 (by decide) ?_
          refine cb_topv _ (ci_r8 (by omega)) ?_
          refine cb_iald (pc := 28) O (k % 8) rfl dX10_layRoll_28 (by decide) (hC9.1.1 _ rfl) rfl (by omega) ?_
          refine cb_topv _ hrd ?_
          refine cb_iload_n (pc := 29) O dX10_layRoll_29 rfl ?_
          refine cb_aload_n (pc := 30) O dX10_layRoll_30 rfl ?_
          refine cb_getR (pc := 31) O fl_X10_12 rfl rfl dX10_layRoll_31 (hC9.1.1 _ rfl) (hC9.1.2 _ _ _ rfl) ?_
          refine cb_aload_n (pc := 34) O dX10_layRoll_34 rfl ?_
          refine cb_getI (pc := 35) O fl_X10_78 rfl rfl dX10_layRoll_35 (hC9.1.1 _ rfl) ?_
          refine cb_topv (nI (B 0 8)) hC9.2.2.1.2.2.1 ?_
          refine cb_cVv (pc := 38) O (c_X9_take w9 B z hIk hC9 s k (rl (k % 8)) (by omega) hlt (hrl _)) my_X9_take mi_X9_take mx_X9_take ml_X10_326 dX10_layRoll_38 rfl ct_9 rfl (sh_s0 (by omega)) rfl ⟨(Nat.le_of_ble_eq_true rfl), (Nat.le_of_ble_eq_true rfl)⟩ (Nat.le_of_ble_eq_true rfl) rfl ⟨(Nat.le_of_ble_eq_true rfl), (Nat.le_of_ble_eq_true rfl)⟩ (fun _ _ => rfl) hgs.1.1 (fun w_38 hp_38 => ?_)
          have t1 : (cb_tk w9 B s k (rl (k % 8))).1 = w9.1 := by unfold cb_tk; split <;> rfl
          have t2 : (cb_tk w9 B s k (rl (k % 8))).2.2 = w9.2.2 := by unfold cb_tk; split <;> rfl
          rw [hp_38]
          refine cb_aload_n (pc := 41) O dX10_layRoll_41 rfl ?_
          refine cb_getR (pc := 42) O fl_X10_209 rfl (sh_s0 (by omega)) dX10_layRoll_42 (by rw [t1]; exact hgs.1.1) (by rw [t2]; exact hgs.2.2.2.2.1) ?_
          refine cb_iload_n (pc := 45) O dX10_layRoll_45 rfl ?_
          refine cb_aload_n (pc := 46) O dX10_layRoll_46 rfl ?_
          refine cb_getI (pc := 47) O fl_X10_75 rfl rfl dX10_layRoll_47 (by rw [t1]; exact hC9.1.1 _ rfl) ?_
          refine cb_topv (nI (B 0 26)) (by
            have e9 : (cb_tk w9 B s k (rl (k % 8))).2.1 0 10 = w9.2.1 0 10 := by
              unfold cb_tk
              simp only [cb_um]
              rw [cb_u2n (by omega), cb_u2n (by omega), cb_u2n (by omega), cb_u2n (by omega)]
              split
              · simp only [cb_um]; rw [cb_u2n (by omega)]
              · rfl
            rw [e9]; exact hC9.2.2.1.2.1) ?_
          refine cb_iast (pc := 50) O k (sh_sj (s := s) (j := 2) (by omega) (by omega) (by omega)) dX10_layRoll_50 (by decide) (by rw [t1]; exact hgs.1.2.2.2.1) rfl hlt ?_
          refine cb_iinc (pc := 51) O (nI (k + 1)) dX10_layRoll_51 rfl (by decide) (ci_inc k) ?_
          dsimp only [List.set]
          refine cb_goto (pc := 54) O 2 dX10_layRoll_54 (by decide) ?_
          first
          | (rw [hB]; exact ih_2 (k + 1) _ (by omega) (by rw [← ly_20 h20 hpr]; exact htk.1) (htk.2.2.trans h59) (hM9.trans htk.2.1) (by omega))
          | exact ih_2 (k + 1) _ (by omega) (by rw [hsame]; exact hC9) h59 hM9 (by omega)
  exact L_2 65 0 w (by omega) (by rw [show cb_u2 (ly A rl s 0) 20 s (sp A rl s 0) = A from cb_u2e A h20]; exact hC) rfl cb_M1.rfl' (by omega)

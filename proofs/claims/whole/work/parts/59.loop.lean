theorem cc_I.mvi {w w' : cb_W} {A : ca_A} {z : Int32} (hC : cc_I w A z) (hI : ca_I A) (h1 : ∀ q, q < 1000 → w'.1 q = w.1 q ∧ w'.2.1 q = w.2.1 q ∧ w'.2.2 q = w.2.2 q) (h2 : ∀ q, 1100 ≤ q → w'.1 q = false) (h3 : ∀ r k q, 1000 ≤ r → r < 1100 → w'.1 r = true → w'.2.2 r k = some q → 1000 ≤ q) : cc_I w' A z := by
  obtain ⟨⟨hW1, hW2⟩, hB, hN, hK, hS, hE, hP, hL, l1, l2, l3⟩ := hC
  have hm : ∀ r k, r < 1000 → w'.2.1 r k = w.2.1 r k := fun r k h => by rw [(h1 r h).2.1]
  refine ⟨⟨fun r hr => by rw [(h1 r (cc_Lv_lo hr)).1]; exact hW1 r hr, fun r k q hq => by rw [(h1 r (by have := cc_Rf_lo hq; omega)).2.2]; exact hW2 r k q hq⟩, hB.cg (fun r k e => hm r k (by omega)) (fun _ _ _ => rfl), hN.cg (fun r k e => hm r k (by omega)) (fun _ _ _ => rfl), hK.cg (fun r k e => hm r k (by omega)) (fun _ _ _ => rfl), hS.cg hI.1.2.2.2.1 (fun r _ _ => (h1 r (by omega)).1) (fun r k _ => by rw [(h1 r (by omega)).2.2]) (fun r k g1 g2 => hm r k (by omega)) (fun _ _ _ => rfl), hE.cg hI.1.2.2.2.2.1 (fun r _ _ => (h1 r (by omega)).1) (fun k => by rw [(h1 4 (by omega)).2.2]) (fun r k g1 g2 => hm r k (by omega)) (fun _ _ _ => rfl), hP.cg (fun r k e => hm r k (by omega)) (fun _ _ _ => rfl), hL.cg (fun r k e => hm r k (by omega)) (fun _ _ _ => rfl), fun r g1 g2 => by rw [(h1 r (by omega)).1]; exact l1 r g1 g2, h2, fun r k q g1 g2 g3 g4 g5 => ?_⟩
  rcases Nat.lt_or_ge r 1000 with h | h
  · rw [(h1 r h).1] at g1
    rw [(h1 r h).2.2] at g3
    exact l3 r k q g1 g2 g3 g4 g5
  · rcases Nat.lt_or_ge r 1100 with h9 | h9
    · have := h3 r k q h h9 g1 g3
      omega
    · rw [h2 r h9] at g1
      cases g1
theorem lw_step {κ : cb_K} (O : cb_Ok κ cL_law 4 RL room_1) (hkf : ∀ q, κ.2.2.2.2.1 q = false) (hb : (cb_ro κ.2.2.1.1 3).1 ≤ 2048) (w : cb_W) (A : ca_A) (z : Int32) (hL : lw_I w A z) (i ca sl : Nat) (hi0 : i ≤ 2048) (hca : ca + 120 ≤ 600000) (hsl : sl + 6520 ≤ 7302250)
    (K9 : cb_X κ w ca sl 1188 [some (.inr (some 903)), some (.inr (some 0)), some (.inr (some 1000)), some (.inl (nI i))] []) (K : i + 3 < (cb_ro κ.2.2.1.1 3).1 → ∀ w' A' z', lw_I w' A' z' → cb_X κ w' (ca + 120) (sl + 6520) 1182 [some (.inr (some 903)), some (.inr (some 0)), some (.inr (some 1000)), some (.inl (nI i))] []) : cb_X κ w ca sl 18 [some (.inr (some 903)), some (.inr (some 0)), some (.inr (some 1000)), some (.inl (nI i))] [] := by
  refine cb_iload_n (pc := 18) O dL_law_18 rfl ?_
  refine cb_aload_n (pc := 19) O dL_law_19 rfl ?_
  refine cb_alenS (pc := 20) O 3 (by decide) dL_law_20 ?_
  refine cb_iconst (pc := 21) (v := 4) O dL_law_21 (by decide) ?_
  refine cb_isub (pc := 22) O dL_law_22 ?_
  have e4 : (4 : Int32).toInt = 4 := rfl
  have eL := ci_n (n := (cb_ro κ.2.2.1.1 3).1) (by omega)
  have ei := ci_n (n := i) (by omega)
  have es : (nI (cb_ro κ.2.2.1.1 3).1 - 4).toInt = ((cb_ro κ.2.2.1.1 3).1 : Int) - 4 := by
    rw [fb_subI (by omega) (by omega), eL, e4]
  refine cb_icmp_gt (pc := 23) O 1188 dL_law_23 (by decide) (fun _ => K9) (fun c_23 => ?_)
  rw [ci_lt, es, ei] at c_23
  have hi : i + 3 < (cb_ro κ.2.2.1.1 3).1 := by omega
  refine cb_aload_n (pc := 26) O dL_law_26 rfl ?_
  refine cb_iload_n (pc := 27) O dL_law_27 rfl ?_
  refine cb_ialdS (pc := 28) O 3 i (by decide) dL_law_28 (by omega) rfl (by omega) ?_
  refine cb_bipush (pc := 29) (v := 31) O dL_law_29 (by decide) ?_
  refine cb_iand (pc := 31) O dL_law_31 ?_
  obtain ⟨c, hc, ec⟩ := pk_andE ((cb_ro κ.2.2.1.1 3).2 i) (m := 31) 5 (by decide)
  have hc : c < 32 := hc
  refine cb_topv (nI c) ec ?_
  have H := @K hi
  rcases (show c = 0 ∨ c = 1 ∨ c = 2 ∨ c = 3 ∨ c = 4 ∨ c = 5 ∨ c = 6 ∨ c = 7 ∨ c = 8 ∨ c = 9 ∨ c = 10 ∨ c = 11 ∨ c = 12 ∨ c = 13 ∨ c = 14 ∨ c = 15 ∨ c = 16 ∨ c = 17 ∨ c = 18 ∨ c = 19 ∨ c = 20 ∨ c = 21 ∨ c = 22 ∨ c = 23 ∨ c = 24 ∨ c = 25 ∨ c = 26 ∨ c = 27 ∨ c = 28 ∨ c = 29 ∨ c = 30 ∨ c = 31 by omega) with rfl | rfl | rfl | rfl | rfl | rfl | rfl | rfl | rfl | rfl | rfl | rfl | rfl | rfl | rfl | rfl | rfl | rfl | rfl | rfl | rfl | rfl | rfl | rfl | rfl | rfl | rfl | rfl | rfl | rfl | rfl | rfl
  · refine cb_tabIn (pc := 32) (off := 144) O 176 dL_law_32 (by decide) (by decide) (by decide) (by decide) ?_
    exact lw_c0 O hkf w A z hL i ca sl hi hb hca hsl H
  · refine cb_tabIn (pc := 32) (off := 177) O 209 dL_law_32 (by decide) (by decide) (by decide) (by decide) ?_
    exact lw_c1 O hkf w A z hL i ca sl hi hb hca hsl H
  · refine cb_tabIn (pc := 32) (off := 220) O 252 dL_law_32 (by decide) (by decide) (by decide) (by decide) ?_
    exact lw_c2 O hkf w A z hL i ca sl hi hb hca hsl H
  · refine cb_tabIn (pc := 32) (off := 253) O 285 dL_law_32 (by decide) (by decide) (by decide) (by decide) ?_
    exact lw_c3 O hkf w A z hL i ca sl hi hb hca hsl H
  · refine cb_tabIn (pc := 32) (off := 296) O 328 dL_law_32 (by decide) (by decide) (by decide) (by decide) ?_
    exact lw_c4 O hkf w A z hL i ca sl hi hb hca hsl H
  · refine cb_tabIn (pc := 32) (off := 339) O 371 dL_law_32 (by decide) (by decide) (by decide) (by decide) ?_
    exact lw_c5 O hkf w A z hL i ca sl hi hb hca hsl H
  · refine cb_tabIn (pc := 32) (off := 372) O 404 dL_law_32 (by decide) (by decide) (by decide) (by decide) ?_
    exact lw_c6 O hkf w A z hL i ca sl hi hb hca hsl H
  · refine cb_tabIn (pc := 32) (off := 395) O 427 dL_law_32 (by decide) (by decide) (by decide) (by decide) ?_
    exact lw_c7 O hkf w A z hL i ca sl hi hb hca hsl H
  · refine cb_tabIn (pc := 32) (off := 418) O 450 dL_law_32 (by decide) (by decide) (by decide) (by decide) ?_
    exact lw_c8 O hkf w A z hL i ca sl hi hb hca hsl H
  · refine cb_tabIn (pc := 32) (off := 451) O 483 dL_law_32 (by decide) (by decide) (by decide) (by decide) ?_
    exact lw_c9 O hkf w A z hL i ca sl hi hb hca hsl H
  · refine cb_tabIn (pc := 32) (off := 484) O 516 dL_law_32 (by decide) (by decide) (by decide) (by decide) ?_
    exact lw_c10 O hkf w A z hL i ca sl hi hb hca hsl H
  · refine cb_tabIn (pc := 32) (off := 517) O 549 dL_law_32 (by decide) (by decide) (by decide) (by decide) ?_
    exact lw_c11 O hkf w A z hL i ca sl hi hb hca hsl H
  · refine cb_tabIn (pc := 32) (off := 540) O 572 dL_law_32 (by decide) (by decide) (by decide) (by decide) ?_
    exact lw_c12 O hkf w A z hL i ca sl hi hb hca hsl H
  · refine cb_tabIn (pc := 32) (off := 573) O 605 dL_law_32 (by decide) (by decide) (by decide) (by decide) ?_
    exact lw_c13 O hkf w A z hL i ca sl hi hb hca hsl H
  · refine cb_tabIn (pc := 32) (off := 596) O 628 dL_law_32 (by decide) (by decide) (by decide) (by decide) ?_
    exact lw_c14 O hkf w A z hL i ca sl hi hb hca hsl H
  · refine cb_tabIn (pc := 32) (off := 629) O 661 dL_law_32 (by decide) (by decide) (by decide) (by decide) ?_
    exact lw_c15 O hkf w A z hL i ca sl hi hb hca hsl H
  · refine cb_tabIn (pc := 32) (off := 662) O 694 dL_law_32 (by decide) (by decide) (by decide) (by decide) ?_
    exact lw_c16 O hkf w A z hL i ca sl hi hb hca hsl H
  · refine cb_tabIn (pc := 32) (off := 695) O 727 dL_law_32 (by decide) (by decide) (by decide) (by decide) ?_
    exact lw_c17 O hkf w A z hL i ca sl hi hb hca hsl H
  · refine cb_tabIn (pc := 32) (off := 738) O 770 dL_law_32 (by decide) (by decide) (by decide) (by decide) ?_
    exact lw_c18 O hkf w A z hL i ca sl hi hb hca hsl H
  · refine cb_tabIn (pc := 32) (off := 761) O 793 dL_law_32 (by decide) (by decide) (by decide) (by decide) ?_
    exact lw_c19 O hkf w A z hL i ca sl hi hb hca hsl H
  · refine cb_tabIn (pc := 32) (off := 794) O 826 dL_law_32 (by decide) (by decide) (by decide) (by decide) ?_
    exact lw_c20 O hkf w A z hL i ca sl hi hb hca hsl H
  · refine cb_tabIn (pc := 32) (off := 827) O 859 dL_law_32 (by decide) (by decide) (by decide) (by decide) ?_
    exact lw_c21 O hkf w A z hL i ca sl hi hb hca hsl H
  · refine cb_tabIn (pc := 32) (off := 860) O 892 dL_law_32 (by decide) (by decide) (by decide) (by decide) ?_
    exact lw_c22 O hkf w A z hL i ca sl hi hb hca hsl H
  · refine cb_tabIn (pc := 32) (off := 893) O 925 dL_law_32 (by decide) (by decide) (by decide) (by decide) ?_
    exact lw_c23 O hkf w A z hL i ca sl hi hb hca hsl H
  · refine cb_tabIn (pc := 32) (off := 916) O 948 dL_law_32 (by decide) (by decide) (by decide) (by decide) ?_
    exact lw_c24 O hkf w A z hL i ca sl hi hb hca hsl H
  · refine cb_tabIn (pc := 32) (off := 939) O 971 dL_law_32 (by decide) (by decide) (by decide) (by decide) ?_
    exact lw_c25 O hkf w A z hL i ca sl hi hb hca hsl H
  · refine cb_tabIn (pc := 32) (off := 962) O 994 dL_law_32 (by decide) (by decide) (by decide) (by decide) ?_
    exact lw_c26 O hkf w A z hL i ca sl hi hb hca hsl H
  · refine cb_tabIn (pc := 32) (off := 985) O 1017 dL_law_32 (by decide) (by decide) (by decide) (by decide) ?_
    exact lw_c27 O hkf w A z hL i ca sl hi hb hca hsl H
  · refine cb_tabIn (pc := 32) (off := 1028) O 1060 dL_law_32 (by decide) (by decide) (by decide) (by decide) ?_
    exact lw_c28 O hkf w A z hL i ca sl hi hb hca hsl H
  · refine cb_tabIn (pc := 32) (off := 1061) O 1093 dL_law_32 (by decide) (by decide) (by decide) (by decide) ?_
    exact lw_c29 O hkf w A z hL i ca sl hi hb hca hsl H
  · refine cb_tabIn (pc := 32) (off := 1104) O 1136 dL_law_32 (by decide) (by decide) (by decide) (by decide) ?_
    exact lw_c30 O hkf w A z hL i ca sl hi hb hca hsl H
  · refine cb_tabIn (pc := 32) (off := 1127) O 1159 dL_law_32 (by decide) (by decide) (by decide) (by decide) ?_
    exact lw_c31 O hkf w A z hL i ca sl hi hb hca hsl H
set_option maxRecDepth 100000 in
theorem lw_loop {κ : cb_K} (O : cb_Ok κ cL_law 4 RL room_1) (hkf : ∀ q, κ.2.2.2.2.1 q = false) (hb : (cb_ro κ.2.2.1.1 3).1 ≤ 2048) (K9 : ∀ (w : cb_W) (ca sl i : Nat), ca ≤ 600000 → sl ≤ 7302250 → cb_X κ w ca sl 1188 [some (.inr (some 903)), some (.inr (some 0)), some (.inr (some 1000)), some (.inl (nI i))] []) : ∀ (n : Nat) (w : cb_W) (A : ca_A) (z : Int32) (i ca sl : Nat), lw_I w A z → i ≤ 2048 → (cb_ro κ.2.2.1.1 3).1 ≤ i + 4 * n + 3 → ca + 120 * (n + 1) ≤ 600000 → sl + 6520 * (n + 1) ≤ 7302250 → cb_X κ w ca sl 18 [some (.inr (some 903)), some (.inr (some 0)), some (.inr (some 1000)), some (.inl (nI i))] [] := by
  intro n
  induction n with
  | zero =>
    intro w A z i ca sl hL hi hn hca hsl
    exact lw_step O hkf hb w A z hL i ca sl hi (by omega) (by omega) (K9 w ca sl i (by omega) (by omega)) (fun h => absurd h (by omega))
  | succ n ih =>
    intro w A z i ca sl hL hi hn hca hsl
    refine lw_step O hkf hb w A z hL i ca sl hi (by omega) (by omega) (K9 w ca sl i (by omega) (by omega)) (fun h w' A' z' hL' => ?_)
    refine cb_iinc (pc := 1182) O (nI (i + 4)) dL_law_1182 rfl (by decide) (nI_add i 4) ?_
    dsimp only [List.set]
    refine cb_goto (pc := 1185) O 18 dL_law_1185 (by decide) ?_
    exact ih w' A' z' (i + 4) (ca + 120) (sl + 6520) hL' (by omega) (by omega) (by omega) (by omega)
def ca_sa (A : ca_A) (j p : Nat) : Nat → Bool := fun k => decide ((ca_o A k ∧ A 11 k = p) ∧ ca_in j k)
def ca_sb (A : ca_A) (j p : Nat) : Nat → Bool := fun k => decide ((ca_o A k ∧ A 11 k = p) ∧ ¬ ca_in j k)
abbrev sw_t (A : ca_A) (j p m : Nat) : Prop := fb_ct (ca_sa A j p) m = 0
abbrev sw_l (A : ca_A) (j p m : Nat) : Prop := fb_ct (ca_sb A j p) m = 0
theorem ca_saS (A : ca_A) (j p n : Nat) : fb_ct (ca_sa A j p) (n + 1) = fb_ct (ca_sa A j p) n + (if (ca_o A n ∧ A 11 n = p) ∧ ca_in j n then 1 else 0) := fb_ctd n
theorem ca_sbS (A : ca_A) (j p n : Nat) : fb_ct (ca_sb A j p) (n + 1) = fb_ct (ca_sb A j p) n + (if (ca_o A n ∧ A 11 n = p) ∧ ¬ ca_in j n then 1 else 0) := fb_ctd n
abbrev sw_ok (A : ca_A) (j p : Nat) : Prop := ¬ sw_t A j p 64 ∧ ¬ sw_l A j p 64
abbrev sv_saw (A : ca_A) (p x : Int32) : Prop := ci_x p (A 0 12) ∧ sv_rect A x
def ca_sw (A : ca_A) (j p : Nat) : ca_A := fun q i => if q = 11 ∧ ca_in j i ∧ A 11 i = p then A 0 12 else if q = 12 ∧ i = A 0 12 then A 12 p else if q = 0 ∧ i = 12 then A 0 12 + 1 else A q i
def sr_saw (A : ca_A) (p x : Int32) : Int32 := if sv_saw A p x then (if sw_ok A x.toInt.toNat p.toInt.toNat then (if A 0 12 = 8 then -2 else nI (A 0 12)) else -4) else -1
def sA_saw (A : ca_A) (p x : Int32) : ca_A := if sv_saw A p x ∧ sw_ok A x.toInt.toNat p.toInt.toNat ∧ ¬ A 0 12 = 8 then ca_sw A x.toInt.toNat p.toInt.toNat else A
def ca_si (A : ca_A) (j p : Nat) : Nat → Bool := fun k => decide (ca_in j k ∧ A 11 k = p)
def ca_so (A : ca_A) (p : Nat) : Nat → Bool := fun k => decide (ca_o A k ∧ A 11 k = p)
theorem ca_siS (A : ca_A) (j p n : Nat) : fb_ct (ca_si A j p) (n + 1) = fb_ct (ca_si A j p) n + (if ca_in j n ∧ A 11 n = p then 1 else 0) := fb_ctd n
theorem ca_soS (A : ca_A) (p n : Nat) : fb_ct (ca_so A p) (n + 1) = fb_ct (ca_so A p) n + (if ca_o A n ∧ A 11 n = p then 1 else 0) := fb_ctd n
theorem cb_kpT (lv : List (Option cb_V)) (st : List cb_V) : cb_kp (fun _ => true) lv st = true := by
  have h : ∀ v, cb_okv (fun _ => true) v = true := fun v => by
    rcases v with x | o
    · rfl
    · cases o <;> rfl
  unfold cb_kp
  rw [Bool.and_eq_true, List.all_eq_true, List.all_eq_true]
  refine ⟨fun o _ => ?_, fun v _ => h v⟩
  cases o
  · rfl
  · exact h _
theorem ci_dor {P Q : Prop} [Decidable P] [Decidable Q] : decide P = (decide (P ∧ Q) || decide (P ∧ ¬ Q)) := by
  by_cases h1 : P <;> by_cases h2 : Q <;> simp [h1, h2]
theorem ci_o2 {P R : Prop} [Decidable P] [Decidable R] (h : R ↔ P) : ((if P then 0 else 1) ||| 0 : Int32) = if R then 0 else 1 := by
  rw [ci_if h]
  by_cases h1 : P <;> simp [h1]
theorem ci_o3 {P R : Prop} [Decidable P] [Decidable R] (h : ¬ R) : ((if P then 0 else 1) ||| 1 : Int32) = if R then 0 else 1 := by
  rw [if_neg h]
  by_cases h1 : P <;> simp [h1]
theorem sw_iff {A : ca_A} {j p : Nat} (h : ca_rv A j) : sw_ok A j p ↔ ¬ (fb_ct (ca_si A j p) 64 = 0 ∨ fb_ct (ca_si A j p) 64 = fb_ct (ca_so A p) 64) := by
  have h1 : fb_ct (ca_si A j p) 64 = fb_ct (ca_sa A j p) 64 := fb_ct_cong (fun k hk => by
    unfold ca_si ca_sa
    rw [decide_eq_decide]
    exact ⟨fun e => ⟨⟨ca_rvo h e.1, e.2⟩, e.1⟩, fun e => ⟨e.2, e.1.2⟩⟩)
  have h2 : fb_ct (ca_so A p) 64 = fb_ct (ca_sa A j p) 64 + fb_ct (ca_sb A j p) 64 := by
    rw [← fb_ct_or (fun k hk q => (of_decide_eq_true q.2).2 (of_decide_eq_true q.1).2)]
    refine fb_ct_cong (fun k hk => ?_)
    exact ci_dor
  unfold sw_ok sw_t sw_l
  rw [h1, h2]
  omega
theorem ci_o1 {P Q R : Prop} [Decidable P] [Decidable Q] [Decidable R] (h : R ↔ (P ∧ ¬ Q)) : ((if P then 0 else 1) ||| (if Q then 1 else 0) : Int32) = if R then 0 else 1 := by
  rw [ci_if h]
  by_cases h1 : P <;> by_cases h2 : Q <;> simp [h1, h2]
theorem c_X1_divides (w : cb_W) (A : ca_A) (z : Int32) (hI : ca_I A) (hC : cc_I w A z) (j : Nat) (h40 : w.1 40 = true) (hA : w.2.1 40 0 = nI (j / 512) ∧ w.2.1 40 1 = nI (j / 64 % 8) ∧ w.2.1 40 2 = nI (j / 8 % 8) ∧ w.2.1 40 3 = nI (j % 8)) (hj : j < 2147483648) (hrv : ca_rv A j) (p : Nat) (hp : p < A 0 12) : cb_Pu yX1_divides cX1_divides 6 (some .boolean) 3 65 [.inr (some 20), .inr (some 40), .inl (nI p)] w (if sw_ok A j p then 1 else 0) := by
  refine cb_con (by decide) (Nat.le_of_ble_eq_true rfl) (fun κ O Rt hnm => ?_)
  show cb_X κ w 0 0 0 [some (.inr (some 20)), some (.inr (some 40)), some (.inl (nI p)), none, none, none] []
  refine cb_iconst (pc := 0) (v := 0) O dX1_divides_0 (by decide) ?_
  refine cb_istore_n (pc := 1) O dX1_divides_1 (by decide) ?_
  dsimp only [List.set]
  refine cb_iconst (pc := 2) (v := 0) O dX1_divides_2 (by decide) ?_
  refine cb_istore (pc := 3) O dX1_divides_3 (by decide) ?_
  dsimp only [List.set]
  refine cb_iconst (pc := 5) (v := 0) O dX1_divides_5 (by decide) ?_
  refine cb_istore (pc := 6) O dX1_divides_6 (by decide) ?_
  dsimp only [List.set]
  have L_8 : ∀ (n : Nat) (k : Nat), k ≤ 64 → 64 + 1 ≤ k + n → cb_X κ w 0 0 8 [some (.inr (some 20)), some (.inr (some 40)), some (.inl (nI p)), some (.inl (if sw_t A j p k then 0 else 1)), some (.inl (if sw_l A j p k then 0 else 1)), some (.inl (nI k))] [] := by
    intro n
    induction n with
    | zero =>
      intro k hk hn
      exact absurd hn (by omega)
    | succ n ih_8 =>
      intro k hk hn
      refine cb_iload (pc := 8) O dX1_divides_8 rfl ?_
      refine cb_bipush (pc := 10) (v := 64) O dX1_divides_10 (by decide) ?_
      refine cb_icmp_ge (pc := 12) O 69 dX1_divides_12 (by decide) (fun c_12 => ?_) (fun c_12 => ?_)
      · skip
        have e : k = 64 := by
          have := ci_ge (b := 64) c_12 (by omega) (by decide)
          omega
        subst e
        refine cb_iload_n (pc := 69) O dX1_divides_69 rfl ?_
        refine cb_if_eq (pc := 70) O 82 dX1_divides_70 (by decide) (fun c_70 => ?_) (fun c_70 => ?_)
        · skip
          refine cb_iconst (pc := 82) (v := 0) O dX1_divides_82 (by decide) ?_
          exact cb_iret (pc := 83) O Rt rfl (Nat.le_of_ble_eq_true rfl) (Nat.le_of_ble_eq_true rfl) dX1_divides_83 (by
            refine ⟨?_, rfl⟩
            unfold sw_ok
            by_cases h1 : sw_t A j p 64 <;> by_cases h2 : sw_l A j p 64 <;> simp [h1, h2] at * )
        · skip
          refine cb_iload (pc := 73) O dX1_divides_73 rfl ?_
          refine cb_if_eq (pc := 75) O 82 dX1_divides_75 (by decide) (fun c_75 => ?_) (fun c_75 => ?_)
          · skip
            refine cb_iconst (pc := 82) (v := 0) O dX1_divides_82 (by decide) ?_
            exact cb_iret (pc := 83) O Rt rfl (Nat.le_of_ble_eq_true rfl) (Nat.le_of_ble_eq_true rfl) dX1_divides_83 (by
              refine ⟨?_, rfl⟩
              unfold sw_ok
              by_cases h1 : sw_t A j p 64 <;> by_cases h2 : sw_l A j p 64 <;> simp [h1, h2] at * )
          · skip
            refine cb_iconst (pc := 78) (v := 1) O dX1_divides_78 (by decide) ?_
            refine cb_goto (pc := 79) O 83 dX1_divides_79 (by decide) ?_
            exact cb_iret (pc := 83) O Rt rfl (Nat.le_of_ble_eq_true rfl) (Nat.le_of_ble_eq_true rfl) dX1_divides_83 (by
              refine ⟨?_, rfl⟩
              unfold sw_ok
              by_cases h1 : sw_t A j p 64 <;> by_cases h2 : sw_l A j p 64 <;> simp [h1, h2] at * )
      · skip
        have hlt : k < 64 := ci_nge (b := 64) c_12 (by omega) (by decide)
        have l11 := hI.2.2.2.1.2.1 k
        have l := hI.1
        refine cb_aload_n (pc := 15) O dX1_divides_15 rfl ?_
        refine cb_iload (pc := 16) O dX1_divides_16 rfl ?_
        refine cb_cVp (pc := 18) O (c_X1_hasCell w A z hI hC (nI k)) my_X1_hasCell mi_X1_hasCell mx_X1_hasCell ml_X1_74 dX1_divides_18 rfl ct_1 rfl rfl rfl ⟨(Nat.le_of_ble_eq_true rfl), (Nat.le_of_ble_eq_true rfl)⟩ (Nat.le_of_ble_eq_true rfl) rfl ⟨(Nat.le_of_ble_eq_true rfl), (Nat.le_of_ble_eq_true rfl)⟩ (hC.1.1 _ rfl) ?_
        refine cb_ifp_eq (pc := 21) O 63 dX1_divides_21 (by decide) (fun c_21 => ?_) (fun c_21 => ?_)
        · skip
          rw [ca_cn (by omega)] at c_21
          have hno : ¬ (ca_o A k ∧ A 11 k = p) := fun h => c_21 h.1
          have hT : (if sw_t A j p k then (0 : Int32) else 1) = (if sw_t A j p (k + 1) then 0 else 1) := ci_if (by
            unfold sw_t
            rw [ca_saS, if_neg (fun h => hno h.1)]
            exact Iff.rfl)
          have hL : (if sw_l A j p k then (0 : Int32) else 1) = (if sw_l A j p (k + 1) then 0 else 1) := ci_if (by
            unfold sw_l
            rw [ca_sbS, if_neg (fun h => hno h.1)]
            exact Iff.rfl)
          refine cb_iinc (pc := 63) O (nI (k + 1)) dX1_divides_63 rfl (by decide) (ci_inc k) ?_
          dsimp only [List.set]
          refine cb_goto (pc := 66) O 8 dX1_divides_66 (by decide) ?_
          first
          | exact ih_8 (k + 1) (by omega) (by omega)
          | (rw [hT, hL]; exact ih_8 (k + 1) (by omega) (by omega))
        · skip
          rw [ca_cn (by omega)] at c_21
          refine cb_aload_n (pc := 24) O dX1_divides_24 rfl ?_
          refine cb_getR (pc := 25) O fl_X1_15 rfl rfl dX1_divides_25 (hC.1.1 _ rfl) (hC.1.2 _ _ _ rfl) ?_
          refine cb_iload (pc := 28) O dX1_divides_28 rfl ?_
          refine cb_iald (pc := 30) O k rfl dX1_divides_30 (by decide) (hC.1.1 _ rfl) rfl hlt ?_
          refine cb_iload_n (pc := 31) O dX1_divides_31 rfl ?_
          refine cb_icmp_ne (pc := 32) O 63 dX1_divides_32 (by decide) (fun c_32 => ?_) (fun c_32 => ?_)
          · skip
            rw [hC.2.1.2.2.1 k hlt, nI_eq (by omega) (by omega)] at c_32
            have hno : ¬ (ca_o A k ∧ A 11 k = p) := fun h => c_32 h.2
            have hT : (if sw_t A j p k then (0 : Int32) else 1) = (if sw_t A j p (k + 1) then 0 else 1) := ci_if (by
              unfold sw_t
              rw [ca_saS, if_neg (fun h => hno h.1)]
              exact Iff.rfl)
            have hL : (if sw_l A j p k then (0 : Int32) else 1) = (if sw_l A j p (k + 1) then 0 else 1) := ci_if (by
              unfold sw_l
              rw [ca_sbS, if_neg (fun h => hno h.1)]
              exact Iff.rfl)
            refine cb_iinc (pc := 63) O (nI (k + 1)) dX1_divides_63 rfl (by decide) (ci_inc k) ?_
            dsimp only [List.set]
            refine cb_goto (pc := 66) O 8 dX1_divides_66 (by decide) ?_
            first
            | exact ih_8 (k + 1) (by omega) (by omega)
            | (rw [hT, hL]; exact ih_8 (k + 1) (by omega) (by omega))
          · skip
            rw [hC.2.1.2.2.1 k hlt, nI_eq (by omega) (by omega)] at c_32
            refine cb_iload_n (pc := 35) O dX1_divides_35 rfl ?_
            refine cb_aload_n (pc := 36) O dX1_divides_36 rfl ?_
            refine cb_iload (pc := 37) O dX1_divides_37 rfl ?_
            refine cb_cVp (pc := 39) O (c_X0_covers w j h40 hA hj k hlt) my_X0_covers mi_X0_covers mx_X0_covers ml_X1_65 dX1_divides_39 rfl ct_0 rfl rfl rfl ⟨(Nat.le_of_ble_eq_true rfl), (Nat.le_of_ble_eq_true rfl)⟩ (Nat.le_of_ble_eq_true rfl) rfl ⟨(Nat.le_of_ble_eq_true rfl), (Nat.le_of_ble_eq_true rfl)⟩ h40 ?_
            refine cb_ior (pc := 42) O dX1_divides_42 ?_
            refine cb_topv (if sw_t A j p (k + 1) then 0 else 1) (ci_o1 (by
              unfold sw_t
              rw [ca_saS]
              by_cases e9 : ca_in j k
              · rw [if_pos ⟨⟨c_21, c_32⟩, e9⟩]; exact ⟨fun h => by omega, fun h => absurd e9 h.2⟩
              · rw [if_neg (fun h => e9 h.2)]; exact ⟨fun h => ⟨h, e9⟩, fun h => h.1⟩)) ?_
            refine cb_istore_n (pc := 43) O dX1_divides_43 (by decide) ?_
            dsimp only [List.set]
            refine cb_iload (pc := 44) O dX1_divides_44 rfl ?_
            refine cb_aload_n (pc := 46) O dX1_divides_46 rfl ?_
            refine cb_iload (pc := 47) O dX1_divides_47 rfl ?_
            refine cb_cVp (pc := 49) O (c_X0_covers w j h40 hA hj k hlt) my_X0_covers mi_X0_covers mx_X0_covers ml_X1_65 dX1_divides_49 rfl ct_0 rfl rfl rfl ⟨(Nat.le_of_ble_eq_true rfl), (Nat.le_of_ble_eq_true rfl)⟩ (Nat.le_of_ble_eq_true rfl) rfl ⟨(Nat.le_of_ble_eq_true rfl), (Nat.le_of_ble_eq_true rfl)⟩ h40 ?_
            refine cb_ifp_ne (pc := 52) O 59 dX1_divides_52 (by decide) (fun c_52 => ?_) (fun c_52 => ?_)
            · skip
              refine cb_iconst (pc := 59) (v := 0) O dX1_divides_59 (by decide) ?_
              refine cb_ior (pc := 60) O dX1_divides_60 ?_
              refine cb_topv (if sw_l A j p (k + 1) then 0 else 1) (by
                have hh : sw_l A j p (k + 1) ↔ (sw_l A j p k ∧ ca_in j k) := by
                  unfold sw_l
                  rw [ca_sbS]
                  by_cases e9 : ca_in j k
                  · rw [if_neg (fun h => h.2 e9)]; exact ⟨fun h => ⟨h, e9⟩, fun h => h.1⟩
                  · rw [if_pos ⟨⟨c_21, c_32⟩, e9⟩]; exact ⟨fun h => by omega, fun h => absurd h.2 e9⟩
                first
                | exact ci_o2 (hh.trans ⟨fun h => h.1, fun h => ⟨h, c_52⟩⟩)
                | exact ci_o3 (fun h => c_52 (hh.mp h).2)) ?_
              refine cb_istore (pc := 61) O dX1_divides_61 (by decide) ?_
              dsimp only [List.set]
              refine cb_iinc (pc := 63) O (nI (k + 1)) dX1_divides_63 rfl (by decide) (ci_inc k) ?_
              dsimp only [List.set]
              refine cb_goto (pc := 66) O 8 dX1_divides_66 (by decide) ?_
              first
              | exact ih_8 (k + 1) (by omega) (by omega)
              | (rw [hT, hL]; exact ih_8 (k + 1) (by omega) (by omega))
            · skip
              refine cb_iconst (pc := 55) (v := 1) O dX1_divides_55 (by decide) ?_
              refine cb_goto (pc := 56) O 60 dX1_divides_56 (by decide) ?_
              refine cb_ior (pc := 60) O dX1_divides_60 ?_
              refine cb_topv (if sw_l A j p (k + 1) then 0 else 1) (by
                have hh : sw_l A j p (k + 1) ↔ (sw_l A j p k ∧ ca_in j k) := by
                  unfold sw_l
                  rw [ca_sbS]
                  by_cases e9 : ca_in j k
                  · rw [if_neg (fun h => h.2 e9)]; exact ⟨fun h => ⟨h, e9⟩, fun h => h.1⟩
                  · rw [if_pos ⟨⟨c_21, c_32⟩, e9⟩]; exact ⟨fun h => by omega, fun h => absurd h.2 e9⟩
                first
                | exact ci_o2 (hh.trans ⟨fun h => h.1, fun h => ⟨h, c_52⟩⟩)
                | exact ci_o3 (fun h => c_52 (hh.mp h).2)) ?_
              refine cb_istore (pc := 61) O dX1_divides_61 (by decide) ?_
              dsimp only [List.set]
              refine cb_iinc (pc := 63) O (nI (k + 1)) dX1_divides_63 rfl (by decide) (ci_inc k) ?_
              dsimp only [List.set]
              refine cb_goto (pc := 66) O 8 dX1_divides_66 (by decide) ?_
              first
              | exact ih_8 (k + 1) (by omega) (by omega)
              | (rw [hT, hL]; exact ih_8 (k + 1) (by omega) (by omega))
  refine cb_eqX (lv' := [some (.inr (some 20)), some (.inr (some 40)), some (.inl (nI p)), some (.inl (if sw_t A j p 0 then 0 else 1)), some (.inl (if sw_l A j p 0 then 0 else 1)), some (.inl (nI 0))]) rfl rfl rfl rfl ?_
  exact L_8 65 0 (by omega) (by omega)

theorem c_X1_sawFree (w : cb_W) (A : ca_A) (z : Int32) (hI : ca_I A) (hC : cc_I w A z) (j : Nat) (h40 : w.1 40 = true) (hA : w.2.1 40 0 = nI (j / 512) ∧ w.2.1 40 1 = nI (j / 64 % 8) ∧ w.2.1 40 2 = nI (j / 8 % 8) ∧ w.2.1 40 3 = nI (j % 8)) (hj : j < 2147483648) (hrv : ca_rv A j) (p : Nat) (hp : p < A 0 12) (h8 : A 0 12 < 8) : cb_Con yX1_sawFree cX1_sawFree 5 (some .int) 2 43 0 0 (fun _ => true) [.inr (some 20), .inr (some 40), .inl (nI p)] w (cb_pi (fun x w' => x = nI (A 0 12) ∧ w' = cb_pz (cb_um (cb_um w 20 5 (nI (A 0 12 + 1))) 23 (A 0 12) (nI (1 - A 12 p))) 22 (ca_si A j p) 64 (nI (A 0 12)))) := by
  obtain ⟨W1, hW1⟩ : ∃ W1, W1 = cb_um (cb_um w 20 5 (nI (A 0 12 + 1))) 23 (A 0 12) (nI (1 - A 12 p)) := ⟨_, rfl⟩
  have hm22 : ∀ k, W1.2.1 22 k = w.2.1 22 k := fun k => by
    rw [hW1]
    show cb_u2 (cb_u2 w.2.1 20 5 (nI (A 0 12 + 1))) 23 (A 0 12) (nI (1 - A 12 p)) 22 k = _
    rw [cb_u2r (by decide), cb_u2r (by decide)]
  have hm40 : ∀ k, W1.2.1 40 k = w.2.1 40 k := fun k => by
    rw [hW1]
    show cb_u2 (cb_u2 w.2.1 20 5 (nI (A 0 12 + 1))) 23 (A 0 12) (nI (1 - A 12 p)) 40 k = _
    rw [cb_u2r (by decide), cb_u2r (by decide)]
  have hlv : W1.1 = w.1 := by rw [hW1]; rfl
  have hrf : W1.2.2 = w.2.2 := by rw [hW1]; rfl
  refine cb_con (by decide) (Nat.le_of_ble_eq_true rfl) (fun κ O Rt hnm => ?_)
  show cb_X κ w 0 0 0 [some (.inr (some 20)), some (.inr (some 40)), some (.inl (nI p)), none, none] []
  refine cb_aload_n (pc := 0) O dX1_sawFree_0 rfl ?_
  refine cb_getI (pc := 1) O fl_X1_40 rfl rfl dX1_sawFree_1 (hC.1.1 _ rfl) ?_
  refine cb_topv (nI (A 0 12)) hC.2.1.1.2.2 ?_
  refine cb_istore_n (pc := 4) O dX1_sawFree_4 (by decide) ?_
  dsimp only [List.set]
  refine cb_aload_n (pc := 5) O dX1_sawFree_5 rfl ?_
  refine cb_dup (pc := 6) O dX1_sawFree_6 ?_
  refine cb_getI (pc := 7) O fl_X1_40 rfl rfl dX1_sawFree_7 (hC.1.1 _ rfl) ?_
  refine cb_iconst (pc := 10) (v := 1) O dX1_sawFree_10 (by decide) ?_
  refine cb_iadd (pc := 11) O dX1_sawFree_11 ?_
  refine cb_topv (nI (A 0 12 + 1)) (by rw [hC.2.1.1.2.2]; exact ci_inc _) ?_
  refine cb_putIc (pc := 12) O fl_X1_40 (Or.inl rfl) rfl rfl dX1_sawFree_12 rfl rfl (hC.1.1 _ rfl) ?_
  refine cb_aload_n (pc := 15) O dX1_sawFree_15 rfl ?_
  refine cb_getR (pc := 16) O fl_X1_18 rfl rfl dX1_sawFree_16 (hC.1.1 _ rfl) (hC.1.2 _ _ _ rfl) ?_
  refine cb_iload_n (pc := 19) O dX1_sawFree_19 rfl ?_
  refine cb_aload_n (pc := 20) O dX1_sawFree_20 rfl ?_
  refine cb_getR (pc := 21) O fl_X1_18 rfl rfl dX1_sawFree_21 (hC.1.1 _ rfl) (hC.1.2 _ _ _ rfl) ?_
  refine cb_iload_n (pc := 24) O dX1_sawFree_24 rfl ?_
  refine cb_iald (pc := 25) O p rfl dX1_sawFree_25 (by decide) (hC.1.1 _ rfl) rfl (by omega) ?_
  refine cb_topv (nI (1 - A 12 p)) (hC.2.1.2.2.2 p hp) ?_
  refine cb_iast (pc := 26) O (A 0 12) rfl dX1_sawFree_26 (by decide) (hC.1.1 _ rfl) rfl (by omega) ?_
  rw [← hW1]
  refine cb_iconst (pc := 27) (v := 0) O dX1_sawFree_27 (by decide) ?_
  refine cb_istore (pc := 28) O dX1_sawFree_28 (by decide) ?_
  dsimp only [List.set]
  rw [← cb_pz0 W1 22 (ca_si A j p) (nI (A 0 12)) (m := 0) (fun _ _ => by omega)]
  have L_30 : ∀ (n : Nat) (k : Nat), k ≤ 64 → 64 + 1 ≤ k + n → cb_X κ (cb_pz W1 22 (ca_si A j p) k (nI (A 0 12))) 0 0 30 [some (.inr (some 20)), some (.inr (some 40)), some (.inl (nI p)), some (.inl (nI (A 0 12))), some (.inl (nI k))] [] := by
    intro n
    induction n with
    | zero =>
      intro k hk hn
      exact absurd hn (by omega)
    | succ n ih_30 =>
      intro k hk hn
      have hA2 : (cb_pz W1 22 (ca_si A j p) k (nI (A 0 12))).2.1 40 0 = nI (j / 512) ∧ (cb_pz W1 22 (ca_si A j p) k (nI (A 0 12))).2.1 40 1 = nI (j / 64 % 8) ∧ (cb_pz W1 22 (ca_si A j p) k (nI (A 0 12))).2.1 40 2 = nI (j / 8 % 8) ∧ (cb_pz W1 22 (ca_si A j p) k (nI (A 0 12))).2.1 40 3 = nI (j % 8) := by
        show W1.2.1 40 0 = _ ∧ W1.2.1 40 1 = _ ∧ W1.2.1 40 2 = _ ∧ W1.2.1 40 3 = _
        rw [hm40, hm40, hm40, hm40]
        exact hA
      refine cb_iload (pc := 30) O dX1_sawFree_30 rfl ?_
      refine cb_bipush (pc := 32) (v := 64) O dX1_sawFree_32 (by decide) ?_
      refine cb_icmp_ge (pc := 34) O 71 dX1_sawFree_34 (by decide) (fun c_34 => ?_) (fun c_34 => ?_)
      · skip
        have e : k = 64 := by
          have := ci_ge (b := 64) c_34 (by omega) (by decide)
          omega
        subst e
        refine cb_iload_n (pc := 71) O dX1_sawFree_71 rfl ?_
        exact cb_iret (pc := 72) O Rt rfl (Nat.le_of_ble_eq_true rfl) (Nat.le_of_ble_eq_true rfl) dX1_sawFree_72 ⟨rfl, by rw [hW1]⟩
      · skip
        have hlt : k < 64 := ci_nge (b := 64) c_34 (by omega) (by decide)
        have l11 := hI.2.2.2.1.2.1 k
        have e22 : (cb_pz W1 22 (ca_si A j p) k (nI (A 0 12))).2.1 22 k = nI (A 11 k) := by
          show (if 22 = 22 ∧ ca_si A j p k = true ∧ k < k then _ else W1.2.1 22 k) = _
          rw [if_neg (fun h => by have := h.2.2; omega), hm22]
          exact hC.2.1.2.2.1 k hlt
        refine cb_aload_n (pc := 37) O dX1_sawFree_37 rfl ?_
        refine cb_iload (pc := 38) O dX1_sawFree_38 rfl ?_
        refine cb_cVp (pc := 40) O (c_X0_covers (cb_pz W1 22 (ca_si A j p) k (nI (A 0 12))) j (by show W1.1 40 = true; rw [hlv]; exact h40) hA2 hj k hlt) my_X0_covers mi_X0_covers mx_X0_covers ml_X1_65 dX1_sawFree_40 rfl ct_0 rfl rfl rfl ⟨(Nat.le_of_ble_eq_true rfl), (Nat.le_of_ble_eq_true rfl)⟩ (Nat.le_of_ble_eq_true rfl) rfl ⟨(Nat.le_of_ble_eq_true rfl), (Nat.le_of_ble_eq_true rfl)⟩ (by show W1.1 40 = true; rw [hlv]; exact h40) ?_
        refine cb_ifp_eq (pc := 43) O 65 dX1_sawFree_43 (by decide) (fun c_43 => ?_) (fun c_43 => ?_)
        · skip
          have hno : ¬ ca_si A j p k = true := fun h => c_43 (of_decide_eq_true h).1
          refine cb_iinc (pc := 65) O (nI (k + 1)) dX1_sawFree_65 rfl (by decide) (ci_inc k) ?_
          dsimp only [List.set]
          refine cb_goto (pc := 68) O 30 dX1_sawFree_68 (by decide) ?_
          first
          | (rw [cb_pzS _ _ _ _ hyes]; exact ih_30 (k + 1) (by omega) (by omega))
          | (rw [cb_pzN _ _ _ _ hno]; exact ih_30 (k + 1) (by omega) (by omega))
        · skip
          refine cb_aload_n (pc := 46) O dX1_sawFree_46 rfl ?_
          refine cb_getR (pc := 47) O fl_X1_15 rfl rfl dX1_sawFree_47 (by show W1.1 20 = true; rw [hlv]; exact hC.1.1 _ rfl) (by show W1.2.2 20 3 = some 22; rw [hrf]; exact hC.1.2 _ _ _ rfl) ?_
          refine cb_iload (pc := 50) O dX1_sawFree_50 rfl ?_
          refine cb_iald (pc := 52) O k rfl dX1_sawFree_52 (by decide) (by show W1.1 22 = true; rw [hlv]; exact hC.1.1 _ rfl) rfl hlt ?_
          refine cb_iload_n (pc := 53) O dX1_sawFree_53 rfl ?_
          refine cb_icmp_ne (pc := 54) O 65 dX1_sawFree_54 (by decide) (fun c_54 => ?_) (fun c_54 => ?_)
          · skip
            rw [e22, nI_eq (by omega) (by omega)] at c_54
            have hno : ¬ ca_si A j p k = true := fun h => c_54 (of_decide_eq_true h).2
            refine cb_iinc (pc := 65) O (nI (k + 1)) dX1_sawFree_65 rfl (by decide) (ci_inc k) ?_
            dsimp only [List.set]
            refine cb_goto (pc := 68) O 30 dX1_sawFree_68 (by decide) ?_
            first
            | (rw [cb_pzS _ _ _ _ hyes]; exact ih_30 (k + 1) (by omega) (by omega))
            | (rw [cb_pzN _ _ _ _ hno]; exact ih_30 (k + 1) (by omega) (by omega))
          · skip
            rw [e22, nI_eq (by omega) (by omega)] at c_54
            have hyes : ca_si A j p k = true := decide_eq_true ⟨c_43, c_54⟩
            refine cb_aload_n (pc := 57) O dX1_sawFree_57 rfl ?_
            refine cb_getR (pc := 58) O fl_X1_15 rfl rfl dX1_sawFree_58 (by show W1.1 20 = true; rw [hlv]; exact hC.1.1 _ rfl) (by show W1.2.2 20 3 = some 22; rw [hrf]; exact hC.1.2 _ _ _ rfl) ?_
            refine cb_iload (pc := 61) O dX1_sawFree_61 rfl ?_
            refine cb_iload_n (pc := 63) O dX1_sawFree_63 rfl ?_
            refine cb_iast (pc := 64) O k rfl dX1_sawFree_64 (by decide) (by show W1.1 22 = true; rw [hlv]; exact hC.1.1 _ rfl) rfl hlt ?_
            refine cb_iinc (pc := 65) O (nI (k + 1)) dX1_sawFree_65 rfl (by decide) (ci_inc k) ?_
            dsimp only [List.set]
            refine cb_goto (pc := 68) O 30 dX1_sawFree_68 (by decide) ?_
            first
            | (rw [cb_pzS _ _ _ _ hyes]; exact ih_30 (k + 1) (by omega) (by omega))
            | (rw [cb_pzN _ _ _ _ hno]; exact ih_30 (k + 1) (by omega) (by omega))
  exact L_30 65 0 (by omega) (by omega)

theorem cc_I.sw {w : cb_W} {A : ca_A} {z : Int32} {j p : Nat} (hC : cc_I w A z) (hI : ca_I A) (hp : p < A 0 12) (hrv : ca_rv A j) : cc_I (cb_pz (cb_um (cb_um w 20 5 (nI (A 0 12 + 1))) 23 (A 0 12) (nI (1 - A 12 p))) 22 (ca_si A j p) 64 (nI (A 0 12))) (ca_sw A j p) z := by
  obtain ⟨W, hW9⟩ : ∃ W, W = cb_pz (cb_um (cb_um w 20 5 (nI (A 0 12 + 1))) 23 (A 0 12) (nI (1 - A 12 p))) 22 (ca_si A j p) 64 (nI (A 0 12)) := ⟨_, rfl⟩
  have hm : ∀ r k, r ≠ 22 → r ≠ 23 → ¬ (r = 20 ∧ k = 5) → W.2.1 r k = w.2.1 r k := fun r k h1 h2 h3 => by
    rw [hW9]
    refine (if_neg (fun q => h1 q.1)).trans ?_
    show cb_u2 (cb_u2 w.2.1 20 5 (nI (A 0 12 + 1))) 23 (A 0 12) (nI (1 - A 12 p)) r k = _
    rw [cb_u2r (by omega), cb_u2n (by omega)]
  have ha : ∀ k i, k ≠ 11 → k ≠ 12 → ¬ (k = 0 ∧ i = 12) → ca_sw A j p k i = A k i := fun k i h1 h2 h3 => by
    unfold ca_sw
    rw [if_neg (fun q => h1 q.1), if_neg (fun q => h2 q.1), if_neg h3]
  have hv1 : W.1 = w.1 := by rw [hW9]; rfl
  have hv2 : W.2.2 = w.2.2 := by rw [hW9]; rfl
  have a12 : ca_sw A j p 0 12 = A 0 12 + 1 := by
    unfold ca_sw
    rw [if_neg (by omega), if_neg (by omega), if_pos ⟨rfl, rfl⟩]
  obtain ⟨hW, ⟨⟨b0, b1, b5⟩, b2, b3, b4⟩, hN, hK, hS, hE, hP, hL, l1, l2, l3⟩ := hC
  rw [← hW9]
  refine ⟨?_, ⟨⟨?_, ?_, ?_⟩, fun k hk => ?_, fun k hk => ?_, fun k hk => ?_⟩, hN.cg (fun r k h => hm r k (by omega) (by omega) (by omega)) (fun k i h => ha k i (by omega) (by omega) (by omega)), hK.cg (fun r k h => hm r k (by omega) (by omega) (by omega)) (fun k i h => ha k i (by omega) (by omega) (by omega)), hS.cg hI.1.2.2.2.1 (fun _ _ _ => by rw [hv1]) (fun _ _ _ => by rw [hv2]) (fun r k g1 g2 => hm r k (by omega) (by omega) (by omega)) (fun k i h => ha k i (by omega) (by omega) (by omega)), hE.cg hI.1.2.2.2.2.1 (fun _ _ _ => by rw [hv1]) (fun _ => by rw [hv2]) (fun r k g1 g2 => hm r k (by omega) (by omega) (by omega)) (fun k i h => ha k i (by omega) (by omega) (by omega)), hP.cg (fun r k h => hm r k (by omega) (by omega) (by omega)) (fun k i h => ha k i (by omega) (by omega) (by omega)), hL.cg (fun r k h => hm r k (by omega) (by omega) (by omega)) (fun k i h => ha k i (by omega) (by omega) (by omega)), by rw [hv1]; exact l1, by rw [hv1]; exact l2, by rw [hv1, hv2]; exact l3⟩
  · unfold cb_CW; rw [hv1, hv2]; exact hW
  · rw [hm 20 0 (by decide) (by decide) (by decide), ha 0 0 (by decide) (by decide) (by decide)]; exact b0
  · rw [hm 20 1 (by decide) (by decide) (by decide), ha 0 1 (by decide) (by decide) (by decide)]; exact b1
  · rw [a12, hW9]
    show cb_u2 (cb_u2 w.2.1 20 5 (nI (A 0 12 + 1))) 23 (A 0 12) (nI (1 - A 12 p)) 20 5 = _
    rw [cb_u2r (by decide), cb_u2s]
  · rw [hm 21 k (by decide) (by decide) (by omega)]
    unfold ca_o
    rw [ha 0 0 (by decide) (by decide) (by decide), ha 0 1 (by decide) (by decide) (by decide), ha 10 k (by decide) (by decide) (by omega)]
    exact b2 k hk
  · rw [hW9]
    show (if 22 = 22 ∧ ca_si A j p k = true ∧ k < 64 then nI (A 0 12) else cb_u2 (cb_u2 w.2.1 20 5 (nI (A 0 12 + 1))) 23 (A 0 12) (nI (1 - A 12 p)) 22 k) = _
    rw [cb_u2r (by decide), cb_u2r (by decide)]
    unfold ca_sw
    by_cases e : ca_in j k ∧ A 11 k = p
    · rw [if_pos ⟨rfl, decide_eq_true e, hk⟩, if_pos ⟨rfl, e⟩]
    · rw [if_neg (fun h => e (of_decide_eq_true h.2.1)), if_neg (fun h => e h.2), if_neg (by omega), if_neg (by omega)]
      exact b3 k hk
  · rw [a12] at hk
    rw [hW9]
    show cb_u2 (cb_u2 w.2.1 20 5 (nI (A 0 12 + 1))) 23 (A 0 12) (nI (1 - A 12 p)) 23 k = _
    unfold ca_sw
    rw [if_neg (by omega)]
    by_cases e : k = A 0 12
    · rw [e, cb_u2s, if_pos ⟨rfl, rfl⟩]
    · rw [cb_u2n (by omega), cb_u2r (by decide), if_neg (fun h => e h.2), if_neg (by omega)]
      exact b4 k (by omega)
theorem k_saw0 (w : cb_W) (A : ca_A) (z : Int32) (hI : ca_I A) (hC : cc_I w A z) (ht4 : ∀ r, 40 ≤ r → r < 46 → w.1 r = false) (p x : Int32) : cb_Con yX10_saw cX10_saw 4 (some .int) 4 90 1 4 cb_kpub [.inr (some 0), .inl p, .inl x] w (cb_pi (fun y w' => y = sr_saw A p x ∧ cc_I w' (sA_saw A p x) z ∧ cb_M1 w w')) := by
  refine cb_con (by decide) (Nat.le_of_ble_eq_true rfl) (fun κ O Rt hnm => ?_)
  show cb_X κ w 0 0 0 [some (.inr (some 0)), some (.inl p), some (.inl x), none] []
  refine cb_new (pc := 0) O 40 ct_0 cl_X10_120 in_X0 ini_X0 rfl dX10_saw_0 (by decide) (by rw [Rt.2.2]; rfl) rfl (Nat.le_of_ble_eq_true rfl) (Nat.le_of_ble_eq_true rfl) (ht4 40 (by decide) (by decide)) ?_
  refine cb_dup (pc := 3) O dX10_saw_3 ?_
  refine cb_iload_n (pc := 4) O dX10_saw_4 rfl ?_
  refine cb_cIv (pc := 5) O (c_X0_init (cb_nw1 w 40) x (by simp [cb_nw1])) my_X0_init mi_X0_init rfl ml_X10_122 dX10_saw_5 rfl rfl ⟨(Nat.le_of_ble_eq_true rfl), (Nat.le_of_ble_eq_true rfl)⟩ (Nat.le_of_ble_eq_true rfl) rfl ⟨(Nat.le_of_ble_eq_true rfl), (Nat.le_of_ble_eq_true rfl)⟩ (fun _ _ => rfl) (fun w_5 hp_5 => ?_)
  obtain ⟨u0, u1, u2, u3, hw1, hA⟩ := hp_5
  have hT := hC.tmp (w' := w_5) hI (fun r h => by rw [hw1]; simp only [cb_um, cb_nw1]; rw [if_neg (by omega)]) (fun r h => by rw [hw1]; simp only [cb_um, cb_nw1]; rw [cb_u2r (by omega), cb_u2r (by omega), cb_u2r (by omega), cb_u2r (by omega), if_neg (by omega)]) (fun r h => by rw [hw1]; simp only [cb_um, cb_nw1]; rw [if_neg (by omega)])
  have hC1 := hT.1
  have h40 : w_5.1 40 = true := by rw [hw1]; simp [cb_um, cb_nw1]
  have hA1 : (∀ j, j < 2147483648 → x = nI j → w_5.2.1 40 0 = nI (j / 512) ∧ w_5.2.1 40 1 = nI (j / 64 % 8) ∧ w_5.2.1 40 2 = nI (j / 8 % 8) ∧ w_5.2.1 40 3 = nI (j % 8)) ∧ (x.toInt < 0 → (w_5.2.1 40 0).toInt < 0) := by
    have p0 : w_5.2.1 40 0 = u0 := by rw [hw1]; simp [cb_um, cb_u2]
    have p1 : w_5.2.1 40 1 = u1 := by rw [hw1]; simp [cb_um, cb_u2]
    have p2 : w_5.2.1 40 2 = u2 := by rw [hw1]; simp [cb_um, cb_u2]
    have p3 : w_5.2.1 40 3 = u3 := by rw [hw1]; simp [cb_um, cb_u2]
    rw [p0, p1, p2, p3]
    exact hA
  refine cb_astore_n (pc := 8) O dX10_saw_8 (by decide) ?_
  dsimp only [List.set]
  refine cb_aload_n (pc := 9) O dX10_saw_9 rfl ?_
  refine cb_getR (pc := 10) O fl_X10_60 rfl rfl dX10_saw_10 (hC1.1.1 _ rfl) (hC1.1.2 _ _ _ rfl) ?_
  refine cb_iload_n (pc := 13) O dX10_saw_13 rfl ?_
  refine cb_cVp (pc := 14) O (c_X1_hasPiece w_5 A z hI hC1 p) my_X1_hasPiece mi_X1_hasPiece mx_X1_hasPiece ml_X10_143 dX10_saw_14 rfl ct_1 rfl rfl rfl ⟨(Nat.le_of_ble_eq_true rfl), (Nat.le_of_ble_eq_true rfl)⟩ (Nat.le_of_ble_eq_true rfl) rfl ⟨(Nat.le_of_ble_eq_true rfl), (Nat.le_of_ble_eq_true rfl)⟩ (hC1.1.1 _ rfl) ?_
  refine cb_ifp_eq (pc := 17) O 41 dX10_saw_17 (by decide) (fun c_17 => ?_) (fun c_17 => ?_)
  · skip
    refine cb_iconst (pc := 41) (v := (-1)) O dX10_saw_41 (by decide) ?_
    exact cb_iret (pc := 42) O Rt rfl (Nat.le_of_ble_eq_true rfl) (Nat.le_of_ble_eq_true rfl) dX10_saw_42 (by
      have hv : ¬ sv_saw A p x := by
        intro h
        first | exact c_17 h.1 | exact c_38 h.2
      exact ⟨by rw [sr_saw, if_neg hv], by rw [sA_saw, if_neg (fun h => hv h.1)]; exact hC1, hT.2⟩)
  · skip
    refine cb_aload_n (pc := 20) O dX10_saw_20 rfl ?_
    refine cb_aload_n (pc := 21) O dX10_saw_21 rfl ?_
    refine cb_getR (pc := 22) O fl_X10_60 rfl rfl dX10_saw_22 (hC1.1.1 _ rfl) (hC1.1.2 _ _ _ rfl) ?_
    refine cb_getI (pc := 25) O fl_X10_125 rfl rfl dX10_saw_25 (hC1.1.1 _ rfl) ?_
    refine cb_topv _ hC1.2.1.1.1 ?_
    refine cb_aload_n (pc := 28) O dX10_saw_28 rfl ?_
    refine cb_getR (pc := 29) O fl_X10_60 rfl rfl dX10_saw_29 (hC1.1.1 _ rfl) (hC1.1.2 _ _ _ rfl) ?_
    refine cb_getI (pc := 32) O fl_X10_128 rfl rfl dX10_saw_32 (hC1.1.1 _ rfl) ?_
    refine cb_topv _ hC1.2.1.1.2.1 ?_
    refine cb_cVp (pc := 35) O (c_X0_liesOn w_5 A hI x h40 hA1) my_X0_liesOn mi_X0_liesOn mx_X0_liesOn ml_X10_131 dX10_saw_35 rfl ct_0 rfl rfl rfl ⟨(Nat.le_of_ble_eq_true rfl), (Nat.le_of_ble_eq_true rfl)⟩ (Nat.le_of_ble_eq_true rfl) rfl ⟨(Nat.le_of_ble_eq_true rfl), (Nat.le_of_ble_eq_true rfl)⟩ h40 ?_
    refine cb_ifp_ne (pc := 38) O 43 dX10_saw_38 (by decide) (fun c_38 => ?_) (fun c_38 => ?_)
    · skip
      have hv : sv_saw A p x := ⟨c_17, c_38⟩
      have hv2 := c_38
      have l := hI.1
      have hbx := fb_rng x
      obtain ⟨j, hj, e⟩ : ∃ j : Nat, j < 2147483648 ∧ x = nI j := ⟨x.toInt.toNat, by omega, by rw [ci_eq, ci_n (by have := hv2.1; omega)]; have := hv2.1; omega⟩
      subst e
      have hrv : ca_rv A j := by
        have := hv2.2
        rw [ci_tn hj] at this
        exact this
      obtain ⟨p, hp, rfl⟩ := ci_xn c_17 (by omega)
      refine cb_aload_n (pc := 43) O dX10_saw_43 rfl ?_
      refine cb_getR (pc := 44) O fl_X10_60 rfl rfl dX10_saw_44 (hC1.1.1 _ rfl) (hC1.1.2 _ _ _ rfl) ?_
      refine cb_aload_n (pc := 47) O dX10_saw_47 rfl ?_
      refine cb_iload_n (pc := 48) O dX10_saw_48 rfl ?_
      refine cb_cVp (pc := 49) O (c_X1_divides w_5 A z hI hC1 j h40 (hA1.1 j hj rfl) hj hrv p hp) my_X1_divides mi_X1_divides mx_X1_divides ml_X10_146 dX10_saw_49 rfl ct_1 rfl rfl rfl ⟨(Nat.le_of_ble_eq_true rfl), (Nat.le_of_ble_eq_true rfl)⟩ (Nat.le_of_ble_eq_true rfl) rfl ⟨(Nat.le_of_ble_eq_true rfl), (Nat.le_of_ble_eq_true rfl)⟩ (hC1.1.1 _ rfl) ?_
      refine cb_ifp_ne (pc := 52) O 58 dX10_saw_52 (by decide) (fun c_52 => ?_) (fun c_52 => ?_)
      · skip
        refine cb_aload_n (pc := 58) O dX10_saw_58 rfl ?_
        refine cb_getR (pc := 59) O fl_X10_60 rfl rfl dX10_saw_59 (hC1.1.1 _ rfl) (hC1.1.2 _ _ _ rfl) ?_
        refine cb_getI (pc := 62) O fl_X10_150 rfl rfl dX10_saw_62 (hC1.1.1 _ rfl) ?_
        refine cb_topv _ hC1.2.1.1.2.2 ?_
        refine cb_bipush (pc := 65) (v := 8) O dX10_saw_65 (by decide) ?_
        refine cb_icmp_ne (pc := 67) O 73 dX10_saw_67 (by decide) (fun c_67 => ?_) (fun c_67 => ?_)
        · skip
          rw [show (8 : Int32) = nI 8 from rfl, nI_eq (by omega) (by omega)] at c_67
          have h8 : A 0 12 < 8 := by omega
          refine cb_aload_n (pc := 73) O dX10_saw_73 rfl ?_
          refine cb_getR (pc := 74) O fl_X10_60 rfl rfl dX10_saw_74 (hC1.1.1 _ rfl) (hC1.1.2 _ _ _ rfl) ?_
          refine cb_aload_n (pc := 77) O dX10_saw_77 rfl ?_
          refine cb_iload_n (pc := 78) O dX10_saw_78 rfl ?_
          refine cb_cVi (pc := 79) O (c_X1_sawFree w_5 A z hI hC1 j h40 (hA1.1 j hj rfl) hj hrv p hp h8) my_X1_sawFree mi_X1_sawFree mx_X1_sawFree ml_X10_153 dX10_saw_79 rfl ct_1 rfl rfl rfl ⟨(Nat.le_of_ble_eq_true rfl), (Nat.le_of_ble_eq_true rfl)⟩ (Nat.le_of_ble_eq_true rfl) rfl ⟨(Nat.le_of_ble_eq_true rfl), (Nat.le_of_ble_eq_true rfl)⟩ (fun _ _ => rfl) (hC1.1.1 _ rfl) (fun x_79 w_79 hp_79 => ?_)
          obtain ⟨ex, ew⟩ := hp_79
          rw [ew, ex]
          exact cb_iret (pc := 82) O Rt rfl (Nat.le_of_ble_eq_true rfl) (Nat.le_of_ble_eq_true rfl) dX10_saw_82 (by
            refine ⟨by rw [sr_saw, if_pos hv, ci_tn hj, ci_tn (by omega), if_pos c_52, if_neg c_67], ?_, hT.2.trans (((cb_M1.rfl'.um (by omega)).um (by omega)).pz (by omega))⟩
            rw [sA_saw, if_pos ⟨hv, by rw [ci_tn hj, ci_tn (by omega)]; exact c_52, c_67⟩, ci_tn hj, ci_tn (by omega)]
            exact hC1.sw hI hp hrv)
        · skip
          rw [show (8 : Int32) = nI 8 from rfl, nI_eq (by omega) (by omega)] at c_67
          refine cb_bipush (pc := 70) (v := (-2)) O dX10_saw_70 (by decide) ?_
          exact cb_iret (pc := 72) O Rt rfl (Nat.le_of_ble_eq_true rfl) (Nat.le_of_ble_eq_true rfl) dX10_saw_72 (by
            exact ⟨by rw [sr_saw, if_pos hv, ci_tn hj, ci_tn (by omega), if_pos c_52, if_pos c_67], by rw [sA_saw, if_neg (fun h => h.2.2 c_67)]; exact hC1, hT.2⟩)
      · skip
        refine cb_bipush (pc := 55) (v := (-4)) O dX10_saw_55 (by decide) ?_
        exact cb_iret (pc := 57) O Rt rfl (Nat.le_of_ble_eq_true rfl) (Nat.le_of_ble_eq_true rfl) dX10_saw_57 (by
          exact ⟨by rw [sr_saw, if_pos hv, ci_tn hj, ci_tn (by omega), if_neg c_52], by rw [sA_saw, if_neg (fun h => c_52 (by have := h.2.1; rw [ci_tn hj, ci_tn (by omega)] at this; exact this))]; exact hC1, hT.2⟩)
    · skip
      refine cb_iconst (pc := 41) (v := (-1)) O dX10_saw_41 (by decide) ?_
      exact cb_iret (pc := 42) O Rt rfl (Nat.le_of_ble_eq_true rfl) (Nat.le_of_ble_eq_true rfl) dX10_saw_42 (by
        have hv : ¬ sv_saw A p x := by
          intro h
          first | exact c_17 h.1 | exact c_38 h.2
        exact ⟨by rw [sr_saw, if_neg hv], by rw [sA_saw, if_neg (fun h => hv h.1)]; exact hC1, hT.2⟩)

theorem k_saw (w : cb_W) (A : ca_A) (z : Int32) (hI : ca_I A) (hC : cc_I w A z) (p x : Int32) : cb_Con yX10_saw cX10_saw 4 (some .int) 4 90 1 4 cb_kpub [.inr (some 0), .inl p, .inl x] w (cb_pi (fun y w' => y = sr_saw A p x ∧ cc_I w' (sA_saw A p x) z ∧ cb_M1 w w')) := cb_pub hC (k_saw0 (cb_dp w) A z hI (hC.dp hI) (cb_dpL w) p x)
theorem c_X11_cellsOf (w : cb_W) (A : ca_A) (z : Int32) (hI : ca_I A) (hM : cm_I w A z) (p : Nat) (hp : p < 8) : cb_Pu yX11_cellsOf cX11_cellsOf 5 (some .int) 0 0 [.inr (some 1000), .inl (nI p)] w (nI (fb_ct (ca_so A p) 64)) := by
  have l := hI.1
  have q0 : w.2.1 1000 0 = nI (A 0 0) := cm_at hM 0 0 rfl (by omega)
  have q1 : w.2.1 1000 1 = nI (A 0 1) := cm_at hM 0 1 rfl (by omega)
  refine cb_con (by decide) (Nat.le_of_ble_eq_true rfl) (fun κ O Rt hnm => ?_)
  show cb_X κ w 0 0 0 [some (.inr (some 1000)), some (.inl (nI p)), none, none, none] []
  refine cb_iconst (pc := 0) (v := 0) O dX11_cellsOf_0 (by decide) ?_
  refine cb_istore_n (pc := 1) O dX11_cellsOf_1 (by decide) ?_
  dsimp only [List.set]
  refine cb_iconst (pc := 2) (v := 0) O dX11_cellsOf_2 (by decide) ?_
  refine cb_istore_n (pc := 3) O dX11_cellsOf_3 (by decide) ?_
  dsimp only [List.set]
  have L_4 : ∀ (n : Nat) (r : Nat) (x4 : Option cb_V), r ≤ A 0 0 → A 0 0 + 1 ≤ r + n → cb_X κ w 0 0 4 [some (.inr (some 1000)), some (.inl (nI p)), some (.inl (nI (fb_ct (ca_so A p) (8 * r)))), some (.inl (nI r)), x4] [] := by
    intro n
    induction n with
    | zero =>
      intro r x4 hr hn
      exact absurd hn (by omega)
    | succ n ih_4 =>
      intro r x4 hr hn
      refine cb_iload_n (pc := 4) O dX11_cellsOf_4 rfl ?_
      refine cb_aload_n (pc := 5) O dX11_cellsOf_5 rfl ?_
      refine cb_getI (pc := 6) O fl_X11_94 rfl rfl dX11_cellsOf_6 (hM.1.1 _ rfl) ?_
      refine cb_topv _ q0 ?_
      refine cb_icmp_ge (pc := 9) O 60 dX11_cellsOf_9 (by decide) (fun c_9 => ?_) (fun c_9 => ?_)
      · skip
        rw [nI_leI (by omega) (by omega)] at c_9
        have e : r = A 0 0 := by omega
        refine cb_iload_n (pc := 60) O dX11_cellsOf_60 rfl ?_
        exact cb_iret (pc := 61) O Rt rfl (Nat.le_of_ble_eq_true rfl) (Nat.le_of_ble_eq_true rfl) dX11_cellsOf_61 ⟨by rw [cu_eqv (p := ca_so A p) (m := 8 * r) (m' := 64) (fun k hk => by
          have h9 := (of_decide_eq_true hk).1
          have h91 := h9.1
          have h92 := h9.2
          omega)], rfl⟩
      · skip
        rw [nI_leI (by omega) (by omega)] at c_9
        refine cb_iconst (pc := 12) (v := 0) O dX11_cellsOf_12 (by decide) ?_
        refine cb_istore (pc := 13) O dX11_cellsOf_13 (by decide) ?_
        dsimp only [List.set]
        have L_15 : ∀ (n : Nat) (q : Nat), q ≤ A 0 1 → A 0 1 + 1 ≤ q + n → cb_X κ w 0 0 15 [some (.inr (some 1000)), some (.inl (nI p)), some (.inl (nI (fb_ct (ca_so A p) (8 * r + q)))), some (.inl (nI r)), some (.inl (nI q))] [] := by
          intro n
          induction n with
          | zero =>
            intro q hq hn
            exact absurd hn (by omega)
          | succ n ih_15 =>
            intro q hq hn
            refine cb_iload (pc := 15) O dX11_cellsOf_15 rfl ?_
            refine cb_aload_n (pc := 17) O dX11_cellsOf_17 rfl ?_
            refine cb_getI (pc := 18) O fl_X11_97 rfl rfl dX11_cellsOf_18 (hM.1.1 _ rfl) ?_
            refine cb_topv _ q1 ?_
            refine cb_icmp_ge (pc := 21) O 54 dX11_cellsOf_21 (by decide) (fun c_21 => ?_) (fun c_21 => ?_)
            · skip
              rw [nI_leI (by omega) (by omega)] at c_21
              have e : q = A 0 1 := by omega
              refine cb_iinc (pc := 54) O (nI (r + 1)) dX11_cellsOf_54 rfl (by decide) (ci_inc r) ?_
              dsimp only [List.set]
              refine cb_goto (pc := 57) O 4 dX11_cellsOf_57 (by decide) ?_
              rw [cu_eqv (p := ca_so A p) (m := 8 * r + q) (m' := 8 * (r + 1)) (fun k hk => by
                have h9 := (of_decide_eq_true hk).1
                have h91 := h9.1
                have h92 := h9.2
                omega)]
              exact ih_4 (r + 1) _ (by omega) (by omega)
            · skip
              rw [nI_leI (by omega) (by omega)] at c_21
              have ho : ca_o A (8 * r + q) := ⟨by omega, by omega⟩
              have e11 : w.2.1 1011 (8 * r + q) = nI (A 11 (8 * r + q)) := cm_at hM 11 _ (by simp [ca_R]; omega) (by omega)
              have l11 := hI.2.2.2.1.2.1 (8 * r + q)
              refine cb_iload_n (pc := 24) O dX11_cellsOf_24 rfl ?_
              refine cb_aload_n (pc := 25) O dX11_cellsOf_25 rfl ?_
              refine cb_getR (pc := 26) O fl_X11_26 rfl rfl dX11_cellsOf_26 (hM.1.1 _ rfl) (hM.1.2 _ _ _ rfl) ?_
              refine cb_bipush (pc := 29) (v := 8) O dX11_cellsOf_29 (by decide) ?_
              refine cb_iload_n (pc := 31) O dX11_cellsOf_31 rfl ?_
              refine cb_imul (pc := 32) O dX11_cellsOf_32 ?_
              refine cb_iload (pc := 33) O dX11_cellsOf_33 rfl ?_
              refine cb_iadd (pc := 35) O dX11_cellsOf_35 ?_
              refine cb_topv _ (ci_m8 r q) ?_
              refine cb_iald (pc := 36) O (8 * r + q) rfl dX11_cellsOf_36 (by decide) (hM.1.1 _ rfl) rfl (by omega) ?_
              refine cb_topv _ e11 ?_
              refine cb_iload_n (pc := 37) O dX11_cellsOf_37 rfl ?_
              refine cb_icmp_ne (pc := 38) O 45 dX11_cellsOf_38 (by decide) (fun c_38 => ?_) (fun c_38 => ?_)
              · skip
                refine cb_iconst (pc := 45) (v := 0) O dX11_cellsOf_45 (by decide) ?_
                refine cb_iadd (pc := 46) O dX11_cellsOf_46 ?_
                refine cb_topv (nI (fb_ct (ca_so A p) (8 * r + (q + 1)))) (by
                  rw [← Nat.add_assoc, ca_soS, ← nI_add]
                  congr 1
                  rw [nI_eq (by omega) (by omega)] at c_38
                  first
                  | (rw [if_neg (fun h => c_38 h.2)]; rfl)
                  | (rw [if_pos ⟨ho, c_38⟩]; rfl)) ?_
                refine cb_istore_n (pc := 47) O dX11_cellsOf_47 (by decide) ?_
                dsimp only [List.set]
                refine cb_iinc (pc := 48) O (nI (q + 1)) dX11_cellsOf_48 rfl (by decide) (ci_inc q) ?_
                dsimp only [List.set]
                refine cb_goto (pc := 51) O 15 dX11_cellsOf_51 (by decide) ?_
                exact ih_15 (q + 1) (by omega) (by omega)
              · skip
                refine cb_iconst (pc := 41) (v := 1) O dX11_cellsOf_41 (by decide) ?_
                refine cb_goto (pc := 42) O 46 dX11_cellsOf_42 (by decide) ?_
                refine cb_iadd (pc := 46) O dX11_cellsOf_46 ?_
                refine cb_topv (nI (fb_ct (ca_so A p) (8 * r + (q + 1)))) (by
                  rw [← Nat.add_assoc, ca_soS, ← nI_add]
                  congr 1
                  rw [nI_eq (by omega) (by omega)] at c_38
                  first
                  | (rw [if_neg (fun h => c_38 h.2)]; rfl)
                  | (rw [if_pos ⟨ho, c_38⟩]; rfl)) ?_
                refine cb_istore_n (pc := 47) O dX11_cellsOf_47 (by decide) ?_
                dsimp only [List.set]
                refine cb_iinc (pc := 48) O (nI (q + 1)) dX11_cellsOf_48 rfl (by decide) (ci_inc q) ?_
                dsimp only [List.set]
                refine cb_goto (pc := 51) O 15 dX11_cellsOf_51 (by decide) ?_
                exact ih_15 (q + 1) (by omega) (by omega)
        exact L_15 (A 0 1 + 1) 0 (by omega) (by omega)
  exact L_4 (A 0 0 + 1) 0 _ (by omega) (by omega)

theorem m_saw (w : cb_W) (A : ca_A) (z : Int32) (hI : ca_I A) (hM : cm_I w A z) (p x : Int32) : cb_Con yX11_saw cX11_saw 6 (some .int) 1 24 0 0 (fun _ => true) [.inr (some 1000), .inl p, .inl x] w (cb_pi (fun y w' => y = sr_saw A p x ∧ cm_I w' (sA_saw A p x) z ∧ cb_C1 w w')) := by
  refine cb_con (by decide) (Nat.le_of_ble_eq_true rfl) (fun κ O Rt hnm => ?_)
  show cb_X κ w 0 0 0 [some (.inr (some 1000)), some (.inl p), some (.inl x), none, none, none] []
  refine cb_aload_n (pc := 0) O dX11_saw_0 rfl ?_
  refine cb_iload_n (pc := 1) O dX11_saw_1 rfl ?_
  refine cb_cVp (pc := 2) O (c_X11_isPiece w A z hI hM p) my_X11_isPiece mi_X11_isPiece mx_X11_isPiece ml_X11_135 dX11_saw_2 rfl ct_11 rfl rfl rfl ⟨(Nat.le_of_ble_eq_true rfl), (Nat.le_of_ble_eq_true rfl)⟩ (Nat.le_of_ble_eq_true rfl) rfl ⟨(Nat.le_of_ble_eq_true rfl), (Nat.le_of_ble_eq_true rfl)⟩ (hM.1.1 _ rfl) ?_
  refine cb_ifp_eq (pc := 5) O 16 dX11_saw_5 (by decide) (fun c_5 => ?_) (fun c_5 => ?_)
  · skip
    refine cb_iconst (pc := 16) (v := (-1)) O dX11_saw_16 (by decide) ?_
    exact cb_iret (pc := 17) O Rt rfl (Nat.le_of_ble_eq_true rfl) (Nat.le_of_ble_eq_true rfl) dX11_saw_17 (by
      have hv : ¬ sv_saw A p x := by
        intro h
        first | exact c_5 h.1 | exact c_13 h.2
      first
      | exact ⟨by rw [sr_saw, if_neg hv], by rw [sA_saw, if_neg (fun h => hv h.1)]; exact hM2, hC2⟩
      | exact ⟨by rw [sr_saw, if_neg hv], by rw [sA_saw, if_neg (fun h => hv h.1)]; exact hM, cb_C1.rfl'⟩)
  · skip
    refine cb_aload_n (pc := 8) O dX11_saw_8 rfl ?_
    refine cb_iload_n (pc := 9) O dX11_saw_9 rfl ?_
    refine cb_cVi (pc := 10) O (c_X11_takeCells w A z hI hM x) my_X11_takeCells mi_X11_takeCells mx_X11_takeCells ml_X11_132 dX11_saw_10 rfl ct_11 rfl rfl rfl ⟨(Nat.le_of_ble_eq_true rfl), (Nat.le_of_ble_eq_true rfl)⟩ (Nat.le_of_ble_eq_true rfl) rfl ⟨(Nat.le_of_ble_eq_true rfl), (Nat.le_of_ble_eq_true rfl)⟩ (fun _ _ => rfl) (hM.1.1 _ rfl) (fun x_10 w_10 hp_10 => ?_)
    obtain ⟨ey, hM2, hC2, hF⟩ := hp_10
    subst ey
    refine cb_ifp_ne (pc := 13) O 18 dX11_saw_13 (by decide) (fun c_13 => ?_) (fun c_13 => ?_)
    · skip
      have hv : sv_saw A p x := ⟨c_5, c_13⟩
      have hbx := fb_rng x
      obtain ⟨j, hj, e⟩ : ∃ j : Nat, j < 2147483648 ∧ x = nI j := ⟨x.toInt.toNat, by omega, by rw [ci_eq, ci_n (by have := c_13.1; omega)]; have := c_13.1; omega⟩
      subst e
      obtain ⟨f0, f1, f2, f3⟩ := hF c_13
      rw [ci_tn hj] at f0 f1 f2 f3
      have hrv : ca_rv A j := by
        have := c_13.2
        rw [ci_tn hj] at this
        exact this
      have l := hI.1
      obtain ⟨r1, r2, r3, r4⟩ := id hrv
      obtain ⟨a, ea⟩ : ∃ a, a = j / 512 := ⟨_, rfl⟩
      obtain ⟨b, eb⟩ : ∃ b, b = j / 64 % 8 := ⟨_, rfl⟩
      obtain ⟨c, ec⟩ : ∃ c, c = j / 8 % 8 := ⟨_, rfl⟩
      obtain ⟨d, ed⟩ : ∃ d, d = j % 8 := ⟨_, rfl⟩
      rw [← ea] at f0 r1
      rw [← eb] at f1 r1 r2
      rw [← ec] at f2 r3
      rw [← ed] at f3 r3 r4
      have hin : ∀ k, ca_in j k ↔ (a ≤ k / 8 ∧ k / 8 ≤ b) ∧ (c ≤ k % 8 ∧ k % 8 ≤ d) := fun k => by
        unfold ca_in
        rw [ea, eb, ec, ed]
      obtain ⟨p, hp, rfl⟩ := ci_xn c_5 (by omega)
      refine cb_iconst (pc := 18) (v := 0) O dX11_saw_18 (by decide) ?_
      refine cb_istore_n (pc := 19) O dX11_saw_19 (by decide) ?_
      dsimp only [List.set]
      refine cb_aload_n (pc := 20) O dX11_saw_20 rfl ?_
      refine cb_getI (pc := 21) O fl_X11_120 rfl rfl dX11_saw_21 (hM2.1.1 _ rfl) ?_
      refine cb_topv (nI a) f0 ?_
      refine cb_istore (pc := 24) O dX11_saw_24 (by decide) ?_
      dsimp only [List.set]
      have L_26 : ∀ (n : Nat) (r : Nat) (x5 : Option cb_V), a ≤ r → r ≤ b + 1 → b + 2 ≤ r + n → cb_X κ w_10 0 0 26 [some (.inr (some 1000)), some (.inl (nI p)), some (.inl (nI j)), some (.inl (nI (fb_ct (ca_si A j p) (8 * r + c)))), some (.inl (nI r)), x5] [] := by
        intro n
        induction n with
        | zero =>
          intro r x5 hr1 hr2 hn
          exact absurd hn (by omega)
        | succ n ih_26 =>
          intro r x5 hr1 hr2 hn
          refine cb_iload (pc := 26) O dX11_saw_26 rfl ?_
          refine cb_aload_n (pc := 28) O dX11_saw_28 rfl ?_
          refine cb_getI (pc := 29) O fl_X11_123 rfl rfl dX11_saw_29 (hM2.1.1 _ rfl) ?_
          refine cb_topv (nI b) f1 ?_
          refine cb_icmp_gt (pc := 32) O 87 dX11_saw_32 (by decide) (fun c_32 => ?_) (fun c_32 => ?_)
          · skip
            rw [nI_ltI (by omega) (by omega)] at c_32
            have er : r = b + 1 := by omega
            subst er
            rw [cu_eqv (p := ca_si A j p) (m := 8 * (b + 1) + c) (m' := 64) (fun k hk => by
              have h9 := (hin k).mp (of_decide_eq_true hk).1
              omega)]
            refine cb_iload_n (pc := 87) O dX11_saw_87 rfl ?_
            refine cb_if_eq (pc := 88) O 100 dX11_saw_88 (by decide) (fun c_88 => ?_) (fun c_88 => ?_)
            · skip
              refine cb_bipush (pc := 100) (v := (-4)) O dX11_saw_100 (by decide) ?_
              exact cb_iret (pc := 102) O Rt rfl (Nat.le_of_ble_eq_true rfl) (Nat.le_of_ble_eq_true rfl) dX11_saw_102 (by
                have hnk : ¬ sw_ok A j p := fun h => (sw_iff hrv).mp h (by
                  have b1 := fb_ct_le (ca_si A j p) 64
                  have b2 := fb_ct_le (ca_so A p) 64
                  first
                  | (left; rw [show (0 : Int32) = nI 0 from rfl, nI_eq (by omega) (by omega)] at c_88; exact c_88)
                  | (right; rw [nI_eq (by omega) (by omega)] at c_97; exact c_97))
                exact ⟨by rw [sr_saw, if_pos hv, ci_tn hj, ci_tn (by omega), if_neg hnk], by rw [sA_saw, if_neg (fun h => hnk (by have := h.2.1; rw [ci_tn hj, ci_tn (by omega)] at this; exact this))]; exact hM2, hC2⟩)
            · skip
              refine cb_iload_n (pc := 91) O dX11_saw_91 rfl ?_
              refine cb_aload_n (pc := 92) O dX11_saw_92 rfl ?_
              refine cb_iload_n (pc := 93) O dX11_saw_93 rfl ?_
              refine cb_cVp (pc := 94) O (c_X11_cellsOf w_10 A z hI hM2 p (by omega)) my_X11_cellsOf mi_X11_cellsOf mx_X11_cellsOf ml_X11_138 dX11_saw_94 rfl ct_11 rfl rfl rfl ⟨(Nat.le_of_ble_eq_true rfl), (Nat.le_of_ble_eq_true rfl)⟩ (Nat.le_of_ble_eq_true rfl) (cb_kpT _ _) ⟨(Nat.le_of_ble_eq_true rfl), (Nat.le_of_ble_eq_true rfl)⟩ (hM2.1.1 _ rfl) ?_
              refine cb_icmp_ne (pc := 97) O 103 dX11_saw_97 (by decide) (fun c_97 => ?_) (fun c_97 => ?_)
              · skip
                have hok : sw_ok A j p := (sw_iff hrv).mpr (by
                  have b1 := fb_ct_le (ca_si A j p) 64
                  have b2 := fb_ct_le (ca_so A p) 64
                  rw [show (0 : Int32) = nI 0 from rfl, nI_eq (by omega) (by omega)] at c_88
                  rw [nI_eq (by omega) (by omega)] at c_97
                  exact fun h => h.elim c_88 c_97)
                refine cb_aload_n (pc := 103) O dX11_saw_103 rfl ?_
                refine cb_getI (pc := 104) O fl_X11_100 rfl rfl dX11_saw_104 (hM2.1.1 _ rfl) ?_
                refine cb_topv (nI (A 0 12)) (cm_at hM2 0 12 rfl (by omega)) ?_
                refine cb_bipush (pc := 107) (v := 8) O dX11_saw_107 (by decide) ?_
                refine cb_icmp_ne (pc := 109) O 115 dX11_saw_109 (by decide) (fun c_109 => ?_) (fun c_109 => ?_)
                · skip
                  rw [show (8 : Int32) = nI 8 from rfl, nI_eq (by omega) (by omega)] at c_109
                  have h8 : A 0 12 < 8 := by omega
                  refine cb_aload_n (pc := 115) O dX11_saw_115 rfl ?_
                  refine cb_getI (pc := 116) O fl_X11_120 rfl rfl dX11_saw_116 (hM2.1.1 _ rfl) ?_
                  refine cb_topv (nI a) f0 ?_
                  refine cb_istore (pc := 119) O dX11_saw_119 (by decide) ?_
                  dsimp only [List.set]
                  rw [← cb_pz0 w_10 1011 (ca_si A j p) (nI (A 0 12)) (m := 8 * a + c) (fun k hk => by
                    have h9 := (hin k).mp (of_decide_eq_true hk).1
                    omega)]
                  have L_121 : ∀ (n : Nat) (r : Nat) (x5 : Option cb_V), a ≤ r → r ≤ b + 1 → b + 2 ≤ r + n → cb_X κ (cb_pz w_10 1011 (ca_si A j p) (8 * r + c) (nI (A 0 12))) 0 0 121 [some (.inr (some 1000)), some (.inl (nI p)), some (.inl (nI j)), some (.inl (nI (fb_ct (ca_si A j p) 64))), some (.inl (nI r)), x5] [] := by
                    intro n
                    induction n with
                    | zero =>
                      intro r x5 hr1 hr2 hn
                      exact absurd hn (by omega)
                    | succ n ih_121 =>
                      intro r x5 hr1 hr2 hn
                      refine cb_iload (pc := 121) O dX11_saw_121 rfl ?_
                      refine cb_aload_n (pc := 123) O dX11_saw_123 rfl ?_
                      refine cb_getI (pc := 124) O fl_X11_123 rfl rfl dX11_saw_124 (hM2.1.1 _ rfl) ?_
                      refine cb_topv (nI b) f1 ?_
                      refine cb_icmp_gt (pc := 127) O 191 dX11_saw_127 (by decide) (fun c_127 => ?_) (fun c_127 => ?_)
                      · skip
                        rw [nI_ltI (by omega) (by omega)] at c_127
                        have er : r = b + 1 := by omega
                        subst er
                        refine cb_aload_n (pc := 191) O dX11_saw_191 rfl ?_
                        refine cb_getR (pc := 192) O fl_X11_29 rfl rfl dX11_saw_192 (hM2.1.1 _ rfl) (hM2.1.2 _ _ _ rfl) ?_
                        refine cb_aload_n (pc := 195) O dX11_saw_195 rfl ?_
                        refine cb_getI (pc := 196) O fl_X11_100 rfl rfl dX11_saw_196 (hM2.1.1 _ rfl) ?_
                        refine cb_topv (nI (A 0 12)) (cm_at hM2 0 12 rfl (by omega)) ?_
                        refine cb_aload_n (pc := 199) O dX11_saw_199 rfl ?_
                        refine cb_getR (pc := 200) O fl_X11_29 rfl rfl dX11_saw_200 (hM2.1.1 _ rfl) (hM2.1.2 _ _ _ rfl) ?_
                        refine cb_iload_n (pc := 203) O dX11_saw_203 rfl ?_
                        refine cb_zald (pc := 204) O p rfl dX11_saw_204 (by decide) (hM2.1.1 _ rfl) rfl (by omega) ?_
                        refine cb_topv (nI (A 12 p)) (cm_at hM2 12 p (by simp [ca_R]; omega) (by omega)) ?_
                        refine cb_zast (pc := 205) O (A 0 12) rfl dX11_saw_205 (by decide) (hM2.1.1 _ rfl) rfl (by omega) (by
                          have l12 := hI.2.2.2.1.2.2.2 p
                          rcases (show A 12 p = 0 ∨ A 12 p = 1 by omega) with e | e <;> rw [e] <;> rfl) ?_
                        refine cb_aload_n (pc := 206) O dX11_saw_206 rfl ?_
                        refine cb_dup (pc := 207) O dX11_saw_207 ?_
                        refine cb_getI (pc := 208) O fl_X11_100 rfl rfl dX11_saw_208 (hM2.1.1 _ rfl) ?_
                        refine cb_iconst (pc := 211) (v := 1) O dX11_saw_211 (by decide) ?_
                        refine cb_iadd (pc := 212) O dX11_saw_212 ?_
                        refine cb_topv (nI (A 0 12 + 1)) (by
                          refine Eq.trans ?_ (ci_inc _)
                          congr 1
                          exact cm_at hM2 0 12 rfl (by omega)) ?_
                        refine cb_putIc (pc := 213) O fl_X11_100 (Or.inl rfl) rfl rfl dX11_saw_213 rfl rfl (hM2.1.1 _ rfl) ?_
                        refine cb_aload_n (pc := 216) O dX11_saw_216 rfl ?_
                        refine cb_getI (pc := 217) O fl_X11_100 rfl rfl dX11_saw_217 (hM2.1.1 _ rfl) ?_
                        refine cb_iconst (pc := 220) (v := 1) O dX11_saw_220 (by decide) ?_
                        refine cb_isub (pc := 221) O dX11_saw_221 ?_
                        refine cb_topv (nI (A 0 12)) (by
                          show nI (A 0 12 + 1) - 1 = _
                          rw [← nI_add]
                          exact Int32.add_sub_cancel _ _) ?_
                        exact cb_iret (pc := 222) O Rt rfl (Nat.le_of_ble_eq_true rfl) (Nat.le_of_ble_eq_true rfl) dX11_saw_222 (by
                          refine ⟨by rw [sr_saw, if_pos hv, ci_tn hj, ci_tn (by omega), if_pos hok, if_neg c_109], ?_, ((hC2.pz (by omega)).um (by omega)).um (by omega)⟩
                          rw [sA_saw, if_pos ⟨hv, by rw [ci_tn hj, ci_tn (by omega)]; exact hok, c_109⟩, ci_tn hj, ci_tn (by omega)]
                          have h9 := ((hM2.pz (k := 11) (a := A 0 12) (P := ca_si A j p) (N := 8 * (b + 1) + c) (v := nI (A 0 12)) (by decide) (fun i _ => rfl)).um (k := 12) (i := A 0 12) (a := A 12 p) (by omega) (nI (A 12 p)) (fun _ => rfl)).um (k := 0) (i := 12) (a := A 0 12 + 1) (by omega) (nI (A 0 12 + 1)) (fun _ => rfl)
                          rw [show ca_sw A j p = cb_u2 (cb_u2 (fun q i => if q = 11 ∧ ca_si A j p i = true ∧ i < 8 * (b + 1) + c then A 0 12 else A q i) 12 (A 0 12) (A 12 p)) 0 12 (A 0 12 + 1) from by
                            funext q i
                            unfold ca_sw
                            by_cases e1 : q = 0 ∧ i = 12
                            · obtain ⟨rfl, rfl⟩ := e1
                              rw [cb_u2s, if_neg (by omega), if_neg (by omega), if_pos ⟨rfl, rfl⟩]
                            · rw [cb_u2n (by omega), if_neg (c := q = 0 ∧ i = 12) e1]
                              by_cases e2 : q = 12 ∧ i = A 0 12
                              · obtain ⟨rfl, rfl⟩ := e2
                                rw [cb_u2s, if_neg (by omega), if_pos ⟨rfl, rfl⟩]
                              · rw [cb_u2n (by omega), if_neg (c := q = 12 ∧ i = A 0 12) e2]
                                refine ci_if ⟨fun h => ⟨h.1, decide_eq_true h.2, by have := (hin i).mp h.2.1; omega⟩, fun h => ⟨h.1, of_decide_eq_true h.2.1⟩⟩]
                          exact h9)
                      · skip
                        rw [nI_ltI (by omega) (by omega)] at c_127
                        refine cb_aload_n (pc := 130) O dX11_saw_130 rfl ?_
                        refine cb_getI (pc := 131) O fl_X11_126 rfl rfl dX11_saw_131 (hM2.1.1 _ rfl) ?_
                        refine cb_topv (nI c) f2 ?_
                        refine cb_istore (pc := 134) O dX11_saw_134 (by decide) ?_
                        dsimp only [List.set]
                        have L_136 : ∀ (n : Nat) (q : Nat), c ≤ q → q ≤ d + 1 → d + 2 ≤ q + n → cb_X κ (cb_pz w_10 1011 (ca_si A j p) (8 * r + q) (nI (A 0 12))) 0 0 136 [some (.inr (some 1000)), some (.inl (nI p)), some (.inl (nI j)), some (.inl (nI (fb_ct (ca_si A j p) 64))), some (.inl (nI r)), some (.inl (nI q))] [] := by
                          intro n
                          induction n with
                          | zero =>
                            intro q hq1 hq2 hn
                            exact absurd hn (by omega)
                          | succ n ih_136 =>
                            intro q hq1 hq2 hn
                            refine cb_iload (pc := 136) O dX11_saw_136 rfl ?_
                            refine cb_aload_n (pc := 138) O dX11_saw_138 rfl ?_
                            refine cb_getI (pc := 139) O fl_X11_129 rfl rfl dX11_saw_139 (hM2.1.1 _ rfl) ?_
                            refine cb_topv (nI d) f3 ?_
                            refine cb_icmp_gt (pc := 142) O 185 dX11_saw_142 (by decide) (fun c_142 => ?_) (fun c_142 => ?_)
                            · skip
                              rw [nI_ltI (by omega) (by omega)] at c_142
                              have eq : q = d + 1 := by omega
                              subst eq
                              refine cb_iinc (pc := 185) O (nI (r + 1)) dX11_saw_185 rfl (by decide) (ci_inc r) ?_
                              dsimp only [List.set]
                              refine cb_goto (pc := 188) O 121 dX11_saw_188 (by decide) ?_
                              rw [cb_pzE w_10 1011 _ _ (m := 8 * r + (d + 1)) (m' := 8 * (r + 1) + c) (fun k hk => by
                                have h9 := (hin k).mp (of_decide_eq_true hk).1
                                omega)]
                              exact ih_121 (r + 1) _ (by omega) (by omega) (by omega)
                            · skip
                              rw [nI_ltI (by omega) (by omega)] at c_142
                              have hk64 : 8 * r + q < 64 := by omega
                              have hik : ca_in j (8 * r + q) := (hin _).mpr (by omega)
                              have e11 : w_10.2.1 1011 (8 * r + q) = nI (A 11 (8 * r + q)) := cm_at hM2 11 _ (by simp [ca_R]; omega) (by omega)
                              have l11 := hI.2.2.2.1.2.1 (8 * r + q)
                              have e11z : (cb_pz w_10 1011 (ca_si A j p) (8 * r + q) (nI (A 0 12))).2.1 1011 (8 * r + q) = nI (A 11 (8 * r + q)) := by
                                refine (if_neg (fun h => by have := h.2.2; omega)).trans e11
                              refine cb_aload_n (pc := 145) O dX11_saw_145 rfl ?_
                              refine cb_getR (pc := 146) O fl_X11_26 rfl rfl dX11_saw_146 (hM2.1.1 _ rfl) (hM2.1.2 _ _ _ rfl) ?_
                              refine cb_bipush (pc := 149) (v := 8) O dX11_saw_149 (by decide) ?_
                              refine cb_iload (pc := 151) O dX11_saw_151 rfl ?_
                              refine cb_imul (pc := 153) O dX11_saw_153 ?_
                              refine cb_iload (pc := 154) O dX11_saw_154 rfl ?_
                              refine cb_iadd (pc := 156) O dX11_saw_156 ?_
                              refine cb_topv _ (ci_m8 r q) ?_
                              refine cb_iald (pc := 157) O (8 * r + q) rfl dX11_saw_157 (by decide) (hM2.1.1 _ rfl) rfl (by omega) ?_
                              refine cb_topv _ e11z ?_
                              refine cb_iload_n (pc := 158) O dX11_saw_158 rfl ?_
                              refine cb_icmp_ne (pc := 159) O 179 dX11_saw_159 (by decide) (fun c_159 => ?_) (fun c_159 => ?_)
                              · skip
                                rw [nI_eq (by omega) (by omega)] at c_159
                                have hno : ¬ ca_si A j p (8 * r + q) = true := fun h => c_159 (of_decide_eq_true h).2
                                refine cb_iinc (pc := 179) O (nI (q + 1)) dX11_saw_179 rfl (by decide) (ci_inc q) ?_
                                dsimp only [List.set]
                                refine cb_goto (pc := 182) O 136 dX11_saw_182 (by decide) ?_
                                first
                                | (rw [cb_pzS _ _ _ _ hyes]; exact ih_136 (q + 1) (by omega) (by omega) (by omega))
                                | (rw [cb_pzN _ _ _ _ hno]; exact ih_136 (q + 1) (by omega) (by omega) (by omega))
                              · skip
                                rw [nI_eq (by omega) (by omega)] at c_159
                                have hyes : ca_si A j p (8 * r + q) = true := decide_eq_true ⟨hik, c_159⟩
                                refine cb_aload_n (pc := 162) O dX11_saw_162 rfl ?_
                                refine cb_getR (pc := 163) O fl_X11_26 rfl rfl dX11_saw_163 (hM2.1.1 _ rfl) (hM2.1.2 _ _ _ rfl) ?_
                                refine cb_bipush (pc := 166) (v := 8) O dX11_saw_166 (by decide) ?_
                                refine cb_iload (pc := 168) O dX11_saw_168 rfl ?_
                                refine cb_imul (pc := 170) O dX11_saw_170 ?_
                                refine cb_iload (pc := 171) O dX11_saw_171 rfl ?_
                                refine cb_iadd (pc := 173) O dX11_saw_173 ?_
                                refine cb_topv _ (ci_m8 r q) ?_
                                refine cb_aload_n (pc := 174) O dX11_saw_174 rfl ?_
                                refine cb_getI (pc := 175) O fl_X11_100 rfl rfl dX11_saw_175 (hM2.1.1 _ rfl) ?_
                                refine cb_topv (nI (A 0 12)) (cm_at hM2 0 12 rfl (by omega)) ?_
                                refine cb_iast (pc := 178) O (8 * r + q) rfl dX11_saw_178 (by decide) (hM2.1.1 _ rfl) rfl (by omega) ?_
                                refine cb_iinc (pc := 179) O (nI (q + 1)) dX11_saw_179 rfl (by decide) (ci_inc q) ?_
                                dsimp only [List.set]
                                refine cb_goto (pc := 182) O 136 dX11_saw_182 (by decide) ?_
                                first
                                | (rw [cb_pzS _ _ _ _ hyes]; exact ih_136 (q + 1) (by omega) (by omega) (by omega))
                                | (rw [cb_pzN _ _ _ _ hno]; exact ih_136 (q + 1) (by omega) (by omega) (by omega))
                        exact L_136 (d + 2) c (by omega) (by omega) (by omega)
                  exact L_121 (b + 2) a _ (by omega) (by omega) (by omega)
                · skip
                  rw [show (8 : Int32) = nI 8 from rfl, nI_eq (by omega) (by omega)] at c_109
                  refine cb_bipush (pc := 112) (v := (-2)) O dX11_saw_112 (by decide) ?_
                  exact cb_iret (pc := 114) O Rt rfl (Nat.le_of_ble_eq_true rfl) (Nat.le_of_ble_eq_true rfl) dX11_saw_114 (by
                    exact ⟨by rw [sr_saw, if_pos hv, ci_tn hj, ci_tn (by omega), if_pos hok, if_pos c_109], by rw [sA_saw, if_neg (fun h => h.2.2 c_109)]; exact hM2, hC2⟩)
              · skip
                refine cb_bipush (pc := 100) (v := (-4)) O dX11_saw_100 (by decide) ?_
                exact cb_iret (pc := 102) O Rt rfl (Nat.le_of_ble_eq_true rfl) (Nat.le_of_ble_eq_true rfl) dX11_saw_102 (by
                  have hnk : ¬ sw_ok A j p := fun h => (sw_iff hrv).mp h (by
                    have b1 := fb_ct_le (ca_si A j p) 64
                    have b2 := fb_ct_le (ca_so A p) 64
                    first
                    | (left; rw [show (0 : Int32) = nI 0 from rfl, nI_eq (by omega) (by omega)] at c_88; exact c_88)
                    | (right; rw [nI_eq (by omega) (by omega)] at c_97; exact c_97))
                  exact ⟨by rw [sr_saw, if_pos hv, ci_tn hj, ci_tn (by omega), if_neg hnk], by rw [sA_saw, if_neg (fun h => hnk (by have := h.2.1; rw [ci_tn hj, ci_tn (by omega)] at this; exact this))]; exact hM2, hC2⟩)
          · skip
            rw [nI_ltI (by omega) (by omega)] at c_32
            refine cb_aload_n (pc := 35) O dX11_saw_35 rfl ?_
            refine cb_getI (pc := 36) O fl_X11_126 rfl rfl dX11_saw_36 (hM2.1.1 _ rfl) ?_
            refine cb_topv (nI c) f2 ?_
            refine cb_istore (pc := 39) O dX11_saw_39 (by decide) ?_
            dsimp only [List.set]
            have L_41 : ∀ (n : Nat) (q : Nat), c ≤ q → q ≤ d + 1 → d + 2 ≤ q + n → cb_X κ w_10 0 0 41 [some (.inr (some 1000)), some (.inl (nI p)), some (.inl (nI j)), some (.inl (nI (fb_ct (ca_si A j p) (8 * r + q)))), some (.inl (nI r)), some (.inl (nI q))] [] := by
              intro n
              induction n with
              | zero =>
                intro q hq1 hq2 hn
                exact absurd hn (by omega)
              | succ n ih_41 =>
                intro q hq1 hq2 hn
                refine cb_iload (pc := 41) O dX11_saw_41 rfl ?_
                refine cb_aload_n (pc := 43) O dX11_saw_43 rfl ?_
                refine cb_getI (pc := 44) O fl_X11_129 rfl rfl dX11_saw_44 (hM2.1.1 _ rfl) ?_
                refine cb_topv (nI d) f3 ?_
                refine cb_icmp_gt (pc := 47) O 81 dX11_saw_47 (by decide) (fun c_47 => ?_) (fun c_47 => ?_)
                · skip
                  rw [nI_ltI (by omega) (by omega)] at c_47
                  have eq : q = d + 1 := by omega
                  subst eq
                  refine cb_iinc (pc := 81) O (nI (r + 1)) dX11_saw_81 rfl (by decide) (ci_inc r) ?_
                  dsimp only [List.set]
                  refine cb_goto (pc := 84) O 26 dX11_saw_84 (by decide) ?_
                  rw [cu_eqv (p := ca_si A j p) (m := 8 * r + (d + 1)) (m' := 8 * (r + 1) + c) (fun k hk => by
                    have h9 := (hin k).mp (of_decide_eq_true hk).1
                    omega)]
                  exact ih_26 (r + 1) _ (by omega) (by omega) (by omega)
                · skip
                  rw [nI_ltI (by omega) (by omega)] at c_47
                  have hk64 : 8 * r + q < 64 := by omega
                  have hik : ca_in j (8 * r + q) := (hin _).mpr (by omega)
                  have e11 : w_10.2.1 1011 (8 * r + q) = nI (A 11 (8 * r + q)) := cm_at hM2 11 _ (by simp [ca_R]; omega) (by omega)
                  have l11 := hI.2.2.2.1.2.1 (8 * r + q)
                  refine cb_iload_n (pc := 50) O dX11_saw_50 rfl ?_
                  refine cb_aload_n (pc := 51) O dX11_saw_51 rfl ?_
                  refine cb_getR (pc := 52) O fl_X11_26 rfl rfl dX11_saw_52 (hM2.1.1 _ rfl) (hM2.1.2 _ _ _ rfl) ?_
                  refine cb_bipush (pc := 55) (v := 8) O dX11_saw_55 (by decide) ?_
                  refine cb_iload (pc := 57) O dX11_saw_57 rfl ?_
                  refine cb_imul (pc := 59) O dX11_saw_59 ?_
                  refine cb_iload (pc := 60) O dX11_saw_60 rfl ?_
                  refine cb_iadd (pc := 62) O dX11_saw_62 ?_
                  refine cb_topv _ (ci_m8 r q) ?_
                  refine cb_iald (pc := 63) O (8 * r + q) rfl dX11_saw_63 (by decide) (hM2.1.1 _ rfl) rfl (by omega) ?_
                  refine cb_topv _ e11 ?_
                  refine cb_iload_n (pc := 64) O dX11_saw_64 rfl ?_
                  refine cb_icmp_ne (pc := 65) O 72 dX11_saw_65 (by decide) (fun c_65 => ?_) (fun c_65 => ?_)
                  · skip
                    refine cb_iconst (pc := 72) (v := 0) O dX11_saw_72 (by decide) ?_
                    refine cb_iadd (pc := 73) O dX11_saw_73 ?_
                    refine cb_topv (nI (fb_ct (ca_si A j p) (8 * r + (q + 1)))) (by
                      rw [← Nat.add_assoc, ca_siS, ← nI_add]
                      congr 1
                      rw [nI_eq (by omega) (by omega)] at c_65
                      first
                      | (rw [if_neg (fun h => c_65 h.2)]; rfl)
                      | (rw [if_pos ⟨hik, c_65⟩]; rfl)) ?_
                    refine cb_istore_n (pc := 74) O dX11_saw_74 (by decide) ?_
                    dsimp only [List.set]
                    refine cb_iinc (pc := 75) O (nI (q + 1)) dX11_saw_75 rfl (by decide) (ci_inc q) ?_
                    dsimp only [List.set]
                    refine cb_goto (pc := 78) O 41 dX11_saw_78 (by decide) ?_
                    exact ih_41 (q + 1) (by omega) (by omega) (by omega)
                  · skip
                    refine cb_iconst (pc := 68) (v := 1) O dX11_saw_68 (by decide) ?_
                    refine cb_goto (pc := 69) O 73 dX11_saw_69 (by decide) ?_
                    refine cb_iadd (pc := 73) O dX11_saw_73 ?_
                    refine cb_topv (nI (fb_ct (ca_si A j p) (8 * r + (q + 1)))) (by
                      rw [← Nat.add_assoc, ca_siS, ← nI_add]
                      congr 1
                      rw [nI_eq (by omega) (by omega)] at c_65
                      first
                      | (rw [if_neg (fun h => c_65 h.2)]; rfl)
                      | (rw [if_pos ⟨hik, c_65⟩]; rfl)) ?_
                    refine cb_istore_n (pc := 74) O dX11_saw_74 (by decide) ?_
                    dsimp only [List.set]
                    refine cb_iinc (pc := 75) O (nI (q + 1)) dX11_saw_75 rfl (by decide) (ci_inc q) ?_
                    dsimp only [List.set]
                    refine cb_goto (pc := 78) O 41 dX11_saw_78 (by decide) ?_
                    exact ih_41 (q + 1) (by omega) (by omega) (by omega)
            exact L_41 (d + 2) c (by omega) (by omega) (by omega)
      refine cb_eqX (lv' := [some (.inr (some 1000)), some (.inl (nI p)), some (.inl (nI j)), some (.inl (nI (fb_ct (ca_si A j p) (8 * a + c)))), some (.inl (nI a)), _]) rfl rfl (by
        rw [cu_eqv (m := 8 * a + c) (m' := 0) (fun k hk => by
        have h9 := (hin k).mp (of_decide_eq_true hk).1
        omega)]
        rfl) rfl ?_
      exact L_26 (b + 2) a _ (by omega) (by omega) (by omega)
    · skip
      refine cb_iconst (pc := 16) (v := (-1)) O dX11_saw_16 (by decide) ?_
      exact cb_iret (pc := 17) O Rt rfl (Nat.le_of_ble_eq_true rfl) (Nat.le_of_ble_eq_true rfl) dX11_saw_17 (by
        have hv : ¬ sv_saw A p x := by
          intro h
          first | exact c_5 h.1 | exact c_13 h.2
        first
        | exact ⟨by rw [sr_saw, if_neg hv], by rw [sA_saw, if_neg (fun h => hv h.1)]; exact hM2, hC2⟩
        | exact ⟨by rw [sr_saw, if_neg hv], by rw [sA_saw, if_neg (fun h => hv h.1)]; exact hM, cb_C1.rfl'⟩)

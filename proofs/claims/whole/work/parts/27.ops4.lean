theorem cb_genw {κ : cb_K} {w : cb_W} {ca sl pc : Nat} {lv : List (Option cb_V)} {st : List cb_V} (k : ∀ w1, w1 = w → cb_X κ w1 ca sl pc lv st) : cb_X κ w ca sl pc lv st := k w rfl
theorem cb_eqw {κ : cb_K} {w : cb_W} {ca sl pc : Nat} {lv : List (Option cb_V)} {st : List cb_V} (w' : cb_W) (h : w = w') (k : cb_X κ w' ca sl pc lv st) : cb_X κ w ca sl pc lv st := by rw [h]; exact k
def cb_fl (w : cb_W) (r a b : Nat) (x : Int32) : cb_W := (w.1, fun q k => if q = r ∧ a ≤ k ∧ k < b then x else w.2.1 q k, w.2.2)
theorem cb_W.ext {w w' : cb_W} (h1 : w.1 = w'.1) (h2 : ∀ r k, w.2.1 r k = w'.2.1 r k) (h3 : w.2.2 = w'.2.2) : w = w' := by
  obtain ⟨a, b, c⟩ := w
  obtain ⟨a', b', c'⟩ := w'
  have e : b = b' := funext fun r => funext fun k => h2 r k
  subst e
  have e1 : a = a' := h1
  have e3 : c = c' := h3
  subst e1; subst e3
  rfl
theorem cb_fl0 (w : cb_W) (r a : Nat) (x : Int32) : cb_fl w r a a x = w := by
  refine cb_W.ext rfl (fun q k => ?_) rfl
  show (if q = r ∧ a ≤ k ∧ k < a then x else w.2.1 q k) = _
  rw [if_neg (by omega)]
theorem cb_flS (w : cb_W) (r a i : Nat) (x : Int32) (h : a ≤ i) : cb_um (cb_fl w r a i x) r i x = cb_fl w r a (i + 1) x := by
  refine cb_W.ext rfl (fun q k => ?_) rfl
  show cb_u2 (cb_fl w r a i x).2.1 r i x q k = (if q = r ∧ a ≤ k ∧ k < i + 1 then x else w.2.1 q k)
  by_cases e : q = r ∧ k = i
  · obtain ⟨rfl, rfl⟩ := e
    rw [cb_u2s, if_pos (by omega)]
  · rw [cb_u2n (by omega)]
    show (if q = r ∧ a ≤ k ∧ k < i then x else w.2.1 q k) = _
    by_cases e2 : q = r ∧ a ≤ k ∧ k < i
    · rw [if_pos e2, if_pos (by omega)]
    · rw [if_neg e2, if_neg (by omega)]
theorem ci_ile {a b : Nat} (h : a ≤ b) (hb : b < 2147483648) : nI a ≤ nI b := nI_le h hb
theorem c_fill (w : cb_W) (r n9 : Nat) (v : Int32) (hs : cb_sh r = (1, n9)) (hr : w.1 r = true) (hn9 : n9 ≤ 10000) : cb_Con yJ7_fill_53178 cJ7_fill_53178 4 none 0 0 0 0 (fun _ => true) [.inr (some r), .inl v] w (cb_pv (fun w' => w' = cb_fl w r 0 n9 v)) := by
  refine cb_con (by decide) (Nat.le_of_ble_eq_true rfl) (fun κ O Rt hnm => ?_)
  show cb_X κ w 0 0 0 [some (.inr (some r)), some (.inl v), none, none] []
  refine cb_iconst (pc := 0) (v := 0) O dJ7_fill_53178_0 (by decide) ?_
  refine cb_istore_n (pc := 1) O dJ7_fill_53178_1 (by decide) ?_
  dsimp only [List.set]
  refine cb_aload_n (pc := 2) O dJ7_fill_53178_2 rfl ?_
  refine cb_alen (pc := 3) O hs (by decide) (by decide) dJ7_fill_53178_3 hr ?_
  refine cb_istore_n (pc := 4) O dJ7_fill_53178_4 (by decide) ?_
  dsimp only [List.set]
  have L_5 : ∀ (n : Nat) (i : Nat), i ≤ n9 → n9 + 1 ≤ i + n → cb_X κ (cb_fl w r 0 i v) 0 0 5 [some (.inr (some r)), some (.inl v), some (.inl (nI i)), some (.inl (nI n9))] [] := by
    intro n
    induction n with
    | zero =>
      intro i hi hn
      exact absurd hn (by omega)
    | succ n ih_5 =>
      intro i hi hn
      refine cb_iload_n (pc := 5) O dJ7_fill_53178_5 rfl ?_
      refine cb_iload_n (pc := 6) O dJ7_fill_53178_6 rfl ?_
      refine cb_icmp_ge (pc := 7) O 20 dJ7_fill_53178_7 (by decide) (fun c_7 => ?_) (fun c_7 => ?_)
      · skip
        have e : i = n9 := by
          have := ci_ge c_7 (by omega) (by omega)
          omega
        subst e
        exact cb_vret (pc := 20) O Rt (Nat.le_of_ble_eq_true rfl) (Nat.le_of_ble_eq_true rfl) dJ7_fill_53178_20 rfl
      · skip
        have hlt : i < n9 := ci_nge c_7 (by omega) (by omega)
        refine cb_aload_n (pc := 10) O dJ7_fill_53178_10 rfl ?_
        refine cb_iload_n (pc := 11) O dJ7_fill_53178_11 rfl ?_
        refine cb_iload_n (pc := 12) O dJ7_fill_53178_12 rfl ?_
        refine cb_iast (pc := 13) O i hs dJ7_fill_53178_13 (by omega) hr rfl hlt ?_
        refine cb_iinc (pc := 14) O (nI (i + 1)) dJ7_fill_53178_14 rfl (by decide) (ci_inc i) ?_
        dsimp only [List.set]
        refine cb_goto (pc := 17) O 5 dJ7_fill_53178_17 (by decide) ?_
        rw [cb_flS _ _ _ _ _ (by omega)]
        exact ih_5 (i + 1) (by omega) (by omega)
  rw [← cb_fl0 w r 0 v]
  exact L_5 (n9 + 1) 0 (by omega) (by omega)

theorem c_rangeCheck (w : cb_W) (n a b : Nat) (h1 : a ≤ b) (h2 : b ≤ n) (h3 : n ≤ 10000) : cb_Con yJ7_rangeCheck_23922 cJ7_rangeCheck_23922 3 none 0 0 0 0 (fun _ => true) [.inl (nI n), .inl (nI a), .inl (nI b)] w (cb_pv (fun w' => w' = w)) := by
  refine cb_con (by decide) (Nat.le_of_ble_eq_true rfl) (fun κ O Rt hnm => ?_)
  show cb_X κ w 0 0 0 [some (.inl (nI n)), some (.inl (nI a)), some (.inl (nI b))] []
  refine cb_iload_n (pc := 0) O dJ7_rangeCheck_23922_0 rfl ?_
  refine cb_iload_n (pc := 1) O dJ7_rangeCheck_23922_1 rfl ?_
  refine cb_icmp_le (pc := 2) O 46 dJ7_rangeCheck_23922_2 (by decide) (fun c_2 => ?_) (fun c_2 => ?_)
  · skip
    refine cb_iload_n (pc := 46) O dJ7_rangeCheck_23922_46 rfl ?_
    refine cb_if_ge (pc := 47) O 59 dJ7_rangeCheck_23922_47 (by decide) (fun c_47 => ?_) (fun c_47 => ?_)
    · skip
      refine cb_iload_n (pc := 59) O dJ7_rangeCheck_23922_59 rfl ?_
      refine cb_iload_n (pc := 60) O dJ7_rangeCheck_23922_60 rfl ?_
      refine cb_icmp_le (pc := 61) O 73 dJ7_rangeCheck_23922_61 (by decide) (fun c_61 => ?_) (fun c_61 => ?_)
      · skip
        exact cb_vret (pc := 73) O Rt (Nat.le_of_ble_eq_true rfl) (Nat.le_of_ble_eq_true rfl) dJ7_rangeCheck_23922_73 rfl
      · skip
        exact absurd (ci_ile h2 (by omega)) c_61
    · skip
      exact absurd (nI_pos' (by omega)) c_47
  · skip
    exact absurd (ci_ile h1 (by omega)) c_2

theorem c_fill4 (w : cb_W) (r n9 a b : Nat) (v : Int32) (hs : cb_sh r = (1, n9)) (hr : w.1 r = true) (hn9 : n9 ≤ 10000) (h1 : a ≤ b) (h2 : b ≤ n9) : cb_Con yJ7_fill_fda19 cJ7_fill_fda19 5 none 1 22 0 0 (fun _ => true) [.inr (some r), .inl (nI a), .inl (nI b), .inl v] w (cb_pv (fun w' => w' = cb_fl w r a b v)) := by
  refine cb_con (by decide) (Nat.le_of_ble_eq_true rfl) (fun κ O Rt hnm => ?_)
  show cb_X κ w 0 0 0 [some (.inr (some r)), some (.inl (nI a)), some (.inl (nI b)), some (.inl v), none] []
  refine cb_aload_n (pc := 0) O dJ7_fill_fda19_0 rfl ?_
  refine cb_alen (pc := 1) O hs (by decide) (by decide) dJ7_fill_fda19_1 hr ?_
  refine cb_iload_n (pc := 2) O dJ7_fill_fda19_2 rfl ?_
  refine cb_iload_n (pc := 3) O dJ7_fill_fda19_3 rfl ?_
  refine cb_cSv (pc := 4) O (c_rangeCheck w n9 a b h1 h2 hn9) my_J7_rangeCheck_23922 mt_J7_rangeCheck_23922 ml_J7_13 dJ7_fill_fda19_4 rfl rfl ⟨(Nat.le_of_ble_eq_true rfl), (Nat.le_of_ble_eq_true rfl)⟩ (Nat.le_of_ble_eq_true rfl) rfl ⟨(Nat.le_of_ble_eq_true rfl), (Nat.le_of_ble_eq_true rfl)⟩ (fun _ _ => rfl) (fun w_4 hp_4 => ?_)
  rw [hp_4]
  refine cb_iload_n (pc := 7) O dJ7_fill_fda19_7 rfl ?_
  refine cb_istore (pc := 8) O dJ7_fill_fda19_8 (by decide) ?_
  dsimp only [List.set]
  have L_10 : ∀ (n : Nat) (i : Nat), a ≤ i → i ≤ b → b + 1 ≤ i + n → cb_X κ (cb_fl w r a i v) 0 0 10 [some (.inr (some r)), some (.inl (nI a)), some (.inl (nI b)), some (.inl v), some (.inl (nI i))] [] := by
    intro n
    induction n with
    | zero =>
      intro i ha hi hn
      exact absurd hn (by omega)
    | succ n ih_10 =>
      intro i ha hi hn
      refine cb_iload (pc := 10) O dJ7_fill_fda19_10 rfl ?_
      refine cb_iload_n (pc := 12) O dJ7_fill_fda19_12 rfl ?_
      refine cb_icmp_ge (pc := 13) O 27 dJ7_fill_fda19_13 (by decide) (fun c_13 => ?_) (fun c_13 => ?_)
      · skip
        have e : i = b := by
          have := ci_ge c_13 (by omega) (by omega)
          omega
        subst e
        exact cb_vret (pc := 27) O Rt (Nat.le_of_ble_eq_true rfl) (Nat.le_of_ble_eq_true rfl) dJ7_fill_fda19_27 rfl
      · skip
        have hlt : i < b := ci_nge c_13 (by omega) (by omega)
        refine cb_aload_n (pc := 16) O dJ7_fill_fda19_16 rfl ?_
        refine cb_iload (pc := 17) O dJ7_fill_fda19_17 rfl ?_
        refine cb_iload_n (pc := 19) O dJ7_fill_fda19_19 rfl ?_
        refine cb_iast (pc := 20) O i hs dJ7_fill_fda19_20 (by omega) hr rfl (by omega) ?_
        refine cb_iinc (pc := 21) O (nI (i + 1)) dJ7_fill_fda19_21 rfl (by decide) (ci_inc i) ?_
        dsimp only [List.set]
        refine cb_goto (pc := 24) O 10 dJ7_fill_fda19_24 (by decide) ?_
        rw [cb_flS _ _ _ _ _ (by omega)]
        exact ih_10 (i + 1) (by omega) (by omega) (by omega)
  rw [← cb_fl0 w r a v]
  exact L_10 (b + 1) a (by omega) (by omega) (by omega)

abbrev sv_want (A : ca_A) (k c : Int32) : Prop := ca_w A k ∧ (0 ≤ c ∧ c ≤ 15)
def sr_want (A : ca_A) (k c : Int32) : Int32 := if sv_want A k c then nI (A 31 k.toInt.toNat) else -1
def sA_want (A : ca_A) (k c : Int32) : ca_A := if sv_want A k c then cb_u2 A 31 k.toInt.toNat c.toNatClampNeg else A
abbrev sv_piece (A : ca_A) (p a : Int32) : Prop := ci_x p (A 0 12) ∧ (0 ≤ a ∧ a ≤ 1)
def sr_piece (A : ca_A) (p a : Int32) : Int32 := if sv_piece A p a then nI (1 - A 12 p.toInt.toNat) else -1
def sA_piece (A : ca_A) (p a : Int32) : ca_A := if sv_piece A p a then cb_u2 A 12 p.toInt.toNat (1 - a.toNatClampNeg) else A
abbrev sv_wanted (r c : Int32) : Prop := (1 ≤ r ∧ r ≤ 4) ∧ (1 ≤ c ∧ c ≤ 4)
def sr_wanted (r c : Int32) : Int32 := if sv_wanted r c then 1 else -1
def ca_z (A : ca_A) (k : Nat) : ca_A := fun q i => if q = k then 0 else A q i
def sA_wanted (A : ca_A) (r c : Int32) : ca_A := if sv_wanted r c then cb_u2 (cb_u2 (ca_z A 31) 0 28 r.toNatClampNeg) 0 29 c.toNatClampNeg else A
abbrev sv_board (r c : Int32) : Prop := (1 ≤ r ∧ r ≤ 8) ∧ (1 ≤ c ∧ c ≤ 8)
def sr_board (A : ca_A) (r c : Int32) : Int32 := if sv_board r c then (if 0 < A 0 0 then -3 else 1) else -1
def sA_board (A : ca_A) (r c : Int32) : ca_A := if sv_board r c ∧ ¬ 0 < A 0 0 then cb_u2 (cb_u2 (cb_u2 A 0 0 r.toNatClampNeg) 0 1 c.toNatClampNeg) 0 12 1 else A
theorem ci_in1 {x b : Int32} {n : Nat} (h : 1 ≤ x ∧ x ≤ b) (hb : b.toInt = (n : Int)) : ∃ j : Nat, 1 ≤ j ∧ j ≤ n ∧ x = nI j := by
  rw [ci_le, ci_le, hb, ci_z1] at h
  have hb2 := fb_rng x
  refine ⟨x.toInt.toNat, by omega, by omega, ?_⟩
  rw [ci_eq, ci_n (by omega)]
  omega
theorem cc_P.wa {M : Nat → Nat → Int32} {A : ca_A} {k c : Nat} (h : cc_P M A) : cc_P (cb_u2 M 27 k (nI c)) (cb_u2 A 31 k c) := by
  obtain ⟨b0, b1, b2⟩ := h
  refine ⟨?_, ?_, fun j hj => ?_⟩
  · rw [cb_u2n (by omega), cb_u2n (by omega)]; exact b0
  · rw [cb_u2n (by omega), cb_u2n (by omega)]; exact b1
  · by_cases e : j = k
    · subst e; rw [cb_u2s, cb_u2s]
    · rw [cb_u2n (by omega), cb_u2n (by omega)]; exact b2 j hj
theorem cc_B.pi {M : Nat → Nat → Int32} {A : ca_A} {p a : Nat} (h : cc_B M A) (ha : a ≤ 1) : cc_B (cb_u2 M 23 p (nI a)) (cb_u2 A 12 p (1 - a)) := by
  obtain ⟨b0, b2, b3, b4⟩ := h
  refine ⟨b0, fun j hj => ?_, fun j hj => ?_, fun j hj => ?_⟩
  · rw [cb_u2n (by omega)]; exact b2 j hj
  · rw [cb_u2n (by omega)]; exact b3 j hj
  · by_cases e : j = p
    · subst e
      rw [cb_u2s, cb_u2s]
      congr 1
      omega
    · rw [cb_u2n (by omega), cb_u2n (by omega)]; exact b4 j hj
theorem k_want (w : cb_W) (A : ca_A) (z : Int32) (hI : ca_I A) (hC : cc_I w A z) (k c : Int32) : cb_Con yX10_want cX10_want 3 (some .int) 3 65 0 0 (fun _ => true) [.inr (some 0), .inl k, .inl c] w (cb_pi (fun x w' => x = sr_want A k c ∧ cc_I w' (sA_want A k c) z ∧ cb_M1 w w')) := by
  refine cb_con (by decide) (Nat.le_of_ble_eq_true rfl) (fun κ O Rt hnm => ?_)
  show cb_X κ w 0 0 0 [some (.inr (some 0)), some (.inl k), some (.inl c)] []
  refine cb_aload_n (pc := 0) O dX10_want_0 rfl ?_
  refine cb_getR (pc := 1) O fl_X10_67 rfl rfl dX10_want_1 (hC.1.1 _ rfl) (hC.1.2 _ _ _ rfl) ?_
  refine cb_iload_n (pc := 4) O dX10_want_4 rfl ?_
  refine cb_cVp (pc := 5) O (c_X6_hasCell w A z hI hC _) my_X6_hasCell mi_X6_hasCell mx_X6_hasCell ml_X10_244 dX10_want_5 rfl ct_6 rfl rfl rfl ⟨(Nat.le_of_ble_eq_true rfl), (Nat.le_of_ble_eq_true rfl)⟩ (Nat.le_of_ble_eq_true rfl) rfl ⟨(Nat.le_of_ble_eq_true rfl), (Nat.le_of_ble_eq_true rfl)⟩ (hC.1.1 _ rfl) ?_
  refine cb_ifp_eq (pc := 8) O 18 dX10_want_8 (by decide) (fun c_8 => ?_) (fun c_8 => ?_)
  · skip
    refine cb_iconst (pc := 18) (v := (-1)) O dX10_want_18 (by decide) ?_
    exact cb_iret (pc := 19) O Rt rfl (Nat.le_of_ble_eq_true rfl) (Nat.le_of_ble_eq_true rfl) dX10_want_19 (by
      have hv : ¬ sv_want A k c := by
        intro h
        first | exact c_8 h.1 | exact c_15 h.2
      exact ⟨by rw [sr_want, if_neg hv], by rw [sA_want, if_neg hv]; exact hC, cb_M1.rfl'⟩)
  · skip
    refine cb_iload_n (pc := 11) O dX10_want_11 rfl ?_
    refine cb_cSp (pc := 12) O (c_X10_isColour _ _) my_X10_isColour mt_X10_isColour ml_X10_93 dX10_want_12 rfl rfl ⟨(Nat.le_of_ble_eq_true rfl), (Nat.le_of_ble_eq_true rfl)⟩ (Nat.le_of_ble_eq_true rfl) rfl ⟨(Nat.le_of_ble_eq_true rfl), (Nat.le_of_ble_eq_true rfl)⟩ ?_
    refine cb_ifp_ne (pc := 15) O 20 dX10_want_15 (by decide) (fun c_15 => ?_) (fun c_15 => ?_)
    · skip
      have hv : sv_want A k c := ⟨c_8, c_15⟩
      obtain ⟨k, hk, rfl, ho⟩ := ca_w16 hI c_8
      obtain ⟨c, hc, rfl⟩ := ci_in (n := 15) c_15 rfl
      refine cb_aload_n (pc := 20) O dX10_want_20 rfl ?_
      refine cb_getR (pc := 21) O fl_X10_67 rfl rfl dX10_want_21 (hC.1.1 _ rfl) (hC.1.2 _ _ _ rfl) ?_
      refine cb_getR (pc := 24) O fl_X10_245 rfl rfl dX10_want_24 (hC.1.1 _ rfl) (hC.1.2 _ _ _ rfl) ?_
      refine cb_iload_n (pc := 27) O dX10_want_27 rfl ?_
      refine cb_iload_n (pc := 28) O dX10_want_28 rfl ?_
      refine cb_cSi (pc := 29) O (c_X10_replace w 27 16 k (nI c) rfl (hC.1.1 _ rfl) (by omega) (by decide)) my_X10_replace mt_X10_replace ml_X10_100 dX10_want_29 rfl rfl ⟨(Nat.le_of_ble_eq_true rfl), (Nat.le_of_ble_eq_true rfl)⟩ (Nat.le_of_ble_eq_true rfl) rfl ⟨(Nat.le_of_ble_eq_true rfl), (Nat.le_of_ble_eq_true rfl)⟩ (fun _ _ => rfl) (fun x_29 w_29 hp_29 => ?_)
      obtain ⟨rfl, rfl⟩ := hp_29
      exact cb_iret (pc := 32) O Rt rfl (Nat.le_of_ble_eq_true rfl) (Nat.le_of_ble_eq_true rfl) dX10_want_32 (by
        refine ⟨?_, ?_, cb_M1.rfl'.um (by omega)⟩
        · rw [sr_want, if_pos hv, ci_tn (by omega)]
          exact hC.2.2.2.2.2.2.1.2.2 k (by omega)
        · rw [sA_want, if_pos hv, ci_tn (by omega), ci_nz (by omega)]
          exact ⟨hC.1, hC.2.1.cg (fun r k h => by first | rfl | (simp only [cb_um, cb_ur]; repeat rw [cb_u2n (by omega)])) (fun k i h => by first | rfl | (repeat rw [cb_u2n (by omega)])), hC.2.2.1.cg (fun r k h => by first | rfl | (simp only [cb_um, cb_ur]; repeat rw [cb_u2n (by omega)])) (fun k i h => by first | rfl | (repeat rw [cb_u2n (by omega)])), hC.2.2.2.1.cg (fun r k h => by first | rfl | (simp only [cb_um, cb_ur]; repeat rw [cb_u2n (by omega)])) (fun k i h => by first | rfl | (repeat rw [cb_u2n (by omega)])), hC.2.2.2.2.1.cg hI.1.2.2.2.1 (fun r h1 h2 => rfl) (fun r k h => by first | rfl | (simp only [cb_um, cb_ur]; repeat rw [cb_u2n (by omega)])) (fun r k h1 h2 => by first | rfl | (simp only [cb_um, cb_ur]; repeat rw [cb_u2n (by omega)])) (fun k i h => by first | rfl | (repeat rw [cb_u2n (by omega)])), hC.2.2.2.2.2.1.cg hI.1.2.2.2.2.1 (fun r h1 h2 => rfl) (fun k => by first | rfl | (simp only [cb_ur]; repeat rw [cb_u2n (by omega)])) (fun r k h1 h2 => by first | rfl | (simp only [cb_um, cb_ur]; repeat rw [cb_u2n (by omega)])) (fun k i h => by first | rfl | (repeat rw [cb_u2n (by omega)])), hC.2.2.2.2.2.2.1.wa, hC.2.2.2.2.2.2.2.1.cg (fun r k h => by first | rfl | (simp only [cb_um, cb_ur]; repeat rw [cb_u2n (by omega)])) (fun k i h => by first | rfl | (repeat rw [cb_u2n (by omega)])), hC.2.2.2.2.2.2.2.2.1, hC.2.2.2.2.2.2.2.2.2.1, hC.2.2.2.2.2.2.2.2.2.2⟩)
    · skip
      refine cb_iconst (pc := 18) (v := (-1)) O dX10_want_18 (by decide) ?_
      exact cb_iret (pc := 19) O Rt rfl (Nat.le_of_ble_eq_true rfl) (Nat.le_of_ble_eq_true rfl) dX10_want_19 (by
        have hv : ¬ sv_want A k c := by
          intro h
          first | exact c_8 h.1 | exact c_15 h.2
        exact ⟨by rw [sr_want, if_neg hv], by rw [sA_want, if_neg hv]; exact hC, cb_M1.rfl'⟩)

theorem m_want (w : cb_W) (A : ca_A) (z : Int32) (hI : ca_I A) (hM : cm_I w A z) (k c : Int32) : cb_Con yX11_want cX11_want 4 (some .int) 2 42 0 0 (fun _ => true) [.inr (some 1000), .inl k, .inl c] w (cb_pi (fun x w' => x = sr_want A k c ∧ cm_I w' (sA_want A k c) z ∧ cb_C1 w w')) := by
  refine cb_con (by decide) (Nat.le_of_ble_eq_true rfl) (fun κ O Rt hnm => ?_)
  show cb_X κ w 0 0 0 [some (.inr (some 1000)), some (.inl k), some (.inl c), none] []
  refine cb_aload_n (pc := 0) O dX11_want_0 rfl ?_
  refine cb_iload_n (pc := 1) O dX11_want_1 rfl ?_
  refine cb_cVp (pc := 2) O (c_X11_isWanted w A z hI hM _) my_X11_isWanted mi_X11_isWanted mx_X11_isWanted ml_X11_185 dX11_want_2 rfl ct_11 rfl rfl rfl ⟨(Nat.le_of_ble_eq_true rfl), (Nat.le_of_ble_eq_true rfl)⟩ (Nat.le_of_ble_eq_true rfl) rfl ⟨(Nat.le_of_ble_eq_true rfl), (Nat.le_of_ble_eq_true rfl)⟩ (hM.1.1 _ rfl) ?_
  refine cb_ifp_eq (pc := 5) O 15 dX11_want_5 (by decide) (fun c_5 => ?_) (fun c_5 => ?_)
  · skip
    refine cb_iconst (pc := 15) (v := (-1)) O dX11_want_15 (by decide) ?_
    exact cb_iret (pc := 16) O Rt rfl (Nat.le_of_ble_eq_true rfl) (Nat.le_of_ble_eq_true rfl) dX11_want_16 (by
      have hv : ¬ sv_want A k c := by
        intro h
        first | exact c_5 h.1 | exact c_12 h.2
      exact ⟨by rw [sr_want, if_neg hv], by rw [sA_want, if_neg hv]; exact hM, cb_C1.rfl'⟩)
  · skip
    refine cb_iload_n (pc := 8) O dX11_want_8 rfl ?_
    refine cb_cSp (pc := 9) O (c_X11_isColour _ _) my_X11_isColour mt_X11_isColour ml_X11_107 dX11_want_9 rfl rfl ⟨(Nat.le_of_ble_eq_true rfl), (Nat.le_of_ble_eq_true rfl)⟩ (Nat.le_of_ble_eq_true rfl) rfl ⟨(Nat.le_of_ble_eq_true rfl), (Nat.le_of_ble_eq_true rfl)⟩ ?_
    refine cb_ifp_ne (pc := 12) O 17 dX11_want_12 (by decide) (fun c_12 => ?_) (fun c_12 => ?_)
    · skip
      have hv : sv_want A k c := ⟨c_5, c_12⟩
      obtain ⟨k, hk, rfl, ho⟩ := ca_w16 hI c_5
      obtain ⟨c, hc, rfl⟩ := ci_in (n := 15) c_12 rfl
      refine cb_aload_n (pc := 17) O dX11_want_17 rfl ?_
      refine cb_getR (pc := 18) O fl_X11_71 rfl rfl dX11_want_18 (hM.1.1 _ rfl) (hM.1.2 _ _ _ rfl) ?_
      refine cb_iload_n (pc := 21) O dX11_want_21 rfl ?_
      refine cb_iald (pc := 22) O k rfl dX11_want_22 (by decide) (hM.1.1 _ rfl) rfl (by omega) ?_
      refine cb_istore_n (pc := 23) O dX11_want_23 (by decide) ?_
      dsimp only [List.set]
      refine cb_aload_n (pc := 24) O dX11_want_24 rfl ?_
      refine cb_getR (pc := 25) O fl_X11_71 rfl rfl dX11_want_25 (hM.1.1 _ rfl) (hM.1.2 _ _ _ rfl) ?_
      refine cb_iload_n (pc := 28) O dX11_want_28 rfl ?_
      refine cb_iload_n (pc := 29) O dX11_want_29 rfl ?_
      refine cb_iast (pc := 30) O k rfl dX11_want_30 (by decide) (hM.1.1 _ rfl) rfl (by omega) ?_
      refine cb_iload_n (pc := 31) O dX11_want_31 rfl ?_
      exact cb_iret (pc := 32) O Rt rfl (Nat.le_of_ble_eq_true rfl) (Nat.le_of_ble_eq_true rfl) dX11_want_32 (by
        refine ⟨?_, ?_, cb_C1.rfl'.um (by omega)⟩
        · rw [sr_want, if_pos hv, ci_tn (by omega)]
          exact cm_at hM 31 k (by simp [ca_R]; omega) (by omega)
        · rw [sA_want, if_pos hv, ci_tn (by omega), ci_nz (by omega)]
          exact hM.um (k := 31) (by omega) _ (fun _ => rfl))
    · skip
      refine cb_iconst (pc := 15) (v := (-1)) O dX11_want_15 (by decide) ?_
      exact cb_iret (pc := 16) O Rt rfl (Nat.le_of_ble_eq_true rfl) (Nat.le_of_ble_eq_true rfl) dX11_want_16 (by
        have hv : ¬ sv_want A k c := by
          intro h
          first | exact c_5 h.1 | exact c_12 h.2
        exact ⟨by rw [sr_want, if_neg hv], by rw [sA_want, if_neg hv]; exact hM, cb_C1.rfl'⟩)

theorem k_piece (w : cb_W) (A : ca_A) (z : Int32) (hI : ca_I A) (hC : cc_I w A z) (p a : Int32) : cb_Con yX10_piece cX10_piece 3 (some .int) 2 43 0 0 (fun _ => true) [.inr (some 0), .inl p, .inl a] w (cb_pi (fun x w' => x = sr_piece A p a ∧ cc_I w' (sA_piece A p a) z ∧ cb_M1 w w')) := by
  refine cb_con (by decide) (Nat.le_of_ble_eq_true rfl) (fun κ O Rt hnm => ?_)
  show cb_X κ w 0 0 0 [some (.inr (some 0)), some (.inl p), some (.inl a)] []
  refine cb_aload_n (pc := 0) O dX10_piece_0 rfl ?_
  refine cb_getR (pc := 1) O fl_X10_60 rfl rfl dX10_piece_1 (hC.1.1 _ rfl) (hC.1.2 _ _ _ rfl) ?_
  refine cb_iload_n (pc := 4) O dX10_piece_4 rfl ?_
  refine cb_cVp (pc := 5) O (c_X1_hasPiece w A z hI hC _) my_X1_hasPiece mi_X1_hasPiece mx_X1_hasPiece ml_X10_143 dX10_piece_5 rfl ct_1 rfl rfl rfl ⟨(Nat.le_of_ble_eq_true rfl), (Nat.le_of_ble_eq_true rfl)⟩ (Nat.le_of_ble_eq_true rfl) rfl ⟨(Nat.le_of_ble_eq_true rfl), (Nat.le_of_ble_eq_true rfl)⟩ (hC.1.1 _ rfl) ?_
  refine cb_ifp_eq (pc := 8) O 20 dX10_piece_8 (by decide) (fun c_8 => ?_) (fun c_8 => ?_)
  · skip
    refine cb_iconst (pc := 20) (v := (-1)) O dX10_piece_20 (by decide) ?_
    exact cb_iret (pc := 21) O Rt rfl (Nat.le_of_ble_eq_true rfl) (Nat.le_of_ble_eq_true rfl) dX10_piece_21 (by
      have hv : ¬ sv_piece A p a := by
        intro h
        first | exact c_8 h.1 | exact c_17 h.2
      exact ⟨by rw [sr_piece, if_neg hv], by rw [sA_piece, if_neg hv]; exact hC, cb_M1.rfl'⟩)
  · skip
    refine cb_iload_n (pc := 11) O dX10_piece_11 rfl ?_
    refine cb_iconst (pc := 12) (v := 0) O dX10_piece_12 (by decide) ?_
    refine cb_iconst (pc := 13) (v := 1) O dX10_piece_13 (by decide) ?_
    refine cb_cSp (pc := 14) O (c_X10_within _ _ _ _) my_X10_within mt_X10_within ml_X10_81 dX10_piece_14 rfl rfl ⟨(Nat.le_of_ble_eq_true rfl), (Nat.le_of_ble_eq_true rfl)⟩ (Nat.le_of_ble_eq_true rfl) rfl ⟨(Nat.le_of_ble_eq_true rfl), (Nat.le_of_ble_eq_true rfl)⟩ ?_
    refine cb_ifp_ne (pc := 17) O 22 dX10_piece_17 (by decide) (fun c_17 => ?_) (fun c_17 => ?_)
    · skip
      have hv : sv_piece A p a := ⟨c_8, c_17⟩
      have l12 := hI.1.2.2.1
      obtain ⟨p, hp, rfl⟩ := ci_xn c_8 (by omega)
      obtain ⟨a, ha, rfl⟩ := ci_in (n := 1) c_17 rfl
      refine cb_aload_n (pc := 22) O dX10_piece_22 rfl ?_
      refine cb_getR (pc := 23) O fl_X10_60 rfl rfl dX10_piece_23 (hC.1.1 _ rfl) (hC.1.2 _ _ _ rfl) ?_
      refine cb_getR (pc := 26) O fl_X10_157 rfl rfl dX10_piece_26 (hC.1.1 _ rfl) (hC.1.2 _ _ _ rfl) ?_
      refine cb_iload_n (pc := 29) O dX10_piece_29 rfl ?_
      refine cb_iload_n (pc := 30) O dX10_piece_30 rfl ?_
      refine cb_cSi (pc := 31) O (c_X10_replace w 23 8 p (nI a) rfl (hC.1.1 _ rfl) (by omega) (by decide)) my_X10_replace mt_X10_replace ml_X10_100 dX10_piece_31 rfl rfl ⟨(Nat.le_of_ble_eq_true rfl), (Nat.le_of_ble_eq_true rfl)⟩ (Nat.le_of_ble_eq_true rfl) rfl ⟨(Nat.le_of_ble_eq_true rfl), (Nat.le_of_ble_eq_true rfl)⟩ (fun _ _ => rfl) (fun x_31 w_31 hp_31 => ?_)
      obtain ⟨rfl, rfl⟩ := hp_31
      exact cb_iret (pc := 34) O Rt rfl (Nat.le_of_ble_eq_true rfl) (Nat.le_of_ble_eq_true rfl) dX10_piece_34 (by
        refine ⟨?_, ?_, cb_M1.rfl'.um (by omega)⟩
        · rw [sr_piece, if_pos hv, ci_tn (by omega)]
          exact hC.2.1.2.2.2 p hp
        · rw [sA_piece, if_pos hv, ci_tn (by omega), ci_nz (by omega)]
          exact ⟨hC.1, hC.2.1.pi ha, hC.2.2.1.cg (fun r k h => by first | rfl | (simp only [cb_um, cb_ur]; repeat rw [cb_u2n (by omega)])) (fun k i h => by first | rfl | (repeat rw [cb_u2n (by omega)])), hC.2.2.2.1.cg (fun r k h => by first | rfl | (simp only [cb_um, cb_ur]; repeat rw [cb_u2n (by omega)])) (fun k i h => by first | rfl | (repeat rw [cb_u2n (by omega)])), hC.2.2.2.2.1.cg hI.1.2.2.2.1 (fun r h1 h2 => rfl) (fun r k h => by first | rfl | (simp only [cb_um, cb_ur]; repeat rw [cb_u2n (by omega)])) (fun r k h1 h2 => by first | rfl | (simp only [cb_um, cb_ur]; repeat rw [cb_u2n (by omega)])) (fun k i h => by first | rfl | (repeat rw [cb_u2n (by omega)])), hC.2.2.2.2.2.1.cg hI.1.2.2.2.2.1 (fun r h1 h2 => rfl) (fun k => by first | rfl | (simp only [cb_ur]; repeat rw [cb_u2n (by omega)])) (fun r k h1 h2 => by first | rfl | (simp only [cb_um, cb_ur]; repeat rw [cb_u2n (by omega)])) (fun k i h => by first | rfl | (repeat rw [cb_u2n (by omega)])), hC.2.2.2.2.2.2.1.cg (fun r k h => by first | rfl | (simp only [cb_um, cb_ur]; repeat rw [cb_u2n (by omega)])) (fun k i h => by first | rfl | (repeat rw [cb_u2n (by omega)])), hC.2.2.2.2.2.2.2.1.cg (fun r k h => by first | rfl | (simp only [cb_um, cb_ur]; repeat rw [cb_u2n (by omega)])) (fun k i h => by first | rfl | (repeat rw [cb_u2n (by omega)])), hC.2.2.2.2.2.2.2.2.1, hC.2.2.2.2.2.2.2.2.2.1, hC.2.2.2.2.2.2.2.2.2.2⟩)
    · skip
      refine cb_iconst (pc := 20) (v := (-1)) O dX10_piece_20 (by decide) ?_
      exact cb_iret (pc := 21) O Rt rfl (Nat.le_of_ble_eq_true rfl) (Nat.le_of_ble_eq_true rfl) dX10_piece_21 (by
        have hv : ¬ sv_piece A p a := by
          intro h
          first | exact c_8 h.1 | exact c_17 h.2
        exact ⟨by rw [sr_piece, if_neg hv], by rw [sA_piece, if_neg hv]; exact hC, cb_M1.rfl'⟩)

theorem m_piece (w : cb_W) (A : ca_A) (z : Int32) (hI : ca_I A) (hM : cm_I w A z) (p a : Int32) : cb_Con yX11_piece cX11_piece 4 (some .int) 1 22 0 0 (fun _ => true) [.inr (some 1000), .inl p, .inl a] w (cb_pi (fun x w' => x = sr_piece A p a ∧ cm_I w' (sA_piece A p a) z ∧ cb_C1 w w')) := by
  refine cb_con (by decide) (Nat.le_of_ble_eq_true rfl) (fun κ O Rt hnm => ?_)
  show cb_X κ w 0 0 0 [some (.inr (some 1000)), some (.inl p), some (.inl a), none] []
  refine cb_aload_n (pc := 0) O dX11_piece_0 rfl ?_
  refine cb_iload_n (pc := 1) O dX11_piece_1 rfl ?_
  refine cb_cVp (pc := 2) O (c_X11_isPiece w A z hI hM _) my_X11_isPiece mi_X11_isPiece mx_X11_isPiece ml_X11_135 dX11_piece_2 rfl ct_11 rfl rfl rfl ⟨(Nat.le_of_ble_eq_true rfl), (Nat.le_of_ble_eq_true rfl)⟩ (Nat.le_of_ble_eq_true rfl) rfl ⟨(Nat.le_of_ble_eq_true rfl), (Nat.le_of_ble_eq_true rfl)⟩ (hM.1.1 _ rfl) ?_
  refine cb_ifp_eq (pc := 5) O 17 dX11_piece_5 (by decide) (fun c_5 => ?_) (fun c_5 => ?_)
  · skip
    refine cb_iconst (pc := 17) (v := (-1)) O dX11_piece_17 (by decide) ?_
    exact cb_iret (pc := 18) O Rt rfl (Nat.le_of_ble_eq_true rfl) (Nat.le_of_ble_eq_true rfl) dX11_piece_18 (by
      have hv : ¬ sv_piece A p a := by
        intro h
        first | exact c_5 h.1 | exact c_14 h.2
      exact ⟨by rw [sr_piece, if_neg hv], by rw [sA_piece, if_neg hv]; exact hM, cb_C1.rfl'⟩)
  · skip
    refine cb_iload_n (pc := 8) O dX11_piece_8 rfl ?_
    refine cb_iconst (pc := 9) (v := 0) O dX11_piece_9 (by decide) ?_
    refine cb_iconst (pc := 10) (v := 1) O dX11_piece_10 (by decide) ?_
    refine cb_cSp (pc := 11) O (c_X11_within _ _ _ _) my_X11_within mt_X11_within ml_X11_90 dX11_piece_11 rfl rfl ⟨(Nat.le_of_ble_eq_true rfl), (Nat.le_of_ble_eq_true rfl)⟩ (Nat.le_of_ble_eq_true rfl) rfl ⟨(Nat.le_of_ble_eq_true rfl), (Nat.le_of_ble_eq_true rfl)⟩ ?_
    refine cb_ifp_ne (pc := 14) O 19 dX11_piece_14 (by decide) (fun c_14 => ?_) (fun c_14 => ?_)
    · skip
      have hv : sv_piece A p a := ⟨c_5, c_14⟩
      have l12 := hI.1.2.2.1
      obtain ⟨p, hp, rfl⟩ := ci_xn c_5 (by omega)
      obtain ⟨a, ha, rfl⟩ := ci_in (n := 1) c_14 rfl
      have e12 : w.2.1 1012 p = nI (A 12 p) := cm_at hM 12 p (by simp [ca_R]; omega) (by omega)
      have l1 := hI.2.2.2.1.2.2.2 p
      refine cb_aload_n (pc := 19) O dX11_piece_19 rfl ?_
      refine cb_getR (pc := 20) O fl_X11_29 rfl rfl dX11_piece_20 (hM.1.1 _ rfl) (hM.1.2 _ _ _ rfl) ?_
      refine cb_iload_n (pc := 23) O dX11_piece_23 rfl ?_
      refine cb_zald (pc := 24) O p rfl dX11_piece_24 (by decide) (hM.1.1 _ rfl) rfl (by omega) ?_
      refine cb_istore_n (pc := 25) O dX11_piece_25 (by decide) ?_
      dsimp only [List.set]
      refine cb_aload_n (pc := 26) O dX11_piece_26 rfl ?_
      refine cb_getR (pc := 27) O fl_X11_29 rfl rfl dX11_piece_27 (hM.1.1 _ rfl) (hM.1.2 _ _ _ rfl) ?_
      refine cb_iload_n (pc := 30) O dX11_piece_30 rfl ?_
      refine cb_iload_n (pc := 31) O dX11_piece_31 rfl ?_
      refine cb_if_ne (pc := 32) O 39 dX11_piece_32 (by decide) (fun c_32 => ?_) (fun c_32 => ?_)
      · skip
        refine cb_iconst (pc := 39) (v := 0) O dX11_piece_39 (by decide) ?_
        refine cb_zast (pc := 40) O p rfl dX11_piece_40 (by decide) (hM.1.1 _ rfl) rfl (by omega) (by decide) ?_
        refine cb_iload_n (pc := 41) O dX11_piece_41 rfl ?_
        refine cb_if_eq (pc := 42) O 49 dX11_piece_42 (by decide) (fun c_42 => ?_) (fun c_42 => ?_)
        · skip
          refine cb_iconst (pc := 49) (v := 1) O dX11_piece_49 (by decide) ?_
          exact cb_iret (pc := 50) O Rt rfl (Nat.le_of_ble_eq_true rfl) (Nat.le_of_ble_eq_true rfl) dX11_piece_50 (by
            rw [e12] at c_42
            refine ⟨?_, ?_, cb_C1.rfl'.um (by omega)⟩
            · rw [sr_piece, if_pos hv, ci_tn (by omega)]
              rcases (show A 12 p = 0 ∨ A 12 p = 1 by omega) with e | e <;> rw [e] at c_42 ⊢ <;> first | rfl | exact absurd rfl c_42 | exact absurd c_42 (by decide)
            · rw [sA_piece, if_pos hv, ci_tn (by omega), ci_nz (by omega)]
              exact hM.um (k := 12) (by omega) _ (fun _ => by
                rcases (show a = 0 ∨ a = 1 by omega) with e | e <;> subst e <;> first | rfl | exact absurd rfl c_32 | exact absurd c_32 (by decide)))
        · skip
          refine cb_iconst (pc := 45) (v := 0) O dX11_piece_45 (by decide) ?_
          refine cb_goto (pc := 46) O 50 dX11_piece_46 (by decide) ?_
          exact cb_iret (pc := 50) O Rt rfl (Nat.le_of_ble_eq_true rfl) (Nat.le_of_ble_eq_true rfl) dX11_piece_50 (by
            rw [e12] at c_42
            refine ⟨?_, ?_, cb_C1.rfl'.um (by omega)⟩
            · rw [sr_piece, if_pos hv, ci_tn (by omega)]
              rcases (show A 12 p = 0 ∨ A 12 p = 1 by omega) with e | e <;> rw [e] at c_42 ⊢ <;> first | rfl | exact absurd rfl c_42 | exact absurd c_42 (by decide)
            · rw [sA_piece, if_pos hv, ci_tn (by omega), ci_nz (by omega)]
              exact hM.um (k := 12) (by omega) _ (fun _ => by
                rcases (show a = 0 ∨ a = 1 by omega) with e | e <;> subst e <;> first | rfl | exact absurd rfl c_32 | exact absurd c_32 (by decide)))
      · skip
        refine cb_iconst (pc := 35) (v := 1) O dX11_piece_35 (by decide) ?_
        refine cb_goto (pc := 36) O 40 dX11_piece_36 (by decide) ?_
        refine cb_zast (pc := 40) O p rfl dX11_piece_40 (by decide) (hM.1.1 _ rfl) rfl (by omega) (by decide) ?_
        refine cb_iload_n (pc := 41) O dX11_piece_41 rfl ?_
        refine cb_if_eq (pc := 42) O 49 dX11_piece_42 (by decide) (fun c_42 => ?_) (fun c_42 => ?_)
        · skip
          refine cb_iconst (pc := 49) (v := 1) O dX11_piece_49 (by decide) ?_
          exact cb_iret (pc := 50) O Rt rfl (Nat.le_of_ble_eq_true rfl) (Nat.le_of_ble_eq_true rfl) dX11_piece_50 (by
            rw [e12] at c_42
            refine ⟨?_, ?_, cb_C1.rfl'.um (by omega)⟩
            · rw [sr_piece, if_pos hv, ci_tn (by omega)]
              rcases (show A 12 p = 0 ∨ A 12 p = 1 by omega) with e | e <;> rw [e] at c_42 ⊢ <;> first | rfl | exact absurd rfl c_42 | exact absurd c_42 (by decide)
            · rw [sA_piece, if_pos hv, ci_tn (by omega), ci_nz (by omega)]
              exact hM.um (k := 12) (by omega) _ (fun _ => by
                rcases (show a = 0 ∨ a = 1 by omega) with e | e <;> subst e <;> first | rfl | exact absurd rfl c_32 | exact absurd c_32 (by decide)))
        · skip
          refine cb_iconst (pc := 45) (v := 0) O dX11_piece_45 (by decide) ?_
          refine cb_goto (pc := 46) O 50 dX11_piece_46 (by decide) ?_
          exact cb_iret (pc := 50) O Rt rfl (Nat.le_of_ble_eq_true rfl) (Nat.le_of_ble_eq_true rfl) dX11_piece_50 (by
            rw [e12] at c_42
            refine ⟨?_, ?_, cb_C1.rfl'.um (by omega)⟩
            · rw [sr_piece, if_pos hv, ci_tn (by omega)]
              rcases (show A 12 p = 0 ∨ A 12 p = 1 by omega) with e | e <;> rw [e] at c_42 ⊢ <;> first | rfl | exact absurd rfl c_42 | exact absurd c_42 (by decide)
            · rw [sA_piece, if_pos hv, ci_tn (by omega), ci_nz (by omega)]
              exact hM.um (k := 12) (by omega) _ (fun _ => by
                rcases (show a = 0 ∨ a = 1 by omega) with e | e <;> subst e <;> first | rfl | exact absurd rfl c_32 | exact absurd c_32 (by decide)))
    · skip
      refine cb_iconst (pc := 17) (v := (-1)) O dX11_piece_17 (by decide) ?_
      exact cb_iret (pc := 18) O Rt rfl (Nat.le_of_ble_eq_true rfl) (Nat.le_of_ble_eq_true rfl) dX11_piece_18 (by
        have hv : ¬ sv_piece A p a := by
          intro h
          first | exact c_5 h.1 | exact c_14 h.2
        exact ⟨by rw [sr_piece, if_neg hv], by rw [sA_piece, if_neg hv]; exact hM, cb_C1.rfl'⟩)

theorem cm_I.fz {w : cb_W} {A : ca_A} {z : Int32} (h : cm_I w A z) : cm_I (cb_fl w 1031 0 16 0) (ca_z A 31) z := by
  obtain ⟨h1, h2, h3⟩ := h
  refine ⟨h1, fun k i hk => ?_, h3⟩
  show (if 1000 + k = 1031 ∧ 0 ≤ i ∧ i < 16 then (0 : Int32) else w.2.1 (1000 + k) i) = ca_v k i (ca_z A 31 k i)
  by_cases e : k = 31
  · subst e
    have hi : i < 16 := by simpa [ca_R] using hk
    rw [if_pos (by omega)]
    rfl
  · rw [if_neg (by omega), ca_z, if_neg e]
    exact h2 k i hk
theorem m_board (w : cb_W) (A : ca_A) (z : Int32) (hI : ca_I A) (hM : cm_I w A z) (r c : Int32) : cb_Con yX11_board cX11_board 3 (some .int) 1 22 0 0 (fun _ => true) [.inr (some 1000), .inl r, .inl c] w (cb_pi (fun x w' => x = sr_board A r c ∧ cm_I w' (sA_board A r c) z ∧ cb_C1 w w')) := by
  have h0 : w.2.1 1000 0 = nI (A 0 0) := cm_at hM 0 0 rfl (by omega)
  have l0 : A 0 0 < 2147483648 := by have := hI.1; omega
  refine cb_con (by decide) (Nat.le_of_ble_eq_true rfl) (fun κ O Rt hnm => ?_)
  show cb_X κ w 0 0 0 [some (.inr (some 1000)), some (.inl r), some (.inl c)] []
  refine cb_iload_n (pc := 0) O dX11_board_0 rfl ?_
  refine cb_iconst (pc := 1) (v := 1) O dX11_board_1 (by decide) ?_
  refine cb_bipush (pc := 2) (v := 8) O dX11_board_2 (by decide) ?_
  refine cb_cSp (pc := 4) O (c_X11_within _ _ _ _) my_X11_within mt_X11_within ml_X11_90 dX11_board_4 rfl rfl ⟨(Nat.le_of_ble_eq_true rfl), (Nat.le_of_ble_eq_true rfl)⟩ (Nat.le_of_ble_eq_true rfl) rfl ⟨(Nat.le_of_ble_eq_true rfl), (Nat.le_of_ble_eq_true rfl)⟩ ?_
  refine cb_ifp_eq (pc := 7) O 20 dX11_board_7 (by decide) (fun c_7 => ?_) (fun c_7 => ?_)
  · skip
    refine cb_iconst (pc := 20) (v := (-1)) O dX11_board_20 (by decide) ?_
    exact cb_iret (pc := 21) O Rt rfl (Nat.le_of_ble_eq_true rfl) (Nat.le_of_ble_eq_true rfl) dX11_board_21 (by
      have hv : ¬ sv_board r c := by
        intro h
        simp_all
      exact ⟨by rw [sr_board, if_neg hv], by rw [sA_board, if_neg (fun h => hv h.1)]; exact hM, cb_C1.rfl'⟩)
  · skip
    refine cb_iload_n (pc := 10) O dX11_board_10 rfl ?_
    refine cb_iconst (pc := 11) (v := 1) O dX11_board_11 (by decide) ?_
    refine cb_bipush (pc := 12) (v := 8) O dX11_board_12 (by decide) ?_
    refine cb_cSp (pc := 14) O (c_X11_within _ _ _ _) my_X11_within mt_X11_within ml_X11_90 dX11_board_14 rfl rfl ⟨(Nat.le_of_ble_eq_true rfl), (Nat.le_of_ble_eq_true rfl)⟩ (Nat.le_of_ble_eq_true rfl) rfl ⟨(Nat.le_of_ble_eq_true rfl), (Nat.le_of_ble_eq_true rfl)⟩ ?_
    refine cb_ifp_ne (pc := 17) O 22 dX11_board_17 (by decide) (fun c_17 => ?_) (fun c_17 => ?_)
    · skip
      have hv : sv_board r c := ⟨c_7, c_17⟩
      obtain ⟨r, hr1, hr, rfl⟩ := ci_in1 (n := 8) c_7 rfl
      obtain ⟨c, hc1, hc, rfl⟩ := ci_in1 (n := 8) c_17 rfl
      refine cb_aload_n (pc := 22) O dX11_board_22 rfl ?_
      refine cb_getI (pc := 23) O fl_X11_94 rfl rfl dX11_board_23 (hM.1.1 _ rfl) ?_
      refine cb_if_le (pc := 26) O 32 dX11_board_26 (by decide) (fun c_26 => ?_) (fun c_26 => ?_)
      · skip
        rw [h0, ci_le, ci_n l0, ci_z0] at c_26
        have hz : ¬ 0 < A 0 0 := by omega
        refine cb_aload_n (pc := 32) O dX11_board_32 rfl ?_
        refine cb_iload_n (pc := 33) O dX11_board_33 rfl ?_
        refine cb_putIc (pc := 34) O fl_X11_94 (Or.inl rfl) rfl rfl dX11_board_34 rfl rfl (hM.1.1 _ rfl) ?_
        refine cb_aload_n (pc := 37) O dX11_board_37 rfl ?_
        refine cb_iload_n (pc := 38) O dX11_board_38 rfl ?_
        refine cb_putIc (pc := 39) O fl_X11_97 (Or.inl rfl) rfl rfl dX11_board_39 rfl rfl (hM.1.1 _ rfl) ?_
        refine cb_aload_n (pc := 42) O dX11_board_42 rfl ?_
        refine cb_iconst (pc := 43) (v := 1) O dX11_board_43 (by decide) ?_
        refine cb_putIc (pc := 44) O fl_X11_100 (Or.inl rfl) rfl rfl dX11_board_44 rfl rfl (hM.1.1 _ rfl) ?_
        refine cb_iconst (pc := 47) (v := 1) O dX11_board_47 (by decide) ?_
        exact cb_iret (pc := 48) O Rt rfl (Nat.le_of_ble_eq_true rfl) (Nat.le_of_ble_eq_true rfl) dX11_board_48 (by
          refine ⟨by rw [sr_board, if_pos hv, if_neg hz], ?_, ((cb_C1.rfl'.um (by omega)).um (by omega)).um (by omega)⟩
          rw [sA_board, if_pos ⟨hv, hz⟩, ci_nz (by omega), ci_nz (by omega)]
          exact ((hM.um (k := 0) (by omega) _ (fun _ => rfl)).um (k := 0) (by omega) _ (fun _ => rfl)).um (k := 0) (by omega) _ (fun _ => rfl))
      · skip
        rw [h0, ci_le, ci_n l0, ci_z0] at c_26
        have hz : 0 < A 0 0 := by omega
        refine cb_bipush (pc := 29) (v := (-3)) O dX11_board_29 (by decide) ?_
        exact cb_iret (pc := 31) O Rt rfl (Nat.le_of_ble_eq_true rfl) (Nat.le_of_ble_eq_true rfl) dX11_board_31 (by
          refine ⟨by rw [sr_board, if_pos hv, if_pos hz], ?_, cb_C1.rfl'⟩
          rw [sA_board, if_neg (fun h => h.2 hz)]
          exact hM)
    · skip
      refine cb_iconst (pc := 20) (v := (-1)) O dX11_board_20 (by decide) ?_
      exact cb_iret (pc := 21) O Rt rfl (Nat.le_of_ble_eq_true rfl) (Nat.le_of_ble_eq_true rfl) dX11_board_21 (by
        have hv : ¬ sv_board r c := by
          intro h
          simp_all
        exact ⟨by rw [sr_board, if_neg hv], by rw [sA_board, if_neg (fun h => hv h.1)]; exact hM, cb_C1.rfl'⟩)

theorem m_wanted (w : cb_W) (A : ca_A) (z : Int32) (hI : ca_I A) (hM : cm_I w A z) (r c : Int32) : cb_Con yX11_wanted cX11_wanted 4 (some .int) 1 22 0 0 (fun _ => true) [.inr (some 1000), .inl r, .inl c] w (cb_pi (fun x w' => x = sr_wanted r c ∧ cm_I w' (sA_wanted A r c) z ∧ cb_C1 w w')) := by
  refine cb_con (by decide) (Nat.le_of_ble_eq_true rfl) (fun κ O Rt hnm => ?_)
  show cb_X κ w 0 0 0 [some (.inr (some 1000)), some (.inl r), some (.inl c), none] []
  refine cb_iload_n (pc := 0) O dX11_wanted_0 rfl ?_
  refine cb_iconst (pc := 1) (v := 1) O dX11_wanted_1 (by decide) ?_
  refine cb_iconst (pc := 2) (v := 4) O dX11_wanted_2 (by decide) ?_
  refine cb_cSp (pc := 3) O (c_X11_within _ _ _ _) my_X11_within mt_X11_within ml_X11_90 dX11_wanted_3 rfl rfl ⟨(Nat.le_of_ble_eq_true rfl), (Nat.le_of_ble_eq_true rfl)⟩ (Nat.le_of_ble_eq_true rfl) rfl ⟨(Nat.le_of_ble_eq_true rfl), (Nat.le_of_ble_eq_true rfl)⟩ ?_
  refine cb_ifp_eq (pc := 6) O 18 dX11_wanted_6 (by decide) (fun c_6 => ?_) (fun c_6 => ?_)
  · skip
    refine cb_iconst (pc := 18) (v := (-1)) O dX11_wanted_18 (by decide) ?_
    exact cb_iret (pc := 19) O Rt rfl (Nat.le_of_ble_eq_true rfl) (Nat.le_of_ble_eq_true rfl) dX11_wanted_19 (by
      have hv : ¬ sv_wanted r c := by
        intro h
        simp_all
      exact ⟨by rw [sr_wanted, if_neg hv], by rw [sA_wanted, if_neg hv]; exact hM, cb_C1.rfl'⟩)
  · skip
    refine cb_iload_n (pc := 9) O dX11_wanted_9 rfl ?_
    refine cb_iconst (pc := 10) (v := 1) O dX11_wanted_10 (by decide) ?_
    refine cb_iconst (pc := 11) (v := 4) O dX11_wanted_11 (by decide) ?_
    refine cb_cSp (pc := 12) O (c_X11_within _ _ _ _) my_X11_within mt_X11_within ml_X11_90 dX11_wanted_12 rfl rfl ⟨(Nat.le_of_ble_eq_true rfl), (Nat.le_of_ble_eq_true rfl)⟩ (Nat.le_of_ble_eq_true rfl) rfl ⟨(Nat.le_of_ble_eq_true rfl), (Nat.le_of_ble_eq_true rfl)⟩ ?_
    refine cb_ifp_ne (pc := 15) O 20 dX11_wanted_15 (by decide) (fun c_15 => ?_) (fun c_15 => ?_)
    · skip
      have hv : sv_wanted r c := ⟨c_6, c_15⟩
      obtain ⟨r, hr1, hr, rfl⟩ := ci_in1 (n := 4) c_6 rfl
      obtain ⟨c, hc1, hc, rfl⟩ := ci_in1 (n := 4) c_15 rfl
      refine cb_aload_n (pc := 20) O dX11_wanted_20 rfl ?_
      refine cb_iload_n (pc := 21) O dX11_wanted_21 rfl ?_
      refine cb_putIc (pc := 22) O fl_X11_179 (Or.inl rfl) rfl rfl dX11_wanted_22 rfl rfl (hM.1.1 _ rfl) ?_
      refine cb_aload_n (pc := 25) O dX11_wanted_25 rfl ?_
      refine cb_iload_n (pc := 26) O dX11_wanted_26 rfl ?_
      refine cb_putIc (pc := 27) O fl_X11_182 (Or.inl rfl) rfl rfl dX11_wanted_27 rfl rfl (hM.1.1 _ rfl) ?_
      refine cb_iconst (pc := 30) (v := 0) O dX11_wanted_30 (by decide) ?_
      refine cb_istore_n (pc := 31) O dX11_wanted_31 (by decide) ?_
      dsimp only [List.set]
      refine cb_genw (fun w1 hw1 => ?_)
      have h1 : cb_MW w1 := by rw [hw1]; exact hM.1
      have L_32 : ∀ (n : Nat) (i : Nat), i ≤ 16 → 16 + 1 ≤ i + n → cb_X κ (cb_fl w1 1031 0 i 0) 0 0 32 [some (.inr (some 1000)), some (.inl (nI r)), some (.inl (nI c)), some (.inl (nI i))] [] := by
        intro n
        induction n with
        | zero =>
          intro i hi hn
          exact absurd hn (by omega)
        | succ n ih_32 =>
          intro i hi hn
          refine cb_iload_n (pc := 32) O dX11_wanted_32 rfl ?_
          refine cb_bipush (pc := 33) (v := 16) O dX11_wanted_33 (by decide) ?_
          refine cb_icmp_ge (pc := 35) O 51 dX11_wanted_35 (by decide) (fun c_35 => ?_) (fun c_35 => ?_)
          · skip
            have e : i = 16 := by
              have := ci_ge (b := 16) c_35 (by omega) (by decide)
              omega
            subst e
            refine cb_iconst (pc := 51) (v := 1) O dX11_wanted_51 (by decide) ?_
            exact cb_iret (pc := 52) O Rt rfl (Nat.le_of_ble_eq_true rfl) (Nat.le_of_ble_eq_true rfl) dX11_wanted_52 (by
              refine ⟨by rw [sr_wanted, if_pos hv], ?_, ?_⟩
              · rw [sA_wanted, if_pos hv, ci_nz (by omega), ci_nz (by omega)]
                have e : cb_fl w1 1031 0 16 0 = cb_um (cb_um (cb_fl w 1031 0 16 0) (1000 + 0) 28 (nI r)) (1000 + 0) 29 (nI c) := by
                  rw [hw1]
                  refine cb_W.ext rfl (fun q k => ?_) rfl
                  simp only [cb_fl, cb_um, cb_u2]
                  by_cases e1 : q = 1000
                  · simp [e1]
                  · simp [e1]
                rw [e]
                exact (hM.fz.um (k := 0) (by omega) _ (fun _ => rfl)).um (k := 0) (by omega) _ (fun _ => rfl)
              · rw [hw1]
                refine ⟨rfl, rfl, fun q hq => ?_⟩
                funext k
                simp only [cb_fl, cb_um, cb_u2]
                rw [if_neg (by omega), if_neg (by omega), if_neg (by omega)])
          · skip
            have hlt : i < 16 := ci_nge (b := 16) c_35 (by omega) (by decide)
            refine cb_aload_n (pc := 38) O dX11_wanted_38 rfl ?_
            refine cb_getR (pc := 39) O fl_X11_71 rfl rfl dX11_wanted_39 (h1.1 _ rfl) (h1.2 _ _ _ rfl) ?_
            refine cb_iload_n (pc := 42) O dX11_wanted_42 rfl ?_
            refine cb_iconst (pc := 43) (v := 0) O dX11_wanted_43 (by decide) ?_
            refine cb_iast (pc := 44) O i rfl dX11_wanted_44 (by decide) (h1.1 _ rfl) rfl hlt ?_
            refine cb_iinc (pc := 45) O (nI (i + 1)) dX11_wanted_45 rfl (by decide) (ci_inc i) ?_
            dsimp only [List.set]
            refine cb_goto (pc := 48) O 32 dX11_wanted_48 (by decide) ?_
            rw [cb_flS _ _ _ _ _ (by omega)]
            exact ih_32 (i + 1) (by omega) (by omega)
      rw [← cb_fl0 w1 1031 0 0]
      exact L_32 17 0 (by omega) (by omega)
    · skip
      refine cb_iconst (pc := 18) (v := (-1)) O dX11_wanted_18 (by decide) ?_
      exact cb_iret (pc := 19) O Rt rfl (Nat.le_of_ble_eq_true rfl) (Nat.le_of_ble_eq_true rfl) dX11_wanted_19 (by
        have hv : ¬ sv_wanted r c := by
          intro h
          simp_all
        exact ⟨by rw [sr_wanted, if_neg hv], by rw [sA_wanted, if_neg hv]; exact hM, cb_C1.rfl'⟩)

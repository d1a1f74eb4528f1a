def nd (x y d : Nat) : Prop := (d = 0 ∧ y / 8 + 1 = x / 8 ∧ y % 8 = x % 8) ∨ (d = 1 ∧ y / 8 = x / 8 + 1 ∧ y % 8 = x % 8) ∨ (d = 2 ∧ y / 8 = x / 8 ∧ y % 8 + 1 = x % 8) ∨ (d = 3 ∧ y / 8 = x / 8 ∧ y % 8 = x % 8 + 1)
def adj (A : ca_A) (x y : Nat) : Prop := ca_p A x ∧ ca_p A y ∧ A 11 x = A 11 y ∧ ∃ d, d < 4 ∧ nd x y d
theorem nd_sym {x y d : Nat} (h : nd x y d) : ∃ d', d' < 4 ∧ nd y x d' := by
  unfold nd at *
  rcases h with h | h | h | h
  · exact ⟨1, by omega, by omega⟩
  · exact ⟨0, by omega, by omega⟩
  · exact ⟨3, by omega, by omega⟩
  · exact ⟨2, by omega, by omega⟩
theorem adj.symm {A : ca_A} {x y : Nat} (h : adj A x y) : adj A y x := by
  obtain ⟨h1, h2, h3, d, hd, h4⟩ := h
  obtain ⟨d', hd', h5⟩ := nd_sym h4
  exact ⟨h2, h1, h3.symm, d', hd', h5⟩
def cn (A : ca_A) (a b : Nat) : Prop := ∀ S : Nat → Prop, S a → (∀ x y, S x → adj A x y → S y) → S b
theorem cn.refl (A : ca_A) (a : Nat) : cn A a a := fun S h _ => h
theorem cn.step {A : ca_A} {x y : Nat} (h : adj A x y) : cn A x y := fun S h1 h2 => h2 x y h1 h
theorem cn.trans {A : ca_A} {a b c : Nat} (h1 : cn A a b) (h2 : cn A b c) : cn A a c := fun S h3 h4 => h2 S (h1 S h3 h4) h4
theorem cn.symm {A : ca_A} {a b : Nat} (h : cn A a b) : cn A b a := h (fun x => cn A x a) (cn.refl A a) (fun x y h1 h2 => (cn.step h2.symm).trans h1)
theorem cn.p {A : ca_A} {a b : Nat} (h : cn A a b) (hp : ca_p A a) : ca_p A b := h (fun x => ca_p A x) hp (fun x y _ h2 => h2.2.1)
theorem ca_p64 {A : ca_A} {x : Nat} (hI : ca_I A) (h : ca_p A x) : x < 64 := by
  have := h.1.1
  have := h.1.2
  have := hI.1.1
  have := hI.1.2.1
  omega
def rt (A : ca_A) (g : Nat) : Prop := ca_p A g ∧ ∀ x, cn A g x → g ≤ x
theorem rt_ex {A : ca_A} : ∀ (n k : Nat), k ≤ n → ca_p A k → ∃ g, rt A g ∧ cn A g k ∧ g ≤ k
  | n, k, hk, hp => by
    by_cases h : ∀ x, cn A k x → k ≤ x
    · exact ⟨k, ⟨hp, h⟩, cn.refl A k, Nat.le_refl _⟩
    · obtain ⟨x, hx⟩ := Classical.not_forall.mp h
      obtain ⟨hc, hl⟩ := Classical.not_imp.mp hx
      cases n with
      | zero => exact absurd (show k ≤ x by omega) hl
      | succ n =>
        obtain ⟨g, h1, h2, h3⟩ := rt_ex n x (by omega) (hc.p hp)
        exact ⟨g, h1, h2.trans hc.symm, by omega⟩
theorem rt_one {A : ca_A} {g g' : Nat} (h1 : rt A g) (h2 : rt A g') (h : cn A g g') : g = g' := Nat.le_antisymm (h1.2 _ h) (h2.2 _ h.symm)
noncomputable def rtb (A : ca_A) : Nat → Bool := fun g => @decide (rt A g) (Classical.propDecidable _)
theorem rtb_t {A : ca_A} {g : Nat} : rtb A g = true ↔ rt A g := by unfold rtb; simp
noncomputable def cmb (A : ca_A) (g : Nat) : Nat → Bool := fun k => @decide (rt A g ∧ cn A g k) (Classical.propDecidable _)
theorem cmb_t {A : ca_A} {g k : Nat} : cmb A g k = true ↔ (rt A g ∧ cn A g k) := by unfold cmb; simp
noncomputable def sz (A : ca_A) (g : Nat) : Nat := fb_ct (cmb A g) 64
noncomputable def is_c (A : ca_A) (n : Nat) : Nat := fb_ct (rtb A) n
noncomputable def is_m (A : ca_A) : Nat → Nat
  | 0 => 0
  | n + 1 => max (is_m A n) (sz A n)
theorem is_cY {A : ca_A} {n : Nat} (h : rt A n) : is_c A (n + 1) = is_c A n + 1 := by
  unfold is_c
  rw [fb_ct_succ, if_pos (rtb_t.mpr h)]
theorem is_cN {A : ca_A} {n : Nat} (h : ¬ rt A n) : is_c A (n + 1) = is_c A n := by
  unfold is_c
  rw [fb_ct_succ, if_neg (fun e => h (rtb_t.mp e))]
  rfl
theorem sz_0 {A : ca_A} {g : Nat} (h : ¬ rt A g) : sz A g = 0 := by
  unfold sz
  rw [fb_ct_zero]
  intro k _
  cases e : cmb A g k
  · rfl
  · exact absurd (cmb_t.mp e).1 h
theorem sz_p {A : ca_A} {g : Nat} (hI : ca_I A) (h : rt A g) : 0 < sz A g := fb_ct_pos.mpr ⟨g, ca_p64 hI h.1, cmb_t.mpr ⟨h, cn.refl A g⟩⟩
theorem sz_64 (A : ca_A) (g : Nat) : sz A g ≤ 64 := fb_ct_le _ _
theorem is_m64 (A : ca_A) : ∀ n, is_m A n ≤ 64
  | 0 => Nat.zero_le _
  | n + 1 => by
    have h1 := is_m64 A n
    have h2 := sz_64 A n
    show max _ _ ≤ 64
    omega
theorem is_mN {A : ca_A} {n : Nat} (h : ¬ rt A n) : is_m A (n + 1) = is_m A n := by
  show max _ _ = _
  rw [sz_0 h]
  omega
theorem is_cinj {A : ca_A} {g g' : Nat} (h1 : rt A g) (h2 : rt A g') (h : is_c A g = is_c A g') : g = g' := fb_ct_kth_one (rtb_t.mpr h1) (rtb_t.mpr h2) h
noncomputable def sr_islands (A : ca_A) (a : Int32) : Int32 := if 0 ≤ a ∧ a ≤ 2 then (if a = 0 then nI (is_c A 64) else if a = 1 then nI (is_m A 64) else nI (fb_ct (ca_pt A) 64)) else -1
noncomputable def jn (A : ca_A) (a b : Nat) : Int32 := @ite _ (ca_p A a ∧ cn A a b) (Classical.propDecidable _) 1 0
theorem jn_1 {A : ca_A} {a b : Nat} (h : ca_p A a ∧ cn A a b) : jn A a b = 1 := by unfold jn; exact if_pos h
theorem jn_0 {A : ca_A} {a b : Nat} (h : ¬ (ca_p A a ∧ cn A a b)) : jn A a b = 0 := by unfold jn; exact if_neg h
noncomputable def sr_joined (A : ca_A) (a b : Int32) : Int32 := if ca_c A a ∧ ca_c A b then jn A a.toInt.toNat b.toInt.toNat else -1
def GI (A : ca_A) (M : Nat → Int32) (g : Nat → Nat) : Prop := ∀ k, k < 64 → (ca_p A k → M k = nI (g k) ∧ g k ≤ k ∧ cn A (g k) k) ∧ (¬ ca_p A k → M k = -1)
theorem GI.up {A : ca_A} {M : Nat → Nat → Int32} {g : Nat → Nat} {k y : Nat} (h : GI A (M 1014) g) (hk : k < 64) (hy : y < 64) (ha : adj A k y) (hl : g y < g k) : GI A (cb_u2 M 1014 k (nI (g y)) 1014) (fun i => if i = k then g y else g i) ∧ fb_sm (fun i => if i = k then g y else g i) 64 < fb_sm g 64 := by
  refine ⟨fun i hi => ?_, ?_⟩
  · by_cases e : i = k
    · subst e
      refine ⟨fun hp => ⟨?_, ?_, ?_⟩, fun hp => absurd ha.1 hp⟩
      · rw [cb_u2s]
        dsimp only
        rw [if_pos rfl]
      · dsimp only
        rw [if_pos rfl]
        have := ((h i hk).1 hp).2.1
        omega
      · dsimp only
        rw [if_pos rfl]
        exact ((h y hy).1 ha.2.1).2.2.trans (cn.step ha.symm)
    · rw [cb_u2n (Or.inr e)]
      dsimp only
      rw [if_neg e]
      exact h i hi
  · have := fb_sm_upd g (g y) (i := k) (n := 64) hk
    omega
def dj (d : Nat) : Nat := (d + 2) % 4
def FS (A : ca_A) (g0 : Nat → Nat) (k j m : Nat) (g : Nat → Nat) : Prop := m ≤ 1 ∧ (m = 0 → g = g0 ∧ (∀ k', k' < k → ∀ y, adj A k' y → g0 k' ≤ g0 y) ∧ (∀ d y, dj d < j → nd k y d → adj A k y → g0 k ≤ g0 y)) ∧ (m = 1 → fb_sm g 64 < fb_sm g0 64)
theorem FS.next {A : ca_A} {g0 g : Nat → Nat} {k m : Nat} (h : FS A g0 k 4 m g) : FS A g0 (k + 1) 0 m g := by
  obtain ⟨h1, h2, h3⟩ := h
  refine ⟨h1, fun h0 => ?_, h3⟩
  obtain ⟨e1, e2, e3⟩ := h2 h0
  refine ⟨e1, fun k' hk' y ha => ?_, fun d y hd => absurd hd (by omega)⟩
  rcases Nat.lt_or_ge k' k with h | h
  · exact e2 k' h y ha
  · have ek : k' = k := by omega
    subst ek
    obtain ⟨-, -, -, d, hd, hn⟩ := id ha
    exact e3 d y (by unfold dj; omega) hn ha
theorem FS.np {A : ca_A} {g0 g : Nat → Nat} {k m : Nat} (h : FS A g0 k 0 m g) (hp : ¬ ca_p A k) : FS A g0 k 4 m g := by
  obtain ⟨h1, h2, h3⟩ := h
  refine ⟨h1, fun h0 => ?_, h3⟩
  obtain ⟨e1, e2, e3⟩ := h2 h0
  exact ⟨e1, e2, fun d y _ _ ha => absurd ha.1 hp⟩
theorem FS.st {A : ca_A} {g0 g g' : Nat → Nat} {k j m : Nat} {x : Int32} (h : FS A g0 k j m g) (hr : (x = 0 ∧ g' = g ∧ (∀ d y, dj d = j → nd k y d → adj A k y → g k ≤ g y)) ∨ (x = 1 ∧ fb_sm g' 64 < fb_sm g 64)) : FS A g0 k (j + 1) (if x = 0 then m else 1) g' := by
  obtain ⟨h1, h2, h3⟩ := h
  rcases hr with ⟨rfl, rfl, hr⟩ | ⟨rfl, hr⟩
  · rw [if_pos rfl]
    refine ⟨h1, fun h0 => ?_, h3⟩
    obtain ⟨e1, e2, e3⟩ := h2 h0
    refine ⟨e1, e2, fun d y hd hn ha => ?_⟩
    rcases Nat.lt_or_ge (dj d) j with hh | hh
    · exact e3 d y hh hn ha
    · have := hr d y (by omega) hn ha
      rw [e1] at this
      exact this
  · rw [if_neg (by decide)]
    refine ⟨Nat.le_refl _, fun h0 => absurd h0 (by decide), fun _ => ?_⟩
    rcases (show m = 0 ∨ m = 1 by omega) with e | e
    · rw [(h2 e).1] at hr
      exact hr
    · have := h3 e
      omega
def GF (A : ca_A) (M : Nat → Int32) (g : Nat → Nat) : Prop := ∀ k, k < 64 → (ca_p A k → M k = nI (g k) ∧ rt A (g k) ∧ cn A (g k) k) ∧ (¬ ca_p A k → M k = -1)
theorem GI.fin {A : ca_A} {M : Nat → Int32} {g : Nat → Nat} (hI : ca_I A) (h : GI A M g) (hs : ∀ k y, k < 64 → adj A k y → g k ≤ g y) : GF A M g := by
  have hc : ∀ a b, ca_p A a → cn A a b → g b = g a := fun a b ha hab => hab (fun x => g x = g a) rfl (fun x y hx hxy => by
    have h1 := hs x y (ca_p64 hI hxy.1) hxy
    have h2 := hs y x (ca_p64 hI hxy.2.1) hxy.symm
    omega)
  intro k hk
  refine ⟨fun hp => ?_, (h k hk).2⟩
  obtain ⟨h1, h2, h3⟩ := (h k hk).1 hp
  have hpg : ca_p A (g k) := h3.symm.p hp
  refine ⟨h1, ⟨hpg, fun x hx => ?_⟩, h3⟩
  have hkx := h3.symm.trans hx
  have hpx := hkx.p hp
  have e := hc k x hp hkx
  have := ((h x (ca_p64 hI hpx)).1 hpx).2.1
  omega
theorem GF.eq {A : ca_A} {M : Nat → Int32} {g : Nat → Nat} (h : GF A M g) {k G : Nat} (hk : k < 64) (hG : G < 64) : M k = nI G ↔ cmb A G k = true := by
  rw [cmb_t]
  by_cases hp : ca_p A k
  · obtain ⟨h1, h2, h3⟩ := (h k hk).1 hp
    have hle := h2.2 k h3
    rw [h1, nI_eq (by omega) (by omega)]
    constructor
    · intro e
      rw [← e]
      exact ⟨h2, h3⟩
    · intro e
      exact rt_one h2 e.1 (h3.trans e.2.symm)
  · rw [(h k hk).2 hp]
    constructor
    · intro e
      rw [ci_eq, ci_n (by omega)] at e
      exact absurd e (by show ¬ (-1 : Int) = (G : Int); omega)
    · intro e
      exact absurd (e.2.p e.1.1) hp
theorem fb_dbl (p : Nat → Bool) (g : Nat → Nat) (N : Nat) : ∀ m, (∀ k, k < m → p k = true → g k < N) → fb_sm (fun G => fb_ct (fun k => p k && decide (g k = G)) m) N = fb_ct p m
  | 0, _ => by
    show fb_sm (fun _ => 0) N = 0
    rw [fb_sm_const]
    omega
  | m + 1, h => by
    have ih := fb_dbl p g N m (fun k hk => h k (by omega))
    rw [fb_ct_succ, ← ih]
    have e : fb_sm (fun G => fb_ct (fun k => p k && decide (g k = G)) (m + 1)) N = fb_sm (fun G => fb_ct (fun k => p k && decide (g k = G)) m + (if (p m && decide (g m = G)) = true then 1 else 0)) N := rfl
    rw [e, fb_sm_add]
    congr 1
    cases hp : p m
    · show fb_sm (fun _ => 0) N = 0
      rw [fb_sm_const]
      omega
    · have hg := h m (by omega) hp
      have e2 : fb_sm (fun G => if (true && decide (g m = G)) = true then 1 else 0) N = fb_sm (fun i => if i = g m then 1 else (fun _ => 0) i) N := fb_sm_cong (fun k _ => by
        by_cases e : g m = k
        · simp [e]
        · have e' : ¬ k = g m := fun x => e x.symm
          simp [e, e'])
      rw [e2]
      have := fb_sm_upd (fun _ => 0) 1 hg
      rw [fb_sm_const] at this
      simp at this ⊢
      omega
theorem GF.all {A : ca_A} {M : Nat → Int32} {g : Nat → Nat} (h : GF A M g) : fb_sm (sz A) 64 = fb_ct (ca_pt A) 64 := by
  rw [← fb_dbl (ca_pt A) g 64 64 (fun k hk hp => by
    have hp' : ca_p A k := by simpa [ca_pt] using hp
    obtain ⟨-, h2, h3⟩ := (h k hk).1 hp'
    have := h2.2 k h3
    omega)]
  refine fb_sm_cong (fun G hG => fb_ct_cong (fun k hk => ?_))
  rw [Bool.eq_iff_iff, ← h.eq hk hG]
  by_cases hp : ca_p A k
  · obtain ⟨h1, h2, h3⟩ := (h k hk).1 hp
    have hle := h2.2 k h3
    rw [h1, nI_eq (by omega) (by omega)]
    simp [ca_pt, hp]
  · rw [(h k hk).2 hp]
    simp only [ca_pt, hp, decide_false, Bool.false_and]
    constructor
    · intro e
      rw [ci_eq, ci_n (by omega)] at e
      exact absurd e (by show ¬ (-1 : Int) = (G : Int); omega)
    · intro e
      cases e
theorem c_X11_join (w : cb_W) (A : ca_A) (z : Int32) (hI : ca_I A) (hM : cm_I w A z) (g : Nat → Nat) (hG : GI A (w.2.1 1014) g) (k : Nat) (hk : k < 64) (hp : ca_p A k) (o : Int32) (ho : o = -1 ∨ ∃ y, o = nI y ∧ y < 64 ∧ ∃ d, d < 4 ∧ nd k y d) : cb_Con yX11_join cX11_join 3 (some .boolean) 0 0 0 0 (fun _ => true) [.inr (some 1000), .inl (nI k), .inl o] w (cb_pi (fun x w' => ∃ g', GI A (w'.2.1 1014) g' ∧ cm_I w' A z ∧ cb_C1 w w' ∧ ((x = 0 ∧ g' = g ∧ (∀ y, y < 64 → o = nI y → adj A k y → g k ≤ g y)) ∨ (x = 1 ∧ fb_sm g' 64 < fb_sm g 64)))) := by
  have l := hI.1
  have hGk := (hG k hk).1 hp
  have l11 := hI.2.2.2.1.2.1 k
  have p11 : w.2.1 1011 k = nI (A 11 k) := cm_at hM 11 _ (by simp [ca_R]; omega) (by omega)
  refine cb_con (by decide) (Nat.le_of_ble_eq_true rfl) (fun κ O Rt hnm => ?_)
  show cb_X κ w 0 0 0 [some (.inr (some 1000)), some (.inl (nI k)), some (.inl o)] []
  refine cb_iload_n (pc := 0) O dX11_join_0 rfl ?_
  refine cb_if_lt (pc := 1) O 43 dX11_join_1 (by decide) (fun c_1 => ?_) (fun c_1 => ?_)
  · skip
    have hno : ∀ y, y < 64 → o = nI y → adj A k y → g k ≤ g y := fun y hy e => by
      rw [e, ci_lt0, ci_n (by omega)] at c_1
      omega
    refine cb_iconst (pc := 43) (v := 0) O dX11_join_43 (by decide) ?_
    exact cb_iret (pc := 44) O Rt rfl (Nat.le_of_ble_eq_true rfl) (Nat.le_of_ble_eq_true rfl) dX11_join_44 ⟨g, hG, hM, cb_C1.rfl', Or.inl ⟨rfl, rfl, hno⟩⟩
  · skip
    obtain ⟨y, rfl, hy, d, hd, hnd⟩ : ∃ y, o = nI y ∧ y < 64 ∧ ∃ d, d < 4 ∧ nd k y d := ho.resolve_left (fun e => c_1 (by rw [e]; decide))
    have hGy := hG y hy
    have m11 := hI.2.2.2.1.2.1 y
    have q11 : w.2.1 1011 y = nI (A 11 y) := cm_at hM 11 _ (by simp [ca_R]; omega) (by omega)
    refine cb_aload_n (pc := 4) O dX11_join_4 rfl ?_
    refine cb_getR (pc := 5) O fl_X11_32 rfl rfl dX11_join_5 (hM.1.1 _ rfl) (hM.1.2 _ _ _ rfl) ?_
    refine cb_iload_n (pc := 8) O dX11_join_8 rfl ?_
    refine cb_iald (pc := 9) O y rfl dX11_join_9 (by decide) (hM.1.1 _ rfl) rfl (by omega) ?_
    refine cb_if_lt (pc := 10) O 43 dX11_join_10 (by decide) (fun c_10 => ?_) (fun c_10 => ?_)
    · skip
      have hno : ∀ y', y' < 64 → nI y = nI y' → adj A k y' → g k ≤ g y' := fun y' hy' e ha => by
        rw [nI_eq (by omega) (by omega)] at e
        subst e
        rw [(hGy.1 ha.2.1).1, ci_lt0, ci_n (by have := (hGy.1 ha.2.1).2.1; omega)] at c_10
        omega
      refine cb_iconst (pc := 43) (v := 0) O dX11_join_43 (by decide) ?_
      exact cb_iret (pc := 44) O Rt rfl (Nat.le_of_ble_eq_true rfl) (Nat.le_of_ble_eq_true rfl) dX11_join_44 ⟨g, hG, hM, cb_C1.rfl', Or.inl ⟨rfl, rfl, hno⟩⟩
    · skip
      have hpy : ca_p A y := by
        refine Classical.byContradiction (fun h => c_10 ?_)
        rw [hGy.2 h]; decide
      have hgy := hGy.1 hpy
      refine cb_aload_n (pc := 13) O dX11_join_13 rfl ?_
      refine cb_getR (pc := 14) O fl_X11_26 rfl rfl dX11_join_14 (hM.1.1 _ rfl) (hM.1.2 _ _ _ rfl) ?_
      refine cb_iload_n (pc := 17) O dX11_join_17 rfl ?_
      refine cb_iald (pc := 18) O y rfl dX11_join_18 (by decide) (hM.1.1 _ rfl) rfl (by omega) ?_
      refine cb_topv _ q11 ?_
      refine cb_aload_n (pc := 19) O dX11_join_19 rfl ?_
      refine cb_getR (pc := 20) O fl_X11_26 rfl rfl dX11_join_20 (hM.1.1 _ rfl) (hM.1.2 _ _ _ rfl) ?_
      refine cb_iload_n (pc := 23) O dX11_join_23 rfl ?_
      refine cb_iald (pc := 24) O k rfl dX11_join_24 (by decide) (hM.1.1 _ rfl) rfl (by omega) ?_
      refine cb_topv _ p11 ?_
      refine cb_icmp_ne (pc := 25) O 43 dX11_join_25 (by decide) (fun c_25 => ?_) (fun c_25 => ?_)
      · skip
        rw [nI_eq (by omega) (by omega)] at c_25
        have hno : ∀ y', y' < 64 → nI y = nI y' → adj A k y' → g k ≤ g y' := fun y' hy' e ha => by
          rw [nI_eq (by omega) (by omega)] at e
          subst e
          exact absurd ha.2.2.1.symm c_25
        refine cb_iconst (pc := 43) (v := 0) O dX11_join_43 (by decide) ?_
        exact cb_iret (pc := 44) O Rt rfl (Nat.le_of_ble_eq_true rfl) (Nat.le_of_ble_eq_true rfl) dX11_join_44 ⟨g, hG, hM, cb_C1.rfl', Or.inl ⟨rfl, rfl, hno⟩⟩
      · skip
        rw [nI_eq (by omega) (by omega)] at c_25
        have haj : adj A k y := ⟨hp, hpy, c_25.symm, d, hd, hnd⟩
        refine cb_aload_n (pc := 28) O dX11_join_28 rfl ?_
        refine cb_getR (pc := 29) O fl_X11_32 rfl rfl dX11_join_29 (hM.1.1 _ rfl) (hM.1.2 _ _ _ rfl) ?_
        refine cb_iload_n (pc := 32) O dX11_join_32 rfl ?_
        refine cb_iald (pc := 33) O y rfl dX11_join_33 (by decide) (hM.1.1 _ rfl) rfl (by omega) ?_
        refine cb_topv _ hgy.1 ?_
        refine cb_aload_n (pc := 34) O dX11_join_34 rfl ?_
        refine cb_getR (pc := 35) O fl_X11_32 rfl rfl dX11_join_35 (hM.1.1 _ rfl) (hM.1.2 _ _ _ rfl) ?_
        refine cb_iload_n (pc := 38) O dX11_join_38 rfl ?_
        refine cb_iald (pc := 39) O k rfl dX11_join_39 (by decide) (hM.1.1 _ rfl) rfl (by omega) ?_
        refine cb_topv _ hGk.1 ?_
        refine cb_icmp_lt (pc := 40) O 45 dX11_join_40 (by decide) (fun c_40 => ?_) (fun c_40 => ?_)
        · skip
          rw [nI_ltI (by omega) (by omega)] at c_40
          have hup := hG.up hk hy haj c_40
          refine cb_aload_n (pc := 45) O dX11_join_45 rfl ?_
          refine cb_getR (pc := 46) O fl_X11_32 rfl rfl dX11_join_46 (hM.1.1 _ rfl) (hM.1.2 _ _ _ rfl) ?_
          refine cb_iload_n (pc := 49) O dX11_join_49 rfl ?_
          refine cb_aload_n (pc := 50) O dX11_join_50 rfl ?_
          refine cb_getR (pc := 51) O fl_X11_32 rfl rfl dX11_join_51 (hM.1.1 _ rfl) (hM.1.2 _ _ _ rfl) ?_
          refine cb_iload_n (pc := 54) O dX11_join_54 rfl ?_
          refine cb_iald (pc := 55) O y rfl dX11_join_55 (by decide) (hM.1.1 _ rfl) rfl (by omega) ?_
          refine cb_topv _ hgy.1 ?_
          refine cb_iast (pc := 56) O k rfl dX11_join_56 (by decide) (hM.1.1 _ rfl) rfl (by omega) ?_
          refine cb_iconst (pc := 57) (v := 1) O dX11_join_57 (by decide) ?_
          exact cb_iret (pc := 58) O Rt rfl (Nat.le_of_ble_eq_true rfl) (Nat.le_of_ble_eq_true rfl) dX11_join_58 ⟨_, hup.1, hM.sc (k := 14) (by omega) _ (by simp [ca_R]), cb_C1.rfl'.um (by omega), Or.inr ⟨rfl, hup.2⟩⟩
        · skip
          rw [nI_ltI (by omega) (by omega)] at c_40
          have hno : ∀ y', y' < 64 → nI y = nI y' → adj A k y' → g k ≤ g y' := fun y' hy' e ha => by
            rw [nI_eq (by omega) (by omega)] at e
            subst e
            omega
          refine cb_iconst (pc := 43) (v := 0) O dX11_join_43 (by decide) ?_
          exact cb_iret (pc := 44) O Rt rfl (Nat.le_of_ble_eq_true rfl) (Nat.le_of_ble_eq_true rfl) dX11_join_44 ⟨g, hG, hM, cb_C1.rfl', Or.inl ⟨rfl, rfl, hno⟩⟩

theorem c_X11_findGroups (w : cb_W) (A : ca_A) (z : Int32) (hI : ca_I A) (hM : cm_I w A z)  : cb_Con yX11_findGroups cX11_findGroups 3 none 1 22 0 0 (fun _ => true) [.inr (some 1000)] w (cb_pv (fun w' => ∃ g, GF A (w'.2.1 1014) g ∧ cm_I w' A z ∧ cb_C1 w w')) := by
  have l := hI.1
  refine cb_con (by decide) (Nat.le_of_ble_eq_true rfl) (fun κ O Rt hnm => ?_)
  show cb_X κ w 0 0 0 [some (.inr (some 1000)), none, none] []
  refine cb_iconst (pc := 0) (v := 0) O dX11_findGroups_0 (by decide) ?_
  refine cb_istore_n (pc := 1) O dX11_findGroups_1 (by decide) ?_
  dsimp only [List.set]
  have L_2 : ∀ (n : Nat) (k : Nat) (w9 : cb_W), k ≤ 64 → cm_I w9 A z → cb_C1 w w9 → (∀ i, i < k → (ca_p A i → w9.2.1 1014 i = nI i) ∧ (¬ ca_p A i → w9.2.1 1014 i = -1)) → 65 ≤ k + n → cb_X κ w9 0 0 2 [some (.inr (some 1000)), some (.inl (nI k)), none] [] := by
    intro n
    induction n with
    | zero =>
      intro k w9 hk hM9 hC9 hg hn
      exact absurd hn (by omega)
    | succ n ih_2 =>
      intro k w9 hk hM9 hC9 hg hn
      refine cb_iload_n (pc := 2) O dX11_findGroups_2 rfl ?_
      refine cb_bipush (pc := 3) (v := 64) O dX11_findGroups_3 (by decide) ?_
      refine cb_icmp_ge (pc := 5) O 41 dX11_findGroups_5 (by decide) (fun c_5 => ?_) (fun c_5 => ?_)
      · skip
        have e : k = 64 := by
          have := ci_ge (b := 64) c_5 (by omega) (by decide)
          omega
        subst e
        refine cb_iconst (pc := 41) (v := 1) O dX11_findGroups_41 (by decide) ?_
        refine cb_istore_n (pc := 42) O dX11_findGroups_42 (by decide) ?_
        dsimp only [List.set]
        have L_43 : ∀ (n : Nat) (m : Nat) (g : Nat → Nat) (w9 : cb_W) (x2 : Option cb_V), m ≤ 1 → GI A (w9.2.1 1014) g → cm_I w9 A z → cb_C1 w w9 → (m = 0 → ∀ k y, k < 64 → adj A k y → g k ≤ g y) → (1 ≤ n ∧ (m = 0 ∨ fb_sm g 64 + 2 ≤ n)) → cb_X κ w9 0 0 43 [some (.inr (some 1000)), some (.inl (nI m)), x2] [] := by
          intro n
          induction n with
          | zero =>
            intro m g w9 x2 hm hG hM9 hC9 hst hn
            exact absurd hn (by omega)
          | succ n ih_43 =>
            intro m g w9 x2 hm hG hM9 hC9 hst hn
            have hn0 : 1 ≤ n + 1 := by omega
            refine cb_iload_n (pc := 43) O dX11_findGroups_43 rfl ?_
            refine cb_if_eq (pc := 44) O 205 dX11_findGroups_44 (by decide) (fun c_44 => ?_) (fun c_44 => ?_)
            · skip
              have hm0 : m = 0 := by
                rcases (show m = 0 ∨ m = 1 by omega) with e | e
                · exact e
                · rw [e] at c_44; exact absurd c_44 (by decide)
              exact cb_vret (pc := 205) O Rt (Nat.le_of_ble_eq_true rfl) (Nat.le_of_ble_eq_true rfl) dX11_findGroups_205 ⟨g, hG.fin hI (hst hm0), hM9, hC9⟩
            · skip
              have hm0 : ¬ m = 0 := fun e => by rw [e] at c_44; exact c_44 rfl
              refine cb_iconst (pc := 47) (v := 0) O dX11_findGroups_47 (by decide) ?_
              refine cb_istore_n (pc := 48) O dX11_findGroups_48 (by decide) ?_
              dsimp only [List.set]
              refine cb_iconst (pc := 49) (v := 0) O dX11_findGroups_49 (by decide) ?_
              refine cb_istore_n (pc := 50) O dX11_findGroups_50 (by decide) ?_
              dsimp only [List.set]
              obtain ⟨g0, hg0⟩ : ∃ g0, g0 = g := ⟨_, rfl⟩
              have hn2 : fb_sm g0 64 + 2 ≤ n + 1 := by
                rw [hg0]; exact hn.2.resolve_left hm0
              have L_51 : ∀ (p : Nat) (k m : Nat) (g : Nat → Nat) (w9 : cb_W), k ≤ 64 → GI A (w9.2.1 1014) g → cm_I w9 A z → cb_C1 w w9 → FS A g0 k 0 m g → 65 ≤ k + p → cb_X κ w9 0 0 51 [some (.inr (some 1000)), some (.inl (nI m)), some (.inl (nI k))] [] := by
                intro p
                induction p with
                | zero =>
                  intro k m g w9 hk hG hM9 hC9 hFS hn
                  exact absurd hn (by omega)
                | succ p ih_51 =>
                  intro k m g w9 hk hG hM9 hC9 hFS hn
                  refine cb_iload_n (pc := 51) O dX11_findGroups_51 rfl ?_
                  refine cb_bipush (pc := 52) (v := 64) O dX11_findGroups_52 (by decide) ?_
                  refine cb_icmp_ge (pc := 54) O 202 dX11_findGroups_54 (by decide) (fun c_54 => ?_) (fun c_54 => ?_)
                  · skip
                    have e : k = 64 := by
                      have := ci_ge (b := 64) c_54 (by omega) (by decide)
                      omega
                    subst e
                    refine cb_goto (pc := 202) O 43 dX11_findGroups_202 (by decide) ?_
                    exact ih_43 m g w9 _ hFS.1 hG hM9 hC9 (fun h0 => by
                      obtain ⟨e1, e2, -⟩ := hFS.2.1 h0
                      rw [e1]
                      exact fun k' y hk' ha => e2 k' hk' y ha) (by
                      rcases (show m = 0 ∨ m = 1 by have := hFS.1; omega) with e | e
                      · exact ⟨by omega, Or.inl e⟩
                      · have := hFS.2.2 e
                        exact ⟨by omega, Or.inr (by omega)⟩)
                  · skip
                    have hlt : k < 64 := ci_nge (b := 64) c_54 (by omega) (by decide)
                    refine cb_aload_n (pc := 57) O dX11_findGroups_57 rfl ?_
                    refine cb_getR (pc := 58) O fl_X11_32 rfl rfl dX11_findGroups_58 (hM9.1.1 _ rfl) (hM9.1.2 _ _ _ rfl) ?_
                    refine cb_iload_n (pc := 61) O dX11_findGroups_61 rfl ?_
                    refine cb_iald (pc := 62) O k rfl dX11_findGroups_62 (by decide) (hM9.1.1 _ rfl) rfl (by omega) ?_
                    refine cb_if_lt (pc := 63) O 196 dX11_findGroups_63 (by decide) (fun c_63 => ?_) (fun c_63 => ?_)
                    · skip
                      have hp : ¬ ca_p A k := fun h => by
                        rw [((hG k hlt).1 h).1, ci_lt0, ci_n (by have := ((hG k hlt).1 h).2.1; omega)] at c_63
                        omega
                      have hFS := hFS.np hp
                      first
                      | exact J_196 _ g_180 w_180 hG_180 hM_180 (hC9.trans hC_180) hS_180
                      | (refine cb_iinc (pc := 196) O (nI (k + 1)) dX11_findGroups_196 rfl (by decide) (ci_inc k) ?_
                         dsimp only [List.set]
                         refine cb_goto (pc := 199) O 51 dX11_findGroups_199 (by decide) ?_
                         exact ih_51 (k + 1) m g w9 (by omega) hG hM9 hC9 hFS.next (by omega))
                    · skip
                      have hp : ca_p A k := Classical.byContradiction (fun h => c_63 (by rw [(hG k hlt).2 h]; decide))
                      have J_196 : ∀ (m : Nat) (g : Nat → Nat) (w9 : cb_W) (hG : GI A (w9.2.1 1014) g) (hM9 : cm_I w9 A z) (hC9 : cb_C1 w w9) (hFS : FS A g0 k 4 m g), cb_X κ w9 0 0 196 [some (.inr (some 1000)), some (.inl (nI m)), some (.inl (nI k))] [] := by
                        intro m g w9 hG hM9 hC9 hFS
                        refine cb_iinc (pc := 196) O (nI (k + 1)) dX11_findGroups_196 rfl (by decide) (ci_inc k) ?_
                        dsimp only [List.set]
                        refine cb_goto (pc := 199) O 51 dX11_findGroups_199 (by decide) ?_
                        exact ih_51 (k + 1) m g w9 (by omega) hG hM9 hC9 hFS.next (by omega)
                      have J_164 : ∀ (m : Nat) (g : Nat → Nat) (w9 : cb_W) (hG : GI A (w9.2.1 1014) g) (hM9 : cm_I w9 A z) (hC9 : cb_C1 w w9) (hFS : FS A g0 k 3 m g), cb_X κ w9 0 0 164 [some (.inr (some 1000)), some (.inl (nI m)), some (.inl (nI k))] [] := by
                        intro m g w9 hG hM9 hC9 hFS
                        refine cb_aload_n (pc := 164) O dX11_findGroups_164 rfl ?_
                        refine cb_iload_n (pc := 165) O dX11_findGroups_165 rfl ?_
                        refine cb_iload_n (pc := 166) O dX11_findGroups_166 rfl ?_
                        refine cb_bipush (pc := 167) (v := 56) O dX11_findGroups_167 (by decide) ?_
                        refine cb_icmp_ge (pc := 169) O 179 dX11_findGroups_169 (by decide) (fun c_169 => ?_) (fun c_169 => ?_)
                        · skip
                          rw [show (56 : Int32) = nI 56 from rfl, nI_leI (by omega) (by omega)] at c_169
                          have ho : (-1 : Int32) = -1 ∨ ∃ y, (-1 : Int32) = nI y ∧ y < 64 ∧ ∃ d, d < 4 ∧ nd k y d := Or.inl rfl
                          have hof : ∀ y : Nat, False → (-1 : Int32) = nI y := fun y h => h.elim
                          refine cb_iconst (pc := 179) (v := (-1)) O dX11_findGroups_179 (by decide) ?_
                          refine cb_cVi (pc := 180) O (c_X11_join w9 A z hI hM9 g hG k hlt hp _ ho) my_X11_join mi_X11_join mx_X11_join ml_X11_148 dX11_findGroups_180 rfl ct_11 rfl rfl rfl ⟨(Nat.le_of_ble_eq_true rfl), (Nat.le_of_ble_eq_true rfl)⟩ (Nat.le_of_ble_eq_true rfl) rfl ⟨(Nat.le_of_ble_eq_true rfl), (Nat.le_of_ble_eq_true rfl)⟩ (fun _ _ => rfl) (hM9.1.1 _ rfl) (fun x_180 w_180 hp_180 => ?_)
                          obtain ⟨g_180, hG_180, hM_180, hC_180, hx_180⟩ := hp_180
                          have hS_180 := FS.st (x := x_180) (g' := g_180) hFS (by
                            rcases hx_180 with ⟨e1, e2, e3⟩ | h
                            · refine Or.inl ⟨e1, e2, fun d y hd hn ha => ?_⟩
                              have hy64 := ca_p64 hI ha.2.1
                              unfold dj at hd
                              unfold nd at hn
                              have hoy := hof y (by omega)
                              exact e3 y hy64 hoy ha
                            · exact Or.inr h)
                          refine cb_if_ne (pc := 183) O 190 dX11_findGroups_183 (by decide) (fun c_183 => ?_) (fun c_183 => ?_)
                          · skip
                            refine cb_iconst (pc := 190) (v := 1) O dX11_findGroups_190 (by decide) ?_
                            refine cb_topv (nI (if x_180 = 0 then m else 1)) (by
                              first
                              | (rw [if_neg c_183]; rfl)
                              | (rw [if_pos c_183]
                                 have hm1 := hFS.1
                                 rcases (show m = 0 ∨ m = 1 by omega) with e | e
                                 · rw [e] at c_187 ⊢
                                   first | rfl | exact absurd rfl c_187 | exact absurd c_187 (by decide)
                                 · rw [e] at c_187 ⊢
                                   first | rfl | exact absurd rfl c_187 | exact absurd c_187 (by decide))) ?_
                            refine cb_goto (pc := 191) O 195 dX11_findGroups_191 (by decide) ?_
                            refine cb_istore_n (pc := 195) O dX11_findGroups_195 (by decide) ?_
                            dsimp only [List.set]
                            first
                            | exact J_196 _ g_180 w_180 hG_180 hM_180 (hC9.trans hC_180) hS_180
                            | (refine cb_iinc (pc := 196) O (nI (k + 1)) dX11_findGroups_196 rfl (by decide) (ci_inc k) ?_
                               dsimp only [List.set]
                               refine cb_goto (pc := 199) O 51 dX11_findGroups_199 (by decide) ?_
                               exact ih_51 (k + 1) m g w9 (by omega) hG hM9 hC9 hFS.next (by omega))
                          · skip
                            refine cb_iload_n (pc := 186) O dX11_findGroups_186 rfl ?_
                            refine cb_if_eq (pc := 187) O 194 dX11_findGroups_187 (by decide) (fun c_187 => ?_) (fun c_187 => ?_)
                            · skip
                              refine cb_iconst (pc := 194) (v := 0) O dX11_findGroups_194 (by decide) ?_
                              refine cb_topv (nI (if x_180 = 0 then m else 1)) (by
                                first
                                | (rw [if_neg c_183]; rfl)
                                | (rw [if_pos c_183]
                                   have hm1 := hFS.1
                                   rcases (show m = 0 ∨ m = 1 by omega) with e | e
                                   · rw [e] at c_187 ⊢
                                     first | rfl | exact absurd rfl c_187 | exact absurd c_187 (by decide)
                                   · rw [e] at c_187 ⊢
                                     first | rfl | exact absurd rfl c_187 | exact absurd c_187 (by decide))) ?_
                              refine cb_istore_n (pc := 195) O dX11_findGroups_195 (by decide) ?_
                              dsimp only [List.set]
                              first
                              | exact J_196 _ g_180 w_180 hG_180 hM_180 (hC9.trans hC_180) hS_180
                              | (refine cb_iinc (pc := 196) O (nI (k + 1)) dX11_findGroups_196 rfl (by decide) (ci_inc k) ?_
                                 dsimp only [List.set]
                                 refine cb_goto (pc := 199) O 51 dX11_findGroups_199 (by decide) ?_
                                 exact ih_51 (k + 1) m g w9 (by omega) hG hM9 hC9 hFS.next (by omega))
                            · skip
                              refine cb_iconst (pc := 190) (v := 1) O dX11_findGroups_190 (by decide) ?_
                              refine cb_topv (nI (if x_180 = 0 then m else 1)) (by
                                first
                                | (rw [if_neg c_183]; rfl)
                                | (rw [if_pos c_183]
                                   have hm1 := hFS.1
                                   rcases (show m = 0 ∨ m = 1 by omega) with e | e
                                   · rw [e] at c_187 ⊢
                                     first | rfl | exact absurd rfl c_187 | exact absurd c_187 (by decide)
                                   · rw [e] at c_187 ⊢
                                     first | rfl | exact absurd rfl c_187 | exact absurd c_187 (by decide))) ?_
                              refine cb_goto (pc := 191) O 195 dX11_findGroups_191 (by decide) ?_
                              refine cb_istore_n (pc := 195) O dX11_findGroups_195 (by decide) ?_
                              dsimp only [List.set]
                              first
                              | exact J_196 _ g_180 w_180 hG_180 hM_180 (hC9.trans hC_180) hS_180
                              | (refine cb_iinc (pc := 196) O (nI (k + 1)) dX11_findGroups_196 rfl (by decide) (ci_inc k) ?_
                                 dsimp only [List.set]
                                 refine cb_goto (pc := 199) O 51 dX11_findGroups_199 (by decide) ?_
                                 exact ih_51 (k + 1) m g w9 (by omega) hG hM9 hC9 hFS.next (by omega))
                        · skip
                          rw [show (56 : Int32) = nI 56 from rfl, nI_leI (by omega) (by omega)] at c_169
                          have ho : nI (k + 8) = -1 ∨ ∃ y', nI (k + 8) = nI y' ∧ y' < 64 ∧ ∃ d, d < 4 ∧ nd k y' d := Or.inr ⟨(k + 8), rfl, by omega, 1, by omega, by unfold nd; omega⟩
                          have hof : ∀ y', (k + 8) = y' → nI (k + 8) = nI y' := fun y' e => by rw [e]
                          refine cb_iload_n (pc := 172) O dX11_findGroups_172 rfl ?_
                          refine cb_bipush (pc := 173) (v := 8) O dX11_findGroups_173 (by decide) ?_
                          refine cb_iadd (pc := 175) O dX11_findGroups_175 ?_
                          refine cb_topv (nI (k + 8)) (nI_add _ _) ?_
                          refine cb_goto (pc := 176) O 180 dX11_findGroups_176 (by decide) ?_
                          refine cb_cVi (pc := 180) O (c_X11_join w9 A z hI hM9 g hG k hlt hp _ ho) my_X11_join mi_X11_join mx_X11_join ml_X11_148 dX11_findGroups_180 rfl ct_11 rfl rfl rfl ⟨(Nat.le_of_ble_eq_true rfl), (Nat.le_of_ble_eq_true rfl)⟩ (Nat.le_of_ble_eq_true rfl) rfl ⟨(Nat.le_of_ble_eq_true rfl), (Nat.le_of_ble_eq_true rfl)⟩ (fun _ _ => rfl) (hM9.1.1 _ rfl) (fun x_180 w_180 hp_180 => ?_)
                          obtain ⟨g_180, hG_180, hM_180, hC_180, hx_180⟩ := hp_180
                          have hS_180 := FS.st (x := x_180) (g' := g_180) hFS (by
                            rcases hx_180 with ⟨e1, e2, e3⟩ | h
                            · refine Or.inl ⟨e1, e2, fun d y hd hn ha => ?_⟩
                              have hy64 := ca_p64 hI ha.2.1
                              unfold dj at hd
                              unfold nd at hn
                              have hoy := hof y (by omega)
                              exact e3 y hy64 hoy ha
                            · exact Or.inr h)
                          refine cb_if_ne (pc := 183) O 190 dX11_findGroups_183 (by decide) (fun c_183 => ?_) (fun c_183 => ?_)
                          · skip
                            refine cb_iconst (pc := 190) (v := 1) O dX11_findGroups_190 (by decide) ?_
                            refine cb_topv (nI (if x_180 = 0 then m else 1)) (by
                              first
                              | (rw [if_neg c_183]; rfl)
                              | (rw [if_pos c_183]
                                 have hm1 := hFS.1
                                 rcases (show m = 0 ∨ m = 1 by omega) with e | e
                                 · rw [e] at c_187 ⊢
                                   first | rfl | exact absurd rfl c_187 | exact absurd c_187 (by decide)
                                 · rw [e] at c_187 ⊢
                                   first | rfl | exact absurd rfl c_187 | exact absurd c_187 (by decide))) ?_
                            refine cb_goto (pc := 191) O 195 dX11_findGroups_191 (by decide) ?_
                            refine cb_istore_n (pc := 195) O dX11_findGroups_195 (by decide) ?_
                            dsimp only [List.set]
                            first
                            | exact J_196 _ g_180 w_180 hG_180 hM_180 (hC9.trans hC_180) hS_180
                            | (refine cb_iinc (pc := 196) O (nI (k + 1)) dX11_findGroups_196 rfl (by decide) (ci_inc k) ?_
                               dsimp only [List.set]
                               refine cb_goto (pc := 199) O 51 dX11_findGroups_199 (by decide) ?_
                               exact ih_51 (k + 1) m g w9 (by omega) hG hM9 hC9 hFS.next (by omega))
                          · skip
                            refine cb_iload_n (pc := 186) O dX11_findGroups_186 rfl ?_
                            refine cb_if_eq (pc := 187) O 194 dX11_findGroups_187 (by decide) (fun c_187 => ?_) (fun c_187 => ?_)
                            · skip
                              refine cb_iconst (pc := 194) (v := 0) O dX11_findGroups_194 (by decide) ?_
                              refine cb_topv (nI (if x_180 = 0 then m else 1)) (by
                                first
                                | (rw [if_neg c_183]; rfl)
                                | (rw [if_pos c_183]
                                   have hm1 := hFS.1
                                   rcases (show m = 0 ∨ m = 1 by omega) with e | e
                                   · rw [e] at c_187 ⊢
                                     first | rfl | exact absurd rfl c_187 | exact absurd c_187 (by decide)
                                   · rw [e] at c_187 ⊢
                                     first | rfl | exact absurd rfl c_187 | exact absurd c_187 (by decide))) ?_
                              refine cb_istore_n (pc := 195) O dX11_findGroups_195 (by decide) ?_
                              dsimp only [List.set]
                              first
                              | exact J_196 _ g_180 w_180 hG_180 hM_180 (hC9.trans hC_180) hS_180
                              | (refine cb_iinc (pc := 196) O (nI (k + 1)) dX11_findGroups_196 rfl (by decide) (ci_inc k) ?_
                                 dsimp only [List.set]
                                 refine cb_goto (pc := 199) O 51 dX11_findGroups_199 (by decide) ?_
                                 exact ih_51 (k + 1) m g w9 (by omega) hG hM9 hC9 hFS.next (by omega))
                            · skip
                              refine cb_iconst (pc := 190) (v := 1) O dX11_findGroups_190 (by decide) ?_
                              refine cb_topv (nI (if x_180 = 0 then m else 1)) (by
                                first
                                | (rw [if_neg c_183]; rfl)
                                | (rw [if_pos c_183]
                                   have hm1 := hFS.1
                                   rcases (show m = 0 ∨ m = 1 by omega) with e | e
                                   · rw [e] at c_187 ⊢
                                     first | rfl | exact absurd rfl c_187 | exact absurd c_187 (by decide)
                                   · rw [e] at c_187 ⊢
                                     first | rfl | exact absurd rfl c_187 | exact absurd c_187 (by decide))) ?_
                              refine cb_goto (pc := 191) O 195 dX11_findGroups_191 (by decide) ?_
                              refine cb_istore_n (pc := 195) O dX11_findGroups_195 (by decide) ?_
                              dsimp only [List.set]
                              first
                              | exact J_196 _ g_180 w_180 hG_180 hM_180 (hC9.trans hC_180) hS_180
                              | (refine cb_iinc (pc := 196) O (nI (k + 1)) dX11_findGroups_196 rfl (by decide) (ci_inc k) ?_
                                 dsimp only [List.set]
                                 refine cb_goto (pc := 199) O 51 dX11_findGroups_199 (by decide) ?_
                                 exact ih_51 (k + 1) m g w9 (by omega) hG hM9 hC9 hFS.next (by omega))
                      have J_132 : ∀ (m : Nat) (g : Nat → Nat) (w9 : cb_W) (hG : GI A (w9.2.1 1014) g) (hM9 : cm_I w9 A z) (hC9 : cb_C1 w w9) (hFS : FS A g0 k 2 m g), cb_X κ w9 0 0 132 [some (.inr (some 1000)), some (.inl (nI m)), some (.inl (nI k))] [] := by
                        intro m g w9 hG hM9 hC9 hFS
                        refine cb_aload_n (pc := 132) O dX11_findGroups_132 rfl ?_
                        refine cb_iload_n (pc := 133) O dX11_findGroups_133 rfl ?_
                        refine cb_iload_n (pc := 134) O dX11_findGroups_134 rfl ?_
                        refine cb_bipush (pc := 135) (v := 8) O dX11_findGroups_135 (by decide) ?_
                        refine cb_icmp_lt (pc := 137) O 147 dX11_findGroups_137 (by decide) (fun c_137 => ?_) (fun c_137 => ?_)
                        · skip
                          rw [show (8 : Int32) = nI 8 from rfl, nI_ltI (by omega) (by omega)] at c_137
                          have ho : (-1 : Int32) = -1 ∨ ∃ y, (-1 : Int32) = nI y ∧ y < 64 ∧ ∃ d, d < 4 ∧ nd k y d := Or.inl rfl
                          have hof : ∀ y : Nat, False → (-1 : Int32) = nI y := fun y h => h.elim
                          refine cb_iconst (pc := 147) (v := (-1)) O dX11_findGroups_147 (by decide) ?_
                          refine cb_cVi (pc := 148) O (c_X11_join w9 A z hI hM9 g hG k hlt hp _ ho) my_X11_join mi_X11_join mx_X11_join ml_X11_148 dX11_findGroups_148 rfl ct_11 rfl rfl rfl ⟨(Nat.le_of_ble_eq_true rfl), (Nat.le_of_ble_eq_true rfl)⟩ (Nat.le_of_ble_eq_true rfl) rfl ⟨(Nat.le_of_ble_eq_true rfl), (Nat.le_of_ble_eq_true rfl)⟩ (fun _ _ => rfl) (hM9.1.1 _ rfl) (fun x_148 w_148 hp_148 => ?_)
                          obtain ⟨g_148, hG_148, hM_148, hC_148, hx_148⟩ := hp_148
                          have hS_148 := FS.st (x := x_148) (g' := g_148) hFS (by
                            rcases hx_148 with ⟨e1, e2, e3⟩ | h
                            · refine Or.inl ⟨e1, e2, fun d y hd hn ha => ?_⟩
                              have hy64 := ca_p64 hI ha.2.1
                              unfold dj at hd
                              unfold nd at hn
                              have hoy := hof y (by omega)
                              exact e3 y hy64 hoy ha
                            · exact Or.inr h)
                          refine cb_if_ne (pc := 151) O 158 dX11_findGroups_151 (by decide) (fun c_151 => ?_) (fun c_151 => ?_)
                          · skip
                            refine cb_iconst (pc := 158) (v := 1) O dX11_findGroups_158 (by decide) ?_
                            refine cb_topv (nI (if x_148 = 0 then m else 1)) (by
                              first
                              | (rw [if_neg c_151]; rfl)
                              | (rw [if_pos c_151]
                                 have hm1 := hFS.1
                                 rcases (show m = 0 ∨ m = 1 by omega) with e | e
                                 · rw [e] at c_155 ⊢
                                   first | rfl | exact absurd rfl c_155 | exact absurd c_155 (by decide)
                                 · rw [e] at c_155 ⊢
                                   first | rfl | exact absurd rfl c_155 | exact absurd c_155 (by decide))) ?_
                            refine cb_goto (pc := 159) O 163 dX11_findGroups_159 (by decide) ?_
                            refine cb_istore_n (pc := 163) O dX11_findGroups_163 (by decide) ?_
                            dsimp only [List.set]
                            exact J_164 _ g_148 w_148 hG_148 hM_148 (hC9.trans hC_148) hS_148
                          · skip
                            refine cb_iload_n (pc := 154) O dX11_findGroups_154 rfl ?_
                            refine cb_if_eq (pc := 155) O 162 dX11_findGroups_155 (by decide) (fun c_155 => ?_) (fun c_155 => ?_)
                            · skip
                              refine cb_iconst (pc := 162) (v := 0) O dX11_findGroups_162 (by decide) ?_
                              refine cb_topv (nI (if x_148 = 0 then m else 1)) (by
                                first
                                | (rw [if_neg c_151]; rfl)
                                | (rw [if_pos c_151]
                                   have hm1 := hFS.1
                                   rcases (show m = 0 ∨ m = 1 by omega) with e | e
                                   · rw [e] at c_155 ⊢
                                     first | rfl | exact absurd rfl c_155 | exact absurd c_155 (by decide)
                                   · rw [e] at c_155 ⊢
                                     first | rfl | exact absurd rfl c_155 | exact absurd c_155 (by decide))) ?_
                              refine cb_istore_n (pc := 163) O dX11_findGroups_163 (by decide) ?_
                              dsimp only [List.set]
                              exact J_164 _ g_148 w_148 hG_148 hM_148 (hC9.trans hC_148) hS_148
                            · skip
                              refine cb_iconst (pc := 158) (v := 1) O dX11_findGroups_158 (by decide) ?_
                              refine cb_topv (nI (if x_148 = 0 then m else 1)) (by
                                first
                                | (rw [if_neg c_151]; rfl)
                                | (rw [if_pos c_151]
                                   have hm1 := hFS.1
                                   rcases (show m = 0 ∨ m = 1 by omega) with e | e
                                   · rw [e] at c_155 ⊢
                                     first | rfl | exact absurd rfl c_155 | exact absurd c_155 (by decide)
                                   · rw [e] at c_155 ⊢
                                     first | rfl | exact absurd rfl c_155 | exact absurd c_155 (by decide))) ?_
                              refine cb_goto (pc := 159) O 163 dX11_findGroups_159 (by decide) ?_
                              refine cb_istore_n (pc := 163) O dX11_findGroups_163 (by decide) ?_
                              dsimp only [List.set]
                              exact J_164 _ g_148 w_148 hG_148 hM_148 (hC9.trans hC_148) hS_148
                        · skip
                          rw [show (8 : Int32) = nI 8 from rfl, nI_ltI (by omega) (by omega)] at c_137
                          have ho : nI (k - 8) = -1 ∨ ∃ y', nI (k - 8) = nI y' ∧ y' < 64 ∧ ∃ d, d < 4 ∧ nd k y' d := Or.inr ⟨(k - 8), rfl, by omega, 0, by omega, by unfold nd; omega⟩
                          have hof : ∀ y', (k - 8) = y' → nI (k - 8) = nI y' := fun y' e => by rw [e]
                          refine cb_iload_n (pc := 140) O dX11_findGroups_140 rfl ?_
                          refine cb_bipush (pc := 141) (v := 8) O dX11_findGroups_141 (by decide) ?_
                          refine cb_isub (pc := 143) O dX11_findGroups_143 ?_
                          refine cb_topv (nI (k - 8)) (by
                            rw [show k = k - 8 + 8 by omega, ← nI_add]
                            exact (Int32.add_sub_cancel _ _).trans (by rw [Nat.add_sub_cancel])) ?_
                          refine cb_goto (pc := 144) O 148 dX11_findGroups_144 (by decide) ?_
                          refine cb_cVi (pc := 148) O (c_X11_join w9 A z hI hM9 g hG k hlt hp _ ho) my_X11_join mi_X11_join mx_X11_join ml_X11_148 dX11_findGroups_148 rfl ct_11 rfl rfl rfl ⟨(Nat.le_of_ble_eq_true rfl), (Nat.le_of_ble_eq_true rfl)⟩ (Nat.le_of_ble_eq_true rfl) rfl ⟨(Nat.le_of_ble_eq_true rfl), (Nat.le_of_ble_eq_true rfl)⟩ (fun _ _ => rfl) (hM9.1.1 _ rfl) (fun x_148 w_148 hp_148 => ?_)
                          obtain ⟨g_148, hG_148, hM_148, hC_148, hx_148⟩ := hp_148
                          have hS_148 := FS.st (x := x_148) (g' := g_148) hFS (by
                            rcases hx_148 with ⟨e1, e2, e3⟩ | h
                            · refine Or.inl ⟨e1, e2, fun d y hd hn ha => ?_⟩
                              have hy64 := ca_p64 hI ha.2.1
                              unfold dj at hd
                              unfold nd at hn
                              have hoy := hof y (by omega)
                              exact e3 y hy64 hoy ha
                            · exact Or.inr h)
                          refine cb_if_ne (pc := 151) O 158 dX11_findGroups_151 (by decide) (fun c_151 => ?_) (fun c_151 => ?_)
                          · skip
                            refine cb_iconst (pc := 158) (v := 1) O dX11_findGroups_158 (by decide) ?_
                            refine cb_topv (nI (if x_148 = 0 then m else 1)) (by
                              first
                              | (rw [if_neg c_151]; rfl)
                              | (rw [if_pos c_151]
                                 have hm1 := hFS.1
                                 rcases (show m = 0 ∨ m = 1 by omega) with e | e
                                 · rw [e] at c_155 ⊢
                                   first | rfl | exact absurd rfl c_155 | exact absurd c_155 (by decide)
                                 · rw [e] at c_155 ⊢
                                   first | rfl | exact absurd rfl c_155 | exact absurd c_155 (by decide))) ?_
                            refine cb_goto (pc := 159) O 163 dX11_findGroups_159 (by decide) ?_
                            refine cb_istore_n (pc := 163) O dX11_findGroups_163 (by decide) ?_
                            dsimp only [List.set]
                            exact J_164 _ g_148 w_148 hG_148 hM_148 (hC9.trans hC_148) hS_148
                          · skip
                            refine cb_iload_n (pc := 154) O dX11_findGroups_154 rfl ?_
                            refine cb_if_eq (pc := 155) O 162 dX11_findGroups_155 (by decide) (fun c_155 => ?_) (fun c_155 => ?_)
                            · skip
                              refine cb_iconst (pc := 162) (v := 0) O dX11_findGroups_162 (by decide) ?_
                              refine cb_topv (nI (if x_148 = 0 then m else 1)) (by
                                first
                                | (rw [if_neg c_151]; rfl)
                                | (rw [if_pos c_151]
                                   have hm1 := hFS.1
                                   rcases (show m = 0 ∨ m = 1 by omega) with e | e
                                   · rw [e] at c_155 ⊢
                                     first | rfl | exact absurd rfl c_155 | exact absurd c_155 (by decide)
                                   · rw [e] at c_155 ⊢
                                     first | rfl | exact absurd rfl c_155 | exact absurd c_155 (by decide))) ?_
                              refine cb_istore_n (pc := 163) O dX11_findGroups_163 (by decide) ?_
                              dsimp only [List.set]
                              exact J_164 _ g_148 w_148 hG_148 hM_148 (hC9.trans hC_148) hS_148
                            · skip
                              refine cb_iconst (pc := 158) (v := 1) O dX11_findGroups_158 (by decide) ?_
                              refine cb_topv (nI (if x_148 = 0 then m else 1)) (by
                                first
                                | (rw [if_neg c_151]; rfl)
                                | (rw [if_pos c_151]
                                   have hm1 := hFS.1
                                   rcases (show m = 0 ∨ m = 1 by omega) with e | e
                                   · rw [e] at c_155 ⊢
                                     first | rfl | exact absurd rfl c_155 | exact absurd c_155 (by decide)
                                   · rw [e] at c_155 ⊢
                                     first | rfl | exact absurd rfl c_155 | exact absurd c_155 (by decide))) ?_
                              refine cb_goto (pc := 159) O 163 dX11_findGroups_159 (by decide) ?_
                              refine cb_istore_n (pc := 163) O dX11_findGroups_163 (by decide) ?_
                              dsimp only [List.set]
                              exact J_164 _ g_148 w_148 hG_148 hM_148 (hC9.trans hC_148) hS_148
                      have J_98 : ∀ (m : Nat) (g : Nat → Nat) (w9 : cb_W) (hG : GI A (w9.2.1 1014) g) (hM9 : cm_I w9 A z) (hC9 : cb_C1 w w9) (hFS : FS A g0 k 1 m g), cb_X κ w9 0 0 98 [some (.inr (some 1000)), some (.inl (nI m)), some (.inl (nI k))] [] := by
                        intro m g w9 hG hM9 hC9 hFS
                        refine cb_aload_n (pc := 98) O dX11_findGroups_98 rfl ?_
                        refine cb_iload_n (pc := 99) O dX11_findGroups_99 rfl ?_
                        refine cb_iload_n (pc := 100) O dX11_findGroups_100 rfl ?_
                        refine cb_bipush (pc := 101) (v := 8) O dX11_findGroups_101 (by decide) ?_
                        refine cb_irem (pc := 103) O dX11_findGroups_103 (by decide) ?_
                        refine cb_topv (nI (k % 8)) (ci_r8 (by omega)) ?_
                        refine cb_bipush (pc := 104) (v := 7) O dX11_findGroups_104 (by decide) ?_
                        refine cb_icmp_ge (pc := 106) O 115 dX11_findGroups_106 (by decide) (fun c_106 => ?_) (fun c_106 => ?_)
                        · skip
                          rw [show (7 : Int32) = nI 7 from rfl, nI_leI (by omega) (by omega)] at c_106
                          have ho : (-1 : Int32) = -1 ∨ ∃ y, (-1 : Int32) = nI y ∧ y < 64 ∧ ∃ d, d < 4 ∧ nd k y d := Or.inl rfl
                          have hof : ∀ y : Nat, False → (-1 : Int32) = nI y := fun y h => h.elim
                          refine cb_iconst (pc := 115) (v := (-1)) O dX11_findGroups_115 (by decide) ?_
                          refine cb_cVi (pc := 116) O (c_X11_join w9 A z hI hM9 g hG k hlt hp _ ho) my_X11_join mi_X11_join mx_X11_join ml_X11_148 dX11_findGroups_116 rfl ct_11 rfl rfl rfl ⟨(Nat.le_of_ble_eq_true rfl), (Nat.le_of_ble_eq_true rfl)⟩ (Nat.le_of_ble_eq_true rfl) rfl ⟨(Nat.le_of_ble_eq_true rfl), (Nat.le_of_ble_eq_true rfl)⟩ (fun _ _ => rfl) (hM9.1.1 _ rfl) (fun x_116 w_116 hp_116 => ?_)
                          obtain ⟨g_116, hG_116, hM_116, hC_116, hx_116⟩ := hp_116
                          have hS_116 := FS.st (x := x_116) (g' := g_116) hFS (by
                            rcases hx_116 with ⟨e1, e2, e3⟩ | h
                            · refine Or.inl ⟨e1, e2, fun d y hd hn ha => ?_⟩
                              have hy64 := ca_p64 hI ha.2.1
                              unfold dj at hd
                              unfold nd at hn
                              have hoy := hof y (by omega)
                              exact e3 y hy64 hoy ha
                            · exact Or.inr h)
                          refine cb_if_ne (pc := 119) O 126 dX11_findGroups_119 (by decide) (fun c_119 => ?_) (fun c_119 => ?_)
                          · skip
                            refine cb_iconst (pc := 126) (v := 1) O dX11_findGroups_126 (by decide) ?_
                            refine cb_topv (nI (if x_116 = 0 then m else 1)) (by
                              first
                              | (rw [if_neg c_119]; rfl)
                              | (rw [if_pos c_119]
                                 have hm1 := hFS.1
                                 rcases (show m = 0 ∨ m = 1 by omega) with e | e
                                 · rw [e] at c_123 ⊢
                                   first | rfl | exact absurd rfl c_123 | exact absurd c_123 (by decide)
                                 · rw [e] at c_123 ⊢
                                   first | rfl | exact absurd rfl c_123 | exact absurd c_123 (by decide))) ?_
                            refine cb_goto (pc := 127) O 131 dX11_findGroups_127 (by decide) ?_
                            refine cb_istore_n (pc := 131) O dX11_findGroups_131 (by decide) ?_
                            dsimp only [List.set]
                            exact J_132 _ g_116 w_116 hG_116 hM_116 (hC9.trans hC_116) hS_116
                          · skip
                            refine cb_iload_n (pc := 122) O dX11_findGroups_122 rfl ?_
                            refine cb_if_eq (pc := 123) O 130 dX11_findGroups_123 (by decide) (fun c_123 => ?_) (fun c_123 => ?_)
                            · skip
                              refine cb_iconst (pc := 130) (v := 0) O dX11_findGroups_130 (by decide) ?_
                              refine cb_topv (nI (if x_116 = 0 then m else 1)) (by
                                first
                                | (rw [if_neg c_119]; rfl)
                                | (rw [if_pos c_119]
                                   have hm1 := hFS.1
                                   rcases (show m = 0 ∨ m = 1 by omega) with e | e
                                   · rw [e] at c_123 ⊢
                                     first | rfl | exact absurd rfl c_123 | exact absurd c_123 (by decide)
                                   · rw [e] at c_123 ⊢
                                     first | rfl | exact absurd rfl c_123 | exact absurd c_123 (by decide))) ?_
                              refine cb_istore_n (pc := 131) O dX11_findGroups_131 (by decide) ?_
                              dsimp only [List.set]
                              exact J_132 _ g_116 w_116 hG_116 hM_116 (hC9.trans hC_116) hS_116
                            · skip
                              refine cb_iconst (pc := 126) (v := 1) O dX11_findGroups_126 (by decide) ?_
                              refine cb_topv (nI (if x_116 = 0 then m else 1)) (by
                                first
                                | (rw [if_neg c_119]; rfl)
                                | (rw [if_pos c_119]
                                   have hm1 := hFS.1
                                   rcases (show m = 0 ∨ m = 1 by omega) with e | e
                                   · rw [e] at c_123 ⊢
                                     first | rfl | exact absurd rfl c_123 | exact absurd c_123 (by decide)
                                   · rw [e] at c_123 ⊢
                                     first | rfl | exact absurd rfl c_123 | exact absurd c_123 (by decide))) ?_
                              refine cb_goto (pc := 127) O 131 dX11_findGroups_127 (by decide) ?_
                              refine cb_istore_n (pc := 131) O dX11_findGroups_131 (by decide) ?_
                              dsimp only [List.set]
                              exact J_132 _ g_116 w_116 hG_116 hM_116 (hC9.trans hC_116) hS_116
                        · skip
                          rw [show (7 : Int32) = nI 7 from rfl, nI_leI (by omega) (by omega)] at c_106
                          have ho : nI (k + 1) = -1 ∨ ∃ y', nI (k + 1) = nI y' ∧ y' < 64 ∧ ∃ d, d < 4 ∧ nd k y' d := Or.inr ⟨(k + 1), rfl, by omega, 3, by omega, by unfold nd; omega⟩
                          have hof : ∀ y', (k + 1) = y' → nI (k + 1) = nI y' := fun y' e => by rw [e]
                          refine cb_iload_n (pc := 109) O dX11_findGroups_109 rfl ?_
                          refine cb_iconst (pc := 110) (v := 1) O dX11_findGroups_110 (by decide) ?_
                          refine cb_iadd (pc := 111) O dX11_findGroups_111 ?_
                          refine cb_topv (nI (k + 1)) (nI_add _ _) ?_
                          refine cb_goto (pc := 112) O 116 dX11_findGroups_112 (by decide) ?_
                          refine cb_cVi (pc := 116) O (c_X11_join w9 A z hI hM9 g hG k hlt hp _ ho) my_X11_join mi_X11_join mx_X11_join ml_X11_148 dX11_findGroups_116 rfl ct_11 rfl rfl rfl ⟨(Nat.le_of_ble_eq_true rfl), (Nat.le_of_ble_eq_true rfl)⟩ (Nat.le_of_ble_eq_true rfl) rfl ⟨(Nat.le_of_ble_eq_true rfl), (Nat.le_of_ble_eq_true rfl)⟩ (fun _ _ => rfl) (hM9.1.1 _ rfl) (fun x_116 w_116 hp_116 => ?_)
                          obtain ⟨g_116, hG_116, hM_116, hC_116, hx_116⟩ := hp_116
                          have hS_116 := FS.st (x := x_116) (g' := g_116) hFS (by
                            rcases hx_116 with ⟨e1, e2, e3⟩ | h
                            · refine Or.inl ⟨e1, e2, fun d y hd hn ha => ?_⟩
                              have hy64 := ca_p64 hI ha.2.1
                              unfold dj at hd
                              unfold nd at hn
                              have hoy := hof y (by omega)
                              exact e3 y hy64 hoy ha
                            · exact Or.inr h)
                          refine cb_if_ne (pc := 119) O 126 dX11_findGroups_119 (by decide) (fun c_119 => ?_) (fun c_119 => ?_)
                          · skip
                            refine cb_iconst (pc := 126) (v := 1) O dX11_findGroups_126 (by decide) ?_
                            refine cb_topv (nI (if x_116 = 0 then m else 1)) (by
                              first
                              | (rw [if_neg c_119]; rfl)
                              | (rw [if_pos c_119]
                                 have hm1 := hFS.1
                                 rcases (show m = 0 ∨ m = 1 by omega) with e | e
                                 · rw [e] at c_123 ⊢
                                   first | rfl | exact absurd rfl c_123 | exact absurd c_123 (by decide)
                                 · rw [e] at c_123 ⊢
                                   first | rfl | exact absurd rfl c_123 | exact absurd c_123 (by decide))) ?_
                            refine cb_goto (pc := 127) O 131 dX11_findGroups_127 (by decide) ?_
                            refine cb_istore_n (pc := 131) O dX11_findGroups_131 (by decide) ?_
                            dsimp only [List.set]
                            exact J_132 _ g_116 w_116 hG_116 hM_116 (hC9.trans hC_116) hS_116
                          · skip
                            refine cb_iload_n (pc := 122) O dX11_findGroups_122 rfl ?_
                            refine cb_if_eq (pc := 123) O 130 dX11_findGroups_123 (by decide) (fun c_123 => ?_) (fun c_123 => ?_)
                            · skip
                              refine cb_iconst (pc := 130) (v := 0) O dX11_findGroups_130 (by decide) ?_
                              refine cb_topv (nI (if x_116 = 0 then m else 1)) (by
                                first
                                | (rw [if_neg c_119]; rfl)
                                | (rw [if_pos c_119]
                                   have hm1 := hFS.1
                                   rcases (show m = 0 ∨ m = 1 by omega) with e | e
                                   · rw [e] at c_123 ⊢
                                     first | rfl | exact absurd rfl c_123 | exact absurd c_123 (by decide)
                                   · rw [e] at c_123 ⊢
                                     first | rfl | exact absurd rfl c_123 | exact absurd c_123 (by decide))) ?_
                              refine cb_istore_n (pc := 131) O dX11_findGroups_131 (by decide) ?_
                              dsimp only [List.set]
                              exact J_132 _ g_116 w_116 hG_116 hM_116 (hC9.trans hC_116) hS_116
                            · skip
                              refine cb_iconst (pc := 126) (v := 1) O dX11_findGroups_126 (by decide) ?_
                              refine cb_topv (nI (if x_116 = 0 then m else 1)) (by
                                first
                                | (rw [if_neg c_119]; rfl)
                                | (rw [if_pos c_119]
                                   have hm1 := hFS.1
                                   rcases (show m = 0 ∨ m = 1 by omega) with e | e
                                   · rw [e] at c_123 ⊢
                                     first | rfl | exact absurd rfl c_123 | exact absurd c_123 (by decide)
                                   · rw [e] at c_123 ⊢
                                     first | rfl | exact absurd rfl c_123 | exact absurd c_123 (by decide))) ?_
                              refine cb_goto (pc := 127) O 131 dX11_findGroups_127 (by decide) ?_
                              refine cb_istore_n (pc := 131) O dX11_findGroups_131 (by decide) ?_
                              dsimp only [List.set]
                              exact J_132 _ g_116 w_116 hG_116 hM_116 (hC9.trans hC_116) hS_116
                      refine cb_aload_n (pc := 66) O dX11_findGroups_66 rfl ?_
                      refine cb_iload_n (pc := 67) O dX11_findGroups_67 rfl ?_
                      refine cb_iload_n (pc := 68) O dX11_findGroups_68 rfl ?_
                      refine cb_bipush (pc := 69) (v := 8) O dX11_findGroups_69 (by decide) ?_
                      refine cb_irem (pc := 71) O dX11_findGroups_71 (by decide) ?_
                      refine cb_topv (nI (k % 8)) (ci_r8 (by omega)) ?_
                      refine cb_if_le (pc := 72) O 81 dX11_findGroups_72 (by decide) (fun c_72 => ?_) (fun c_72 => ?_)
                      · skip
                        rw [ci_le, ci_n (by omega), ci_z0] at c_72
                        have ho : (-1 : Int32) = -1 ∨ ∃ y, (-1 : Int32) = nI y ∧ y < 64 ∧ ∃ d, d < 4 ∧ nd k y d := Or.inl rfl
                        have hof : ∀ y : Nat, False → (-1 : Int32) = nI y := fun y h => h.elim
                        refine cb_iconst (pc := 81) (v := (-1)) O dX11_findGroups_81 (by decide) ?_
                        refine cb_cVi (pc := 82) O (c_X11_join w9 A z hI hM9 g hG k hlt hp _ ho) my_X11_join mi_X11_join mx_X11_join ml_X11_148 dX11_findGroups_82 rfl ct_11 rfl rfl rfl ⟨(Nat.le_of_ble_eq_true rfl), (Nat.le_of_ble_eq_true rfl)⟩ (Nat.le_of_ble_eq_true rfl) rfl ⟨(Nat.le_of_ble_eq_true rfl), (Nat.le_of_ble_eq_true rfl)⟩ (fun _ _ => rfl) (hM9.1.1 _ rfl) (fun x_82 w_82 hp_82 => ?_)
                        obtain ⟨g_82, hG_82, hM_82, hC_82, hx_82⟩ := hp_82
                        have hS_82 := FS.st (x := x_82) (g' := g_82) hFS (by
                          rcases hx_82 with ⟨e1, e2, e3⟩ | h
                          · refine Or.inl ⟨e1, e2, fun d y hd hn ha => ?_⟩
                            have hy64 := ca_p64 hI ha.2.1
                            unfold dj at hd
                            unfold nd at hn
                            have hoy := hof y (by omega)
                            exact e3 y hy64 hoy ha
                          · exact Or.inr h)
                        refine cb_if_ne (pc := 85) O 92 dX11_findGroups_85 (by decide) (fun c_85 => ?_) (fun c_85 => ?_)
                        · skip
                          refine cb_iconst (pc := 92) (v := 1) O dX11_findGroups_92 (by decide) ?_
                          refine cb_topv (nI (if x_82 = 0 then m else 1)) (by
                            first
                            | (rw [if_neg c_85]; rfl)
                            | (rw [if_pos c_85]
                               have hm1 := hFS.1
                               rcases (show m = 0 ∨ m = 1 by omega) with e | e
                               · rw [e] at c_89 ⊢
                                 first | rfl | exact absurd rfl c_89 | exact absurd c_89 (by decide)
                               · rw [e] at c_89 ⊢
                                 first | rfl | exact absurd rfl c_89 | exact absurd c_89 (by decide))) ?_
                          refine cb_goto (pc := 93) O 97 dX11_findGroups_93 (by decide) ?_
                          refine cb_istore_n (pc := 97) O dX11_findGroups_97 (by decide) ?_
                          dsimp only [List.set]
                          exact J_98 _ g_82 w_82 hG_82 hM_82 (hC9.trans hC_82) hS_82
                        · skip
                          refine cb_iload_n (pc := 88) O dX11_findGroups_88 rfl ?_
                          refine cb_if_eq (pc := 89) O 96 dX11_findGroups_89 (by decide) (fun c_89 => ?_) (fun c_89 => ?_)
                          · skip
                            refine cb_iconst (pc := 96) (v := 0) O dX11_findGroups_96 (by decide) ?_
                            refine cb_topv (nI (if x_82 = 0 then m else 1)) (by
                              first
                              | (rw [if_neg c_85]; rfl)
                              | (rw [if_pos c_85]
                                 have hm1 := hFS.1
                                 rcases (show m = 0 ∨ m = 1 by omega) with e | e
                                 · rw [e] at c_89 ⊢
                                   first | rfl | exact absurd rfl c_89 | exact absurd c_89 (by decide)
                                 · rw [e] at c_89 ⊢
                                   first | rfl | exact absurd rfl c_89 | exact absurd c_89 (by decide))) ?_
                            refine cb_istore_n (pc := 97) O dX11_findGroups_97 (by decide) ?_
                            dsimp only [List.set]
                            exact J_98 _ g_82 w_82 hG_82 hM_82 (hC9.trans hC_82) hS_82
                          · skip
                            refine cb_iconst (pc := 92) (v := 1) O dX11_findGroups_92 (by decide) ?_
                            refine cb_topv (nI (if x_82 = 0 then m else 1)) (by
                              first
                              | (rw [if_neg c_85]; rfl)
                              | (rw [if_pos c_85]
                                 have hm1 := hFS.1
                                 rcases (show m = 0 ∨ m = 1 by omega) with e | e
                                 · rw [e] at c_89 ⊢
                                   first | rfl | exact absurd rfl c_89 | exact absurd c_89 (by decide)
                                 · rw [e] at c_89 ⊢
                                   first | rfl | exact absurd rfl c_89 | exact absurd c_89 (by decide))) ?_
                            refine cb_goto (pc := 93) O 97 dX11_findGroups_93 (by decide) ?_
                            refine cb_istore_n (pc := 97) O dX11_findGroups_97 (by decide) ?_
                            dsimp only [List.set]
                            exact J_98 _ g_82 w_82 hG_82 hM_82 (hC9.trans hC_82) hS_82
                      · skip
                        rw [ci_le, ci_n (by omega), ci_z0] at c_72
                        have ho : nI (k - 1) = -1 ∨ ∃ y', nI (k - 1) = nI y' ∧ y' < 64 ∧ ∃ d, d < 4 ∧ nd k y' d := Or.inr ⟨(k - 1), rfl, by omega, 2, by omega, by unfold nd; omega⟩
                        have hof : ∀ y', (k - 1) = y' → nI (k - 1) = nI y' := fun y' e => by rw [e]
                        refine cb_iload_n (pc := 75) O dX11_findGroups_75 rfl ?_
                        refine cb_iconst (pc := 76) (v := 1) O dX11_findGroups_76 (by decide) ?_
                        refine cb_isub (pc := 77) O dX11_findGroups_77 ?_
                        refine cb_topv (nI (k - 1)) (by rw [show k = k - 1 + 1 by omega]; exact nI_p1 _) ?_
                        refine cb_goto (pc := 78) O 82 dX11_findGroups_78 (by decide) ?_
                        refine cb_cVi (pc := 82) O (c_X11_join w9 A z hI hM9 g hG k hlt hp _ ho) my_X11_join mi_X11_join mx_X11_join ml_X11_148 dX11_findGroups_82 rfl ct_11 rfl rfl rfl ⟨(Nat.le_of_ble_eq_true rfl), (Nat.le_of_ble_eq_true rfl)⟩ (Nat.le_of_ble_eq_true rfl) rfl ⟨(Nat.le_of_ble_eq_true rfl), (Nat.le_of_ble_eq_true rfl)⟩ (fun _ _ => rfl) (hM9.1.1 _ rfl) (fun x_82 w_82 hp_82 => ?_)
                        obtain ⟨g_82, hG_82, hM_82, hC_82, hx_82⟩ := hp_82
                        have hS_82 := FS.st (x := x_82) (g' := g_82) hFS (by
                          rcases hx_82 with ⟨e1, e2, e3⟩ | h
                          · refine Or.inl ⟨e1, e2, fun d y hd hn ha => ?_⟩
                            have hy64 := ca_p64 hI ha.2.1
                            unfold dj at hd
                            unfold nd at hn
                            have hoy := hof y (by omega)
                            exact e3 y hy64 hoy ha
                          · exact Or.inr h)
                        refine cb_if_ne (pc := 85) O 92 dX11_findGroups_85 (by decide) (fun c_85 => ?_) (fun c_85 => ?_)
                        · skip
                          refine cb_iconst (pc := 92) (v := 1) O dX11_findGroups_92 (by decide) ?_
                          refine cb_topv (nI (if x_82 = 0 then m else 1)) (by
                            first
                            | (rw [if_neg c_85]; rfl)
                            | (rw [if_pos c_85]
                               have hm1 := hFS.1
                               rcases (show m = 0 ∨ m = 1 by omega) with e | e
                               · rw [e] at c_89 ⊢
                                 first | rfl | exact absurd rfl c_89 | exact absurd c_89 (by decide)
                               · rw [e] at c_89 ⊢
                                 first | rfl | exact absurd rfl c_89 | exact absurd c_89 (by decide))) ?_
                          refine cb_goto (pc := 93) O 97 dX11_findGroups_93 (by decide) ?_
                          refine cb_istore_n (pc := 97) O dX11_findGroups_97 (by decide) ?_
                          dsimp only [List.set]
                          exact J_98 _ g_82 w_82 hG_82 hM_82 (hC9.trans hC_82) hS_82
                        · skip
                          refine cb_iload_n (pc := 88) O dX11_findGroups_88 rfl ?_
                          refine cb_if_eq (pc := 89) O 96 dX11_findGroups_89 (by decide) (fun c_89 => ?_) (fun c_89 => ?_)
                          · skip
                            refine cb_iconst (pc := 96) (v := 0) O dX11_findGroups_96 (by decide) ?_
                            refine cb_topv (nI (if x_82 = 0 then m else 1)) (by
                              first
                              | (rw [if_neg c_85]; rfl)
                              | (rw [if_pos c_85]
                                 have hm1 := hFS.1
                                 rcases (show m = 0 ∨ m = 1 by omega) with e | e
                                 · rw [e] at c_89 ⊢
                                   first | rfl | exact absurd rfl c_89 | exact absurd c_89 (by decide)
                                 · rw [e] at c_89 ⊢
                                   first | rfl | exact absurd rfl c_89 | exact absurd c_89 (by decide))) ?_
                            refine cb_istore_n (pc := 97) O dX11_findGroups_97 (by decide) ?_
                            dsimp only [List.set]
                            exact J_98 _ g_82 w_82 hG_82 hM_82 (hC9.trans hC_82) hS_82
                          · skip
                            refine cb_iconst (pc := 92) (v := 1) O dX11_findGroups_92 (by decide) ?_
                            refine cb_topv (nI (if x_82 = 0 then m else 1)) (by
                              first
                              | (rw [if_neg c_85]; rfl)
                              | (rw [if_pos c_85]
                                 have hm1 := hFS.1
                                 rcases (show m = 0 ∨ m = 1 by omega) with e | e
                                 · rw [e] at c_89 ⊢
                                   first | rfl | exact absurd rfl c_89 | exact absurd c_89 (by decide)
                                 · rw [e] at c_89 ⊢
                                   first | rfl | exact absurd rfl c_89 | exact absurd c_89 (by decide))) ?_
                            refine cb_goto (pc := 93) O 97 dX11_findGroups_93 (by decide) ?_
                            refine cb_istore_n (pc := 97) O dX11_findGroups_97 (by decide) ?_
                            dsimp only [List.set]
                            exact J_98 _ g_82 w_82 hG_82 hM_82 (hC9.trans hC_82) hS_82
              exact L_51 65 0 0 g w9 (by omega) hG hM9 hC9 ⟨by omega, fun _ => ⟨hg0.symm, fun k' h => absurd h (by omega), fun d y h => absurd h (by omega)⟩, fun h => absurd h (by decide)⟩ (by omega)
        exact L_43 (fb_sm (fun i => i) 64 + 2) 1 (fun i => i) w9 none (by omega) (fun i hi => ⟨fun hp => ⟨(hg i hi).1 hp, Nat.le_refl _, cn.refl A i⟩, (hg i hi).2⟩) hM9 hC9 (fun h => absurd h (by decide)) ⟨by omega, Or.inr (Nat.le_refl _)⟩
      · skip
        have hlt : k < 64 := ci_nge (b := 64) c_5 (by omega) (by decide)
        refine cb_aload_n (pc := 8) O dX11_findGroups_8 rfl ?_
        refine cb_getR (pc := 9) O fl_X11_32 rfl rfl dX11_findGroups_9 (hM9.1.1 _ rfl) (hM9.1.2 _ _ _ rfl) ?_
        refine cb_iload_n (pc := 12) O dX11_findGroups_12 rfl ?_
        refine cb_aload_n (pc := 13) O dX11_findGroups_13 rfl ?_
        refine cb_iload_n (pc := 14) O dX11_findGroups_14 rfl ?_
        refine cb_cVp (pc := 15) O (c_X11_isCell w9 A z hI hM9 (nI k)) my_X11_isCell mi_X11_isCell mx_X11_isCell ml_X11_142 dX11_findGroups_15 rfl ct_11 rfl rfl rfl ⟨(Nat.le_of_ble_eq_true rfl), (Nat.le_of_ble_eq_true rfl)⟩ (Nat.le_of_ble_eq_true rfl) rfl ⟨(Nat.le_of_ble_eq_true rfl), (Nat.le_of_ble_eq_true rfl)⟩ (hM9.1.1 _ rfl) ?_
        refine cb_ifp_eq (pc := 18) O 33 dX11_findGroups_18 (by decide) (fun c_18 => ?_) (fun c_18 => ?_)
        · skip
          refine cb_iconst (pc := 33) (v := (-1)) O dX11_findGroups_33 (by decide) ?_
          refine cb_iast (pc := 34) O k rfl dX11_findGroups_34 (by decide) (hM9.1.1 _ rfl) rfl (by omega) ?_
          refine cb_iinc (pc := 35) O (nI (k + 1)) dX11_findGroups_35 rfl (by decide) (ci_inc k) ?_
          dsimp only [List.set]
          refine cb_goto (pc := 38) O 2 dX11_findGroups_38 (by decide) ?_
          exact ih_2 (k + 1) _ (by omega) (hM9.sc (k := 14) (by omega) _ (by simp [ca_R])) (hC9.um (by omega)) (fun i hi => by
            show (ca_p A i → cb_u2 w9.2.1 1014 k _ 1014 i = nI i) ∧ (¬ ca_p A i → cb_u2 w9.2.1 1014 k _ 1014 i = -1)
            by_cases e : i = k
            · subst e
              rw [cb_u2s]
              first
              | exact ⟨fun _ => rfl, fun h => absurd ⟨(ca_cn (by omega)).mp c_18, c_26⟩ h⟩
              | exact ⟨fun h => absurd ((ca_cn (by omega)).mpr h.1) c_18, fun _ => rfl⟩
              | exact ⟨fun h => absurd h.2 c_26, fun _ => rfl⟩
            · rw [cb_u2n (Or.inr e)]
              exact hg i (by omega)) (by omega)
        · skip
          refine cb_aload_n (pc := 21) O dX11_findGroups_21 rfl ?_
          refine cb_iload_n (pc := 22) O dX11_findGroups_22 rfl ?_
          refine cb_cVp (pc := 23) O (c_X11_prints w9 A z hI hM9 k hlt) my_X11_prints mi_X11_prints mx_X11_prints ml_X11_145 dX11_findGroups_23 rfl ct_11 rfl rfl rfl ⟨(Nat.le_of_ble_eq_true rfl), (Nat.le_of_ble_eq_true rfl)⟩ (Nat.le_of_ble_eq_true rfl) rfl ⟨(Nat.le_of_ble_eq_true rfl), (Nat.le_of_ble_eq_true rfl)⟩ (hM9.1.1 _ rfl) ?_
          refine cb_ifp_eq (pc := 26) O 33 dX11_findGroups_26 (by decide) (fun c_26 => ?_) (fun c_26 => ?_)
          · skip
            refine cb_iconst (pc := 33) (v := (-1)) O dX11_findGroups_33 (by decide) ?_
            refine cb_iast (pc := 34) O k rfl dX11_findGroups_34 (by decide) (hM9.1.1 _ rfl) rfl (by omega) ?_
            refine cb_iinc (pc := 35) O (nI (k + 1)) dX11_findGroups_35 rfl (by decide) (ci_inc k) ?_
            dsimp only [List.set]
            refine cb_goto (pc := 38) O 2 dX11_findGroups_38 (by decide) ?_
            exact ih_2 (k + 1) _ (by omega) (hM9.sc (k := 14) (by omega) _ (by simp [ca_R])) (hC9.um (by omega)) (fun i hi => by
              show (ca_p A i → cb_u2 w9.2.1 1014 k _ 1014 i = nI i) ∧ (¬ ca_p A i → cb_u2 w9.2.1 1014 k _ 1014 i = -1)
              by_cases e : i = k
              · subst e
                rw [cb_u2s]
                first
                | exact ⟨fun _ => rfl, fun h => absurd ⟨(ca_cn (by omega)).mp c_18, c_26⟩ h⟩
                | exact ⟨fun h => absurd ((ca_cn (by omega)).mpr h.1) c_18, fun _ => rfl⟩
                | exact ⟨fun h => absurd h.2 c_26, fun _ => rfl⟩
              · rw [cb_u2n (Or.inr e)]
                exact hg i (by omega)) (by omega)
          · skip
            refine cb_iload_n (pc := 29) O dX11_findGroups_29 rfl ?_
            refine cb_goto (pc := 30) O 34 dX11_findGroups_30 (by decide) ?_
            refine cb_iast (pc := 34) O k rfl dX11_findGroups_34 (by decide) (hM9.1.1 _ rfl) rfl (by omega) ?_
            refine cb_iinc (pc := 35) O (nI (k + 1)) dX11_findGroups_35 rfl (by decide) (ci_inc k) ?_
            dsimp only [List.set]
            refine cb_goto (pc := 38) O 2 dX11_findGroups_38 (by decide) ?_
            exact ih_2 (k + 1) _ (by omega) (hM9.sc (k := 14) (by omega) _ (by simp [ca_R])) (hC9.um (by omega)) (fun i hi => by
              show (ca_p A i → cb_u2 w9.2.1 1014 k _ 1014 i = nI i) ∧ (¬ ca_p A i → cb_u2 w9.2.1 1014 k _ 1014 i = -1)
              by_cases e : i = k
              · subst e
                rw [cb_u2s]
                first
                | exact ⟨fun _ => rfl, fun h => absurd ⟨(ca_cn (by omega)).mp c_18, c_26⟩ h⟩
                | exact ⟨fun h => absurd ((ca_cn (by omega)).mpr h.1) c_18, fun _ => rfl⟩
                | exact ⟨fun h => absurd h.2 c_26, fun _ => rfl⟩
              · rw [cb_u2n (Or.inr e)]
                exact hg i (by omega)) (by omega)
  exact L_2 65 0 w (by omega) hM cb_C1.rfl' (fun i hi => absurd hi (by omega)) (by omega)

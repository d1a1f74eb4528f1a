abbrev ca_o (A : ca_A) (k : Nat) : Prop := k / 8 < A 0 0 ∧ k % 8 < A 0 1
abbrev ca_p (A : ca_A) (k : Nat) : Prop := ca_o A k ∧ A 10 k = 0 ∧ A 12 (A 11 k) = 0
def ca_I (A : ca_A) : Prop :=
  (A 0 0 ≤ 8 ∧ A 0 1 ≤ 8 ∧ A 0 12 ≤ 8 ∧ A 0 20 ≤ 20 ∧ A 0 26 ≤ 200 ∧ A 0 8 ≤ 99999 ∧ A 0 6 ≤ 999 ∧ A 0 28 ≤ 4 ∧ A 0 29 ≤ 4 ∧ A 0 33 ≤ 6) ∧
  ((A 0 0 = 0 → A 0 1 = 0 ∧ A 0 12 = 0 ∧ A 0 20 = 0 ∧ A 0 26 = 0) ∧ (0 < A 0 0 → 0 < A 0 1 ∧ 0 < A 0 12) ∧ (A 0 28 = 0 ↔ A 0 29 = 0)) ∧
  ((∀ i, A 3 i < 16) ∧ (∀ i, A 4 i ≤ 999) ∧ (∀ i, A 5 i ≤ 1) ∧ (∀ i, A 6 i < 10)) ∧
  ((∀ k, A 10 k ≤ 1) ∧ (∀ k, A 11 k < 8) ∧ (∀ k, ca_o A k → A 11 k < A 0 12) ∧ (∀ p, A 12 p ≤ 1)) ∧
  ((∀ i, A 15 i < 16) ∧ (∀ i, A 17 i ≤ 201) ∧ (∀ i, A 18 i < 10) ∧ (∀ i, A 19 i ≤ 100998) ∧ (∀ s, A 20 s ≤ 1)) ∧
  ((∀ k, A 31 k < 16) ∧ (∀ k, A 33 k < 10) ∧ (∀ k, A 35 k ≤ 6)) ∧
  (∀ s, A 0 20 ≤ s → s < 20 → (∀ k, k < 64 → A 15 (64 * s + k) = 0 ∧ A 17 (64 * s + k) = 0 ∧ A 18 (64 * s + k) = 0 ∧ A 19 (64 * s + k) = 0) ∧ A 20 s = 0) ∧
  (A 0 0 = 0 → (∀ k, A 10 k = 0) ∧ (∀ k, A 11 k = 0) ∧ (∀ p, A 12 p = 0)) ∧
  (∀ s k, k < 64 → ¬ ca_o A k → A 15 (64 * s + k) = 0) ∧ (∀ i, A 17 i = 0 → A 19 i = 0)
def cc_Lv (r : Nat) : Bool := decide (r < 17) || (decide (20 ≤ r) && decide (r < 28)) || (decide (100 ≤ r) && decide (r < 136))
def cc_Rf (r k : Nat) : Option Nat :=
  if r = 0 then ([some 1, some 2, some 3, some 4, some 5, some 6, some 7, some 20, some 26] : List (Option Nat)).getD k none
  else if r = 1 then ([some 8, some 9, some 10, some 11] : List (Option Nat)).getD k none
  else if r = 6 then ([some 12, some 13, some 1] : List (Option Nat)).getD k none
  else if r = 7 then ([some 14, some 16] : List (Option Nat)).getD k none
  else if r = 8 then (if k < 10 then some (100 + k) else none)
  else if r = 10 then (if k < 10 then some (110 + k) else none)
  else if r = 11 then (if k < 10 then some (120 + k) else none)
  else if r = 13 then (if k < 6 then some (130 + k) else none)
  else if r = 14 then ([some 15] : List (Option Nat)).getD k none
  else if r = 20 then ([none, none, some 21, some 22, some 23, none, some 24, some 25] : List (Option Nat)).getD k none
  else if r = 26 then ([none, none, some 27] : List (Option Nat)).getD k none
  else none
def cm_Lv (r : Nat) : Bool := decide (1000 ≤ r) && ((cb_sh r).1 != 9)
def cm_Rf (r k : Nat) : Option Nat := if r = 1000 then (if cb_ir 11 k && decide (k < 41) then some (1001 + k) else none) else none
def cb_CW (w : cb_W) : Prop := (∀ r, cc_Lv r = true → w.1 r = true) ∧ (∀ r k q, cc_Rf r k = some q → w.2.2 r k = some q)
def cb_MW (w : cb_W) : Prop := (∀ r, cm_Lv r = true → w.1 r = true) ∧ (∀ r k q, cm_Rf r k = some q → w.2.2 r k = some q)
def cm_I (w : cb_W) (A : ca_A) (z : Int32) : Prop := cb_MW w ∧ (∀ k i, ca_R k i = true → w.2.1 (1000 + k) i = ca_v k i (A k i)) ∧ w.2.1 1000 7 = z
def cc_B (M : Nat → Nat → Int32) (A : ca_A) : Prop := (M 20 0 = nI (A 0 0) ∧ M 20 1 = nI (A 0 1) ∧ M 20 5 = nI (A 0 12)) ∧ (∀ k, k < 64 → M 21 k = nI (if ca_o A k ∧ A 10 k = 0 then 1 else 0)) ∧ (∀ k, k < 64 → M 22 k = nI (A 11 k)) ∧ (∀ p, p < A 0 12 → M 23 p = nI (1 - A 12 p))
def cc_N (M : Nat → Nat → Int32) (A : ca_A) (z : Int32) : Prop := M 0 9 = nI (A 0 20) ∧ M 0 10 = nI (A 0 26) ∧ M 0 11 = nI (A 0 8) ∧ M 2 0 = z ∧ M 2 1 = nI (A 0 6)
def cc_K (M : Nat → Nat → Int32) (A : ca_A) : Prop := (∀ i c, i < 10 → c < 16 → M (100 + i) c = nI (A 3 (16 * i + c))) ∧ (∀ i, i < 10 → M 9 i = nI (A 4 i)) ∧ (∀ i j, i < 10 → j < 10 → M (110 + i) j = nI (A 5 (10 * i + j))) ∧ (∀ i j, i < 10 → j < 10 → M (120 + i) j = nI (A 6 (10 * i + j)))
def cc_S (w : cb_W) (A : ca_A) : Prop := (∀ s, s < A 0 20 → (∀ j, j < 6 → w.1 (200 + 6 * s + j) = true) ∧ w.2.2 3 s = some (200 + 6 * s) ∧ (∀ j, j < 5 → w.2.2 (200 + 6 * s) j = some (201 + 6 * s + j)) ∧ w.2.1 (200 + 6 * s) 5 = nI (1 - A 20 s) ∧
    (∀ k, k < 64 → w.2.1 (201 + 6 * s) k = nI (A 15 (64 * s + k)) ∧ w.2.1 (202 + 6 * s) k = nI (A 18 (64 * s + k)) ∧ w.2.1 (203 + 6 * s) k = nI (A 16 (64 * s + k)) - 1 ∧ w.2.1 (204 + 6 * s) k = nI (A 17 (64 * s + k)) ∧ w.2.1 (205 + 6 * s) k = nI (A 19 (64 * s + k)))) ∧
  (∀ s, A 0 20 ≤ s → s < 20 → ∀ j, j < 6 → w.1 (200 + 6 * s + j) = false)
def cc_E (w : cb_W) (A : ca_A) : Prop := (∀ p, p < A 0 26 → w.1 (400 + p) = true ∧ w.2.2 4 p = some (400 + p) ∧ w.2.1 (400 + p) 0 = nI (A 22 p) ∧ w.2.1 (400 + p) 1 = nI (A 23 p) ∧ w.2.1 (400 + p) 2 = nI (A 24 p) - 1 ∧ w.2.1 (400 + p) 3 = nI (A 25 p) ∧ w.2.1 (400 + p) 4 = nI (A 26 p)) ∧ (∀ p, A 0 26 ≤ p → p < 200 → w.1 (400 + p) = false)
def cc_P (M : Nat → Nat → Int32) (A : ca_A) : Prop := M 26 0 = nI (A 0 28) ∧ M 26 1 = nI (A 0 29) ∧ (∀ k, k < 16 → M 27 k = nI (A 31 k))
def cc_L (M : Nat → Nat → Int32) (A : ca_A) : Prop := M 14 1 = nI (A 0 33 - 1) ∧ (∀ k, k < A 0 33 - 1 → M 15 k = nI (A 33 k)) ∧ (∀ k, k < 16 → M 16 k = (if A 0 33 = 0 then -1 else nI (A 35 k) - 1))
def cc_I (w : cb_W) (A : ca_A) (z : Int32) : Prop := cb_CW w ∧ cc_B w.2.1 A ∧ cc_N w.2.1 A z ∧ cc_K w.2.1 A ∧ cc_S w A ∧ cc_E w A ∧ cc_P w.2.1 A ∧ cc_L w.2.1 A ∧ (∀ r, 30 ≤ r → r < 40 → w.1 r = false) ∧ (∀ r, 1100 ≤ r → w.1 r = false) ∧ (∀ r k q, w.1 r = true → (r < 40 ∨ 46 ≤ r) → w.2.2 r k = some q → 20 ≤ q → (q < 28 ∨ (40 ≤ q ∧ q < 46)) → cc_Rf r k = some q)
def cb_M1 (w w' : cb_W) : Prop := ∀ r, 1000 ≤ r → w'.1 r = w.1 r ∧ w'.2.1 r = w.2.1 r ∧ (w.1 r = true → w'.2.2 r = w.2.2 r)
def cb_C1 (w w' : cb_W) : Prop := w'.1 = w.1 ∧ w'.2.2 = w.2.2 ∧ ∀ r, r < 1000 → w'.2.1 r = w.2.1 r
theorem cb_M1.rfl' {w : cb_W} : cb_M1 w w := fun _ _ => ⟨rfl, rfl, fun _ => rfl⟩
theorem cb_C1.rfl' {w : cb_W} : cb_C1 w w := ⟨rfl, rfl, fun _ _ => rfl⟩
theorem cb_M1.trans {a b c : cb_W} (h1 : cb_M1 a b) (h2 : cb_M1 b c) : cb_M1 a c := fun r hr => ⟨(h2 r hr).1.trans (h1 r hr).1, (h2 r hr).2.1.trans (h1 r hr).2.1, fun hl => ((h2 r hr).2.2 (by rw [(h1 r hr).1]; exact hl)).trans ((h1 r hr).2.2 hl)⟩
theorem cb_C1.trans {a b c : cb_W} (h1 : cb_C1 a b) (h2 : cb_C1 b c) : cb_C1 a c := ⟨h2.1.trans h1.1, h2.2.1.trans h1.2.1, fun r hr => (h2.2.2 r hr).trans (h1.2.2 r hr)⟩
theorem cb_M1.um {w w' : cb_W} {r k : Nat} {x : Int32} (h : cb_M1 w w') (hr : r < 1000) : cb_M1 w (cb_um w' r k x) := fun q hq => ⟨(h q hq).1, by show cb_u2 w'.2.1 r k x q = _; rw [cb_u2r (by omega)]; exact (h q hq).2.1, (h q hq).2.2⟩
theorem cb_C1.um {w w' : cb_W} {r k : Nat} {x : Int32} (h : cb_C1 w w') (hr : 1000 ≤ r) : cb_C1 w (cb_um w' r k x) := ⟨h.1, h.2.1, fun q hq => by show cb_u2 w'.2.1 r k x q = _; rw [cb_u2r (by omega)]; exact h.2.2 q hq⟩
theorem cb_M1.ur {w w' : cb_W} {r k : Nat} {x : Option Nat} (h : cb_M1 w w') (hr : r < 1000) : cb_M1 w (cb_ur w' r k x) := fun q hq => ⟨(h q hq).1, (h q hq).2.1, fun hl => by show cb_u2 w'.2.2 r k x q = _; rw [cb_u2r (by omega)]; exact (h q hq).2.2 hl⟩
theorem cm_Lv_lo {r : Nat} (h : cm_Lv r = true) : 1000 ≤ r := by simp [cm_Lv] at h; exact h.1
theorem cm_Rf_lo {r k q : Nat} (h : cm_Rf r k = some q) : r = 1000 := by
  unfold cm_Rf at h
  by_cases e : r = 1000
  · exact e
  · rw [if_neg e] at h; cases h
theorem cc_Lv_lo {r : Nat} (h : cc_Lv r = true) : r < 1000 := by simp [cc_Lv] at h; omega
theorem cc_Rf_lo {r k q : Nat} (h : cc_Rf r k = some q) : r < 27 := by
  rcases Nat.lt_or_ge r 27 with h1 | h1
  · exact h1
  · unfold cc_Rf at h
    rw [if_neg (by omega), if_neg (by omega), if_neg (by omega), if_neg (by omega), if_neg (by omega), if_neg (by omega), if_neg (by omega), if_neg (by omega), if_neg (by omega), if_neg (by omega), if_neg (by omega)] at h
    cases h
theorem cm_I.mv {w w' : cb_W} {A : ca_A} {z : Int32} (h : cm_I w A z) (h1 : cb_M1 w w') : cm_I w' A z := by
  obtain ⟨⟨a1, a2⟩, a3, a4⟩ := h
  refine ⟨⟨fun r hr => by rw [(h1 r (cm_Lv_lo hr)).1]; exact a1 r hr, fun r k q hq => by rw [(h1 r (by rw [cm_Rf_lo hq]; decide)).2.2 (a1 r (by rw [cm_Rf_lo hq]; rfl))]; exact a2 r k q hq⟩, fun k i hk => by rw [(h1 (1000 + k) (by omega)).2.1]; exact a3 k i hk, by rw [(h1 1000 (by decide)).2.1]; exact a4⟩
theorem cc_I.mv {w w' : cb_W} {A : ca_A} {z : Int32} (h : cc_I w A z) (h1 : cb_C1 w w') (hI : ca_I A) : cc_I w' A z := by
  obtain ⟨⟨a1, a2⟩, ⟨b1, b2, b3, b4⟩, ⟨c1, c2, c3, c4, c5⟩, ⟨d1, d2, d3, d4⟩, ⟨e1, e2⟩, ⟨f1, f2⟩, ⟨g1, g2, g3⟩, ⟨k1, k2, k3⟩, l1, l2, l3⟩ := h
  have hm : ∀ r, r < 1000 → w'.2.1 r = w.2.1 r := fun r hr => h1.2.2 r hr
  have hv : ∀ r, r < 1000 → w'.1 r = w.1 r := fun r hr => by rw [h1.1]
  have hr' : ∀ r, r < 1000 → w'.2.2 r = w.2.2 r := fun r hr => by rw [h1.2.1]
  have hS := hI.1.2.2.2.1
  have hN := hI.1.2.2.2.2.1
  refine ⟨⟨fun r hr => by rw [hv r (cc_Lv_lo hr)]; exact a1 r hr, fun r k q hq => by rw [hr' r (by have := cc_Rf_lo hq; omega)]; exact a2 r k q hq⟩, ⟨?_, ?_, ?_, ?_⟩, ?_, ⟨?_, ?_, ?_, ?_⟩, ⟨?_, ?_⟩, ⟨?_, ?_⟩, ?_, ?_, ?_, by rw [h1.1]; exact l2, by rw [h1.1, h1.2.1]; exact l3⟩
  · rw [hm 20 (by decide)]; exact b1
  · intro k hk; rw [hm 21 (by decide)]; exact b2 k hk
  · intro k hk; rw [hm 22 (by decide)]; exact b3 k hk
  · intro k hk; rw [hm 23 (by decide)]; exact b4 k hk
  · unfold cc_N; rw [hm 0 (by decide), hm 2 (by decide)]; exact ⟨c1, c2, c3, c4, c5⟩
  · intro i c hi hc; rw [hm _ (by omega)]; exact d1 i c hi hc
  · intro i hi; rw [hm _ (by omega)]; exact d2 i hi
  · intro i c hi hc; rw [hm _ (by omega)]; exact d3 i c hi hc
  · intro i c hi hc; rw [hm _ (by omega)]; exact d4 i c hi hc
  · intro s hs
    obtain ⟨x1, x2, x3, x4, x5⟩ := e1 s hs
    refine ⟨fun j hj => by rw [hv _ (by omega)]; exact x1 j hj, by rw [hr' 3 (by decide)]; exact x2, fun j hj => by rw [hr' _ (by omega)]; exact x3 j hj, by rw [hm _ (by omega)]; exact x4, fun k hk => ?_⟩
    rw [hm _ (by omega), hm _ (by omega), hm _ (by omega), hm _ (by omega), hm _ (by omega)]
    exact x5 k hk
  · intro s hs hs2 j hj; rw [hv _ (by omega)]; exact e2 s hs hs2 j hj
  · intro p hp
    rw [hv _ (by omega), hr' 4 (by decide), hm _ (by omega)]
    exact f1 p hp
  · intro p hp hp2; rw [hv _ (by omega)]; exact f2 p hp hp2
  · unfold cc_P; rw [hm 26 (by decide), hm 27 (by decide)]; exact ⟨g1, g2, g3⟩
  · unfold cc_L; rw [hm 14 (by decide), hm 15 (by decide), hm 16 (by decide)]; exact ⟨k1, k2, k3⟩
  · intro r h3 h4; rw [hv _ (by omega)]; exact l1 r h3 h4

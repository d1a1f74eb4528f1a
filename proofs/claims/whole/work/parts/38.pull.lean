theorem cb_u2k {α : Type} (M : Nat → Nat → α) {k i k' i' : Nat} {a b : α} (h : k ≠ k') : cb_u2 (cb_u2 M k i a) k' i' b = cb_u2 (cb_u2 M k' i' b) k i a := by
  funext q x
  by_cases e : q = k ∧ x = i
  · obtain ⟨rfl, rfl⟩ := e
    rw [cb_u2s, cb_u2n (by omega), cb_u2s]
  · by_cases e2 : q = k' ∧ x = i'
    · obtain ⟨rfl, rfl⟩ := e2
      rw [cb_u2s, cb_u2n (by omega), cb_u2s]
    · rw [cb_u2n (by omega), cb_u2n (by omega), cb_u2n (by omega), cb_u2n (by omega)]
theorem cb_u2t {α : Type} (M : Nat → Nat → α) {k i : Nat} {a b : α} : cb_u2 (cb_u2 M k i a) k i b = cb_u2 M k i b := by
  funext q x
  by_cases e : q = k ∧ x = i
  · obtain ⟨rfl, rfl⟩ := e
    rw [cb_u2s, cb_u2s]
  · rw [cb_u2n (by omega), cb_u2n (by omega), cb_u2n (by omega)]
theorem cb_u2e {α : Type} (M : Nat → Nat → α) {k i : Nat} {a : α} (h : M k i = a) : cb_u2 M k i a = M := by
  funext q x
  by_cases e : q = k ∧ x = i
  · obtain ⟨rfl, rfl⟩ := e
    rw [cb_u2s, h]
  · rw [cb_u2n (by omega)]
def tk (A : ca_A) (s k i : Nat) : ca_A := cb_u2 (cb_u2 (cb_u2 (cb_u2 (cb_u2 A 15 (64 * s + k) (A 3 (16 * i + A 15 (64 * s + k)))) 16 (64 * s + k) (A 0 26 + 1)) 17 (64 * s + k) (A 17 (64 * s + k) + 1)) 18 (64 * s + k) i) 19 (64 * s + k) (A 0 8 + A 4 i)
def ly (A : ca_A) (rl : Nat → Nat) (s : Nat) : Nat → ca_A
  | 0 => A
  | m + 1 => if ca_p A m then tk (ly A rl s m) s m (rl (m % 8)) else ly A rl s m
abbrev spc (A : ca_A) (s k i : Nat) : Prop := A 0 8 < A 19 (64 * s + k) ∧ A 5 (10 * A 18 (64 * s + k) + i) = 1
def sp (A : ca_A) (rl : Nat → Nat) (s : Nat) : Nat → Nat
  | 0 => 0
  | m + 1 => if ca_p A m ∧ spc A s m (rl (m % 8)) then 1 else sp A rl s m
theorem tk_o (A : ca_A) {s k i q x : Nat} (h : ¬ (15 ≤ q ∧ q ≤ 19 ∧ x = 64 * s + k)) : tk A s k i q x = A q x := by
  unfold tk
  rw [cb_u2n (by omega), cb_u2n (by omega), cb_u2n (by omega), cb_u2n (by omega), cb_u2n (by omega)]
theorem tk_20 (A : ca_A) {s k i a : Nat} : tk (cb_u2 A 20 s a) s k i = cb_u2 (tk A s k i) 20 s a := by
  unfold tk
  have hn : ∀ q x, q ≠ 20 → cb_u2 A 20 s a q x = A q x := fun q x h => cb_u2n (Or.inl h)
  rw [hn 0 26 (by decide), hn 0 8 (by decide), hn 4 i (by decide), hn 17 _ (by decide), hn 15 _ (by decide), hn 3 _ (by decide)]
  rw [cb_u2k (k := 20) A (by decide), cb_u2k (k := 20) _ (by decide), cb_u2k (k := 20) _ (by decide), cb_u2k (k := 20) _ (by decide), cb_u2k (k := 20) _ (by decide)]
theorem ly_o (A : ca_A) (rl : Nat → Nat) (s : Nat) {q x : Nat} : ∀ m, ¬ (15 ≤ q ∧ q ≤ 19 ∧ 64 * s ≤ x ∧ x < 64 * s + m) → ly A rl s m q x = A q x
  | 0, _ => rfl
  | m + 1, h => by
    have ih := ly_o A rl s (q := q) (x := x) m (by omega)
    unfold ly
    split
    · rw [tk_o _ (by omega), ih]
    · exact ih
theorem ca_tkI {A : ca_A} {s k i : Nat} (h : ca_I A) (h17 : A 17 (64 * s + k) ≤ 200) (hs : s < A 0 20) (hk : k < 64) (ho : ca_o A k) (hi : i < 10) : ca_I (tk A s k i) := by
  obtain ⟨c1, c2, ⟨d1, d2, d3, d4⟩, c4, ⟨e1, e2, e3, e4, e5⟩, c6, c7, c8, c9, c10⟩ := h
  have t0 : ∀ q x, ¬ (15 ≤ q ∧ q ≤ 19) → tk A s k i q x = A q x := fun q x hq => tk_o A (by omega)
  have hp : ∀ q x, ¬ x = 64 * s + k → tk A s k i q x = A q x := fun q x hq => tk_o A (by omega)
  have v15 : tk A s k i 15 (64 * s + k) = A 3 (16 * i + A 15 (64 * s + k)) := by
    unfold tk
    rw [cb_u2n (by omega), cb_u2n (by omega), cb_u2n (by omega), cb_u2n (by omega), cb_u2s]
  have v17 : tk A s k i 17 (64 * s + k) = A 17 (64 * s + k) + 1 := by
    unfold tk
    rw [cb_u2n (by omega), cb_u2n (by omega), cb_u2s]
  have v18 : tk A s k i 18 (64 * s + k) = i := by
    unfold tk
    rw [cb_u2n (by omega), cb_u2s]
  have v19 : tk A s k i 19 (64 * s + k) = A 0 8 + A 4 i := by
    unfold tk
    rw [cb_u2s]
  have o1 : ∀ k', ca_o (tk A s k i) k' ↔ ca_o A k' := fun k' => by
    unfold ca_o
    rw [t0 0 0 (by omega), t0 0 1 (by omega)]
  have hd := d2 i
  refine ⟨?_, ?_, ⟨?_, ?_, ?_, ?_⟩, ⟨?_, ?_, ?_, ?_⟩, ⟨fun x => ?_, fun x => ?_, fun x => ?_, fun x => ?_, fun x => ?_⟩, ⟨?_, ?_, ?_⟩, fun s' h1 h2 => ?_, ?_, fun s' k' h1 h2 => ?_, fun x hx => ?_⟩
  · rw [t0 0 0 (by omega), t0 0 1 (by omega), t0 0 12 (by omega), t0 0 20 (by omega), t0 0 26 (by omega), t0 0 8 (by omega), t0 0 6 (by omega), t0 0 28 (by omega), t0 0 29 (by omega), t0 0 33 (by omega)]; exact c1
  · rw [t0 0 0 (by omega), t0 0 1 (by omega), t0 0 12 (by omega), t0 0 20 (by omega), t0 0 26 (by omega), t0 0 28 (by omega), t0 0 29 (by omega)]; exact c2
  · intro x; rw [t0 3 x (by omega)]; exact d1 x
  · intro x; rw [t0 4 x (by omega)]; exact d2 x
  · intro x; rw [t0 5 x (by omega)]; exact d3 x
  · intro x; rw [t0 6 x (by omega)]; exact d4 x
  · intro x; rw [t0 10 x (by omega)]; exact c4.1 x
  · intro x; rw [t0 11 x (by omega)]; exact c4.2.1 x
  · intro x hx; rw [t0 11 x (by omega), t0 0 12 (by omega)]; exact c4.2.2.1 x ((o1 x).mp hx)
  · intro x; rw [t0 12 x (by omega)]; exact c4.2.2.2 x
  · by_cases e : x = 64 * s + k
    · rw [e, v15]; exact d1 _
    · rw [hp 15 x e]; exact e1 x
  · by_cases e : x = 64 * s + k
    · rw [e, v17]; omega
    · rw [hp 17 x e]; exact e2 x
  · by_cases e : x = 64 * s + k
    · rw [e, v18]; exact hi
    · rw [hp 18 x e]; exact e3 x
  · by_cases e : x = 64 * s + k
    · rw [e, v19]; omega
    · rw [hp 19 x e]; exact e4 x
  · rw [t0 20 x (by omega)]; exact e5 x
  · intro x; rw [t0 31 x (by omega)]; exact c6.1 x
  · intro x; rw [t0 33 x (by omega)]; exact c6.2.1 x
  · intro x; rw [t0 35 x (by omega)]; exact c6.2.2 x
  · rw [t0 0 20 (by omega)] at h1
    obtain ⟨g1, g2⟩ := c7 s' h1 h2
    refine ⟨fun k' hk' => ?_, by rw [t0 20 s' (by omega)]; exact g2⟩
    rw [hp 15 _ (by omega), hp 17 _ (by omega), hp 18 _ (by omega), hp 19 _ (by omega)]
    exact g1 k' hk'
  · intro h0
    rw [t0 0 0 (by omega)] at h0
    obtain ⟨g1, g2, g3⟩ := c8 h0
    exact ⟨fun x => by rw [t0 10 x (by omega)]; exact g1 x, fun x => by rw [t0 11 x (by omega)]; exact g2 x, fun x => by rw [t0 12 x (by omega)]; exact g3 x⟩
  · rw [o1] at h2
    have hne : ¬ 64 * s' + k' = 64 * s + k := fun e => h2 (by rw [show k' = k by omega]; exact ho)
    rw [hp 15 _ hne]
    exact c9 s' k' h1 h2
  · by_cases e : x = 64 * s + k
    · rw [e, v17] at hx; omega
    · rw [hp 17 x e] at hx
      rw [hp 19 x e]; exact c10 x hx
theorem ca_I.u20 {A : ca_A} {s a : Nat} (h : ca_I A) (hs : s < A 0 20) (ha : a ≤ 1) : ca_I (cb_u2 A 20 s a) := by
  obtain ⟨c1, c2, ⟨d1, d2, d3, d4⟩, c4, ⟨e1, e2, e3, e4, e5⟩, c6, c7, c8, c9, c10⟩ := h
  have t0 : ∀ q x, ¬ q = 20 → cb_u2 A 20 s a q x = A q x := fun q x hq => cb_u2n (by omega)
  have o1 : ∀ k', ca_o (cb_u2 A 20 s a) k' ↔ ca_o A k' := fun k' => by
    unfold ca_o
    rw [t0 0 0 (by omega), t0 0 1 (by omega)]
  refine ⟨?_, ?_, ⟨?_, ?_, ?_, ?_⟩, ⟨?_, ?_, ?_, ?_⟩, ⟨fun x => ?_, fun x => ?_, fun x => ?_, fun x => ?_, fun x => ?_⟩, ⟨?_, ?_, ?_⟩, fun s' h1 h2 => ?_, ?_, fun s' k' h1 h2 => ?_, fun x hx => ?_⟩
  · rw [t0 0 0 (by omega), t0 0 1 (by omega), t0 0 12 (by omega), t0 0 20 (by omega), t0 0 26 (by omega), t0 0 8 (by omega), t0 0 6 (by omega), t0 0 28 (by omega), t0 0 29 (by omega), t0 0 33 (by omega)]; exact c1
  · rw [t0 0 0 (by omega), t0 0 1 (by omega), t0 0 12 (by omega), t0 0 20 (by omega), t0 0 26 (by omega), t0 0 28 (by omega), t0 0 29 (by omega)]; exact c2
  · intro x; rw [t0 3 x (by omega)]; exact d1 x
  · intro x; rw [t0 4 x (by omega)]; exact d2 x
  · intro x; rw [t0 5 x (by omega)]; exact d3 x
  · intro x; rw [t0 6 x (by omega)]; exact d4 x
  · intro x; rw [t0 10 x (by omega)]; exact c4.1 x
  · intro x; rw [t0 11 x (by omega)]; exact c4.2.1 x
  · intro x hx; rw [t0 11 x (by omega), t0 0 12 (by omega)]; exact c4.2.2.1 x ((o1 x).mp hx)
  · intro x; rw [t0 12 x (by omega)]; exact c4.2.2.2 x
  · rw [t0 15 x (by omega)]; exact e1 x
  · rw [t0 17 x (by omega)]; exact e2 x
  · rw [t0 18 x (by omega)]; exact e3 x
  · rw [t0 19 x (by omega)]; exact e4 x
  · by_cases e : x = s
    · rw [e, cb_u2s]; exact ha
    · rw [cb_u2n (by omega)]; exact e5 x
  · intro x; rw [t0 31 x (by omega)]; exact c6.1 x
  · intro x; rw [t0 33 x (by omega)]; exact c6.2.1 x
  · intro x; rw [t0 35 x (by omega)]; exact c6.2.2 x
  · rw [t0 0 20 (by omega)] at h1
    obtain ⟨g1, g2⟩ := c7 s' h1 h2
    refine ⟨fun k' hk' => ?_, by rw [cb_u2n (by omega)]; exact g2⟩
    rw [t0 15 _ (by omega), t0 17 _ (by omega), t0 18 _ (by omega), t0 19 _ (by omega)]
    exact g1 k' hk'
  · intro h0
    rw [t0 0 0 (by omega)] at h0
    obtain ⟨g1, g2, g3⟩ := c8 h0
    exact ⟨fun x => by rw [t0 10 x (by omega)]; exact g1 x, fun x => by rw [t0 11 x (by omega)]; exact g2 x, fun x => by rw [t0 12 x (by omega)]; exact g3 x⟩
  · rw [o1] at h2
    rw [t0 15 _ (by omega)]
    exact c9 s' k' h1 h2
  · rw [t0 17 x (by omega)] at hx
    rw [t0 19 x (by omega)]; exact c10 x hx
theorem ly_I {A : ca_A} {rl : Nat → Nat} {s : Nat} (h : ca_I A) (h17 : ∀ k, k < 64 → A 17 (64 * s + k) ≤ 200) (hs : s < A 0 20) (hr : ∀ c, rl c < 10) : ∀ m, m ≤ 64 → ca_I (ly A rl s m)
  | 0, _ => h
  | m + 1, hm => by
    have ih := ly_I h h17 hs hr m (by omega)
    unfold ly
    split
    · rename_i hp
      refine ca_tkI ih ?_ ?_ (by omega) ?_ (hr _)
      · rw [ly_o _ _ _ m (by omega)]; exact h17 m (by omega)
      · rw [ly_o _ _ _ m (by omega)]; exact hs
      · unfold ca_o
        rw [ly_o _ _ _ m (by omega), ly_o _ _ _ m (by omega)]; exact hp.1
    · exact ih
theorem sp_1 (A : ca_A) (rl : Nat → Nat) (s : Nat) : ∀ m, sp A rl s m ≤ 1
  | 0 => by show 0 ≤ 1; omega
  | m + 1 => by
    unfold sp
    split
    · omega
    · exact sp_1 A rl s m
theorem ly_skip {A : ca_A} {rl : Nat → Nat} {s m : Nat} : ∀ d, (∀ k, m ≤ k → k < m + d → ¬ ca_p A k) → ly A rl s (m + d) = ly A rl s m ∧ sp A rl s (m + d) = sp A rl s m
  | 0, _ => ⟨rfl, rfl⟩
  | d + 1, h => by
    obtain ⟨h1, h2⟩ := ly_skip (A := A) (rl := rl) (s := s) (m := m) d (fun k g1 g2 => h k g1 (by omega))
    have hn := h (m + d) (by omega) (by omega)
    rw [← Nat.add_assoc]
    refine ⟨?_, ?_⟩
    · rw [ly, if_neg hn]; exact h1
    · rw [sp, if_neg (fun e => hn e.1)]; exact h2
theorem ly_E {A : ca_A} {rl : Nat → Nat} {s m m' : Nat} (h : ∀ k, ca_p A k → (k < m ↔ k < m')) : ly A rl s m = ly A rl s m' ∧ sp A rl s m = sp A rl s m' := by
  have key : ∀ a b : Nat, a ≤ b → (∀ k, ca_p A k → (k < a ↔ k < b)) → ly A rl s b = ly A rl s a ∧ sp A rl s b = sp A rl s a := fun a b hab h => by
    rw [show b = a + (b - a) by omega]
    exact ly_skip _ (fun k h1 h2 hp => by have := h k hp; omega)
  rcases Nat.le_total m m' with h1 | h1
  · exact ⟨(key m m' h1 h).1.symm, (key m m' h1 h).2.symm⟩
  · exact key m' m h1 (fun k hk => (h k hk).symm)
def pz (z : Int32) : Int32 := z * 1103515245 + 12345
def pu (z : Int32) : Int32 := (z.toUInt32 >>> (Int32.toUInt32 8 &&& Int32.toUInt32 31)).toInt32
abbrev poff (A : ca_A) (z : Int32) : Prop := ¬ nI (A 0 6) ≤ pu z - pu z / 1000 * 1000
abbrev pT : Type := ca_A × Int32 × Nat
def ps (rl : Nat → Nat) (t : pT) (s : Nat) : pT := if t.1 20 s = 0 then (if poff t.1 (pz t.2.1) then (cb_u2 t.1 20 s 1, pz t.2.1, t.2.2 + 1) else (cb_u2 (ly t.1 rl s 64) 20 s (sp t.1 rl s 64), pz t.2.1, t.2.2 + sp t.1 rl s 64)) else t
def pst (A : ca_A) (z : Int32) (rl : Nat → Nat) (a : Nat) : Nat → pT
  | 0 => (A, z, 0)
  | j + 1 => ps rl (pst A z rl a j) (a + j)
def pI (A : ca_A) (a j : Nat) (t : pT) : Prop := (∀ q i, ¬ (15 ≤ q ∧ q ≤ 20) → t.1 q i = A q i) ∧ (∀ s, a + j ≤ s → (∀ q k, 15 ≤ q → q ≤ 19 → t.1 q (64 * s + k) = A q (64 * s + k)) ∧ t.1 20 s = A 20 s) ∧ ca_I t.1 ∧ t.2.2 ≤ j ∧ (∀ i, t.1 17 i ≤ A 17 i + 1)
theorem ly_17 (A : ca_A) (rl : Nat → Nat) (s : Nat) (i : Nat) : ∀ m, ly A rl s m 17 i ≤ A 17 i + 1 ∧ (64 * s + m ≤ i → ly A rl s m 17 i = A 17 i)
  | 0 => ⟨by show A 17 i ≤ A 17 i + 1; omega, fun _ => rfl⟩
  | m + 1 => by
    obtain ⟨h1, h2⟩ := ly_17 A rl s i m
    unfold ly
    split
    · by_cases e : i = 64 * s + m
      · have h3 := h2 (by omega)
        refine ⟨?_, fun h => by omega⟩
        subst e
        unfold tk
        rw [cb_u2n (by omega), cb_u2n (by omega), cb_u2s, h3]
        omega
      · rw [tk_o _ (by omega)]
        exact ⟨h1, fun h => h2 (by omega)⟩
    · exact ⟨h1, fun h => h2 (by omega)⟩
theorem pst_I {A : ca_A} {z : Int32} {rl : Nat → Nat} {a : Nat} (h : ca_I A) (h17 : ∀ i, A 17 i ≤ 200) (hr : ∀ c, rl c < 10) : ∀ j, a + j ≤ A 0 20 → pI A a j (pst A z rl a j)
  | 0, _ => ⟨fun _ _ _ => rfl, fun _ _ => ⟨fun _ _ _ _ => rfl, rfl⟩, h, Nat.le_refl _, fun i => by show A 17 i ≤ A 17 i + 1; omega⟩
  | j + 1, hj => by
    obtain ⟨p1, p2, p3, p4, p5⟩ := pst_I h h17 hr (z := z) (a := a) j (by omega)
    unfold pst
    generalize pst A z rl a j = t at *
    have e20 : t.1 0 20 = A 0 20 := p1 0 20 (by omega)
    have h17' : ∀ k, k < 64 → t.1 17 (64 * (a + j) + k) ≤ 200 := fun k hk => by
      rw [(p2 (a + j) (by omega)).1 17 k (by omega) (by omega)]; exact h17 _
    unfold ps
    split
    · split
      · refine ⟨fun q i hq => ?_, fun s hs => ⟨fun q k h1 h2 => ?_, ?_⟩, ?_, ?_, fun i => ?_⟩
        · show cb_u2 t.1 20 (a + j) 1 q i = _
          rw [cb_u2n (by omega)]; exact p1 q i hq
        · show cb_u2 t.1 20 (a + j) 1 q _ = _
          rw [cb_u2n (by omega)]; exact (p2 s (by omega)).1 q k h1 h2
        · show cb_u2 t.1 20 (a + j) 1 20 s = _
          rw [cb_u2n (by omega)]; exact (p2 s (by omega)).2
        · exact p3.u20 (by omega) (by omega)
        · show t.2.2 + 1 ≤ j + 1
          omega
        · show cb_u2 t.1 20 (a + j) 1 17 i ≤ _
          rw [cb_u2n (by omega)]; exact p5 i
      · have hs1 := sp_1 t.1 rl (a + j) 64
        refine ⟨fun q i hq => ?_, fun s hs => ⟨fun q k h1 h2 => ?_, ?_⟩, ?_, ?_, fun i => ?_⟩
        · show cb_u2 (ly t.1 rl (a + j) 64) 20 (a + j) _ q i = _
          rw [cb_u2n (by omega), ly_o _ _ _ 64 (by omega)]; exact p1 q i hq
        · show cb_u2 (ly t.1 rl (a + j) 64) 20 (a + j) _ q _ = _
          rw [cb_u2n (by omega), ly_o _ _ _ 64 (by omega)]; exact (p2 s (by omega)).1 q k h1 h2
        · show cb_u2 (ly t.1 rl (a + j) 64) 20 (a + j) _ 20 s = _
          rw [cb_u2n (by omega), ly_o _ _ _ 64 (by omega)]; exact (p2 s (by omega)).2
        · refine (ly_I p3 h17' (by omega) hr 64 (by omega)).u20 ?_ hs1
          rw [ly_o _ _ _ 64 (by omega)]; omega
        · show t.2.2 + sp t.1 rl (a + j) 64 ≤ j + 1
          omega
        · show cb_u2 (ly t.1 rl (a + j) 64) 20 (a + j) (sp t.1 rl (a + j) 64) 17 i ≤ _
          rw [cb_u2n (by omega)]
          by_cases e : 64 * (a + j) ≤ i
          · have h9 := (ly_17 t.1 rl (a + j) i 64).1
            have h8 := (p2 (i / 64) (by omega)).1 17 (i % 64) (by omega) (by omega)
            rw [show 64 * (i / 64) + i % 64 = i by omega] at h8
            omega
          · rw [ly_o _ _ _ 64 (by omega)]; exact p5 i
    · exact ⟨p1, fun s hs => p2 s (by omega), p3, by omega, p5⟩
def en (B : ca_A) (p a b c d e : Nat) : ca_A := cb_u2 (cb_u2 (cb_u2 (cb_u2 (cb_u2 (cb_u2 B 22 p a) 23 p b) 24 p c) 25 p d) 26 p e) 0 26 (p + 1)
def pls (A : ca_A) (z : Int32) (rl : Nat → Nat) (t : Int32) : pT := if t = -1 then (A, z, 0) else pst A z rl (t.toInt.toNat / 100) (t.toInt.toNat % 100 + 1 - t.toInt.toNat / 100)
def plc (A : ca_A) (t : Int32) : Nat := if t = -1 then 0 else fb_ct (ca_pt A) 64
def plA (A : ca_A) (z : Int32) (rl : Nat → Nat) (t : Int32) (ink : Nat) : ca_A := en (pls A z rl t).1 (A 0 26) ink (A 0 8) (t.toInt + 1).toNat (plc A t) (pls A z rl t).2.2
abbrev sv_pl (A : ca_A) (t : Int32) : Prop := 0 < A 0 0 ∧ (t = -1 ∨ ca_s A t)
theorem pls_I {A : ca_A} {z : Int32} {rl : Nat → Nat} {t : Int32} (h : ca_I A) (h17 : ∀ i, A 17 i ≤ 200) (hr : ∀ c, rl c < 10) (hv : t = -1 ∨ ca_s A t) : ∃ a j, pI A a j (pls A z rl t) ∧ j ≤ 20 := by
  unfold pls
  split
  · exact ⟨0, 0, pst_I h h17 hr (z := z) (a := 0) 0 (by omega), by omega⟩
  · rename_i hn
    obtain ⟨h1, h2, h3⟩ := hv.resolve_left hn
    have := h.1
    exact ⟨_, _, pst_I h h17 hr _ (by omega), by omega⟩
abbrev sv_pull (A : ca_A) (t i : Int32) : Prop := (0 ≤ i ∧ i ≤ 9) ∧ sv_pl A t
def sr_pull (A : ca_A) (t i : Int32) : Int32 := if sv_pull A t i then (if A 0 26 = 200 then -2 else nI (A 0 26)) else -1
def sA_pull (A : ca_A) (z t i : Int32) : ca_A := if sv_pull A t i ∧ ¬ A 0 26 = 200 then plA A z (fun _ => i.toNatClampNeg) t i.toNatClampNeg else A
def sz_pull (A : ca_A) (z t i : Int32) : Int32 := if sv_pull A t i ∧ ¬ A 0 26 = 200 then (pls A z (fun _ => i.toNatClampNeg) t).2.1 else z
def bl_rl (A : ca_A) (n : Nat) : Nat → Nat := fun c => if c < n % 10 then n / 100 % 10 else if n % 10 < c then n / 10 % 10 else A 6 (10 * (n / 100) + n / 10 % 10)
abbrev sv_blend (A : ca_A) (t x : Int32) : Prop := ((0 ≤ x ∧ x ≤ 999) ∧ ¬ x.toNatClampNeg / 100 = x.toNatClampNeg / 10 % 10 ∧ x.toNatClampNeg % 10 < A 0 1) ∧ sv_pl A t
def sr_blend (A : ca_A) (t x : Int32) : Int32 := if sv_blend A t x then (if A 0 26 = 200 then -2 else nI (A 0 26)) else -1
def sA_blend (A : ca_A) (z t x : Int32) : ca_A := if sv_blend A t x ∧ ¬ A 0 26 = 200 then plA A z (bl_rl A x.toNatClampNeg) t 10 else A
def sz_blend (A : ca_A) (z t x : Int32) : Int32 := if sv_blend A t x ∧ ¬ A 0 26 = 200 then (pls A z (bl_rl A x.toNatClampNeg) t).2.1 else z
theorem bl_10 {A : ca_A} (hI : ca_I A) (n c : Nat) : bl_rl A n c < 10 := by
  have h := hI.2.2.1.2.2.2 (10 * (n / 100) + n / 10 % 10)
  unfold bl_rl
  split
  · omega
  · split
    · omega
    · exact h
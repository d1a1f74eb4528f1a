def ca_J (A : ca_A) : Prop := ca_I A ∧ ∀ i, A 17 i ≤ A 0 26
theorem J_3 {A : ca_A} {x a : Nat} (ha : a < 16)  (h : ca_J A) : ca_J (cb_u2 A 3 x a) := by
  obtain ⟨⟨c1, c2, ⟨d1, d2, d3, d4⟩, ⟨f1, f2, f3, f4⟩, ⟨e1, e2, e3, e4, e5⟩, ⟨g1, g2, g3⟩, c7, c8, c9, c10⟩, hj⟩ := h
  have t0 : ∀ q y, ¬ q = 3 → cb_u2 A 3 x a q y = A q y := fun q y hq => cb_u2n (Or.inl hq)
  have o1 : ∀ k', ca_o (cb_u2 A 3 x a) k' ↔ ca_o A k' := fun k' => by
    unfold ca_o
    rw [t0 0 0 (by omega), t0 0 1 (by omega)]
  refine ⟨⟨?_, ?_, ⟨?_, ?_, ?_, ?_⟩, ⟨?_, ?_, ?_, ?_⟩, ⟨?_, ?_, ?_, ?_, ?_⟩, ⟨?_, ?_, ?_⟩, ?_, ?_, ?_, ?_⟩, ?_⟩
  · rw [t0 0 0 (by omega), t0 0 1 (by omega), t0 0 12 (by omega), t0 0 20 (by omega), t0 0 26 (by omega), t0 0 8 (by omega), t0 0 6 (by omega), t0 0 28 (by omega), t0 0 29 (by omega), t0 0 33 (by omega)]; exact c1
  · rw [t0 0 0 (by omega), t0 0 1 (by omega), t0 0 12 (by omega), t0 0 20 (by omega), t0 0 26 (by omega), t0 0 28 (by omega), t0 0 29 (by omega)]; exact c2
  · intro y
    by_cases e : y = x
    · rw [e, cb_u2s]; omega
    · rw [cb_u2n (by omega)]; exact d1 y
  · intro x; rw [t0 4 x (by omega)]; exact d2 x
  · intro x; rw [t0 5 x (by omega)]; exact d3 x
  · intro x; rw [t0 6 x (by omega)]; exact d4 x
  · intro x; rw [t0 10 x (by omega)]; exact f1 x
  · intro x; rw [t0 11 x (by omega)]; exact f2 x
  · intro x hx; rw [t0 11 x (by omega), t0 0 12 (by omega)]; exact f3 x ((o1 x).mp hx)
  · intro x; rw [t0 12 x (by omega)]; exact f4 x
  · intro x; rw [t0 15 x (by omega)]; exact e1 x
  · intro x; rw [t0 17 x (by omega)]; exact e2 x
  · intro x; rw [t0 18 x (by omega)]; exact e3 x
  · intro x; rw [t0 19 x (by omega)]; exact e4 x
  · intro x; rw [t0 20 x (by omega)]; exact e5 x
  · intro x; rw [t0 31 x (by omega)]; exact g1 x
  · intro x; rw [t0 33 x (by omega)]; exact g2 x
  · intro x; rw [t0 35 x (by omega)]; exact g3 x
  · intro s' h1 h2
    rw [t0 0 20 (by omega)] at h1
    obtain ⟨u1, u2⟩ := c7 s' h1 h2
    refine ⟨fun k' hk' => ?_, by rw [t0 20 _ (by omega)]; exact u2⟩
    rw [t0 15 _ (by omega), t0 17 _ (by omega), t0 18 _ (by omega), t0 19 _ (by omega)]
    exact u1 k' hk'
  · intro h0
    rw [t0 0 0 (by omega)] at h0
    obtain ⟨u1, u2, u3⟩ := c8 h0
    exact ⟨fun x => by rw [t0 10 x (by omega)]; exact u1 x, fun x => by rw [t0 11 x (by omega)]; exact u2 x, fun x => by rw [t0 12 x (by omega)]; exact u3 x⟩
  · intro s' k' h1 h2
    rw [o1] at h2
    rw [t0 15 _ (by omega)]
    exact c9 s' k' h1 h2
  · intro x hx
    rw [t0 17 x (by omega)] at hx
    rw [t0 19 x (by omega)]; exact c10 x hx
  · intro x; rw [t0 17 x (by omega), t0 0 26 (by omega)]; exact hj x
theorem J_4 {A : ca_A} {x a : Nat} (ha : a ≤ 999)  (h : ca_J A) : ca_J (cb_u2 A 4 x a) := by
  obtain ⟨⟨c1, c2, ⟨d1, d2, d3, d4⟩, ⟨f1, f2, f3, f4⟩, ⟨e1, e2, e3, e4, e5⟩, ⟨g1, g2, g3⟩, c7, c8, c9, c10⟩, hj⟩ := h
  have t0 : ∀ q y, ¬ q = 4 → cb_u2 A 4 x a q y = A q y := fun q y hq => cb_u2n (Or.inl hq)
  have o1 : ∀ k', ca_o (cb_u2 A 4 x a) k' ↔ ca_o A k' := fun k' => by
    unfold ca_o
    rw [t0 0 0 (by omega), t0 0 1 (by omega)]
  refine ⟨⟨?_, ?_, ⟨?_, ?_, ?_, ?_⟩, ⟨?_, ?_, ?_, ?_⟩, ⟨?_, ?_, ?_, ?_, ?_⟩, ⟨?_, ?_, ?_⟩, ?_, ?_, ?_, ?_⟩, ?_⟩
  · rw [t0 0 0 (by omega), t0 0 1 (by omega), t0 0 12 (by omega), t0 0 20 (by omega), t0 0 26 (by omega), t0 0 8 (by omega), t0 0 6 (by omega), t0 0 28 (by omega), t0 0 29 (by omega), t0 0 33 (by omega)]; exact c1
  · rw [t0 0 0 (by omega), t0 0 1 (by omega), t0 0 12 (by omega), t0 0 20 (by omega), t0 0 26 (by omega), t0 0 28 (by omega), t0 0 29 (by omega)]; exact c2
  · intro x; rw [t0 3 x (by omega)]; exact d1 x
  · intro y
    by_cases e : y = x
    · rw [e, cb_u2s]; omega
    · rw [cb_u2n (by omega)]; exact d2 y
  · intro x; rw [t0 5 x (by omega)]; exact d3 x
  · intro x; rw [t0 6 x (by omega)]; exact d4 x
  · intro x; rw [t0 10 x (by omega)]; exact f1 x
  · intro x; rw [t0 11 x (by omega)]; exact f2 x
  · intro x hx; rw [t0 11 x (by omega), t0 0 12 (by omega)]; exact f3 x ((o1 x).mp hx)
  · intro x; rw [t0 12 x (by omega)]; exact f4 x
  · intro x; rw [t0 15 x (by omega)]; exact e1 x
  · intro x; rw [t0 17 x (by omega)]; exact e2 x
  · intro x; rw [t0 18 x (by omega)]; exact e3 x
  · intro x; rw [t0 19 x (by omega)]; exact e4 x
  · intro x; rw [t0 20 x (by omega)]; exact e5 x
  · intro x; rw [t0 31 x (by omega)]; exact g1 x
  · intro x; rw [t0 33 x (by omega)]; exact g2 x
  · intro x; rw [t0 35 x (by omega)]; exact g3 x
  · intro s' h1 h2
    rw [t0 0 20 (by omega)] at h1
    obtain ⟨u1, u2⟩ := c7 s' h1 h2
    refine ⟨fun k' hk' => ?_, by rw [t0 20 _ (by omega)]; exact u2⟩
    rw [t0 15 _ (by omega), t0 17 _ (by omega), t0 18 _ (by omega), t0 19 _ (by omega)]
    exact u1 k' hk'
  · intro h0
    rw [t0 0 0 (by omega)] at h0
    obtain ⟨u1, u2, u3⟩ := c8 h0
    exact ⟨fun x => by rw [t0 10 x (by omega)]; exact u1 x, fun x => by rw [t0 11 x (by omega)]; exact u2 x, fun x => by rw [t0 12 x (by omega)]; exact u3 x⟩
  · intro s' k' h1 h2
    rw [o1] at h2
    rw [t0 15 _ (by omega)]
    exact c9 s' k' h1 h2
  · intro x hx
    rw [t0 17 x (by omega)] at hx
    rw [t0 19 x (by omega)]; exact c10 x hx
  · intro x; rw [t0 17 x (by omega), t0 0 26 (by omega)]; exact hj x
theorem J_5 {A : ca_A} {x a : Nat} (ha : a ≤ 1)  (h : ca_J A) : ca_J (cb_u2 A 5 x a) := by
  obtain ⟨⟨c1, c2, ⟨d1, d2, d3, d4⟩, ⟨f1, f2, f3, f4⟩, ⟨e1, e2, e3, e4, e5⟩, ⟨g1, g2, g3⟩, c7, c8, c9, c10⟩, hj⟩ := h
  have t0 : ∀ q y, ¬ q = 5 → cb_u2 A 5 x a q y = A q y := fun q y hq => cb_u2n (Or.inl hq)
  have o1 : ∀ k', ca_o (cb_u2 A 5 x a) k' ↔ ca_o A k' := fun k' => by
    unfold ca_o
    rw [t0 0 0 (by omega), t0 0 1 (by omega)]
  refine ⟨⟨?_, ?_, ⟨?_, ?_, ?_, ?_⟩, ⟨?_, ?_, ?_, ?_⟩, ⟨?_, ?_, ?_, ?_, ?_⟩, ⟨?_, ?_, ?_⟩, ?_, ?_, ?_, ?_⟩, ?_⟩
  · rw [t0 0 0 (by omega), t0 0 1 (by omega), t0 0 12 (by omega), t0 0 20 (by omega), t0 0 26 (by omega), t0 0 8 (by omega), t0 0 6 (by omega), t0 0 28 (by omega), t0 0 29 (by omega), t0 0 33 (by omega)]; exact c1
  · rw [t0 0 0 (by omega), t0 0 1 (by omega), t0 0 12 (by omega), t0 0 20 (by omega), t0 0 26 (by omega), t0 0 28 (by omega), t0 0 29 (by omega)]; exact c2
  · intro x; rw [t0 3 x (by omega)]; exact d1 x
  · intro x; rw [t0 4 x (by omega)]; exact d2 x
  · intro y
    by_cases e : y = x
    · rw [e, cb_u2s]; omega
    · rw [cb_u2n (by omega)]; exact d3 y
  · intro x; rw [t0 6 x (by omega)]; exact d4 x
  · intro x; rw [t0 10 x (by omega)]; exact f1 x
  · intro x; rw [t0 11 x (by omega)]; exact f2 x
  · intro x hx; rw [t0 11 x (by omega), t0 0 12 (by omega)]; exact f3 x ((o1 x).mp hx)
  · intro x; rw [t0 12 x (by omega)]; exact f4 x
  · intro x; rw [t0 15 x (by omega)]; exact e1 x
  · intro x; rw [t0 17 x (by omega)]; exact e2 x
  · intro x; rw [t0 18 x (by omega)]; exact e3 x
  · intro x; rw [t0 19 x (by omega)]; exact e4 x
  · intro x; rw [t0 20 x (by omega)]; exact e5 x
  · intro x; rw [t0 31 x (by omega)]; exact g1 x
  · intro x; rw [t0 33 x (by omega)]; exact g2 x
  · intro x; rw [t0 35 x (by omega)]; exact g3 x
  · intro s' h1 h2
    rw [t0 0 20 (by omega)] at h1
    obtain ⟨u1, u2⟩ := c7 s' h1 h2
    refine ⟨fun k' hk' => ?_, by rw [t0 20 _ (by omega)]; exact u2⟩
    rw [t0 15 _ (by omega), t0 17 _ (by omega), t0 18 _ (by omega), t0 19 _ (by omega)]
    exact u1 k' hk'
  · intro h0
    rw [t0 0 0 (by omega)] at h0
    obtain ⟨u1, u2, u3⟩ := c8 h0
    exact ⟨fun x => by rw [t0 10 x (by omega)]; exact u1 x, fun x => by rw [t0 11 x (by omega)]; exact u2 x, fun x => by rw [t0 12 x (by omega)]; exact u3 x⟩
  · intro s' k' h1 h2
    rw [o1] at h2
    rw [t0 15 _ (by omega)]
    exact c9 s' k' h1 h2
  · intro x hx
    rw [t0 17 x (by omega)] at hx
    rw [t0 19 x (by omega)]; exact c10 x hx
  · intro x; rw [t0 17 x (by omega), t0 0 26 (by omega)]; exact hj x
theorem J_6 {A : ca_A} {x a : Nat} (ha : a < 10)  (h : ca_J A) : ca_J (cb_u2 A 6 x a) := by
  obtain ⟨⟨c1, c2, ⟨d1, d2, d3, d4⟩, ⟨f1, f2, f3, f4⟩, ⟨e1, e2, e3, e4, e5⟩, ⟨g1, g2, g3⟩, c7, c8, c9, c10⟩, hj⟩ := h
  have t0 : ∀ q y, ¬ q = 6 → cb_u2 A 6 x a q y = A q y := fun q y hq => cb_u2n (Or.inl hq)
  have o1 : ∀ k', ca_o (cb_u2 A 6 x a) k' ↔ ca_o A k' := fun k' => by
    unfold ca_o
    rw [t0 0 0 (by omega), t0 0 1 (by omega)]
  refine ⟨⟨?_, ?_, ⟨?_, ?_, ?_, ?_⟩, ⟨?_, ?_, ?_, ?_⟩, ⟨?_, ?_, ?_, ?_, ?_⟩, ⟨?_, ?_, ?_⟩, ?_, ?_, ?_, ?_⟩, ?_⟩
  · rw [t0 0 0 (by omega), t0 0 1 (by omega), t0 0 12 (by omega), t0 0 20 (by omega), t0 0 26 (by omega), t0 0 8 (by omega), t0 0 6 (by omega), t0 0 28 (by omega), t0 0 29 (by omega), t0 0 33 (by omega)]; exact c1
  · rw [t0 0 0 (by omega), t0 0 1 (by omega), t0 0 12 (by omega), t0 0 20 (by omega), t0 0 26 (by omega), t0 0 28 (by omega), t0 0 29 (by omega)]; exact c2
  · intro x; rw [t0 3 x (by omega)]; exact d1 x
  · intro x; rw [t0 4 x (by omega)]; exact d2 x
  · intro x; rw [t0 5 x (by omega)]; exact d3 x
  · intro y
    by_cases e : y = x
    · rw [e, cb_u2s]; omega
    · rw [cb_u2n (by omega)]; exact d4 y
  · intro x; rw [t0 10 x (by omega)]; exact f1 x
  · intro x; rw [t0 11 x (by omega)]; exact f2 x
  · intro x hx; rw [t0 11 x (by omega), t0 0 12 (by omega)]; exact f3 x ((o1 x).mp hx)
  · intro x; rw [t0 12 x (by omega)]; exact f4 x
  · intro x; rw [t0 15 x (by omega)]; exact e1 x
  · intro x; rw [t0 17 x (by omega)]; exact e2 x
  · intro x; rw [t0 18 x (by omega)]; exact e3 x
  · intro x; rw [t0 19 x (by omega)]; exact e4 x
  · intro x; rw [t0 20 x (by omega)]; exact e5 x
  · intro x; rw [t0 31 x (by omega)]; exact g1 x
  · intro x; rw [t0 33 x (by omega)]; exact g2 x
  · intro x; rw [t0 35 x (by omega)]; exact g3 x
  · intro s' h1 h2
    rw [t0 0 20 (by omega)] at h1
    obtain ⟨u1, u2⟩ := c7 s' h1 h2
    refine ⟨fun k' hk' => ?_, by rw [t0 20 _ (by omega)]; exact u2⟩
    rw [t0 15 _ (by omega), t0 17 _ (by omega), t0 18 _ (by omega), t0 19 _ (by omega)]
    exact u1 k' hk'
  · intro h0
    rw [t0 0 0 (by omega)] at h0
    obtain ⟨u1, u2, u3⟩ := c8 h0
    exact ⟨fun x => by rw [t0 10 x (by omega)]; exact u1 x, fun x => by rw [t0 11 x (by omega)]; exact u2 x, fun x => by rw [t0 12 x (by omega)]; exact u3 x⟩
  · intro s' k' h1 h2
    rw [o1] at h2
    rw [t0 15 _ (by omega)]
    exact c9 s' k' h1 h2
  · intro x hx
    rw [t0 17 x (by omega)] at hx
    rw [t0 19 x (by omega)]; exact c10 x hx
  · intro x; rw [t0 17 x (by omega), t0 0 26 (by omega)]; exact hj x
theorem J_31 {A : ca_A} {x a : Nat} (ha : a < 16)  (h : ca_J A) : ca_J (cb_u2 A 31 x a) := by
  obtain ⟨⟨c1, c2, ⟨d1, d2, d3, d4⟩, ⟨f1, f2, f3, f4⟩, ⟨e1, e2, e3, e4, e5⟩, ⟨g1, g2, g3⟩, c7, c8, c9, c10⟩, hj⟩ := h
  have t0 : ∀ q y, ¬ q = 31 → cb_u2 A 31 x a q y = A q y := fun q y hq => cb_u2n (Or.inl hq)
  have o1 : ∀ k', ca_o (cb_u2 A 31 x a) k' ↔ ca_o A k' := fun k' => by
    unfold ca_o
    rw [t0 0 0 (by omega), t0 0 1 (by omega)]
  refine ⟨⟨?_, ?_, ⟨?_, ?_, ?_, ?_⟩, ⟨?_, ?_, ?_, ?_⟩, ⟨?_, ?_, ?_, ?_, ?_⟩, ⟨?_, ?_, ?_⟩, ?_, ?_, ?_, ?_⟩, ?_⟩
  · rw [t0 0 0 (by omega), t0 0 1 (by omega), t0 0 12 (by omega), t0 0 20 (by omega), t0 0 26 (by omega), t0 0 8 (by omega), t0 0 6 (by omega), t0 0 28 (by omega), t0 0 29 (by omega), t0 0 33 (by omega)]; exact c1
  · rw [t0 0 0 (by omega), t0 0 1 (by omega), t0 0 12 (by omega), t0 0 20 (by omega), t0 0 26 (by omega), t0 0 28 (by omega), t0 0 29 (by omega)]; exact c2
  · intro x; rw [t0 3 x (by omega)]; exact d1 x
  · intro x; rw [t0 4 x (by omega)]; exact d2 x
  · intro x; rw [t0 5 x (by omega)]; exact d3 x
  · intro x; rw [t0 6 x (by omega)]; exact d4 x
  · intro x; rw [t0 10 x (by omega)]; exact f1 x
  · intro x; rw [t0 11 x (by omega)]; exact f2 x
  · intro x hx; rw [t0 11 x (by omega), t0 0 12 (by omega)]; exact f3 x ((o1 x).mp hx)
  · intro x; rw [t0 12 x (by omega)]; exact f4 x
  · intro x; rw [t0 15 x (by omega)]; exact e1 x
  · intro x; rw [t0 17 x (by omega)]; exact e2 x
  · intro x; rw [t0 18 x (by omega)]; exact e3 x
  · intro x; rw [t0 19 x (by omega)]; exact e4 x
  · intro x; rw [t0 20 x (by omega)]; exact e5 x
  · intro y
    by_cases e : y = x
    · rw [e, cb_u2s]; omega
    · rw [cb_u2n (by omega)]; exact g1 y
  · intro x; rw [t0 33 x (by omega)]; exact g2 x
  · intro x; rw [t0 35 x (by omega)]; exact g3 x
  · intro s' h1 h2
    rw [t0 0 20 (by omega)] at h1
    obtain ⟨u1, u2⟩ := c7 s' h1 h2
    refine ⟨fun k' hk' => ?_, by rw [t0 20 _ (by omega)]; exact u2⟩
    rw [t0 15 _ (by omega), t0 17 _ (by omega), t0 18 _ (by omega), t0 19 _ (by omega)]
    exact u1 k' hk'
  · intro h0
    rw [t0 0 0 (by omega)] at h0
    obtain ⟨u1, u2, u3⟩ := c8 h0
    exact ⟨fun x => by rw [t0 10 x (by omega)]; exact u1 x, fun x => by rw [t0 11 x (by omega)]; exact u2 x, fun x => by rw [t0 12 x (by omega)]; exact u3 x⟩
  · intro s' k' h1 h2
    rw [o1] at h2
    rw [t0 15 _ (by omega)]
    exact c9 s' k' h1 h2
  · intro x hx
    rw [t0 17 x (by omega)] at hx
    rw [t0 19 x (by omega)]; exact c10 x hx
  · intro x; rw [t0 17 x (by omega), t0 0 26 (by omega)]; exact hj x
theorem J_12 {A : ca_A} {x a : Nat} (ha : a ≤ 1) (hx : x < A 0 12) (h : ca_J A) : ca_J (cb_u2 A 12 x a) := by
  obtain ⟨⟨c1, c2, ⟨d1, d2, d3, d4⟩, ⟨f1, f2, f3, f4⟩, ⟨e1, e2, e3, e4, e5⟩, ⟨g1, g2, g3⟩, c7, c8, c9, c10⟩, hj⟩ := h
  have t0 : ∀ q y, ¬ q = 12 → cb_u2 A 12 x a q y = A q y := fun q y hq => cb_u2n (Or.inl hq)
  have o1 : ∀ k', ca_o (cb_u2 A 12 x a) k' ↔ ca_o A k' := fun k' => by
    unfold ca_o
    rw [t0 0 0 (by omega), t0 0 1 (by omega)]
  refine ⟨⟨?_, ?_, ⟨?_, ?_, ?_, ?_⟩, ⟨?_, ?_, ?_, ?_⟩, ⟨?_, ?_, ?_, ?_, ?_⟩, ⟨?_, ?_, ?_⟩, ?_, ?_, ?_, ?_⟩, ?_⟩
  · rw [t0 0 0 (by omega), t0 0 1 (by omega), t0 0 12 (by omega), t0 0 20 (by omega), t0 0 26 (by omega), t0 0 8 (by omega), t0 0 6 (by omega), t0 0 28 (by omega), t0 0 29 (by omega), t0 0 33 (by omega)]; exact c1
  · rw [t0 0 0 (by omega), t0 0 1 (by omega), t0 0 12 (by omega), t0 0 20 (by omega), t0 0 26 (by omega), t0 0 28 (by omega), t0 0 29 (by omega)]; exact c2
  · intro x; rw [t0 3 x (by omega)]; exact d1 x
  · intro x; rw [t0 4 x (by omega)]; exact d2 x
  · intro x; rw [t0 5 x (by omega)]; exact d3 x
  · intro x; rw [t0 6 x (by omega)]; exact d4 x
  · intro x; rw [t0 10 x (by omega)]; exact f1 x
  · intro x; rw [t0 11 x (by omega)]; exact f2 x
  · intro x hx; rw [t0 11 x (by omega), t0 0 12 (by omega)]; exact f3 x ((o1 x).mp hx)
  · intro y
    by_cases e : y = x
    · rw [e, cb_u2s]; omega
    · rw [cb_u2n (by omega)]; exact f4 y
  · intro x; rw [t0 15 x (by omega)]; exact e1 x
  · intro x; rw [t0 17 x (by omega)]; exact e2 x
  · intro x; rw [t0 18 x (by omega)]; exact e3 x
  · intro x; rw [t0 19 x (by omega)]; exact e4 x
  · intro x; rw [t0 20 x (by omega)]; exact e5 x
  · intro x; rw [t0 31 x (by omega)]; exact g1 x
  · intro x; rw [t0 33 x (by omega)]; exact g2 x
  · intro x; rw [t0 35 x (by omega)]; exact g3 x
  · intro s' h1 h2
    rw [t0 0 20 (by omega)] at h1
    obtain ⟨u1, u2⟩ := c7 s' h1 h2
    refine ⟨fun k' hk' => ?_, by rw [t0 20 _ (by omega)]; exact u2⟩
    rw [t0 15 _ (by omega), t0 17 _ (by omega), t0 18 _ (by omega), t0 19 _ (by omega)]
    exact u1 k' hk'
  · intro h0
    rw [t0 0 0 (by omega)] at h0
    have := (c2.1 h0).2.1
    omega
  · intro s' k' h1 h2
    rw [o1] at h2
    rw [t0 15 _ (by omega)]
    exact c9 s' k' h1 h2
  · intro x hx
    rw [t0 17 x (by omega)] at hx
    rw [t0 19 x (by omega)]; exact c10 x hx
  · intro x; rw [t0 17 x (by omega), t0 0 26 (by omega)]; exact hj x
theorem J_lot {A : ca_A} {a : Nat} (ha : a ≤ 999) (h : ca_J A) : ca_J (cb_u2 A 0 6 a) := by
  obtain ⟨⟨c1, c2, ⟨d1, d2, d3, d4⟩, ⟨f1, f2, f3, f4⟩, ⟨e1, e2, e3, e4, e5⟩, ⟨g1, g2, g3⟩, c7, c8, c9, c10⟩, hj⟩ := h
  have t0 : ∀ q y, ¬ (q = 0 ∧ y = 6) → cb_u2 A 0 6 a q y = A q y := fun q y hq => cb_u2n (by omega)
  have o1 : ∀ k', ca_o (cb_u2 A 0 6 a) k' ↔ ca_o A k' := fun k' => by
    unfold ca_o
    rw [t0 0 0 (by omega), t0 0 1 (by omega)]
  refine ⟨⟨?_, ?_, ⟨?_, ?_, ?_, ?_⟩, ⟨?_, ?_, ?_, ?_⟩, ⟨?_, ?_, ?_, ?_, ?_⟩, ⟨?_, ?_, ?_⟩, ?_, ?_, ?_, ?_⟩, ?_⟩
  · rw [t0 0 0 (by omega), t0 0 1 (by omega), t0 0 12 (by omega), t0 0 20 (by omega), t0 0 26 (by omega), t0 0 8 (by omega), cb_u2s, t0 0 28 (by omega), t0 0 29 (by omega), t0 0 33 (by omega)]
    omega
  · rw [t0 0 0 (by omega), t0 0 1 (by omega), t0 0 12 (by omega), t0 0 20 (by omega), t0 0 26 (by omega), t0 0 28 (by omega), t0 0 29 (by omega)]; exact c2
  · intro x; rw [t0 3 x (by omega)]; exact d1 x
  · intro x; rw [t0 4 x (by omega)]; exact d2 x
  · intro x; rw [t0 5 x (by omega)]; exact d3 x
  · intro x; rw [t0 6 x (by omega)]; exact d4 x
  · intro x; rw [t0 10 x (by omega)]; exact f1 x
  · intro x; rw [t0 11 x (by omega)]; exact f2 x
  · intro x hx; rw [t0 11 x (by omega), t0 0 12 (by omega)]; exact f3 x ((o1 x).mp hx)
  · intro x; rw [t0 12 x (by omega)]; exact f4 x
  · intro x; rw [t0 15 x (by omega)]; exact e1 x
  · intro x; rw [t0 17 x (by omega)]; exact e2 x
  · intro x; rw [t0 18 x (by omega)]; exact e3 x
  · intro x; rw [t0 19 x (by omega)]; exact e4 x
  · intro x; rw [t0 20 x (by omega)]; exact e5 x
  · intro x; rw [t0 31 x (by omega)]; exact g1 x
  · intro x; rw [t0 33 x (by omega)]; exact g2 x
  · intro x; rw [t0 35 x (by omega)]; exact g3 x
  · intro s' h1 h2
    rw [t0 0 20 (by omega)] at h1
    obtain ⟨u1, u2⟩ := c7 s' h1 h2
    refine ⟨fun k' hk' => ?_, by rw [t0 20 _ (by omega)]; exact u2⟩
    rw [t0 15 _ (by omega), t0 17 _ (by omega), t0 18 _ (by omega), t0 19 _ (by omega)]
    exact u1 k' hk'
  · intro h0
    rw [t0 0 0 (by omega)] at h0
    obtain ⟨u1, u2, u3⟩ := c8 h0
    exact ⟨fun x => by rw [t0 10 x (by omega)]; exact u1 x, fun x => by rw [t0 11 x (by omega)]; exact u2 x, fun x => by rw [t0 12 x (by omega)]; exact u3 x⟩
  · intro s' k' h1 h2
    rw [o1] at h2
    rw [t0 15 _ (by omega)]
    exact c9 s' k' h1 h2
  · intro x hx
    rw [t0 17 x (by omega)] at hx
    rw [t0 19 x (by omega)]; exact c10 x hx
  · intro x; rw [t0 17 x (by omega), t0 0 26 (by omega)]; exact hj x
theorem J_min {A : ca_A} {a : Nat} (ha : a ≤ 99999) (h : ca_J A) : ca_J (cb_u2 A 0 8 a) := by
  obtain ⟨⟨c1, c2, ⟨d1, d2, d3, d4⟩, ⟨f1, f2, f3, f4⟩, ⟨e1, e2, e3, e4, e5⟩, ⟨g1, g2, g3⟩, c7, c8, c9, c10⟩, hj⟩ := h
  have t0 : ∀ q y, ¬ (q = 0 ∧ y = 8) → cb_u2 A 0 8 a q y = A q y := fun q y hq => cb_u2n (by omega)
  have o1 : ∀ k', ca_o (cb_u2 A 0 8 a) k' ↔ ca_o A k' := fun k' => by
    unfold ca_o
    rw [t0 0 0 (by omega), t0 0 1 (by omega)]
  refine ⟨⟨?_, ?_, ⟨?_, ?_, ?_, ?_⟩, ⟨?_, ?_, ?_, ?_⟩, ⟨?_, ?_, ?_, ?_, ?_⟩, ⟨?_, ?_, ?_⟩, ?_, ?_, ?_, ?_⟩, ?_⟩
  · rw [t0 0 0 (by omega), t0 0 1 (by omega), t0 0 12 (by omega), t0 0 20 (by omega), t0 0 26 (by omega), cb_u2s, t0 0 6 (by omega), t0 0 28 (by omega), t0 0 29 (by omega), t0 0 33 (by omega)]
    omega
  · rw [t0 0 0 (by omega), t0 0 1 (by omega), t0 0 12 (by omega), t0 0 20 (by omega), t0 0 26 (by omega), t0 0 28 (by omega), t0 0 29 (by omega)]; exact c2
  · intro x; rw [t0 3 x (by omega)]; exact d1 x
  · intro x; rw [t0 4 x (by omega)]; exact d2 x
  · intro x; rw [t0 5 x (by omega)]; exact d3 x
  · intro x; rw [t0 6 x (by omega)]; exact d4 x
  · intro x; rw [t0 10 x (by omega)]; exact f1 x
  · intro x; rw [t0 11 x (by omega)]; exact f2 x
  · intro x hx; rw [t0 11 x (by omega), t0 0 12 (by omega)]; exact f3 x ((o1 x).mp hx)
  · intro x; rw [t0 12 x (by omega)]; exact f4 x
  · intro x; rw [t0 15 x (by omega)]; exact e1 x
  · intro x; rw [t0 17 x (by omega)]; exact e2 x
  · intro x; rw [t0 18 x (by omega)]; exact e3 x
  · intro x; rw [t0 19 x (by omega)]; exact e4 x
  · intro x; rw [t0 20 x (by omega)]; exact e5 x
  · intro x; rw [t0 31 x (by omega)]; exact g1 x
  · intro x; rw [t0 33 x (by omega)]; exact g2 x
  · intro x; rw [t0 35 x (by omega)]; exact g3 x
  · intro s' h1 h2
    rw [t0 0 20 (by omega)] at h1
    obtain ⟨u1, u2⟩ := c7 s' h1 h2
    refine ⟨fun k' hk' => ?_, by rw [t0 20 _ (by omega)]; exact u2⟩
    rw [t0 15 _ (by omega), t0 17 _ (by omega), t0 18 _ (by omega), t0 19 _ (by omega)]
    exact u1 k' hk'
  · intro h0
    rw [t0 0 0 (by omega)] at h0
    obtain ⟨u1, u2, u3⟩ := c8 h0
    exact ⟨fun x => by rw [t0 10 x (by omega)]; exact u1 x, fun x => by rw [t0 11 x (by omega)]; exact u2 x, fun x => by rw [t0 12 x (by omega)]; exact u3 x⟩
  · intro s' k' h1 h2
    rw [o1] at h2
    rw [t0 15 _ (by omega)]
    exact c9 s' k' h1 h2
  · intro x hx
    rw [t0 17 x (by omega)] at hx
    rw [t0 19 x (by omega)]; exact c10 x hx
  · intro x; rw [t0 17 x (by omega), t0 0 26 (by omega)]; exact hj x
theorem J_board {A : ca_A} {r c : Nat} (hr1 : 1 ≤ r) (hr : r ≤ 8) (hc1 : 1 ≤ c) (hc : c ≤ 8) (h0 : A 0 0 = 0) (h : ca_J A) : ca_J (cb_u2 (cb_u2 (cb_u2 A 0 0 r) 0 1 c) 0 12 1) := by
  obtain ⟨⟨c1, c2, ⟨d1, d2, d3, d4⟩, ⟨f1, f2, f3, f4⟩, ⟨e1, e2, e3, e4, e5⟩, ⟨g1, g2, g3⟩, c7, c8, c9, c10⟩, hj⟩ := h
  have t0 : ∀ q y, ¬ (q = 0 ∧ (y = 0 ∨ y = 1 ∨ y = 12)) → cb_u2 (cb_u2 (cb_u2 A 0 0 r) 0 1 c) 0 12 1 q y = A q y := fun q y hq => by
    rw [cb_u2n (by omega), cb_u2n (by omega), cb_u2n (by omega)]
  have v0 : cb_u2 (cb_u2 (cb_u2 A 0 0 r) 0 1 c) 0 12 1 0 0 = r := by rw [cb_u2n (by omega), cb_u2n (by omega), cb_u2s]
  have v1 : cb_u2 (cb_u2 (cb_u2 A 0 0 r) 0 1 c) 0 12 1 0 1 = c := by rw [cb_u2n (by omega), cb_u2s]
  have v2 : cb_u2 (cb_u2 (cb_u2 A 0 0 r) 0 1 c) 0 12 1 0 12 = 1 := by rw [cb_u2s]
  have hno : ∀ k, ¬ ca_o A k := fun k hk => by have := hk.1; omega
  refine ⟨⟨?_, ?_, ⟨?_, ?_, ?_, ?_⟩, ⟨?_, ?_, ?_, ?_⟩, ⟨?_, ?_, ?_, ?_, ?_⟩, ⟨?_, ?_, ?_⟩, ?_, ?_, ?_, ?_⟩, ?_⟩
  · rw [v0, v1, v2, t0 0 20 (by omega), t0 0 26 (by omega), t0 0 8 (by omega), t0 0 6 (by omega), t0 0 28 (by omega), t0 0 29 (by omega), t0 0 33 (by omega)]
    omega
  · rw [v0, v1, v2, t0 0 20 (by omega), t0 0 26 (by omega), t0 0 28 (by omega), t0 0 29 (by omega)]
    exact ⟨fun e => by omega, fun _ => ⟨by omega, by omega⟩, c2.2.2⟩
  · intro x; rw [t0 3 x (by omega)]; exact d1 x
  · intro x; rw [t0 4 x (by omega)]; exact d2 x
  · intro x; rw [t0 5 x (by omega)]; exact d3 x
  · intro x; rw [t0 6 x (by omega)]; exact d4 x
  · intro x; rw [t0 10 x (by omega)]; exact f1 x
  · intro x; rw [t0 11 x (by omega)]; exact f2 x
  · intro x hx; rw [t0 11 x (by omega), v2, (c8 h0).2.1 x]; omega
  · intro x; rw [t0 12 x (by omega)]; exact f4 x
  · intro x; rw [t0 15 x (by omega)]; exact e1 x
  · intro x; rw [t0 17 x (by omega)]; exact e2 x
  · intro x; rw [t0 18 x (by omega)]; exact e3 x
  · intro x; rw [t0 19 x (by omega)]; exact e4 x
  · intro x; rw [t0 20 x (by omega)]; exact e5 x
  · intro x; rw [t0 31 x (by omega)]; exact g1 x
  · intro x; rw [t0 33 x (by omega)]; exact g2 x
  · intro x; rw [t0 35 x (by omega)]; exact g3 x
  · intro s' h1 h2
    rw [t0 0 20 (by omega)] at h1
    obtain ⟨u1, u2⟩ := c7 s' h1 h2
    refine ⟨fun k' hk' => ?_, by rw [t0 20 _ (by omega)]; exact u2⟩
    rw [t0 15 _ (by omega), t0 17 _ (by omega), t0 18 _ (by omega), t0 19 _ (by omega)]
    exact u1 k' hk'
  · intro e; rw [v0] at e; omega
  · intro s' k' h1 h2
    rw [t0 15 _ (by omega)]
    exact c9 s' k' h1 (hno k')
  · intro x hx
    rw [t0 17 x (by omega)] at hx
    rw [t0 19 x (by omega)]; exact c10 x hx
  · intro x; rw [t0 17 x (by omega), t0 0 26 (by omega)]; exact hj x
theorem J_cut {A : ca_A} {j : Nat} (hv : ca_rv A j) (h : ca_J A) : ca_J (ca_ct A j) := by
  obtain ⟨⟨c1, c2, ⟨d1, d2, d3, d4⟩, ⟨f1, f2, f3, f4⟩, ⟨e1, e2, e3, e4, e5⟩, ⟨g1, g2, g3⟩, c7, c8, c9, c10⟩, hj⟩ := h
  have t0 : ∀ q y, ¬ q = 10 → ca_ct A j q y = A q y := fun q y hq => if_neg (fun e => hq e.1)
  have hb : 0 < A 0 0 := by have := hv.2.1; omega
  have o1 : ∀ k', ca_o (ca_ct A j) k' ↔ ca_o A k' := fun k' => by
    unfold ca_o
    rw [t0 0 0 (by omega), t0 0 1 (by omega)]
  refine ⟨⟨?_, ?_, ⟨?_, ?_, ?_, ?_⟩, ⟨?_, ?_, ?_, ?_⟩, ⟨?_, ?_, ?_, ?_, ?_⟩, ⟨?_, ?_, ?_⟩, ?_, ?_, ?_, ?_⟩, ?_⟩
  · rw [t0 0 0 (by omega), t0 0 1 (by omega), t0 0 12 (by omega), t0 0 20 (by omega), t0 0 26 (by omega), t0 0 8 (by omega), t0 0 6 (by omega), t0 0 28 (by omega), t0 0 29 (by omega), t0 0 33 (by omega)]; exact c1
  · rw [t0 0 0 (by omega), t0 0 1 (by omega), t0 0 12 (by omega), t0 0 20 (by omega), t0 0 26 (by omega), t0 0 28 (by omega), t0 0 29 (by omega)]; exact c2
  · intro x; rw [t0 3 x (by omega)]; exact d1 x
  · intro x; rw [t0 4 x (by omega)]; exact d2 x
  · intro x; rw [t0 5 x (by omega)]; exact d3 x
  · intro x; rw [t0 6 x (by omega)]; exact d4 x
  · intro x
    unfold ca_ct
    split
    · omega
    · exact f1 x
  · intro x; rw [t0 11 x (by omega)]; exact f2 x
  · intro x hx; rw [t0 11 x (by omega), t0 0 12 (by omega)]; exact f3 x ((o1 x).mp hx)
  · intro x; rw [t0 12 x (by omega)]; exact f4 x
  · intro x; rw [t0 15 x (by omega)]; exact e1 x
  · intro x; rw [t0 17 x (by omega)]; exact e2 x
  · intro x; rw [t0 18 x (by omega)]; exact e3 x
  · intro x; rw [t0 19 x (by omega)]; exact e4 x
  · intro x; rw [t0 20 x (by omega)]; exact e5 x
  · intro x; rw [t0 31 x (by omega)]; exact g1 x
  · intro x; rw [t0 33 x (by omega)]; exact g2 x
  · intro x; rw [t0 35 x (by omega)]; exact g3 x
  · intro s' h1 h2
    rw [t0 0 20 (by omega)] at h1
    obtain ⟨u1, u2⟩ := c7 s' h1 h2
    refine ⟨fun k' hk' => ?_, by rw [t0 20 _ (by omega)]; exact u2⟩
    rw [t0 15 _ (by omega), t0 17 _ (by omega), t0 18 _ (by omega), t0 19 _ (by omega)]
    exact u1 k' hk'
  · intro e; rw [t0 0 0 (by omega)] at e; omega
  · intro s' k' h1 h2
    rw [o1] at h2
    rw [t0 15 _ (by omega)]
    exact c9 s' k' h1 h2
  · intro x hx
    rw [t0 17 x (by omega)] at hx
    rw [t0 19 x (by omega)]; exact c10 x hx
  · intro x; rw [t0 17 x (by omega), t0 0 26 (by omega)]; exact hj x
theorem J_saw {A : ca_A} {j p : Nat} (hv : ca_rv A j) (h8 : ¬ A 0 12 = 8) (h : ca_J A) : ca_J (ca_sw A j p) := by
  obtain ⟨⟨c1, c2, ⟨d1, d2, d3, d4⟩, ⟨f1, f2, f3, f4⟩, ⟨e1, e2, e3, e4, e5⟩, ⟨g1, g2, g3⟩, c7, c8, c9, c10⟩, hj⟩ := h
  have t0 : ∀ q y, ¬ (q = 11 ∨ q = 12 ∨ (q = 0 ∧ y = 12)) → ca_sw A j p q y = A q y := fun q y hq => by
    unfold ca_sw
    rw [if_neg (fun e => hq (Or.inl e.1)), if_neg (fun e => hq (Or.inr (Or.inl e.1))), if_neg (fun e => hq (Or.inr (Or.inr e)))]
  have v2 : ca_sw A j p 0 12 = A 0 12 + 1 := by
    unfold ca_sw
    rw [if_neg (by omega), if_neg (by omega), if_pos ⟨rfl, rfl⟩]
  have hb : 0 < A 0 0 := by have := hv.2.1; omega
  have o1 : ∀ k', ca_o (ca_sw A j p) k' ↔ ca_o A k' := fun k' => by
    unfold ca_o
    rw [t0 0 0 (by omega), t0 0 1 (by omega)]
  refine ⟨⟨?_, ?_, ⟨?_, ?_, ?_, ?_⟩, ⟨?_, ?_, ?_, ?_⟩, ⟨?_, ?_, ?_, ?_, ?_⟩, ⟨?_, ?_, ?_⟩, ?_, ?_, ?_, ?_⟩, ?_⟩
  · rw [v2, t0 0 0 (by omega), t0 0 1 (by omega), t0 0 20 (by omega), t0 0 26 (by omega), t0 0 8 (by omega), t0 0 6 (by omega), t0 0 28 (by omega), t0 0 29 (by omega), t0 0 33 (by omega)]
    omega
  · rw [v2, t0 0 0 (by omega), t0 0 1 (by omega), t0 0 20 (by omega), t0 0 26 (by omega), t0 0 28 (by omega), t0 0 29 (by omega)]
    exact ⟨fun e => by omega, fun e => ⟨(c2.2.1 e).1, by omega⟩, c2.2.2⟩
  · intro x; rw [t0 3 x (by omega)]; exact d1 x
  · intro x; rw [t0 4 x (by omega)]; exact d2 x
  · intro x; rw [t0 5 x (by omega)]; exact d3 x
  · intro x; rw [t0 6 x (by omega)]; exact d4 x
  · intro x; rw [t0 10 x (by omega)]; exact f1 x
  · intro x
    unfold ca_sw
    split
    · omega
    · rw [if_neg (by omega), if_neg (by omega)]; exact f2 x
  · intro x hx
    rw [v2]
    unfold ca_sw
    split
    · omega
    · rw [if_neg (by omega), if_neg (by omega)]
      have := f3 x ((o1 x).mp hx)
      omega
  · intro x
    unfold ca_sw
    rw [if_neg (by omega)]
    split
    · exact f4 p
    · rw [if_neg (by omega)]; exact f4 x
  · intro x; rw [t0 15 x (by omega)]; exact e1 x
  · intro x; rw [t0 17 x (by omega)]; exact e2 x
  · intro x; rw [t0 18 x (by omega)]; exact e3 x
  · intro x; rw [t0 19 x (by omega)]; exact e4 x
  · intro x; rw [t0 20 x (by omega)]; exact e5 x
  · intro x; rw [t0 31 x (by omega)]; exact g1 x
  · intro x; rw [t0 33 x (by omega)]; exact g2 x
  · intro x; rw [t0 35 x (by omega)]; exact g3 x
  · intro s' h1 h2
    rw [t0 0 20 (by omega)] at h1
    obtain ⟨u1, u2⟩ := c7 s' h1 h2
    refine ⟨fun k' hk' => ?_, by rw [t0 20 _ (by omega)]; exact u2⟩
    rw [t0 15 _ (by omega), t0 17 _ (by omega), t0 18 _ (by omega), t0 19 _ (by omega)]
    exact u1 k' hk'
  · intro e; rw [t0 0 0 (by omega)] at e; omega
  · intro s' k' h1 h2
    rw [o1] at h2
    rw [t0 15 _ (by omega)]
    exact c9 s' k' h1 h2
  · intro x hx
    rw [t0 17 x (by omega)] at hx
    rw [t0 19 x (by omega)]; exact c10 x hx
  · intro x; rw [t0 17 x (by omega), t0 0 26 (by omega)]; exact hj x
theorem J_sheets {A : ca_A} {n : Nat} (hb : 0 < A 0 0) (hn : A 0 20 + n ≤ 20) (h : ca_J A) : ca_J (ca_ns A n) := by
  obtain ⟨⟨c1, c2, ⟨d1, d2, d3, d4⟩, ⟨f1, f2, f3, f4⟩, ⟨e1, e2, e3, e4, e5⟩, ⟨g1, g2, g3⟩, c7, c8, c9, c10⟩, hj⟩ := h
  have t0 : ∀ q y, ¬ (q = 16 ∨ (q = 0 ∧ y = 20)) → ca_ns A n q y = A q y := fun q y hq => by
    unfold ca_ns
    rw [if_neg (fun e => hq (Or.inl e.1)), if_neg (fun e => hq (Or.inr e))]
  have v2 : ca_ns A n 0 20 = A 0 20 + n := by
    unfold ca_ns
    rw [if_neg (by omega), if_pos ⟨rfl, rfl⟩]
  have o1 : ∀ k', ca_o (ca_ns A n) k' ↔ ca_o A k' := fun k' => by
    unfold ca_o
    rw [t0 0 0 (by omega), t0 0 1 (by omega)]
  refine ⟨⟨?_, ?_, ⟨?_, ?_, ?_, ?_⟩, ⟨?_, ?_, ?_, ?_⟩, ⟨?_, ?_, ?_, ?_, ?_⟩, ⟨?_, ?_, ?_⟩, ?_, ?_, ?_, ?_⟩, ?_⟩
  · rw [v2, t0 0 0 (by omega), t0 0 1 (by omega), t0 0 12 (by omega), t0 0 26 (by omega), t0 0 8 (by omega), t0 0 6 (by omega), t0 0 28 (by omega), t0 0 29 (by omega), t0 0 33 (by omega)]
    omega
  · rw [v2, t0 0 0 (by omega), t0 0 1 (by omega), t0 0 12 (by omega), t0 0 26 (by omega), t0 0 28 (by omega), t0 0 29 (by omega)]
    exact ⟨fun e => by omega, c2.2.1, c2.2.2⟩
  · intro x; rw [t0 3 x (by omega)]; exact d1 x
  · intro x; rw [t0 4 x (by omega)]; exact d2 x
  · intro x; rw [t0 5 x (by omega)]; exact d3 x
  · intro x; rw [t0 6 x (by omega)]; exact d4 x
  · intro x; rw [t0 10 x (by omega)]; exact f1 x
  · intro x; rw [t0 11 x (by omega)]; exact f2 x
  · intro x hx; rw [t0 11 x (by omega), t0 0 12 (by omega)]; exact f3 x ((o1 x).mp hx)
  · intro x; rw [t0 12 x (by omega)]; exact f4 x
  · intro x; rw [t0 15 x (by omega)]; exact e1 x
  · intro x; rw [t0 17 x (by omega)]; exact e2 x
  · intro x; rw [t0 18 x (by omega)]; exact e3 x
  · intro x; rw [t0 19 x (by omega)]; exact e4 x
  · intro x; rw [t0 20 x (by omega)]; exact e5 x
  · intro x; rw [t0 31 x (by omega)]; exact g1 x
  · intro x; rw [t0 33 x (by omega)]; exact g2 x
  · intro x; rw [t0 35 x (by omega)]; exact g3 x
  · intro s' h1 h2
    rw [v2] at h1
    obtain ⟨u1, u2⟩ := c7 s' (by omega) h2
    refine ⟨fun k' hk' => ?_, by rw [t0 20 _ (by omega)]; exact u2⟩
    rw [t0 15 _ (by omega), t0 17 _ (by omega), t0 18 _ (by omega), t0 19 _ (by omega)]
    exact u1 k' hk'
  · intro h0
    rw [t0 0 0 (by omega)] at h0
    obtain ⟨u1, u2, u3⟩ := c8 h0
    exact ⟨fun x => by rw [t0 10 x (by omega)]; exact u1 x, fun x => by rw [t0 11 x (by omega)]; exact u2 x, fun x => by rw [t0 12 x (by omega)]; exact u3 x⟩
  · intro s' k' h1 h2
    rw [o1] at h2
    rw [t0 15 _ (by omega)]
    exact c9 s' k' h1 h2
  · intro x hx
    rw [t0 17 x (by omega)] at hx
    rw [t0 19 x (by omega)]; exact c10 x hx
  · intro x; rw [t0 17 x (by omega), t0 0 26 (by omega)]; exact hj x
theorem J_wanted {A : ca_A} {r c : Nat} (hr1 : 1 ≤ r) (hr : r ≤ 4) (hc1 : 1 ≤ c) (hc : c ≤ 4) (h : ca_J A) : ca_J (cb_u2 (cb_u2 (ca_z A 31) 0 28 r) 0 29 c) := by
  obtain ⟨⟨c1, c2, ⟨d1, d2, d3, d4⟩, ⟨f1, f2, f3, f4⟩, ⟨e1, e2, e3, e4, e5⟩, ⟨g1, g2, g3⟩, c7, c8, c9, c10⟩, hj⟩ := h
  have t0 : ∀ q y, ¬ (q = 31 ∨ (q = 0 ∧ (y = 28 ∨ y = 29))) → cb_u2 (cb_u2 (ca_z A 31) 0 28 r) 0 29 c q y = A q y := fun q y hq => by
    rw [cb_u2n (by omega), cb_u2n (by omega)]
    exact if_neg (by omega)
  have v8 : cb_u2 (cb_u2 (ca_z A 31) 0 28 r) 0 29 c 0 28 = r := by rw [cb_u2n (by omega), cb_u2s]
  have v9 : cb_u2 (cb_u2 (ca_z A 31) 0 28 r) 0 29 c 0 29 = c := by rw [cb_u2s]
  have o1 : ∀ k', ca_o (cb_u2 (cb_u2 (ca_z A 31) 0 28 r) 0 29 c) k' ↔ ca_o A k' := fun k' => by
    unfold ca_o
    rw [t0 0 0 (by omega), t0 0 1 (by omega)]
  refine ⟨⟨?_, ?_, ⟨?_, ?_, ?_, ?_⟩, ⟨?_, ?_, ?_, ?_⟩, ⟨?_, ?_, ?_, ?_, ?_⟩, ⟨?_, ?_, ?_⟩, ?_, ?_, ?_, ?_⟩, ?_⟩
  · rw [v8, v9, t0 0 0 (by omega), t0 0 1 (by omega), t0 0 12 (by omega), t0 0 20 (by omega), t0 0 26 (by omega), t0 0 8 (by omega), t0 0 6 (by omega), t0 0 33 (by omega)]
    omega
  · rw [v8, v9, t0 0 0 (by omega), t0 0 1 (by omega), t0 0 12 (by omega), t0 0 20 (by omega), t0 0 26 (by omega)]
    exact ⟨c2.1, c2.2.1, by omega⟩
  · intro x; rw [t0 3 x (by omega)]; exact d1 x
  · intro x; rw [t0 4 x (by omega)]; exact d2 x
  · intro x; rw [t0 5 x (by omega)]; exact d3 x
  · intro x; rw [t0 6 x (by omega)]; exact d4 x
  · intro x; rw [t0 10 x (by omega)]; exact f1 x
  · intro x; rw [t0 11 x (by omega)]; exact f2 x
  · intro x hx; rw [t0 11 x (by omega), t0 0 12 (by omega)]; exact f3 x ((o1 x).mp hx)
  · intro x; rw [t0 12 x (by omega)]; exact f4 x
  · intro x; rw [t0 15 x (by omega)]; exact e1 x
  · intro x; rw [t0 17 x (by omega)]; exact e2 x
  · intro x; rw [t0 18 x (by omega)]; exact e3 x
  · intro x; rw [t0 19 x (by omega)]; exact e4 x
  · intro x; rw [t0 20 x (by omega)]; exact e5 x
  · intro x
    rw [cb_u2n (by omega), cb_u2n (by omega)]
    show (if 31 = 31 then 0 else A 31 x) < 16
    rw [if_pos rfl]
    omega
  · intro x; rw [t0 33 x (by omega)]; exact g2 x
  · intro x; rw [t0 35 x (by omega)]; exact g3 x
  · intro s' h1 h2
    rw [t0 0 20 (by omega)] at h1
    obtain ⟨u1, u2⟩ := c7 s' h1 h2
    refine ⟨fun k' hk' => ?_, by rw [t0 20 _ (by omega)]; exact u2⟩
    rw [t0 15 _ (by omega), t0 17 _ (by omega), t0 18 _ (by omega), t0 19 _ (by omega)]
    exact u1 k' hk'
  · intro h0
    rw [t0 0 0 (by omega)] at h0
    obtain ⟨u1, u2, u3⟩ := c8 h0
    exact ⟨fun x => by rw [t0 10 x (by omega)]; exact u1 x, fun x => by rw [t0 11 x (by omega)]; exact u2 x, fun x => by rw [t0 12 x (by omega)]; exact u3 x⟩
  · intro s' k' h1 h2
    rw [o1] at h2
    rw [t0 15 _ (by omega)]
    exact c9 s' k' h1 h2
  · intro x hx
    rw [t0 17 x (by omega)] at hx
    rw [t0 19 x (by omega)]; exact c10 x hx
  · intro x; rw [t0 17 x (by omega), t0 0 26 (by omega)]; exact hj x
theorem J_en {B : ca_A} {p a b c d e : Nat} (hp : p < 200) (hb : 0 < B 0 0) (h17 : ∀ i, B 17 i ≤ p + 1) (h : ca_I B) : ca_J (en B p a b c d e) := by
  obtain ⟨c1, c2, ⟨d1, d2, d3, d4⟩, ⟨f1, f2, f3, f4⟩, ⟨e1, e2, e3, e4, e5⟩, ⟨g1, g2, g3⟩, c7, c8, c9, c10⟩ := h
  have t0 : ∀ q y, ¬ ((22 ≤ q ∧ q ≤ 26) ∨ (q = 0 ∧ y = 26)) → en B p a b c d e q y = B q y := fun q y hq => by
    unfold en
    rw [cb_u2n (by omega), cb_u2n (by omega), cb_u2n (by omega), cb_u2n (by omega), cb_u2n (by omega), cb_u2n (by omega)]
  have v6 : en B p a b c d e 0 26 = p + 1 := by
    unfold en
    rw [cb_u2s]
  have o1 : ∀ k', ca_o (en B p a b c d e) k' ↔ ca_o B k' := fun k' => by
    unfold ca_o
    rw [t0 0 0 (by omega), t0 0 1 (by omega)]
  refine ⟨⟨?_, ?_, ⟨?_, ?_, ?_, ?_⟩, ⟨?_, ?_, ?_, ?_⟩, ⟨?_, ?_, ?_, ?_, ?_⟩, ⟨?_, ?_, ?_⟩, ?_, ?_, ?_, ?_⟩, ?_⟩
  · rw [v6, t0 0 0 (by omega), t0 0 1 (by omega), t0 0 12 (by omega), t0 0 20 (by omega), t0 0 8 (by omega), t0 0 6 (by omega), t0 0 28 (by omega), t0 0 29 (by omega), t0 0 33 (by omega)]
    omega
  · rw [v6, t0 0 0 (by omega), t0 0 1 (by omega), t0 0 12 (by omega), t0 0 20 (by omega), t0 0 28 (by omega), t0 0 29 (by omega)]
    exact ⟨fun e => by omega, c2.2.1, c2.2.2⟩
  · intro x; rw [t0 3 x (by omega)]; exact d1 x
  · intro x; rw [t0 4 x (by omega)]; exact d2 x
  · intro x; rw [t0 5 x (by omega)]; exact d3 x
  · intro x; rw [t0 6 x (by omega)]; exact d4 x
  · intro x; rw [t0 10 x (by omega)]; exact f1 x
  · intro x; rw [t0 11 x (by omega)]; exact f2 x
  · intro x hx; rw [t0 11 x (by omega), t0 0 12 (by omega)]; exact f3 x ((o1 x).mp hx)
  · intro x; rw [t0 12 x (by omega)]; exact f4 x
  · intro x; rw [t0 15 x (by omega)]; exact e1 x
  · intro x; rw [t0 17 x (by omega)]; exact e2 x
  · intro x; rw [t0 18 x (by omega)]; exact e3 x
  · intro x; rw [t0 19 x (by omega)]; exact e4 x
  · intro x; rw [t0 20 x (by omega)]; exact e5 x
  · intro x; rw [t0 31 x (by omega)]; exact g1 x
  · intro x; rw [t0 33 x (by omega)]; exact g2 x
  · intro x; rw [t0 35 x (by omega)]; exact g3 x
  · intro s' h1 h2
    rw [t0 0 20 (by omega)] at h1
    obtain ⟨u1, u2⟩ := c7 s' h1 h2
    refine ⟨fun k' hk' => ?_, by rw [t0 20 _ (by omega)]; exact u2⟩
    rw [t0 15 _ (by omega), t0 17 _ (by omega), t0 18 _ (by omega), t0 19 _ (by omega)]
    exact u1 k' hk'
  · intro h0
    rw [t0 0 0 (by omega)] at h0
    obtain ⟨u1, u2, u3⟩ := c8 h0
    exact ⟨fun x => by rw [t0 10 x (by omega)]; exact u1 x, fun x => by rw [t0 11 x (by omega)]; exact u2 x, fun x => by rw [t0 12 x (by omega)]; exact u3 x⟩
  · intro s' k' h1 h2
    rw [o1] at h2
    rw [t0 15 _ (by omega)]
    exact c9 s' k' h1 h2
  · intro x hx
    rw [t0 17 x (by omega)] at hx
    rw [t0 19 x (by omega)]; exact c10 x hx
  · intro x; rw [t0 17 x (by omega), v6]; exact h17 x
theorem J_pl {A : ca_A} {z : Int32} {rl : Nat → Nat} {t : Int32} {ib : Nat} (h : ca_J A) (hr : ∀ c, rl c < 10) : ca_J (pr_A A z rl t ib) := by
  unfold pr_A
  split
  · rename_i hv
    have l := h.1.1
    have h17 : ∀ i, A 17 i ≤ 200 := fun i => by have := h.2 i; omega
    obtain ⟨a9, j9, hpi, hj9⟩ := pls_I (z := z) h.1 h17 hr hv.1.2
    have hb := hv.1.1
    refine J_en (by omega) ?_ (fun i => ?_) hpi.2.2.1
    · rw [hpi.1 0 0 (by omega)]; exact hb
    · have := hpi.2.2.2.2 i
      have := h.2 i
      omega
  · exact h
theorem J_table {A : ca_A} (i c m : Int32) (h : ca_J A) : ca_J (sA_table A i c m) := by
  unfold sA_table
  split
  · rename_i hv
    obtain ⟨m, hm, rfl⟩ := ci_in (n := 15) hv.2.2 rfl
    exact J_3 (by rw [ci_nz (by omega)]; omega) h
  · exact h
theorem J_drying {A : ca_A} (i m : Int32) (h : ca_J A) : ca_J (sA_drying A i m) := by
  unfold sA_drying
  split
  · rename_i hv
    obtain ⟨m, hm, rfl⟩ := ci_in (n := 999) hv.2 rfl
    exact J_4 (by rw [ci_nz (by omega)]; omega) h
  · exact h
theorem J_against {A : ca_A} (i j m : Int32) (h : ca_J A) : ca_J (sA_against A i j m) := by
  unfold sA_against
  split
  · rename_i hv
    obtain ⟨m, hm, rfl⟩ := ci_in (n := 1) hv.2.2 rfl
    exact J_5 (by rw [ci_nz (by omega)]; omega) h
  · exact h
theorem J_mixed {A : ca_A} (p q m : Int32) (h : ca_J A) : ca_J (sA_mixed A p q m) := by
  unfold sA_mixed
  split
  · rename_i hv
    obtain ⟨m, hm, rfl⟩ := ci_in (n := 9) hv.2.2.2 rfl
    exact J_6 (by rw [ci_nz (by omega)]; omega) (J_6 (by rw [ci_nz (by omega)]; omega) h)
  · exact h
theorem J_lots {A : ca_A} (a v : Int32) (h : ca_J A) : ca_J (sA_lots A a v) := by
  unfold sA_lots
  split
  · rename_i hv
    obtain ⟨v, hm, rfl⟩ := ci_in (n := 999) hv.2 rfl
    exact J_lot (by rw [ci_nz (by omega)]; omega) h
  · exact h
theorem J_minutes {A : ca_A} (n : Int32) (h : ca_J A) : ca_J (sA_minutes A n) := by
  unfold sA_minutes
  split
  · rename_i hv
    exact J_min hv.2 h
  · exact h
theorem J_cutA {A : ca_A} (x : Int32) (h : ca_J A) : ca_J (sA_cut A x) := by
  unfold sA_cut
  split
  · rename_i hv
    exact J_cut hv.1.2 h
  · exact h
theorem J_sawA {A : ca_A} (p x : Int32) (h : ca_J A) : ca_J (sA_saw A p x) := by
  unfold sA_saw
  split
  · rename_i hv
    exact J_saw hv.1.2.2 hv.2.2 h
  · exact h
theorem J_piece {A : ca_A} (p a : Int32) (h : ca_J A) : ca_J (sA_piece A p a) := by
  unfold sA_piece
  split
  · rename_i hv
    have := hv.1
    exact J_12 (by omega) (by omega) h
  · exact h
theorem J_boardA {A : ca_A} (r c : Int32) (h : ca_J A) : ca_J (sA_board A r c) := by
  unfold sA_board
  split
  · rename_i hv
    obtain ⟨r, hr1, hr, rfl⟩ := ci_in1 (n := 8) hv.1.1 rfl
    obtain ⟨c, hc1, hc, rfl⟩ := ci_in1 (n := 8) hv.1.2 rfl
    rw [ci_nz (by omega), ci_nz (by omega)]
    exact J_board hr1 hr hc1 hc (by have := hv.2; omega) h
  · exact h
theorem J_sheetsA {A : ca_A} (n : Int32) (h : ca_J A) : ca_J (sA_sheets A n) := by
  unfold sA_sheets
  split
  · rename_i hv
    exact J_sheets hv.1.2 hv.2 h
  · exact h
theorem J_wantedA {A : ca_A} (r c : Int32) (h : ca_J A) : ca_J (sA_wanted A r c) := by
  unfold sA_wanted
  split
  · rename_i hv
    obtain ⟨r, hr1, hr, rfl⟩ := ci_in1 (n := 4) hv.1 rfl
    obtain ⟨c, hc1, hc, rfl⟩ := ci_in1 (n := 4) hv.2 rfl
    rw [ci_nz (by omega), ci_nz (by omega)]
    exact J_wanted hr1 hr hc1 hc h
  · exact h
theorem J_want {A : ca_A} (k c : Int32) (h : ca_J A) : ca_J (sA_want A k c) := by
  unfold sA_want
  split
  · rename_i hv
    obtain ⟨c, hc, rfl⟩ := ci_in (n := 15) hv.2 rfl
    exact J_31 (by rw [ci_nz (by omega)]; omega) h
  · exact h
theorem J_pull {A : ca_A} (z t i : Int32) (h : ca_J A) : ca_J (sA_pull A z t i) := by
  by_cases hi : 0 ≤ i ∧ i ≤ 9
  · rw [(pull_eq hi).2.1]
    obtain ⟨i, hi, rfl⟩ := ci_in (n := 9) hi rfl
    exact J_pl h (fun _ => by rw [ci_nz (by omega)]; omega)
  · unfold sA_pull
    rw [if_neg (fun e => hi e.1.1)]
    exact h
theorem J_blend {A : ca_A} (z t x : Int32) (h : ca_J A) : ca_J (sA_blend A z t x) := by
  by_cases hx : (0 ≤ x ∧ x ≤ 999) ∧ ¬ x.toNatClampNeg / 100 = x.toNatClampNeg / 10 % 10 ∧ x.toNatClampNeg % 10 < A 0 1
  · rw [(blend_eq hx).2.1]
    exact J_pl h (fun c => bl_10 h.1 _ c)
  · unfold sA_blend
    rw [if_neg (fun e => hx e.1.1)]
    exact h
theorem J_fewest {A : ca_A} (u : Int32) (h : ca_J A) : ca_J (sA_fewest A u) := by
  unfold sA_fewest
  split
  · rename_i hv
    have h6 := hv.2
    have ho : ∀ q i, ¬ (q = 0 ∧ i = 33) → q ≠ 33 → q ≠ 35 → fwA A u.toNatClampNeg q i = A q i := fun q i h1 h2 h3 => by
      unfold fwA
      rw [if_neg h1, if_neg (fun e => h2 e.1), if_neg (fun e => h3 e.1)]
    refine ⟨h.1.pl ho ?_ (fun k => ?_) (fun k => ?_), fun i => by rw [ho 17 i (by omega) (by omega) (by omega), ho 0 26 (by omega) (by omega) (by omega)]; exact h.2 i⟩
    · unfold fwA
      rw [if_pos ⟨rfl, rfl⟩]
      omega
    · unfold fwA
      rw [if_neg (by omega)]
      split
      · rename_i e
        exact rwf_10 (ln_mk h6) e.2
      · rw [if_neg (by omega)]
        exact h.1.2.2.2.2.2.1.2.1 k
    · unfold fwA
      rw [if_neg (by omega), if_neg (by omega)]
      split
      · split
        · have := fp_le A (rwf A u.toNatClampNeg (ln A u.toNatClampNeg (nL A)) 0 (nL A)) (A 31 k) (ln A u.toNatClampNeg (nL A) + 1)
          omega
        · omega
      · exact h.1.2.2.2.2.2.1.2.2 k
  · exact h
def A_0 : ca_A := fun q i => if q = 3 then (if i < 160 then i / 16 + 1 else 0) else if q = 4 then 60 else if q = 16 ∨ q = 24 ∨ q = 35 then 1 else 0
theorem A_0o {q i : Nat} (h : q ≠ 3 ∧ q ≠ 4 ∧ q ≠ 16 ∧ q ≠ 24 ∧ q ≠ 35) : A_0 q i = 0 := by
  unfold A_0
  rw [if_neg (by omega), if_neg (by omega), if_neg (by omega)]
theorem J_0 : ca_J A_0 := by
  have z : ∀ q i, q ≠ 3 ∧ q ≠ 4 ∧ q ≠ 16 ∧ q ≠ 24 ∧ q ≠ 35 → A_0 q i = 0 := fun q i h => A_0o h
  refine ⟨⟨?_, ?_, ⟨?_, ?_, ?_, ?_⟩, ⟨?_, ?_, ?_, ?_⟩, ⟨?_, ?_, ?_, ?_, ?_⟩, ⟨?_, ?_, ?_⟩, ?_, ?_, ?_, ?_⟩, ?_⟩
  · rw [z 0 0 (by omega), z 0 1 (by omega), z 0 12 (by omega), z 0 20 (by omega), z 0 26 (by omega), z 0 8 (by omega), z 0 6 (by omega), z 0 28 (by omega), z 0 29 (by omega), z 0 33 (by omega)]
    omega
  · rw [z 0 0 (by omega), z 0 1 (by omega), z 0 12 (by omega), z 0 20 (by omega), z 0 26 (by omega), z 0 28 (by omega), z 0 29 (by omega)]
    exact ⟨fun _ => ⟨rfl, rfl, rfl, rfl⟩, fun e => by omega, Iff.rfl⟩
  · intro i
    unfold A_0
    rw [if_pos rfl]
    split <;> omega
  · intro i
    unfold A_0
    rw [if_neg (by omega), if_pos rfl]
    omega
  · intro i; rw [z 5 i (by omega)]; omega
  · intro i; rw [z 6 i (by omega)]; omega
  · intro i; rw [z 10 i (by omega)]; omega
  · intro i; rw [z 11 i (by omega)]; omega
  · intro i hi
    have := hi.1
    rw [z 0 0 (by omega)] at this
    omega
  · intro i; rw [z 12 i (by omega)]; omega
  · intro i; rw [z 15 i (by omega)]; omega
  · intro i; rw [z 17 i (by omega)]; omega
  · intro i; rw [z 18 i (by omega)]; omega
  · intro i; rw [z 19 i (by omega)]; omega
  · intro i; rw [z 20 i (by omega)]; omega
  · intro i; rw [z 31 i (by omega)]; omega
  · intro i; rw [z 33 i (by omega)]; omega
  · intro i
    unfold A_0
    rw [if_neg (by omega), if_neg (by omega), if_pos (by omega)]
    omega
  · intro s _ _
    exact ⟨fun k _ => ⟨z 15 _ (by omega), z 17 _ (by omega), z 18 _ (by omega), z 19 _ (by omega)⟩, z 20 _ (by omega)⟩
  · intro _
    exact ⟨fun k => z 10 k (by omega), fun k => z 11 k (by omega), fun k => z 12 k (by omega)⟩
  · intro s k _ _; exact z 15 _ (by omega)
  · intro i _; exact z 19 _ (by omega)
  · intro i; rw [z 17 i (by omega)]; omega
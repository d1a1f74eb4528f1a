def cb_cls (w : cb_W) : Prop := ∀ r k q, w.1 r = true → w.2.2 r k = some q → w.1 q = true
theorem cb_gcl {κ : cb_K} {w : cb_W} {ca sl pc : Nat} {lv : List (Option cb_V)} {st : List cb_V} (k : cb_cls w → cb_X κ w ca sl pc lv st) : cb_X κ w ca sl pc lv st := by
  intro ad H locs ls hW hk hS hl
  exact k (fun r j q h1 h2 => hW.choose_spec.2.2.2.1 r h1 j q h2) ad H locs ls hW hk hS hl
def cb_gm (lo n off : Nat) (r : Nat) : Nat := if lo ≤ r ∧ r < lo + n then r + off else r
def cb_bk (lo n off : Nat) (q : Nat) : Nat := if lo + off ≤ q ∧ q < lo + off + n then q - off else q
def cb_rn (lo n off : Nat) (w : cb_W) : cb_W := (fun r => if lo ≤ r ∧ r < lo + n then w.1 (r + off) else if lo + off ≤ r ∧ r < lo + off + n then false else w.1 r, fun r => w.2.1 (cb_gm lo n off r), fun r k => (w.2.2 (cb_gm lo n off r) k).map (cb_bk lo n off))
theorem cb_gmk {lo n off : Nat} {v : cb_V} (h : cb_okv (fun q => !((decide (lo ≤ q) && decide (q < lo + n)) || (decide (lo + off ≤ q) && decide (q < lo + off + n)))) v = true) (h9 : lo + off + n ≤ 900 ∧ 0 < n) : v = v.map id (fun r => r.map (cb_gm lo n off)) := by
  rcases v with x | o
  · rfl
  · cases o with
    | none => rfl
    | some q =>
      have e : cb_gm lo n off q = q := by
        unfold cb_gm
        rw [if_neg]
        intro e
        simp [cb_okv] at h
        omega
      show (Sum.inr (some q) : cb_V) = Sum.inr (some (cb_gm lo n off q))
      rw [e]
theorem cb_rename {κ : cb_K} {w : cb_W} {ca sl pc : Nat} {lv : List (Option cb_V)} {st : List cb_V} (lo n off : Nat) (hn : n ≤ off ∧ 0 < n ∧ lo + off + n ≤ 900) (hcl : cb_cls w) (hsh : ∀ r, lo ≤ r → r < lo + n → cb_sh (r + off) = cb_sh r) (hrf : ∀ r k q, w.1 r = true → ¬ (lo ≤ r ∧ r < lo + n) → w.2.2 r k = some q → ¬ (lo ≤ q ∧ q < lo + n)) (hlv : ∀ r, lo ≤ r → r < lo + n → w.1 (r + off) = true) (hB : ∀ r, 1100 ≤ r → w.1 r = false) (h9 : ∀ j, j < 4 → w.1 (900 + j) = false) (hkp : ∀ q, κ.2.2.2.2.1 q = true → ¬ (lo ≤ q ∧ q < lo + n)) (hok : cb_kp (fun q => !((decide (lo ≤ q) && decide (q < lo + n)) || (decide (lo + off ≤ q) && decide (q < lo + off + n)))) lv st = true)
    (kk : cb_X κ (cb_rn lo n off w) ca sl pc lv st) : cb_X κ w ca sl pc lv st := by
  have hgm : ∀ r, (cb_rn lo n off w).1 r = true → w.1 (cb_gm lo n off r) = true ∧ ¬ (lo ≤ cb_gm lo n off r ∧ cb_gm lo n off r < lo + n) := fun r h => by
    have h' : (if lo ≤ r ∧ r < lo + n then w.1 (r + off) else if lo + off ≤ r ∧ r < lo + off + n then false else w.1 r) = true := h
    unfold cb_gm
    by_cases e : lo ≤ r ∧ r < lo + n
    · rw [if_pos e] at h' ⊢
      exact ⟨h', by omega⟩
    · rw [if_neg e] at h' ⊢
      by_cases e2 : lo + off ≤ r ∧ r < lo + off + n
      · rw [if_pos e2] at h'; cases h'
      · rw [if_neg e2] at h'
        exact ⟨h', e⟩
  have hbk : ∀ q, ¬ (lo ≤ q ∧ q < lo + n) → cb_gm lo n off (cb_bk lo n off q) = q := fun q h => by
    unfold cb_bk cb_gm
    by_cases e : lo + off ≤ q ∧ q < lo + off + n
    · rw [if_pos e, if_pos (by omega)]; omega
    · rw [if_neg e, if_neg h]
  simp only [cb_kp, Bool.and_eq_true, List.all_eq_true] at hok
  refine cb_ren (cb_gm lo n off) (w' := cb_rn lo n off w) (lv' := lv) (st' := st) ?_ ?_ (fun r hr => ?_) (fun r q hr hq e => ?_) (fun r k q hr hk => ?_) (fun j hj => ?_) (fun q hq => ?_) ⟨1100, fun r hr => ?_⟩ kk
  · have : lv.map id = lv.map (fun o => o.map (fun v => v.map id (fun r => r.map (cb_gm lo n off)))) := by
      apply List.map_congr_left
      intro o ho
      cases o with
      | none => rfl
      | some v =>
        show some v = some _
        exact congrArg some (cb_gmk (hok.1 _ ho) ⟨hn.2.2, hn.2.1⟩)
    rw [List.map_id] at this
    exact this
  · have : st.map id = st.map (fun v => v.map id (fun r => r.map (cb_gm lo n off))) := by
      apply List.map_congr_left
      intro v hv
      exact cb_gmk (hok.2 _ hv) ⟨hn.2.2, hn.2.1⟩
    rw [List.map_id] at this
    exact this
  · obtain ⟨h1, h2⟩ := hgm r hr
    refine ⟨h1, ?_, rfl, fun k => ?_⟩
    · unfold cb_gm
      by_cases e : lo ≤ r ∧ r < lo + n
      · rw [if_pos e]; exact hsh r e.1 e.2
      · rw [if_neg e]
    · show ((w.2.2 (cb_gm lo n off r) k).map (cb_bk lo n off)).map (cb_gm lo n off) = w.2.2 (cb_gm lo n off r) k
      cases hk : w.2.2 (cb_gm lo n off r) k with
      | none => rfl
      | some q =>
        show some (cb_gm lo n off (cb_bk lo n off q)) = some q
        rw [hbk q (hrf _ k q h1 h2 hk)]
  · have h1 : (if lo ≤ r ∧ r < lo + n then w.1 (r + off) else if lo + off ≤ r ∧ r < lo + off + n then false else w.1 r) = true := hr
    have h2 : (if lo ≤ q ∧ q < lo + n then w.1 (q + off) else if lo + off ≤ q ∧ q < lo + off + n then false else w.1 q) = true := hq
    unfold cb_gm at e
    by_cases e1 : lo ≤ r ∧ r < lo + n <;> by_cases e2 : lo ≤ q ∧ q < lo + n
    · rw [if_pos e1, if_pos e2] at e; omega
    · rw [if_pos e1, if_neg e2] at e
      rw [if_neg e2, if_pos (by omega)] at h2
      cases h2
    · rw [if_neg e1, if_pos e2] at e
      rw [if_neg e1, if_pos (by omega)] at h1
      cases h1
    · rw [if_neg e1, if_neg e2] at e; exact e
  · obtain ⟨h1, h2⟩ := hgm r hr
    have hk' : (w.2.2 (cb_gm lo n off r) k).map (cb_bk lo n off) = some q := hk
    cases hk2 : w.2.2 (cb_gm lo n off r) k with
    | none => rw [hk2] at hk'; cases hk'
    | some q0 =>
      rw [hk2] at hk'
      have e : cb_bk lo n off q0 = q := Option.some.inj hk'
      have hl := hcl _ k q0 h1 hk2
      have hno := hrf _ k q0 h1 h2 hk2
      show (if lo ≤ q ∧ q < lo + n then w.1 (q + off) else if lo + off ≤ q ∧ q < lo + off + n then false else w.1 q) = true
      unfold cb_bk at e
      by_cases e2 : lo + off ≤ q0 ∧ q0 < lo + off + n
      · rw [if_pos e2] at e
        rw [if_pos (by omega), show q + off = q0 by omega]
        exact hl
      · rw [if_neg e2] at e
        subst e
        rw [if_neg hno, if_neg e2]
        exact hl
  · refine ⟨?_, ?_⟩
    · unfold cb_gm
      rw [if_neg (by omega)]
    · show (if lo ≤ 900 + j ∧ 900 + j < lo + n then w.1 (900 + j + off) else if lo + off ≤ 900 + j ∧ 900 + j < lo + off + n then false else w.1 (900 + j)) = false
      rw [if_neg (by omega), if_neg (by omega)]
      exact h9 j hj
  · unfold cb_gm
    rw [if_neg (hkp q hq)]
  · show (if lo ≤ r ∧ r < lo + n then w.1 (r + off) else if lo + off ≤ r ∧ r < lo + off + n then false else w.1 r) = false
    rw [if_neg (by omega), if_neg (by omega)]
    exact hB r hr
theorem cb_g9 {κ : cb_K} {w : cb_W} {ca sl pc : Nat} {lv : List (Option cb_V)} {st : List cb_V} (k : (∀ j, j < 4 → w.1 (900 + j) = false) → cb_X κ w ca sl pc lv st) : cb_X κ w ca sl pc lv st := by
  intro ad H locs ls hW hk hS hl
  exact k (fun j hj => (hW.choose_spec.2.2.2.2 j hj).2) ad H locs ls hW hk hS hl
def cb_kpub (q : Nat) : Bool := q == 0 || q == 1000
theorem cb_kpubE {q : Nat} (h : cb_kpub q = true) : q = 0 ∨ q = 1000 := by simpa [cb_kpub] using h
theorem cc_rep {w w' : cb_W} {A A' : ca_A} {z : Int32} (lo n sl : Nat) (hlo : (lo = 26 ∧ n = 2 ∧ sl = 8) ∨ (lo = 20 ∧ n = 6 ∧ sl = 7)) (hC : cc_I w A z) (hI : ca_I A)
    (f1 : ∀ r, ¬ (lo ≤ r ∧ r < lo + n) → (r < 30 ∨ 40 ≤ r) → w'.1 r = w.1 r) (f1b : ∀ r, lo ≤ r → r < lo + n → w'.1 r = true) (f1c : ∀ r, 30 ≤ r → r < 40 → w'.1 r = false)
    (f2 : ∀ r, ¬ (lo ≤ r ∧ r < lo + n) → (r < 30 ∨ 40 ≤ r) → w'.2.1 r = w.2.1 r)
    (f3 : ∀ r k, w.1 r = true → ¬ (lo ≤ r ∧ r < lo + n) → ¬ (r = 0 ∧ k = sl) → w'.2.2 r k = w.2.2 r k) (f3b : ∀ r k q, lo ≤ r → r < lo + n → (w'.2.2 r k = some q ↔ cc_Rf r k = some q)) (f3c : w'.2.2 0 sl = some lo)
    (hB : cc_B w'.2.1 A') (hP : cc_P w'.2.1 A') (ha : ∀ k i, ¬ (k = 0 ∧ (i = 0 ∨ i = 1 ∨ i = 12 ∨ i = 28 ∨ i = 29)) → ¬ k = 31 → A' k i = A k i) : cc_I w' A' z := by
  obtain ⟨⟨a1, a2⟩, -, hN, hK, hS, hE, -, hL, l1, l2, l3⟩ := hC
  have l20 := hI.1.2.2.2.1
  have l26 := hI.1.2.2.2.2.1
  refine ⟨⟨fun r hr => ?_, fun r k q hq => ?_⟩, hB, hN.cg (fun r k h => by rw [f2 r (by omega) (by omega)]) (fun k i h => ha k i (by omega) (by omega)), hK.cg (fun r k h => by rw [f2 r (by omega) (by omega)]) (fun k i h => ha k i (by omega) (by omega)), ⟨fun s hs => ?_, fun s hs hs2 j hj => ?_⟩, ⟨fun p hp => ?_, fun p hp hp2 => ?_⟩, hP, hL.cg (fun r k h => by rw [f2 r (by omega) (by omega)]) (fun k i h => ha k i (by omega) (by omega)), f1c, fun r hr => by rw [f1 r (by omega) (by omega)]; exact l2 r hr, fun r k q hr hr4 hk h1 h2 => ?_⟩
  · by_cases e : lo ≤ r ∧ r < lo + n
    · exact f1b r e.1 e.2
    · have h2 : r < 30 ∨ 40 ≤ r := by simp [cc_Lv] at hr; omega
      rw [f1 r e h2]
      exact a1 r hr
  · by_cases e : lo ≤ r ∧ r < lo + n
    · exact (f3b r k q e.1 e.2).mpr hq
    · by_cases e2 : r = 0 ∧ k = sl
      · obtain ⟨rfl, rfl⟩ := e2
        rw [f3c]
        rcases hlo with ⟨rfl, rfl, rfl⟩ | ⟨rfl, rfl, rfl⟩
        · exact hq
        · exact hq
      · have hl : w.1 r = true := by
          refine a1 r ?_
          have := cc_Rf_lo hq
          simp only [cc_Lv, Bool.or_eq_true, Bool.and_eq_true, decide_eq_true_eq]
          rcases Nat.lt_or_ge r 17 with h3 | h3
          · exact Or.inl (Or.inl h3)
          · rcases Nat.lt_or_ge r 20 with h4 | h4
            · exfalso
              unfold cc_Rf at hq
              rw [if_neg (by omega), if_neg (by omega), if_neg (by omega), if_neg (by omega), if_neg (by omega), if_neg (by omega), if_neg (by omega), if_neg (by omega), if_neg (by omega), if_neg (by omega), if_neg (by omega)] at hq
              cases hq
            · exact Or.inl (Or.inr ⟨h4, by omega⟩)
        rw [f3 r k hl e e2]
        exact a2 r k q hq
  · rw [ha 0 20 (by omega) (by omega)] at hs
    obtain ⟨x1, x2, x3, x4, x5⟩ := hS.1 s hs
    refine ⟨fun j hj => by rw [f1 _ (by omega) (by omega)]; exact x1 j hj, by rw [f3 3 s (a1 3 rfl) (by omega) (by omega)]; exact x2, fun j hj => by rw [f3 (200 + 6 * s) j (x1 0 (by omega)) (by omega) (by omega)]; exact x3 j hj, by rw [f2 _ (by omega) (by omega), ha 20 s (by omega) (by omega)]; exact x4, fun k hk => ?_⟩
    rw [f2 _ (by omega) (by omega), f2 _ (by omega) (by omega), f2 _ (by omega) (by omega), f2 _ (by omega) (by omega), f2 _ (by omega) (by omega), ha 15 _ (by omega) (by omega), ha 16 _ (by omega) (by omega), ha 17 _ (by omega) (by omega), ha 18 _ (by omega) (by omega), ha 19 _ (by omega) (by omega)]
    exact x5 k hk
  · rw [ha 0 20 (by omega) (by omega)] at hs
    rw [f1 _ (by omega) (by omega)]
    exact hS.2 s hs hs2 j hj
  · rw [ha 0 26 (by omega) (by omega)] at hp
    have hx := hE.1 p hp
    rw [f1 _ (by omega) (by omega), f3 4 p (a1 4 rfl) (by omega) (by omega), f2 _ (by omega) (by omega), ha 22 _ (by omega) (by omega), ha 23 _ (by omega) (by omega), ha 24 _ (by omega) (by omega), ha 25 _ (by omega) (by omega), ha 26 _ (by omega) (by omega)]
    exact hx
  · rw [ha 0 26 (by omega) (by omega)] at hp
    rw [f1 _ (by omega) (by omega)]
    exact hE.2 p hp hp2
  · by_cases e : lo ≤ r ∧ r < lo + n
    · exact (f3b r k q e.1 e.2).mp hk
    · have h3 : r < 30 ∨ 40 ≤ r := by
        rcases Nat.lt_or_ge r 30 with h4 | h4
        · exact Or.inl h4
        · rcases Nat.lt_or_ge r 40 with h5 | h5
          · rw [f1c r h4 h5] at hr; cases hr
          · exact Or.inr h5
      rw [f1 r e h3] at hr
      by_cases e2 : r = 0 ∧ k = sl
      · obtain ⟨rfl, rfl⟩ := e2
        rw [f3c] at hk
        cases hk
        rcases hlo with ⟨rfl, rfl, rfl⟩ | ⟨rfl, rfl, rfl⟩ <;> rfl
      · rw [f3 r k hr e e2] at hk
        exact l3 r k q hr hr4 hk h1 h2
theorem cc_Rf_hi {r k q : Nat} (h : cc_Rf r k = some q) (h1 : 20 ≤ q) (h2 : q < 28) : (r = 0 ∧ k = 7 ∧ q = 20) ∨ (r = 0 ∧ k = 8 ∧ q = 26) ∨ (r = 20 ∧ 21 ≤ q ∧ q ≤ 25) ∨ (r = 26 ∧ q = 27) := by
  unfold cc_Rf at h
  by_cases g0 : r = 0
  · rw [if_pos g0] at h
    rcases k with _ | _ | _ | _ | _ | _ | _ | _ | _ | k <;> simp at h <;> omega
  rw [if_neg g0] at h
  by_cases x1 : r = 1
  · rw [if_pos x1] at h
    rcases k with _ | _ | _ | _ | k <;> simp at h <;> omega
  rw [if_neg x1] at h
  by_cases x2 : r = 6
  · rw [if_pos x2] at h
    rcases k with _ | _ | _ | k <;> simp at h <;> omega
  rw [if_neg x2] at h
  by_cases x3 : r = 7
  · rw [if_pos x3] at h
    rcases k with _ | _ | k <;> simp at h <;> omega
  rw [if_neg x3] at h
  by_cases x4 : r = 8
  · rw [if_pos x4] at h
    by_cases y : k < 10
    · rw [if_pos y] at h; cases h; omega
    · rw [if_neg y] at h; cases h
  rw [if_neg x4] at h
  by_cases x5 : r = 10
  · rw [if_pos x5] at h
    by_cases y : k < 10
    · rw [if_pos y] at h; cases h; omega
    · rw [if_neg y] at h; cases h
  rw [if_neg x5] at h
  by_cases x6 : r = 11
  · rw [if_pos x6] at h
    by_cases y : k < 10
    · rw [if_pos y] at h; cases h; omega
    · rw [if_neg y] at h; cases h
  rw [if_neg x6] at h
  by_cases x7 : r = 13
  · rw [if_pos x7] at h
    by_cases y : k < 6
    · rw [if_pos y] at h; cases h; omega
    · rw [if_neg y] at h; cases h
  rw [if_neg x7] at h
  by_cases x8 : r = 14
  · rw [if_pos x8] at h
    rcases k with _ | k <;> simp at h <;> omega
  rw [if_neg x8] at h
  by_cases x9 : r = 20
  · rw [if_pos x9] at h
    rcases k with _ | _ | _ | _ | _ | _ | _ | _ | k <;> simp at h <;> omega
  rw [if_neg x9] at h
  by_cases y1 : r = 26
  · rw [if_pos y1] at h
    rcases k with _ | _ | _ | k <;> simp at h <;> omega
  rw [if_neg y1] at h
  cases h
theorem cc_Rf_q {r k q : Nat} (h : cc_Rf r k = some q) : q < 28 ∨ 100 ≤ q := by
  unfold cc_Rf at h
  by_cases g0 : r = 0
  · rw [if_pos g0] at h
    rcases k with _ | _ | _ | _ | _ | _ | _ | _ | _ | k <;> simp at h <;> omega
  rw [if_neg g0] at h
  by_cases x1 : r = 1
  · rw [if_pos x1] at h
    rcases k with _ | _ | _ | _ | k <;> simp at h <;> omega
  rw [if_neg x1] at h
  by_cases x2 : r = 6
  · rw [if_pos x2] at h
    rcases k with _ | _ | _ | k <;> simp at h <;> omega
  rw [if_neg x2] at h
  by_cases x3 : r = 7
  · rw [if_pos x3] at h
    rcases k with _ | _ | k <;> simp at h <;> omega
  rw [if_neg x3] at h
  by_cases x4 : r = 8
  · rw [if_pos x4] at h
    by_cases y : k < 10
    · rw [if_pos y] at h; cases h; omega
    · rw [if_neg y] at h; cases h
  rw [if_neg x4] at h
  by_cases x5 : r = 10
  · rw [if_pos x5] at h
    by_cases y : k < 10
    · rw [if_pos y] at h; cases h; omega
    · rw [if_neg y] at h; cases h
  rw [if_neg x5] at h
  by_cases x6 : r = 11
  · rw [if_pos x6] at h
    by_cases y : k < 10
    · rw [if_pos y] at h; cases h; omega
    · rw [if_neg y] at h; cases h
  rw [if_neg x6] at h
  by_cases x7 : r = 13
  · rw [if_pos x7] at h
    by_cases y : k < 6
    · rw [if_pos y] at h; cases h; omega
    · rw [if_neg y] at h; cases h
  rw [if_neg x7] at h
  by_cases x8 : r = 14
  · rw [if_pos x8] at h
    rcases k with _ | k <;> simp at h <;> omega
  rw [if_neg x8] at h
  by_cases x9 : r = 20
  · rw [if_pos x9] at h
    rcases k with _ | _ | _ | _ | _ | _ | _ | _ | k <;> simp at h <;> omega
  rw [if_neg x9] at h
  by_cases y1 : r = 26
  · rw [if_pos y1] at h
    rcases k with _ | _ | _ | k <;> simp at h <;> omega
  rw [if_neg y1] at h
  cases h
def cc_AL (w w1 : cb_W) (lo n sl : Nat) : Prop :=
  (∀ r, ¬ (lo + 10 ≤ r ∧ r < lo + 10 + n) → w1.1 r = w.1 r) ∧ (∀ r, lo + 10 ≤ r → r < lo + 10 + n → w1.1 r = true) ∧ (∀ r, ¬ (lo + 10 ≤ r ∧ r < lo + 10 + n) → w1.2.1 r = w.2.1 r) ∧
  (∀ r k, ¬ (lo + 10 ≤ r ∧ r < lo + 10 + n) → ¬ (r = 0 ∧ k = sl) → w1.2.2 r k = w.2.2 r k) ∧ w1.2.2 0 sl = some (lo + 10) ∧ (∀ r k q, lo ≤ r → r < lo + n → (w1.2.2 (r + 10) k = some q ↔ ∃ q', cc_Rf r k = some q' ∧ q = q' + 10))
theorem cc_AL.rf {w w1 : cb_W} {A : ca_A} {z : Int32} {lo n sl : Nat} (hlo : (lo = 26 ∧ n = 2 ∧ sl = 8) ∨ (lo = 20 ∧ n = 6 ∧ sl = 7)) (hC : cc_I w A z) (ht4 : ∀ r, 40 ≤ r → r < 46 → w.1 r = false) (h : cc_AL w w1 lo n sl) : ∀ r k q, w1.1 r = true → ¬ (lo ≤ r ∧ r < lo + n) → w1.2.2 r k = some q → ¬ (lo ≤ q ∧ q < lo + n) := by
  obtain ⟨g1, g1b, g2, g3, g3c, g3b⟩ := h
  intro r k q hl hr hk hq
  by_cases e0 : r = 0 ∧ k = sl
  · obtain ⟨rfl, rfl⟩ := e0
    rw [g3c] at hk
    cases hk
    omega
  · by_cases e1 : lo + 10 ≤ r ∧ r < lo + 10 + n
    · have := (g3b (r - 10) k q (by omega) (by omega)).mp (by rw [show r - 10 + 10 = r by omega]; exact hk)
      obtain ⟨q', h1, h2⟩ := this
      rcases hlo with ⟨rfl, rfl, rfl⟩ | ⟨rfl, rfl, rfl⟩
      · unfold cc_Rf at h1
        rcases (show r - 10 = 26 ∨ r - 10 = 27 by omega) with e | e
        · rw [e] at h1
          simp only [show ¬ (26 : Nat) = 0 by decide, show ¬ (26 : Nat) = 1 by decide, show ¬ (26 : Nat) = 6 by decide, show ¬ (26 : Nat) = 7 by decide, show ¬ (26 : Nat) = 8 by decide, show ¬ (26 : Nat) = 10 by decide, show ¬ (26 : Nat) = 11 by decide, show ¬ (26 : Nat) = 13 by decide, show ¬ (26 : Nat) = 14 by decide, show ¬ (26 : Nat) = 20 by decide, if_false, if_true] at h1
          rcases k with _ | _ | _ | k <;> simp at h1 <;> omega
        · rw [e] at h1
          simp at h1
      · have h3 : 20 ≤ q' ∨ q' < 20 := by omega
        have := cc_Rf_lo h1
        unfold cc_Rf at h1
        rcases (show r - 10 = 20 ∨ ¬ r - 10 = 20 by omega) with e | e
        · rw [e] at h1
          simp only [show ¬ (20 : Nat) = 0 by decide, show ¬ (20 : Nat) = 1 by decide, show ¬ (20 : Nat) = 6 by decide, show ¬ (20 : Nat) = 7 by decide, show ¬ (20 : Nat) = 8 by decide, show ¬ (20 : Nat) = 10 by decide, show ¬ (20 : Nat) = 11 by decide, show ¬ (20 : Nat) = 13 by decide, show ¬ (20 : Nat) = 14 by decide, if_false, if_true] at h1
          rcases k with _ | _ | _ | _ | _ | _ | _ | _ | k <;> simp at h1 <;> omega
        · rw [if_neg (by omega), if_neg (by omega), if_neg (by omega), if_neg (by omega), if_neg (by omega), if_neg (by omega), if_neg (by omega), if_neg (by omega), if_neg (by omega), if_neg e, if_neg (by omega)] at h1
          cases h1
    · rw [g1 r e1] at hl
      rw [g3 r k e1 e0] at hk
      have hr4 : r < 40 ∨ 46 ≤ r := by
        rcases Nat.lt_or_ge r 40 with h6 | h6
        · exact Or.inl h6
        · rcases Nat.lt_or_ge r 46 with h7 | h7
          · rw [ht4 r h6 h7] at hl; cases hl
          · exact Or.inr h7
      have h5 := cc_Rf_hi (hC.2.2.2.2.2.2.2.2.2.2 r k q hl hr4 hk (by omega) (by omega)) (by omega) (by omega)
      omega
theorem cc_AL.I {w w1 : cb_W} {A A' : ca_A} {z : Int32} {lo n sl : Nat} (hlo : (lo = 26 ∧ n = 2 ∧ sl = 8) ∨ (lo = 20 ∧ n = 6 ∧ sl = 7)) (hC : cc_I w A z) (hI : ca_I A) (h : cc_AL w w1 lo n sl) (hcl : cb_cls w) (hB : cc_B (cb_rn lo n 10 w1).2.1 A') (hP : cc_P (cb_rn lo n 10 w1).2.1 A') (ha : ∀ k i, ¬ (k = 0 ∧ (i = 0 ∨ i = 1 ∨ i = 12 ∨ i = 28 ∨ i = 29)) → ¬ k = 31 → A' k i = A k i) : cc_I (cb_rn lo n 10 w1) A' z ∧ cb_M1 w (cb_rn lo n 10 w1) := by
  obtain ⟨g1, g1b, g2, g3, g3c, g3b⟩ := h
  have ht := hC.2.2.2.2.2.2.2.2.1
  have hgm : ∀ r, ¬ (lo ≤ r ∧ r < lo + n) → cb_gm lo n 10 r = r := fun r h => by unfold cb_gm; rw [if_neg h]
  have hR : ∀ r k, w.1 r = true → ¬ (lo ≤ r ∧ r < lo + n) → ¬ (r = 0 ∧ k = sl) → (cb_rn lo n 10 w1).2.2 r k = w.2.2 r k := by
    intro r k hl h1 h2
    have hne : ¬ (lo + 10 ≤ r ∧ r < lo + 10 + n) := fun e => by rw [ht r (by omega) (by omega)] at hl; cases hl
    show (w1.2.2 (cb_gm lo n 10 r) k).map (cb_bk lo n 10) = w.2.2 r k
    rw [hgm r h1, g3 r k hne h2]
    cases hk : w.2.2 r k with
    | none => rfl
    | some q =>
      show some (cb_bk lo n 10 q) = some q
      unfold cb_bk
      rw [if_neg]
      intro hq
      have := hcl r k q hl hk
      rw [ht q (by omega) (by omega)] at this
      cases this
  have hL : ∀ r, (cb_rn lo n 10 w1).1 r = (if lo ≤ r ∧ r < lo + n then w1.1 (r + 10) else if lo + 10 ≤ r ∧ r < lo + 10 + n then false else w1.1 r) := fun _ => rfl
  refine ⟨cc_rep lo n sl hlo hC hI (fun r h1 h2 => ?_) (fun r h1 h2 => ?_) (fun r h1 h2 => ?_) (fun r h1 h2 => ?_) hR (fun r k q h1 h2 => ?_) ?_ hB hP ha, fun r hr => ⟨?_, ?_, fun hl => ?_⟩⟩
  · rw [hL, if_neg h1, if_neg (by omega), g1 r (by omega)]
  · rw [hL, if_pos ⟨h1, h2⟩, g1b (r + 10) (by omega) (by omega)]
  · rw [hL, if_neg (by omega)]
    by_cases e : lo + 10 ≤ r ∧ r < lo + 10 + n
    · rw [if_pos e]
    · rw [if_neg e, g1 r e]
      exact ht r h1 h2
  · show w1.2.1 (cb_gm lo n 10 r) = w.2.1 r
    rw [hgm r h1, g2 r (by omega)]
  · show (w1.2.2 (cb_gm lo n 10 r) k).map (cb_bk lo n 10) = some q ↔ _
    have e : cb_gm lo n 10 r = r + 10 := by unfold cb_gm; rw [if_pos ⟨h1, h2⟩]
    rw [e]
    constructor
    · intro h3
      cases hk : w1.2.2 (r + 10) k with
      | none => rw [hk] at h3; cases h3
      | some q0 =>
        rw [hk] at h3
        obtain ⟨q', h4, h5⟩ := (g3b r k q0 h1 h2).mp hk
        have h6 : cb_bk lo n 10 q0 = q := Option.some.inj h3
        have h7 : lo ≤ q' ∧ q' < lo + n := by
          rcases hlo with ⟨rfl, rfl, rfl⟩ | ⟨rfl, rfl, rfl⟩
          · rcases (show r = 26 ∨ r = 27 by omega) with rfl | rfl
            · unfold cc_Rf at h4
              simp only [show ¬ (26 : Nat) = 0 by decide, show ¬ (26 : Nat) = 1 by decide, show ¬ (26 : Nat) = 6 by decide, show ¬ (26 : Nat) = 7 by decide, show ¬ (26 : Nat) = 8 by decide, show ¬ (26 : Nat) = 10 by decide, show ¬ (26 : Nat) = 11 by decide, show ¬ (26 : Nat) = 13 by decide, show ¬ (26 : Nat) = 14 by decide, show ¬ (26 : Nat) = 20 by decide, if_false, if_true] at h4
              rcases k with _ | _ | _ | k <;> simp at h4 <;> omega
            · exact absurd h4 (by unfold cc_Rf; simp)
          · rcases (show r = 20 ∨ r ≠ 20 by omega) with rfl | e20
            · unfold cc_Rf at h4
              simp only [show ¬ (20 : Nat) = 0 by decide, show ¬ (20 : Nat) = 1 by decide, show ¬ (20 : Nat) = 6 by decide, show ¬ (20 : Nat) = 7 by decide, show ¬ (20 : Nat) = 8 by decide, show ¬ (20 : Nat) = 10 by decide, show ¬ (20 : Nat) = 11 by decide, show ¬ (20 : Nat) = 13 by decide, show ¬ (20 : Nat) = 14 by decide, if_false, if_true] at h4
              rcases k with _ | _ | _ | _ | _ | _ | _ | _ | k <;> simp at h4 <;> omega
            · unfold cc_Rf at h4
              rw [if_neg (by omega), if_neg (by omega), if_neg (by omega), if_neg (by omega), if_neg (by omega), if_neg (by omega), if_neg (by omega), if_neg (by omega), if_neg (by omega), if_neg e20, if_neg (by omega)] at h4
              cases h4
        unfold cb_bk at h6
        rw [if_pos (by omega)] at h6
        rw [h4]
        congr 1
        omega
    · intro h3
      have h4 := (g3b r k (q + 10) h1 h2).mpr ⟨q, h3, rfl⟩
      rw [h4]
      show some (cb_bk lo n 10 (q + 10)) = some q
      have h7 : lo ≤ q ∧ q < lo + n := by
        rcases hlo with ⟨rfl, rfl, rfl⟩ | ⟨rfl, rfl, rfl⟩
        · rcases (show r = 26 ∨ r = 27 by omega) with rfl | rfl
          · unfold cc_Rf at h3
            simp only [show ¬ (26 : Nat) = 0 by decide, show ¬ (26 : Nat) = 1 by decide, show ¬ (26 : Nat) = 6 by decide, show ¬ (26 : Nat) = 7 by decide, show ¬ (26 : Nat) = 8 by decide, show ¬ (26 : Nat) = 10 by decide, show ¬ (26 : Nat) = 11 by decide, show ¬ (26 : Nat) = 13 by decide, show ¬ (26 : Nat) = 14 by decide, show ¬ (26 : Nat) = 20 by decide, if_false, if_true] at h3
            rcases k with _ | _ | _ | k <;> simp at h3 <;> omega
          · exact absurd h3 (by unfold cc_Rf; simp)
        · rcases (show r = 20 ∨ r ≠ 20 by omega) with rfl | e20
          · unfold cc_Rf at h3
            simp only [show ¬ (20 : Nat) = 0 by decide, show ¬ (20 : Nat) = 1 by decide, show ¬ (20 : Nat) = 6 by decide, show ¬ (20 : Nat) = 7 by decide, show ¬ (20 : Nat) = 8 by decide, show ¬ (20 : Nat) = 10 by decide, show ¬ (20 : Nat) = 11 by decide, show ¬ (20 : Nat) = 13 by decide, show ¬ (20 : Nat) = 14 by decide, if_false, if_true] at h3
            rcases k with _ | _ | _ | _ | _ | _ | _ | _ | k <;> simp at h3 <;> omega
          · unfold cc_Rf at h3
            rw [if_neg (by omega), if_neg (by omega), if_neg (by omega), if_neg (by omega), if_neg (by omega), if_neg (by omega), if_neg (by omega), if_neg (by omega), if_neg (by omega), if_neg e20, if_neg (by omega)] at h3
            cases h3
      unfold cb_bk
      rw [if_pos (by omega)]
      congr 1
  · show (w1.2.2 (cb_gm lo n 10 0) sl).map (cb_bk lo n 10) = some lo
    rw [hgm 0 (by omega), g3c]
    show some (cb_bk lo n 10 (lo + 10)) = some lo
    unfold cb_bk
    rw [if_pos (by omega)]
    congr 1
  · rw [hL, if_neg (by omega), if_neg (by omega), g1 r (by omega)]
  · show w1.2.1 (cb_gm lo n 10 r) = w.2.1 r
    rw [hgm r (by omega), g2 r (by omega)]
  · funext k
    exact hR r k hl (by omega) (by omega)

def cb_dp (w : cb_W) : cb_W := (fun q => if 40 ≤ q ∧ q < 46 then false else w.1 q, w.2.1, w.2.2)
theorem cb_dpL (w : cb_W) : ∀ r, 40 ≤ r → r < 46 → (cb_dp w).1 r = false := fun r h1 h2 => if_pos ⟨h1, h2⟩
theorem cb_dpE {w : cb_W} {r : Nat} (h : r < 40 ∨ 46 ≤ r) : (cb_dp w).1 r = w.1 r := if_neg (by omega)
theorem cc_I.dp {w : cb_W} {A : ca_A} {z : Int32} (hC : cc_I w A z) (hI : ca_I A) : cc_I (cb_dp w) A z := by
  obtain ⟨⟨a1, a2⟩, hB, hN, hK, hS, hE, hP, hL, l1, l2, l3⟩ := hC
  refine ⟨⟨fun r hr => ?_, a2⟩, hB, hN, hK, hS.cg hI.1.2.2.2.1 (fun r h1 h2 => cb_dpE (by omega)) (fun _ _ _ => rfl) (fun _ _ _ _ => rfl) (fun _ _ _ => rfl), hE.cg hI.1.2.2.2.2.1 (fun r h1 h2 => cb_dpE (by omega)) (fun _ => rfl) (fun _ _ _ _ => rfl) (fun _ _ _ => rfl), hP, hL, fun r h1 h2 => ?_, fun r h1 => ?_, fun r k q hr hr4 hk h1 h2 => ?_⟩
  · rw [cb_dpE (by simp [cc_Lv] at hr; omega)]; exact a1 r hr
  · rw [cb_dpE (by omega)]; exact l1 r h1 h2
  · rw [cb_dpE (by omega)]; exact l2 r h1
  · rw [cb_dpE hr4] at hr
    exact l3 r k q hr hr4 hk h1 h2
theorem cb_M1.dp (w : cb_W) : cb_M1 w (cb_dp w) := fun r hr => ⟨cb_dpE (by omega), rfl, fun _ => rfl⟩
theorem cb_Wo.dp {g : cb_G} {z : Nat} {ad : Nat → Nat} {w : cb_W} {H : Heap} {A : ca_A} {z' : Int32} (hC : cc_I w A z') (h : cb_Wo g z ad w H) : cb_Wo g z ad (cb_dp w) H := by
  obtain ⟨L, hL, hP, hD, hq, hro⟩ := h
  have hls : cb_ls g ad (cb_dp w) (L.filter (fun r => !(decide (40 ≤ r) && decide (r < 46)))) = (L.filter (fun r => !(decide (40 ≤ r) && decide (r < 46)))).map (fun r => (ad r, cb_en g ad w r)) := rfl
  have hsub : ∀ q ∈ (L.filter (fun r => !(decide (40 ≤ r) && decide (r < 46)))), q ∈ L := fun q hq => (List.mem_filter.mp hq).1
  have hpos : ∀ (k : Nat) (q : Nat × va_E), (cb_ls g ad (cb_dp w) (L.filter (fun r => !(decide (40 ≤ r) && decide (r < 46)))))[k]? = some q → ∃ (r i : Nat), (L.filter (fun r => !(decide (40 ≤ r) && decide (r < 46))))[k]? = some r ∧ L[i]? = some r ∧ (cb_ls g ad w L)[i]? = some q := by
    intro k q hk
    rw [hls, List.getElem?_map] at hk
    cases hr : (L.filter (fun r => !(decide (40 ≤ r) && decide (r < 46))))[k]? with
    | none => rw [hr] at hk; cases hk
    | some r =>
      rw [hr] at hk
      obtain ⟨i, hi⟩ := List.getElem?_of_mem (hsub r (List.mem_of_getElem? hr))
      refine ⟨r, i, rfl, hi, ?_⟩
      rw [cb_ls, List.getElem?_map, hi]
      exact hk
  have hnd : L.Nodup := by
    rw [List.nodup_iff_pairwise_ne, List.pairwise_iff_getElem]
    intro i j hi hj hij e
    have h1 : (cb_ls g ad w L)[i]? = some (ad L[i], cb_en g ad w L[i]) := by rw [cb_ls, List.getElem?_map, List.getElem?_eq_getElem hi]; rfl
    have h2 : (cb_ls g ad w L)[j]? = some (ad L[j], cb_en g ad w L[j]) := by rw [cb_ls, List.getElem?_map, List.getElem?_eq_getElem hj]; rfl
    have := hD.1 i j _ _ h1 h2 (by rw [e])
    omega
  refine ⟨L.filter (fun r => !(decide (40 ≤ r) && decide (r < 46))), fun r => ?_, fun k q hk => ?_, ⟨fun i j x y hi hj hxy => ?_, fun k q hk => ?_⟩, fun r hr k q hk => ?_, fun j hj => ⟨(hro j hj).1, ?_⟩⟩
  · rw [List.mem_filter, hL r]
    show _ ↔ (if 40 ≤ r ∧ r < 46 then false else w.1 r) = true
    by_cases e : 40 ≤ r ∧ r < 46
    · rw [if_pos e]; simp [e]
    · rw [if_neg e]
      constructor
      · exact fun h => h.1
      · intro h
        refine ⟨h, ?_⟩
        simp only [Bool.not_eq_true', Bool.and_eq_false_iff, decide_eq_false_iff_not]
        omega
  · obtain ⟨r, i, -, -, hi⟩ := hpos k q hk
    exact hP i q hi
  · obtain ⟨r, a, hr, ha, hia⟩ := hpos i x hi
    obtain ⟨r2, b, hr2, hb, hib⟩ := hpos j y hj
    have e1 := hD.1 a b x y hia hib hxy
    subst e1
    have e2 : r = r2 := Option.some.inj (ha.symm.trans hb)
    subst e2
    exact (List.getElem?_inj (List.getElem?_eq_some_iff.mp hr).1 (hnd.sublist List.filter_sublist)).mp (hr.trans hr2.symm)
  · obtain ⟨r, i, -, -, hi⟩ := hpos k q hk
    exact hD.2 i q hi
  · have hr' : (if 40 ≤ r ∧ r < 46 then false else w.1 r) = true := hr
    by_cases e : 40 ≤ r ∧ r < 46
    · rw [if_pos e] at hr'; cases hr'
    · rw [if_neg e] at hr'
      have h1 := hq r hr' k q hk
      rw [cb_dpE]
      · exact h1
      · rcases Nat.lt_or_ge q 40 with h3 | h3
        · exact Or.inl h3
        · rcases Nat.lt_or_ge q 46 with h4 | h4
          · exfalso
            have h5 := cc_Rf_q (hC.2.2.2.2.2.2.2.2.2.2 r k q hr' (by omega) hk (by omega) (by omega))
            omega
          · exact Or.inr h4
  · rw [cb_dpE (by omega)]; exact (hro j hj).2
theorem cb_Con.dp {y : MethodName} {cc : ByteArray} {maxL : Nat} {ret : Option FieldType} {fr lo mc ms : Nat} {keep : Nat → Bool} {As : List cb_V} {w : cb_W} {post : Option Int32 → cb_W → Prop} {A : ca_A} {z' : Int32} (hC : cc_I w A z') (h : cb_Con y cc maxL ret fr lo mc ms keep As (cb_dp w) post) : cb_Con y cc maxL ret fr lo mc ms keep As w post := by
  intro g z l ad p e h1 h2 h3 s m args below h4 h5 h6 h7
  exact h g z l ad p e h1 h2 h3 s m args below h4 h5 ⟨h6.1, h6.2.1.dp hC, h6.2.2⟩ h7

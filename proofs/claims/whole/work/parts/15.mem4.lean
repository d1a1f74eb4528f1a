section CBP
variable {κ : cb_K} {cc : ByteArray} {nL : Nat} {own : String} {R : Room} {w : cb_W} {ca sl pc : Nat} {lv : List (Option cb_V)} {st : List cb_V}
theorem cb_objInit (O : cb_Ok κ cc nL own R) {idx r : Nat} (hd : decode cc pc = .ok (.invokespecial idx, 3)) (hm : Cond.methodLink own idx objectInit ∈ cb_gw) (h2 : Cond.instanceMethod objectInit ∈ cb_gw) (h3 : Cond.code objectInit ⟨#[0xb1]⟩ 1 none ∈ cb_gw) (hR : 1 ≤ R.frames ∧ 20 ≤ R.locals) (h8 : st.length ≤ 8) (k : cb_X κ w ca sl (pc + 3) lv st) : cb_X κ w ca sl pc lv (.inr (some r) :: st) := by
  intro ad H locs ls hW hk hS hl
  obtain ⟨hx, hb, hml, hown, hts, hE, hRR, -⟩ := id O
  have h9 := cb_cat8 (pc := pc) (ad := ad) (m := κ.2.1.1) (ls := ls) (rest := (st.map (cb_vv ad))) h8
  refine W.objInit hx hb hown (hts _ hm) (hts _ h2) (hts _ h3) rfl hl.1 rfl hd (by rw [hRR]; exact hR.1) ?_ ?_
  · rw [hRR]
    have h10 : 2 * (F0 κ.2.1.1 pc ls (List.map (cb_vv ad) (.inr (some r) :: st))).monitorRoom + ((st.map (cb_vv ad)).map fun v => v.category).sum ≤ 8 := h9
    exact Nat.le_trans (Nat.add_le_add_right h10 12) hR.2
  · exact k ad H locs ls hW hk hS hl
def cb_nwM (w : cb_W) (r b n : Nat) : cb_W := (fun q => if q = r ∨ (b ≤ q ∧ q < b + n) then true else w.1 q, fun q => if q = r ∨ (b ≤ q ∧ q < b + n) then (fun _ => 0) else w.2.1 q, fun q => if q = r then (fun j => if j < n then some (b + j) else none) else if b ≤ q ∧ q < b + n then (fun _ => none) else w.2.2 q)
def cb_adM (ad : Nat → Nat) (r b n a : Nat) (rr : Nat → Nat) : Nat → Nat := fun q => if q = r then a else if b ≤ q ∧ q < b + n then rr (q - b) else ad q
theorem cb_mnew (O : cb_Ok κ cc nL own R) {n m idx : Nat} {x y : Int32} (r b : Nat) (hcl : Cond.classLink own idx "[[I" ∈ cb_gw) (harr : Cond.arrayClass .int ∈ cb_gw) (hs : cb_sh r = (5, n)) (hsb : ∀ i, i < n → cb_sh (b + i) = (1, m)) (hd : decode cc pc = .ok (.multianewarray idx 2, 4)) (hx0 : ¬ x < 0) (hxn : x.toNatClampNeg = n) (hy0 : ¬ y < 0) (hyn : y.toNatClampNeg = m) (hbig : n ≤ 1000 ∧ m ≤ 1000) (hr9 : (r < b ∨ b + n ≤ r) ∧ r < 900 ∧ b + n ≤ 900) (hkp : ∀ q, κ.2.2.2.2.1 q = true → ¬ (q = r ∨ (b ≤ q ∧ q < b + n))) (hfr : cb_kp (fun q => !(q == r || (decide (b ≤ q) && decide (q < b + n)))) lv st = true) (h1 : ca + (1 + n) ≤ R.cells) (h2 : sl + (n + n * m) ≤ R.slots) (hr : w.1 r = false) (hrb : ∀ i, i < n → w.1 (b + i) = false)
    (kk : cb_X κ (cb_nwM w r b n) (ca + 1 + n) (sl + n + n * m) (pc + 4) lv (.inr (some r) :: st)) : cb_X κ w ca sl pc lv (.inl y :: .inl x :: st) := by
  intro ad H locs ls hW hk hS hl
  have hW0 := hW
  obtain ⟨L, hL, hP, hD, hq, hro⟩ := hW
  obtain ⟨hx, hb, hml, hown, hts, hE, hR, hlk⟩ := O
  have hz : ∀ c : ClassId, Jvm.Free.Multi.innerC c m (defaultValue .int) = vp_cell c (m, .inl (fun _ => 0)) := fun c => by
    show ({ cls := c, slots := Array.replicate m (.int 0), vm := .none } : Cell) = _
    rw [arrV_new]
    rfl
  have hcy : κ.1.2.2.2.2.vm.findClass (FieldType.array .int).toString = some (κ.2.2.1.1.2.2.1 1) := (hE.1.2 0 _ rfl).2
  have e0 : cb_ls κ.2.2.1.1 ad w L ++ va_pl [] (fun _ => .inr (0, [])) = cb_ls κ.2.2.1.1 ad w L := List.append_nil _
  have hne : ∀ q, w.1 q = true → ¬ (q = r ∨ (b ≤ q ∧ q < b + n)) := fun q h e1 => by
    rcases e1 with e1 | ⟨e1, e2⟩
    · rw [e1, hr] at h; cases h
    · have := hrb (q - b) (by omega)
      rw [show b + (q - b) = q by omega, h] at this
      cases this
  refine va_mna (X := cb_ls κ.2.2.1.1 ad w L) (L := []) (f := fun _ => .inr (0, [])) (ty := .int) (z := (m, .inl (fun _ => 0))) hx hb hown (hts _ hcl) hE.2.2.2.2.2.1 (hts _ harr) hcy hE.1 (by rw [e0]; exact hP) (by rw [e0]; exact hD) hS (fun q h => Nat.le_trans hE.2.1 h) hx0 hy0 hxn hyn (by omega) (by have : componentBytes .int = 4 := rfl; rw [this]; omega) (by omega) rfl rfl (by rw [hR]; exact h1) (by rw [hR]; exact h2) hz hd ?_
  intro a rr cA H1 hinj hnm hK1 hP1 hD1 hS1
  have hcA : cA = κ.2.2.1.1.2.2.1 5 := by
    have h3 := (hK1.2 (cb_ty κ.2.2.1.1).length (cA, .array .int) (by rw [List.getElem?_append_right (Nat.le_refl _)]; simp)).2
    exact Option.some.inj (h3.symm.trans (hE.1.2 4 _ rfl).2)
  have hls : (cb_ls κ.2.2.1.1 ad w L ++ [(a, .inl (cA, n, .inr (.inr (.inr (.inr (fun i => if i < n then some (rr i) else none))))))]) ++ va_pl ([] ++ (List.range n).map rr) (vr_up (fun _ => .inr (0, [])) ((List.range n).map rr) (.inl (κ.2.2.1.1.2.2.1 1, (m, .inl (fun _ => 0))))) = cb_ls κ.2.2.1.1 (cb_adM ad r b n a rr) (cb_nwM w r b n) ((L ++ [r]) ++ (List.range n).map (fun i => b + i)) := by
    unfold cb_ls
    rw [List.map_append, List.map_append]
    congr 1
    · congr 1
      · apply List.map_congr_left
        intro q hqL
        have hlq := (hL q).mp hqL
        have hn := hne q hlq
        have hn1 : ¬ q = r := fun e => hn (Or.inl e)
        have hn2 : ¬ (b ≤ q ∧ q < b + n) := fun e => hn (Or.inr e)
        have hadq : ∀ q, w.1 q = true → cb_adM ad r b n a rr q = ad q := fun q hlq => by
          have hn := hne q hlq
          unfold cb_adM
          rw [if_neg (fun e => hn (Or.inl e)), if_neg (fun e => hn (Or.inr e))]
        rw [hadq q hlq]
        congr 1
        refine cb_enc (by show w.2.1 q = if q = r ∨ (b ≤ q ∧ q < b + n) then _ else _; rw [if_neg hn]) (fun k => ?_)
        show (w.2.2 q k).map ad = ((if q = r then (fun j => if j < n then some (b + j) else none) else if b ≤ q ∧ q < b + n then (fun _ => none) else w.2.2 q) k).map _
        rw [if_neg hn1, if_neg hn2]
        cases hk9 : w.2.2 q k with
        | none => rfl
        | some x9 =>
          show some (ad x9) = some _
          rw [hadq x9 (hq q hlq k x9 hk9)]
      · simp only [List.map_cons, List.map_nil]
        congr 1
        have hM : (cb_nwM w r b n).2.2 r = fun j => if j < n then some (b + j) else none := by
          show (if r = r then _ else _) = _
          rw [if_pos rfl]
        rw [cb_enR hs (by decide), hM, hcA]
        have h5 : cb_adM ad r b n a rr r = a := by unfold cb_adM; rw [if_pos rfl]
        rw [h5]
        congr 8
        funext j
        by_cases hj : j < n
        · rw [if_pos hj]
          show some (rr j) = Option.map (cb_adM ad r b n a rr) (if j < n then some (b + j) else none)
          rw [if_pos hj]
          show some (rr j) = some (cb_adM ad r b n a rr (b + j))
          unfold cb_adM
          rw [if_neg (by omega), if_pos (by omega), show b + j - b = j by omega]
        · rw [if_neg hj]
          show none = Option.map (cb_adM ad r b n a rr) (if j < n then some (b + j) else none)
          rw [if_neg hj]
          rfl
    · unfold va_pl
      rw [List.nil_append, List.map_map, List.map_map]
      apply List.map_congr_left
      intro i hi
      have hi2 := List.mem_range.mp hi
      show (rr i, vr_up _ _ _ (rr i)) = (cb_adM ad r b n a rr (b + i), cb_en _ _ _ (b + i))
      rw [vr_up_in (List.mem_map.mpr ⟨i, hi, rfl⟩), cb_en1 (hsb i hi2)]
      have hM : (cb_nwM w r b n).2.1 (b + i) = fun _ => 0 := by
        show (if b + i = r ∨ (b ≤ b + i ∧ b + i < b + n) then _ else _) = _
        rw [if_pos (Or.inr ⟨by omega, by omega⟩)]
      rw [hM]
      unfold cb_adM
      rw [if_neg (by omega), if_pos (by omega), show b + i - b = i by omega]
  rw [hls] at hP1 hD1
  have hlive : ∀ q, (cb_nwM w r b n).1 q = (if q = r ∨ (b ≤ q ∧ q < b + n) then true else w.1 q) := fun _ => rfl
  have hWo : cb_Wo κ.2.2.1.1 κ.2.2.1.2 (cb_adM ad r b n a rr) (cb_nwM w r b n) H1 := by
    refine ⟨(L ++ [r]) ++ (List.range n).map (fun i => b + i), fun q => ?_, hP1, hD1, fun q hlq k x9 hk9 => ?_, fun j hj => ?_⟩
    · rw [List.mem_append, List.mem_append, List.mem_singleton, hL q, hlive]
      by_cases h : q = r ∨ (b ≤ q ∧ q < b + n)
      · rw [if_pos h]
        refine ⟨fun _ => rfl, fun _ => ?_⟩
        rcases h with h | ⟨h3, h4⟩
        · exact Or.inl (Or.inr h)
        · exact Or.inr (List.mem_map.mpr ⟨q - b, List.mem_range.mpr (by omega), by omega⟩)
      · rw [if_neg h]
        refine ⟨fun h3 => ?_, fun h3 => Or.inl (Or.inl h3)⟩
        rcases h3 with (h3 | h3) | h3
        · exact h3
        · exact absurd (Or.inl h3) h
        · obtain ⟨i, hi, rfl⟩ := List.mem_map.mp h3
          have := List.mem_range.mp hi
          exact absurd (Or.inr ⟨by omega, by omega⟩) h
    · rw [hlive] at hlq ⊢
      have hk8 : (if q = r then (fun j => if j < n then some (b + j) else none) else if b ≤ q ∧ q < b + n then (fun _ => none) else w.2.2 q) k = some x9 := hk9
      by_cases h3 : q = r
      · rw [if_pos h3] at hk8
        by_cases h4 : k < n
        · have h5 : (if k < n then some (b + k) else none) = some x9 := hk8
          rw [if_pos h4] at h5
          cases h5
          rw [if_pos (Or.inr ⟨by omega, by omega⟩)]
        · have h5 : (if k < n then some (b + k) else none) = some x9 := hk8
          rw [if_neg h4] at h5
          cases h5
      · rw [if_neg h3] at hk8
        by_cases h4 : b ≤ q ∧ q < b + n
        · rw [if_pos h4] at hk8; cases hk8
        · rw [if_neg h4] at hk8
          rw [if_neg (fun e => by rcases e with e | e; exact h3 e; exact h4 e)] at hlq
          have h5 := hq q hlq k x9 hk8
          rw [if_neg (hne x9 h5)]
          exact h5
    · have h9 : cb_adM ad r b n a rr (900 + j) = ad (900 + j) := by
        unfold cb_adM
        rw [if_neg (by omega), if_neg (by omega)]
      rw [h9, hlive, if_neg (by omega)]
      exact hro j hj
  have hadk : ∀ q, (!(q == r || (decide (b ≤ q) && decide (q < b + n)))) = true → cb_adM ad r b n a rr q = ad q := fun q h => by
    simp at h
    unfold cb_adM
    rw [if_neg h.1, if_neg (fun e => by omega)]
  obtain ⟨hl2, hst2⟩ := cb_kpl hfr hadk (fun j hj => (hWo.ro j hj).trans (hW0.ro j hj).symm) hl
  have := kk (cb_adM ad r b n a rr) H1 locs ls hWo (fun q hkq => by
    have h3 := hkp q hkq
    unfold cb_adM
    rw [if_neg (fun e => h3 (Or.inl e)), if_neg (fun e => h3 (Or.inr e))]
    exact hk q hkq) hS1 hl2
  rw [List.map_cons, hst2] at this
  have e2 : cb_vv (cb_adM ad r b n a rr) (.inr (some r)) = .ref a := by
    show Value.ref (cb_adM ad r b n a rr r) = .ref a
    unfold cb_adM
    rw [if_pos rfl]
  rw [e2] at this
  exact this
end CBP

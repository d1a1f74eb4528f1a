section CBO
variable {κ : cb_K} {cc : ByteArray} {nL : Nat} {own : String} {R : Room} {w : cb_W} {ca sl pc : Nat} {lv : List (Option cb_V)} {st : List cb_V}
theorem cb_upZ {ad : Nat → Nat} {r a : Nat} {z : Nat} {g : cb_G} {H1 : Heap} {locs : List Loc} {ls : Array Slot} (hkp : κ.2.2.2.2.1 r = false) (hfr : cb_fr r lv st = true) (hk : ∀ q, κ.2.2.2.2.1 q = true → ad q = κ.2.2.2.1 q) (hS1 : va_S (cb_A κ.2.2.1.2) κ.1.2.2.2.2.heap H1 locs) (hl : cb_lh ad ls κ.2.1.2.2.2.2.maxLocals lv) (hWo : cb_Wo κ.2.2.1.1 κ.2.2.1.2 (va_up ad r a) (cb_nw1 w r) H1)
    {pc' ca' sl' : Nat} (kk : cb_X κ (cb_nw1 w r) ca' sl' pc' lv (.inr (some r) :: st)) : W κ.1.1 κ.1.2.1 κ.1.2.2.1 κ.1.2.2.2.1 κ.1.2.2.2.2 κ.2.1.1 κ.2.1.2.1 κ.2.1.2.2.1 κ.2.1.2.2.2.1 κ.2.1.2.2.2.2 H1 locs ca' sl' κ.2.2.2.2.2 (F0 κ.2.1.1 pc' ls (.ref a :: st.map (cb_vv ad))) := by
  have hup : ∀ q, q ≠ r → va_up ad r a q = ad q := fun q h => va_up_ne _ _ h
  obtain ⟨hl2, hst2⟩ := cb_frl hfr hup hl
  have := kk (va_up ad r a) H1 locs ls hWo (fun q hkq => by rw [hup q (fun e1 => by rw [e1, hkp] at hkq; cases hkq)]; exact hk q hkq) hS1 hl2
  rw [List.map_cons, hst2] at this
  have e2 : cb_vv (va_up ad r a) (.inr (some r)) = .ref a := by
    show Value.ref (va_up ad r a r) = .ref a
    rw [va_up_self]
  rw [e2] at this
  exact this
theorem cb_newa (O : cb_Ok κ cc nL own R) {kd n : Nat} {atype : ArrayType} {ty : FieldType} {x : Int32} (r : Nat) (hty : newarray.typeOf atype = ty) (hkd : (kd = 1 ∧ ty = .int) ∨ (kd = 2 ∧ ty = .boolean)) (harr : Cond.arrayClass ty ∈ cb_gw) (hs : cb_sh r = (kd, n)) (hd : decode cc pc = .ok (.newarray atype, 2)) (hx0 : ¬ x < 0) (hxn : x.toNatClampNeg = n) (hbig : n ≤ 100000) (hr9 : r < 900 ∨ 904 ≤ r) (hkp : κ.2.2.2.2.1 r = false) (hfr : cb_fr r lv st = true) (h1 : ca + 1 ≤ R.cells) (h2 : sl + n ≤ R.slots) (hr : w.1 r = false)
    (kk : cb_X κ (cb_nw1 w r) (ca + 1) (sl + n) (pc + 2) lv (.inr (some r) :: st)) : cb_X κ w ca sl pc lv (.inl x :: st) := by
  intro ad H locs ls hW hk hS hl
  obtain ⟨L, hL, hP, hD, hq, hro⟩ := hW
  obtain ⟨hx, hb, hml, hown, hts, hE, hR, hlk⟩ := O
  have ha : ∀ cA : ClassId, vp_cell cA (n, .inl (fun _ => 0)) = arrV cA n (fun _ => defaultValue ty) := fun cA => by
    rcases hkd with ⟨-, rfl⟩ | ⟨-, rfl⟩ <;> rfl
  have hcb : n * componentBytes ty ≤ 536870912 := by
    rcases hkd with ⟨-, rfl⟩ | ⟨-, rfl⟩
    · have : componentBytes .int = 4 := rfl
      rw [this]; omega
    · have : componentBytes .boolean = 1 := rfl
      rw [this]; omega
  refine va_newa (a0 := (n, .inl (fun _ => 0))) hx hb (by rw [hty]; exact hts _ harr) hty hE.1 hP hD hS (fun q h => Nat.le_trans hE.2.1 h) ha hx0 hxn hcb (by rw [hR]; exact h1) (by rw [hR]; exact h2) hd (fun a cA H1 hK1 hP1 hD1 hS1 => ?_)
  have hcA : cA = κ.2.2.1.1.2.2.1 kd := by
    have h3 := (hK1.2 (cb_ty κ.2.2.1.1).length (cA, ty) (by rw [List.getElem?_append_right (Nat.le_refl _)]; simp)).2
    rcases hkd with ⟨rfl, rfl⟩ | ⟨rfl, rfl⟩
    · exact Option.some.inj (h3.symm.trans (hE.1.2 0 _ rfl).2)
    · exact Option.some.inj (h3.symm.trans (hE.1.2 1 _ rfl).2)
  have hen : cb_en κ.2.2.1.1 (va_up ad r a) (cb_nw1 w r) r = .inl (cA, (n, .inl (fun _ => 0))) := by
    have hM : (cb_nw1 w r).2.1 r = fun _ => 0 := by
      show (if r = r then (fun _ => (0 : Int32)) else w.2.1 r) = _
      rw [if_pos rfl]
    rcases hkd with ⟨rfl, -⟩ | ⟨rfl, -⟩
    · rw [cb_en1 hs, hM, hcA]
    · rw [cb_en2 hs, hM, hcA]
  exact cb_upZ (z := 0) (g := κ.2.2.1.1) hkp hfr hk hS1 hl (cb_push hL hq hro hr hr9 hen hP1 hD1) kk
theorem cb_anew (O : cb_Ok κ cc nL own R) {kd n idx : Nat} {C : String} {x : Int32} (r : Nat) (hkd : (kd = 3 ∧ C = "CutBoard$Sheet") ∨ (kd = 4 ∧ C = "CutBoard$Entry")) (hcl : Cond.classLink own idx C ∈ cb_gw) (hs : cb_sh r = (kd, n)) (hd : decode cc pc = .ok (.anewarray idx, 3)) (hx0 : ¬ x < 0) (hxn : x.toNatClampNeg = n) (hbig : n ≤ 100000) (hr9 : r < 900 ∨ 904 ≤ r) (hkp : κ.2.2.2.2.1 r = false) (hfr : cb_fr r lv st = true) (h1 : ca + 1 ≤ R.cells) (h2 : sl + n ≤ R.slots) (hr : w.1 r = false)
    (kk : cb_X κ (cb_nw1 w r) (ca + 1) (sl + n) (pc + 3) lv (.inr (some r) :: st)) : cb_X κ w ca sl pc lv (.inl x :: st) := by
  intro ad H locs ls hW hk hS hl
  obtain ⟨L, hL, hP, hD, hq, hro⟩ := hW
  obtain ⟨hx, hb, hml, hown, hts, hE, hR, hlk⟩ := O
  have hov : va_AO C κ.1.2.2.2.2 := by
    rcases hkd with ⟨-, rfl⟩ | ⟨-, rfl⟩
    · exact hE.2.2.2.1
    · exact hE.2.2.2.2.1
  refine va_newq hx hb hown (hts _ hcl) hov hE.1 hP hD hS (fun q h => Nat.le_trans hE.2.1 h) hx0 hxn (by omega) (by rw [hR]; exact h1) (by rw [hR]; exact h2) hd (fun a cA H1 hK1 hP1 hD1 hS1 => ?_)
  have hcA : cA = κ.2.2.1.1.2.2.1 kd := by
    obtain ⟨k1, c1, -, -, -, h3⟩ := (hK1.2 (cb_ty κ.2.2.1.1).length (cA, .object C) (by rw [List.getElem?_append_right (Nat.le_refl _)]; simp)).2
    rcases hkd with ⟨rfl, rfl⟩ | ⟨rfl, rfl⟩
    · obtain ⟨k2, c2, -, -, -, h4⟩ := (hE.1.2 2 _ rfl).2
      exact Option.some.inj (h3.symm.trans h4)
    · obtain ⟨k2, c2, -, -, -, h4⟩ := (hE.1.2 3 _ rfl).2
      exact Option.some.inj (h3.symm.trans h4)
  have hen : cb_en κ.2.2.1.1 (va_up ad r a) (cb_nw1 w r) r = .inl (cA, n, .inr (.inr (.inr (.inr (fun _ => none))))) := by
    have hM : (cb_nw1 w r).2.2 r = fun _ => none := by
      show (if r = r then (fun _ => (none : Option Nat)) else w.2.2 r) = _
      rw [if_pos rfl]
    rw [cb_enR hs (by rcases hkd with ⟨rfl, -⟩ | ⟨rfl, -⟩ <;> decide), hM, hcA]
    rfl
  exact cb_upZ (z := 0) (g := κ.2.2.1.1) hkp hfr hk hS1 hl (cb_push hL hq hro hr hr9 hen hP1 hD1) kk
theorem cb_aast (O : cb_Ok κ cc nL own R) {kd n r q ci : Nat} {i : Int32} (j : Nat) (hkd : (kd = 3 ∧ ci = 9) ∨ (kd = 4 ∧ ci = 2)) (hs : cb_sh r = (kd, n)) (hsq : cb_sh q = (0, ci)) (hd : decode cc pc = .ok (.aastore, 1)) (hn : n < 2147483648) (hr : w.1 r = true) (hlq : w.1 q = true) (hi : i = nI j) (hj : j < n)
    (kk : cb_X κ (cb_ur w r j (some q)) ca sl (pc + 1) lv st) : cb_X κ w ca sl pc lv (.inr (some q) :: .inl i :: .inr (some r) :: st) := by
  intro ad H locs ls hW hk hS hl
  obtain ⟨L, hL, hP, hD, hq, hro⟩ := hW
  obtain ⟨p, hp, he⟩ := cb_pos (g := κ.2.2.1.1) (ad := ad) hL hr
  obtain ⟨p2, hp2, he2⟩ := cb_pos (g := κ.2.2.1.1) (ad := ad) hL hlq
  rw [cb_enR hs (by rcases hkd with ⟨rfl, -⟩ | ⟨rfl, -⟩ <;> decide)] at he
  rw [cb_en0 hsq] at he2
  obtain ⟨hx, hb, hml, hown, hts, hE, -⟩ := O
  subst hi
  have fin : ∀ (H1 : Heap) (locs1 : List Loc), va_P (κ.2.2.1.1.1, κ.2.2.1.1.2.1) cb_cl ((cb_ls κ.2.2.1.1 ad w L).set p (ad r, .inl (κ.2.2.1.1.2.2.1 kd, n, .inr (.inr (.inr (.inr (va_up (fun j => (w.2.2 r j).map ad) (nI j).toNatClampNeg (some (ad q))))))))) H1 → va_D (cb_A κ.2.2.1.2) ((cb_ls κ.2.2.1.1 ad w L).set p (ad r, .inl (κ.2.2.1.1.2.2.1 kd, n, .inr (.inr (.inr (.inr (va_up (fun j => (w.2.2 r j).map ad) (nI j).toNatClampNeg (some (ad q))))))))) → va_S (cb_A κ.2.2.1.2) κ.1.2.2.2.2.heap H1 locs1 → W κ.1.1 κ.1.2.1 κ.1.2.2.1 κ.1.2.2.2.1 κ.1.2.2.2.2 κ.2.1.1 κ.2.1.2.1 κ.2.1.2.2.1 κ.2.1.2.2.2.1 κ.2.1.2.2.2.2 H1 locs1 ca sl κ.2.2.2.2.2 (F0 κ.2.1.1 (pc + 1) ls (st.map (cb_vv ad))) := by
    intro H1 locs1 hP1 hD1 hS1
    rw [nI_clamp (by omega)] at hP1 hD1
    have hset := cb_set (w' := cb_ur w r j (some q)) (e := .inl (κ.2.2.1.1.2.2.1 kd, n, .inr (.inr (.inr (.inr (va_up (fun j => (w.2.2 r j).map ad) j (some (ad q)))))))) hD hp (by
      rw [cb_enR hs (by rcases hkd with ⟨rfl, -⟩ | ⟨rfl, -⟩ <;> decide)]
      congr 7
      funext k
      show (cb_u2 w.2.2 r j (some q) r k).map ad = va_up (fun j => (w.2.2 r j).map ad) j (some (ad q)) k
      by_cases e1 : k = j
      · subst e1
        rw [cb_u2s, va_up_self]
        rfl
      · rw [cb_u2n (Or.inr e1), va_up_ne _ _ e1]) (fun q' hq' => cb_enc rfl (fun k => by show _ = (cb_u2 w.2.2 r j (some q) q' k).map ad; rw [cb_u2n (Or.inl hq')]))
    rw [hset] at hP1 hD1
    refine kk ad H1 locs1 ls ⟨L, hL, hP1, hD1, fun a ha k x hk2 => ?_, hro⟩ hk hS1 hl
    have hk3 : cb_u2 w.2.2 r j (some q) a k = some x := hk2
    by_cases h1 : a = r
    · by_cases h2 : k = j
      · subst h1; subst h2
        rw [cb_u2s] at hk3
        cases hk3
        exact hlq
      · rw [cb_u2n (Or.inr h2)] at hk3
        exact hq a ha k x hk3
    · rw [cb_u2n (Or.inl h1)] at hk3
      exact hq a ha k x hk3
  rcases hkd with ⟨rfl, rfl⟩ | ⟨rfl, rfl⟩
  · exact va_astq hx hb hE.1 hP hD hS p 2 p2 9 (r := (RX9, TX9, 6)) he rfl he2 rfl (vp_in_nI hj hn) hd fin
  · exact va_astq hx hb hE.1 hP hD hS p 3 p2 2 (r := (RX2, TX2, 5)) he rfl he2 rfl (vp_in_nI hj hn) hd fin
theorem cb_ren (gm : Nat → Nat) {w' : cb_W} {lv' : List (Option cb_V)} {st' : List cb_V} (hlv : lv = lv'.map (fun o => o.map (fun v => v.map id (fun r => r.map gm)))) (hst : st = st'.map (fun v => v.map id (fun r => r.map gm)))
    (h1 : ∀ r, w'.1 r = true → w.1 (gm r) = true ∧ cb_sh (gm r) = cb_sh r ∧ w'.2.1 r = w.2.1 (gm r) ∧ ∀ k, (w'.2.2 r k).map gm = w.2.2 (gm r) k) (h2 : ∀ r q, w'.1 r = true → w'.1 q = true → gm r = gm q → r = q) (h3 : ∀ r k q, w'.1 r = true → w'.2.2 r k = some q → w'.1 q = true) (h4 : ∀ j, j < 4 → gm (900 + j) = 900 + j ∧ w'.1 (900 + j) = false) (h5 : ∀ q, κ.2.2.2.2.1 q = true → gm q = q) (h6 : ∃ B, ∀ r, B ≤ r → w'.1 r = false)
    (kk : cb_X κ w' ca sl pc lv' st') : cb_X κ w ca sl pc lv st := by
  intro ad H locs ls hW hk hS hl
  obtain ⟨L, hL, hP, hD, hq, hro⟩ := hW
  obtain ⟨B, hB⟩ := h6
  have hvv : ∀ v : cb_V, cb_vv (fun r => ad (gm r)) v = cb_vv ad (v.map id (fun r => r.map gm)) := fun v => by
    rcases v with x | o
    · rfl
    · cases o <;> rfl
  have hen : ∀ r, w'.1 r = true → cb_en κ.2.2.1.1 (fun r => ad (gm r)) w' r = cb_en κ.2.2.1.1 ad w (gm r) := fun r hr => by
    obtain ⟨-, e1, e2, e3⟩ := h1 r hr
    have e4 : ∀ k, (w'.2.2 r k).map (fun r => ad (gm r)) = (w.2.2 (gm r) k).map ad := fun k => by
      rw [← e3 k]
      cases w'.2.2 r k <;> rfl
    have e5 : ∀ ci, cb_fs (fun r => ad (gm r)) w' ci r = cb_fs ad w ci (gm r) := fun ci => by
      unfold cb_fs
      apply List.map_congr_left
      intro k _
      unfold cb_fv
      by_cases hi : cb_ir ci k = true
      · rw [if_pos hi, if_pos hi]
        show va_rf _ = va_rf _
        rw [e4]
      · rw [if_neg hi, if_neg hi, e2]
        rfl
    unfold cb_en
    rw [e1, e2, e5, funext e4]
  have hsub : ∀ (k : Nat) (q : Nat × va_E), (cb_ls κ.2.2.1.1 (fun r => ad (gm r)) w' ((List.range B).filter (fun r => w'.1 r)))[k]? = some q → ∃ r, w'.1 r = true ∧ ((List.range B).filter (fun r => w'.1 r))[k]? = some r ∧ q = (ad (gm r), cb_en κ.2.2.1.1 ad w (gm r)) := fun k q hk => by
    unfold cb_ls at hk
    rw [List.getElem?_map] at hk
    cases hr : ((List.range B).filter (fun r => w'.1 r))[k]? with
    | none => rw [hr] at hk; cases hk
    | some r =>
      rw [hr] at hk
      have hlive : w'.1 r = true := (List.mem_filter.mp (List.mem_of_getElem? hr)).2
      refine ⟨r, hlive, rfl, ?_⟩
      rw [← hen r hlive]
      exact (Option.some.inj hk).symm
  have hpos : ∀ r, w'.1 r = true → ∃ i : Nat, L[i]? = some (gm r) ∧ (cb_ls κ.2.2.1.1 ad w L)[i]? = some (ad (gm r), cb_en κ.2.2.1.1 ad w (gm r)) := fun r hr => cb_pos hL (h1 r hr).1
  have := kk (fun r => ad (gm r)) H locs ls ⟨(List.range B).filter (fun r => w'.1 r), fun r => ?_, fun k q hk2 => ?_, ⟨fun i j x y hi hj hxy => ?_, fun k q hk2 => ?_⟩, fun r hr k q hk2 => h3 r k q hr hk2, fun j hj => ⟨by show ad (gm (900 + j)) = _; rw [(h4 j hj).1]; exact (hro j hj).1, (h4 j hj).2⟩⟩ (fun q hkq => by show ad (gm q) = _; rw [h5 q hkq]; exact hk q hkq) hS ⟨hl.1, hl.2.1, fun i v hv => ?_⟩
  · have hmp : st.map (cb_vv ad) = st'.map (cb_vv (fun r => ad (gm r))) := by
      rw [hst, List.map_map]
      exact List.map_congr_left (fun v _ => (hvv v).symm)
    rw [hmp]
    exact this
  · rw [List.mem_filter, List.mem_range]
    constructor
    · exact fun h => h.2
    · intro h
      refine ⟨?_, h⟩
      rcases Nat.lt_or_ge r B with h7 | h7
      · exact h7
      · rw [hB r h7] at h; cases h
  · obtain ⟨r, hr, -, rfl⟩ := hsub k q hk2
    obtain ⟨i, -, hi⟩ := hpos r hr
    exact hP i _ hi
  · obtain ⟨r, hr, hir, rfl⟩ := hsub i x hi
    obtain ⟨r2, hr2, hir2, rfl⟩ := hsub j y hj
    obtain ⟨i1, hL1, hi1⟩ := hpos r hr
    obtain ⟨i2, hL2, hi2⟩ := hpos r2 hr2
    have e1 := hD.1 i1 i2 _ _ hi1 hi2 hxy
    subst e1
    have e2 : gm r = gm r2 := Option.some.inj (hL1.symm.trans hL2)
    have e3 := h2 r r2 hr hr2 e2
    subst e3
    have hnd : ((List.range B).filter (fun r => w'.1 r)).Nodup := List.Nodup.sublist List.filter_sublist List.nodup_range
    exact (List.getElem?_inj (List.getElem?_eq_some_iff.mp hir).1 hnd).mp (hir.trans hir2.symm)
  · obtain ⟨r, hr, -, rfl⟩ := hsub k q hk2
    obtain ⟨i, -, hi⟩ := hpos r hr
    exact hD.2 i _ hi
  · rw [hvv]
    refine hl.2.2 i _ ?_
    rw [hlv, List.getElem?_map, hv]
    rfl
end CBO

section CBN
variable {κ : cb_K} {cc : ByteArray} {nL : Nat} {own : String} {R : Room} {w : cb_W} {ca sl pc : Nat} {lv : List (Option cb_V)} {st : List cb_V}
theorem cb_aald (O : cb_Ok κ cc nL own R) {r n kd q : Nat} {i : Int32} (j : Nat) (hs : cb_sh r = (kd, n)) (hk1 : 3 ≤ kd) (hk2 : kd ≤ 5) (hd : decode cc pc = .ok (.aaload, 1)) (hn : n < 2147483648) (hr : w.1 r = true) (hi : i = nI j) (hj : j < n) (hq : w.2.2 r j = some q) (kk : cb_X κ w ca sl (pc + 1) lv (.inr (some q) :: st)) : cb_X κ w ca sl pc lv (.inl i :: .inr (some r) :: st) := by
  intro ad H locs ls hW hk hS hl
  have hW0 := hW
  obtain ⟨L, hL, hP, hD, hqq, hro⟩ := hW
  obtain ⟨p, hp, he⟩ := cb_pos (g := κ.2.2.1.1) (ad := ad) hL hr
  rw [cb_enR hs hk1] at he
  obtain ⟨hx, hb, hml, hown, hts, hE, -⟩ := O
  obtain ⟨ty, ht, hty⟩ := cb_tyR hE hk1 hk2
  subst hi
  have hin := vp_in_nI hj hn
  have hc : (nI j).toNatClampNeg = j := nI_clamp (by omega)
  refine W.aald (v := va_rf ((w.2.2 r j).map ad)) (ty := ty) hx hb (hP p _ he) ((hE.1.2 _ _ ht).1 n (fun j => va_rf ((w.2.2 r j).map ad))) hty (fun q => by cases q) (by show ¬ (nI j < 0 ∨ (arrV _ _ _).slots.size ≤ _); rw [arrV_size]; exact hin) (by show (arrV _ _ _).slots[_]? = _; rw [hc, arrV_read _ _ hj]) rfl rfl hd ?_
  rw [hq]
  exact kk ad H locs ls hW0 hk hS hl
theorem cb_alen (O : cb_Ok κ cc nL own R) {r n kd : Nat} (hs : cb_sh r = (kd, n)) (hk1 : 1 ≤ kd) (hk2 : kd ≤ 2) (hd : decode cc pc = .ok (.arraylength, 1)) (hr : w.1 r = true) (kk : cb_X κ w ca sl (pc + 1) lv (.inl (nI n) :: st)) : cb_X κ w ca sl pc lv (.inr (some r) :: st) := by
  intro ad H locs ls hW hk hS hl
  have hW0 := hW
  obtain ⟨L, hL, hP, hD, hqq, hro⟩ := hW
  obtain ⟨p, hp, he⟩ := cb_pos (g := κ.2.2.1.1) (ad := ad) hL hr
  obtain ⟨hx, hb, hml, hown, hts, hE, -⟩ := O
  rcases (show kd = 1 ∨ kd = 2 by omega) with rfl | rfl
  · rw [cb_en1 hs] at he
    exact va_alen hx hb hE.1 hP p 0 he (cb_ty0 _) rfl hd (kk ad H locs ls hW0 hk hS hl)
  · rw [cb_en2 hs] at he
    exact va_alen hx hb hE.1 hP p 1 he (cb_ty1 _) rfl hd (kk ad H locs ls hW0 hk hS hl)
theorem cb_gets (O : cb_Ok κ cc nL own R) {idx : Nat} {C n : String} (j : Nat) (hj : j < 3) (hz : (j = 0 ∧ C = "CutBoard$RowSearch" ∧ n = "HOLDING") ∨ (j = 1 ∧ C = "CutBoard$Board" ∧ n = "ROW_STEPS") ∨ (j = 2 ∧ C = "CutBoard$Board" ∧ n = "COLUMN_STEPS")) (hlk : Cond.fieldLink own idx C n "[I" ∈ cb_gw) (hd : decode cc pc = .ok (.getstatic idx, 3)) (kk : cb_X κ w ca sl (pc + 3) lv (.inr (some (900 + j)) :: st)) : cb_X κ w ca sl pc lv st := by
  intro ad H locs ls hW hk hS hl
  have hro := hW.choose_spec.2.2.2.2 j (by omega)
  obtain ⟨hx, hb, hml, hown, hts, hE, -⟩ := O
  have hZ : va_Z C n "[I" (.ref (κ.2.2.1.1.2.2.2.1 j)) (cb_A κ.2.2.1.2) κ.1.2.2.2.2 κ.1.2.2.2.2.heap := by
    rcases hz with ⟨rfl, rfl, rfl⟩ | ⟨rfl, rfl, rfl⟩ | ⟨rfl, rfl, rfl⟩
    · exact hE.2.2.2.2.2.2.1
    · exact hE.2.2.2.2.2.2.2.1
    · exact hE.2.2.2.2.2.2.2.2.1
  refine va_gets hx hb hZ hS hown (hts _ hlk) (fun _ h => h) hd ?_
  rw [← hro.1]
  exact kk ad H locs ls hW hk hS hl
theorem cb_ialdS (O : cb_Ok κ cc nL own R) {i : Int32} (q j : Nat) (hq : q < 4) (hd : decode cc pc = .ok (.iaload, 1)) (hn : (cb_ro κ.2.2.1.1 q).1 < 2147483648) (hi : i = nI j) (hj : j < (cb_ro κ.2.2.1.1 q).1) (kk : cb_X κ w ca sl (pc + 1) lv (.inl ((cb_ro κ.2.2.1.1 q).2 j) :: st)) : cb_X κ w ca sl pc lv (.inl i :: .inr (some (900 + q)) :: st) := by
  intro ad H locs ls hW hk hS hl
  have hro := hW.choose_spec.2.2.2.2 q hq
  obtain ⟨hx, hb, hml, hown, hts, hE, -⟩ := O
  subst hi
  have hT := hE.2.2.2.2.2.2.2.2.2 q hq
  rw [← hro.1] at hT
  exact va_ti hx hb hT hS (vp_in_nI hj hn) (by rw [nI_clamp (by omega)]; rfl) hd (kk ad H locs ls hW hk hS hl)
theorem cb_alenS (O : cb_Ok κ cc nL own R) (q : Nat) (hq : q < 4) (hd : decode cc pc = .ok (.arraylength, 1)) (kk : cb_X κ w ca sl (pc + 1) lv (.inl (nI (cb_ro κ.2.2.1.1 q).1) :: st)) : cb_X κ w ca sl pc lv (.inr (some (900 + q)) :: st) := by
  intro ad H locs ls hW hk hS hl
  have hro := hW.choose_spec.2.2.2.2 q hq
  obtain ⟨hx, hb, hml, hown, hts, hE, -⟩ := O
  have hT := hE.2.2.2.2.2.2.2.2.2 q hq
  rw [← hro.1] at hT
  obtain ⟨cell, h1, h2, h3, h4, h5, h6, h7⟩ := hT
  exact W.alen (n := nI (cb_ro κ.2.2.1.1 q).1) hx hb (by rw [hS.2.1 _ (Array.getElem?_eq_some_iff.mp h1).1 h7]; exact h1) h2 h5 rfl rfl hd (kk ad H locs ls hW hk hS hl)
def cb_nr (r : Nat) (v : cb_V) : Bool := match v with
  | .inr (some q) => !(q == r)
  | _ => true
def cb_fr (r : Nat) (lv : List (Option cb_V)) (st : List cb_V) : Bool := lv.all (fun o => match o with
  | some v => cb_nr r v
  | none => true) && st.all (cb_nr r)
theorem cb_nrv {ad ad' : Nat → Nat} {r : Nat} {v : cb_V} (h : cb_nr r v = true) (ha : ∀ q, q ≠ r → ad' q = ad q) : cb_vv ad' v = cb_vv ad v := by
  rcases v with x | o
  · rfl
  · cases o with
    | none => rfl
    | some q =>
      have hq : q ≠ r := by simpa [cb_nr] using h
      show Value.ref (ad' q) = Value.ref (ad q)
      rw [ha q hq]
theorem cb_frl {ad ad' : Nat → Nat} {r : Nat} {st : List cb_V} {ls : Array Slot} {n : Nat} (h : cb_fr r lv st = true) (ha : ∀ q, q ≠ r → ad' q = ad q) (hl : cb_lh ad ls n lv) : cb_lh ad' ls n lv ∧ st.map (cb_vv ad') = st.map (cb_vv ad) := by
  simp only [cb_fr, Bool.and_eq_true, List.all_eq_true] at h
  refine ⟨⟨hl.1, hl.2.1, fun i v hv => ?_⟩, List.map_congr_left fun v hv => cb_nrv (h.2 v hv) ha⟩
  rw [cb_nrv (h.1 _ (List.mem_of_getElem? hv)) ha]
  exact hl.2.2 i v hv
def cb_nw1 (w : cb_W) (r : Nat) : cb_W := (fun q => if q = r then true else w.1 q, fun q => if q = r then (fun _ => 0) else w.2.1 q, fun q => if q = r then (fun _ => none) else w.2.2 q)
theorem cb_push {g : cb_G} {z : Nat} {ad : Nat → Nat} {H1 : Heap} {L : List Nat} {r a : Nat} {e : va_E} (hL : ∀ r, r ∈ L ↔ w.1 r = true) (hq : ∀ r, w.1 r = true → ∀ k q, w.2.2 r k = some q → w.1 q = true) (hro : ∀ j, j < 4 → ad (900 + j) = g.2.2.2.1 j ∧ w.1 (900 + j) = false) (hr : w.1 r = false) (hr9 : r < 900 ∨ 904 ≤ r) (he : cb_en g (va_up ad r a) (cb_nw1 w r) r = e) (hP : va_P (g.1, g.2.1) cb_cl (cb_ls g ad w L ++ [(a, e)]) H1) (hD : va_D (cb_A z) (cb_ls g ad w L ++ [(a, e)])) : cb_Wo g z (va_up ad r a) (cb_nw1 w r) H1 := by
  have hne : ∀ q, w.1 q = true → q ≠ r := fun q h e1 => by
    rw [e1, hr] at h
    cases h
  have hls : cb_ls g ad w L ++ [(a, e)] = cb_ls g (va_up ad r a) (cb_nw1 w r) (L ++ [r]) := by
    unfold cb_ls
    rw [List.map_append]
    congr 1
    · apply List.map_congr_left
      intro q hqL
      have hl := (hL q).mp hqL
      have hn := hne q hl
      rw [va_up_ne _ _ hn]
      congr 1
      refine cb_enc (by show w.2.1 q = if q = r then _ else _; rw [if_neg hn]) (fun k => ?_)
      show (w.2.2 q k).map ad = ((if q = r then (fun _ => none) else w.2.2 q) k).map (va_up ad r a)
      rw [if_neg hn]
      cases hk : w.2.2 q k with
      | none => rfl
      | some x =>
        show some (ad x) = some (va_up ad r a x)
        rw [va_up_ne _ _ (hne x (hq q hl k x hk))]
    · simp [va_up_self, he]
  rw [hls] at hP hD
  refine ⟨L ++ [r], fun q => ?_, hP, hD, fun q hlq k x hk => ?_, fun j hj => ?_⟩
  · rw [List.mem_append, List.mem_singleton, hL q]
    show _ ↔ (if q = r then true else w.1 q) = true
    by_cases h : q = r
    · rw [if_pos h]; simp [h]
    · rw [if_neg h]; simp [h]
  · have hlq' : (if q = r then true else w.1 q) = true := hlq
    have hk' : (if q = r then (fun _ => none) else w.2.2 q) k = some x := hk
    show (if x = r then true else w.1 x) = true
    by_cases h : q = r
    · rw [if_pos h] at hk'; cases hk'
    · rw [if_neg h] at hk' hlq'
      have := hq q hlq' k x hk'
      rw [if_neg (hne x this)]
      exact this
  · have h9 : 900 + j ≠ r := by omega
    rw [va_up_ne _ _ h9]
    refine ⟨(hro j hj).1, ?_⟩
    show (if 900 + j = r then true else w.1 (900 + j)) = false
    rw [if_neg h9]
    exact (hro j hj).2
theorem cb_def {ad : Nat → Nat} {ci r k : Nat} (h : defaultValue (cb_tt ci k) = (if cb_ir ci k = true then Value.null else .int 0)) : defaultValue (cb_tt ci k) = cb_vv ad (cb_fv (cb_nw1 w r) ci r k) := by
  rw [h, cb_fv]
  by_cases hi : cb_ir ci k = true
  · rw [if_pos hi, if_pos hi]
    show _ = va_rf (((if r = r then (fun _ => none) else w.2.2 r) k).map ad)
    rw [if_pos rfl]
    rfl
  · rw [if_neg hi, if_neg hi]
    show _ = Value.int ((if r = r then (fun _ => 0) else w.2.1 r) k)
    rw [if_pos rfl]
theorem cb_defs {ci : Nat} (h : ci < 12) : ∀ k, k < cb_nf ci → defaultValue (cb_tt ci k) = (if cb_ir ci k = true then Value.null else .int 0) := by
  rcases (show ci = 0 ∨ ci = 1 ∨ ci = 2 ∨ ci = 3 ∨ ci = 4 ∨ ci = 5 ∨ ci = 6 ∨ ci = 7 ∨ ci = 8 ∨ ci = 9 ∨ ci = 10 ∨ ci = 11 by omega) with rfl | rfl | rfl | rfl | rfl | rfl | rfl | rfl | rfl | rfl | rfl | rfl <;> decide +kernel
theorem cb_new (O : cb_Ok κ cc nL own R) {idx ci : Nat} (r : Nat) (hct : cb_CT ci) (hcl : Cond.classLink own idx (cb_C ci) ∈ cb_gw) (hin : Cond.instantiable (cb_C ci) (cb_nf ci) ∈ cb_gw) (hini : Cond.initialized (cb_C ci) ∈ cb_gw) (hs : cb_sh r = (0, ci)) (hd : decode cc pc = .ok (.new idx, 3)) (hr9 : r < 900 ∨ 904 ≤ r) (hkp : κ.2.2.2.2.1 r = false) (hfr : cb_fr r lv st = true) (h1 : ca + 1 ≤ R.cells) (h2 : sl + cb_nf ci ≤ R.slots) (hr : w.1 r = false)
    (kk : cb_X κ (cb_nw1 w r) (ca + 1) (sl + cb_nf ci) (pc + 3) lv (.inr (some r) :: st)) : cb_X κ w ca sl pc lv st := by
  intro ad H locs ls hW hk hS hl
  obtain ⟨L, hL, hP, hD, hq, hro⟩ := hW
  obtain ⟨hx, hb, hml, hown, hts, hE, hR, hlk⟩ := O
  obtain ⟨hci, hws, hty, hnm⟩ := hct
  refine va_new (fs := cb_fs ad (cb_nw1 w r) ci r) hx hb hts hws (cb_tt ci) hty hown (hts _ hcl) (hts _ hin) (hts _ hini) hE.1 hP hD hS (fun q h => Nat.le_trans hE.2.1 h) (cb_clat hci) (fun j hj => ?_) (by rw [hR]; exact h1) (by rw [hR]; exact h2) hd (fun a H1 hP1 hD1 hS1 => ?_)
  · rw [vp_V, List.getD_eq_getElem?_getD, cb_fsat hj, Option.getD_some]
    exact cb_def (cb_defs hci j hj)
  · have hup : ∀ q, q ≠ r → va_up ad r a q = ad q := fun q h => va_up_ne _ _ h
    obtain ⟨hl2, hst2⟩ := cb_frl hfr hup hl
    have hfs : cb_fs (va_up ad r a) (cb_nw1 w r) ci r = cb_fs ad (cb_nw1 w r) ci r := by
      unfold cb_fs
      apply List.map_congr_left
      intro k hk2
      unfold cb_fv
      by_cases hi : cb_ir ci k = true
      · rw [if_pos hi]
        show va_rf (((if r = r then (fun _ => none) else w.2.2 r) k).map _) = va_rf (((if r = r then (fun _ => none) else w.2.2 r) k).map _)
        rw [if_pos rfl]
        rfl
      · rw [if_neg hi]
        rfl
    have hWo := cb_push (a := a) hL hq hro hr hr9 (by rw [cb_en0 hs, hfs]) hP1 hD1
    have := kk (va_up ad r a) H1 locs ls hWo (fun q hkq => by rw [hup q (fun e1 => by rw [e1, hkp] at hkq; cases hkq)]; exact hk q hkq) hS1 hl2
    rw [List.map_cons, hst2] at this
    have e2 : cb_vv (va_up ad r a) (.inr (some r)) = .ref a := by
      show Value.ref (va_up ad r a r) = .ref a
      rw [va_up_self]
    rw [e2] at this
    exact this
end CBN

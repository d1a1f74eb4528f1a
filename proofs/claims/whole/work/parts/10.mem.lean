def cb_C (ci : Nat) : String := ([RX0, RX1, RX2, RX3, RX4, RX5, RX6, RX7, RX8, RX9, RX10, RX11] : List String).getD ci ""
def cb_T (ci : Nat) : u_T := match ci with
  | 0 => TX0
  | 1 => TX1
  | 2 => TX2
  | 3 => TX3
  | 4 => TX4
  | 5 => TX5
  | 6 => TX6
  | 7 => TX7
  | 8 => TX8
  | 9 => TX9
  | 10 => TX10
  | _ => TX11
theorem cb_clat {ci : Nat} (h : ci < 12) : cb_cl[ci]? = some (cb_C ci, cb_T ci, cb_nf ci) := by
  rcases (show ci = 0 ∨ ci = 1 ∨ ci = 2 ∨ ci = 3 ∨ ci = 4 ∨ ci = 5 ∨ ci = 6 ∨ ci = 7 ∨ ci = 8 ∨ ci = 9 ∨ ci = 10 ∨ ci = 11 by omega) with rfl | rfl | rfl | rfl | rfl | rfl | rfl | rfl | rfl | rfl | rfl | rfl <;> rfl
def cb_CT (ci : Nat) : Prop := ci < 12 ∧ (∀ w ∈ u_ws (cb_C ci) (cb_T ci) (cb_nf ci), w ∈ cb_gw) ∧ (∀ k, k < cb_nf ci → parseFieldDescriptor (cb_T ci k).2.2.1 = some (cb_tt ci k)) ∧ (∀ a, a < cb_nf ci → ∀ b, b < cb_nf ci → a ≠ b → (cb_T ci a).2.1 ≠ (cb_T ci b).2.1)
def cb_FL (own : String) (idx ci k : Nat) : Prop := k < cb_nf ci ∧ cb_CT ci ∧ (Cond.fieldLink own idx (cb_T ci k).1 (cb_T ci k).2.1 (cb_T ci k).2.2.1 ∈ cb_gw ∨ ∃ host, Cond.fieldLinkNest own idx (cb_T ci k).1 (cb_T ci k).2.1 (cb_T ci k).2.2.1 host ∈ cb_nw)
def cb_FO (own : String) (idx ci k : Nat) : Prop := k < cb_nf ci ∧ cb_CT ci ∧ Cond.fieldLink own idx (cb_T ci k).1 (cb_T ci k).2.1 (cb_T ci k).2.2.1 ∈ cb_gw ∧ (cb_T ci k).1 = own
def cb_u2 {α : Type} (M : Nat → Nat → α) (r k : Nat) (x : α) : Nat → Nat → α := fun a b => if a = r then (if b = k then x else M a b) else M a b
def cb_um (w : cb_W) (r k : Nat) (x : Int32) : cb_W := (w.1, cb_u2 w.2.1 r k x, w.2.2)
def cb_ur (w : cb_W) (r k : Nat) (q : Option Nat) : cb_W := (w.1, w.2.1, cb_u2 w.2.2 r k q)
theorem cb_enc {g : cb_G} {ad ad' : Nat → Nat} {w w' : cb_W} {q : Nat} (h1 : w.2.1 q = w'.2.1 q) (h2 : ∀ k, (w.2.2 q k).map ad = (w'.2.2 q k).map ad') : cb_en g ad w q = cb_en g ad' w' q := by
  have h3 : ∀ ci, cb_fs ad w ci q = cb_fs ad' w' ci q := fun ci => by
    unfold cb_fs
    apply List.map_congr_left
    intro k _
    unfold cb_fv
    by_cases hi : cb_ir ci k = true
    · rw [if_pos hi, if_pos hi]
      show va_rf ((w.2.2 q k).map ad) = va_rf ((w'.2.2 q k).map ad')
      rw [h2 k]
    · rw [if_neg hi, if_neg hi]
      show Value.int (w.2.1 q k) = Value.int (w'.2.1 q k)
      rw [h1]
  unfold cb_en
  rw [h1, h3, funext (fun j => h2 j)]
theorem cb_set {g : cb_G} {A : Nat → Prop} {ad : Nat → Nat} {w w' : cb_W} {L : List Nat} {i r : Nat} {e : va_E} (hD : va_D A (cb_ls g ad w L)) (hi : L[i]? = some r) (he : cb_en g ad w' r = e) (ho : ∀ q, q ≠ r → cb_en g ad w q = cb_en g ad w' q) : (cb_ls g ad w L).set i (ad r, e) = cb_ls g ad w' L := by
  have hl : i < (cb_ls g ad w L).length := by rw [cb_ls, List.length_map]; exact (List.getElem?_eq_some_iff.mp hi).1
  have hg : (cb_ls g ad w L)[i]? = some (ad r, cb_en g ad w r) := by simp only [cb_ls, List.getElem?_map, hi, Option.map_some]
  apply List.ext_getElem?
  intro j
  by_cases hj : j = i
  · subst hj
    rw [List.getElem?_set_self hl]
    simp only [cb_ls, List.getElem?_map, hi, Option.map_some, he]
  · rw [List.getElem?_set_ne (Ne.symm hj)]
    simp only [cb_ls, List.getElem?_map]
    cases hb : L[j]? with
    | none => rfl
    | some q =>
      have hq : q ≠ r := by
        intro e1
        subst e1
        have hg2 : (cb_ls g ad w L)[j]? = some (ad q, cb_en g ad w q) := by simp only [cb_ls, List.getElem?_map, hb, Option.map_some]
        exact hj (hD.1 j i _ _ hg2 hg rfl)
      simp only [Option.map_some, ho q hq]
theorem cb_pos {g : cb_G} {ad : Nat → Nat} {w : cb_W} {L : List Nat} {r : Nat} (hL : ∀ r, r ∈ L ↔ w.1 r = true) (hr : w.1 r = true) : ∃ i : Nat, L[i]? = some r ∧ (cb_ls g ad w L)[i]? = some (ad r, cb_en g ad w r) := by
  obtain ⟨i, hi⟩ := List.getElem?_of_mem ((hL r).mpr hr)
  exact ⟨i, hi, by simp only [cb_ls, List.getElem?_map, hi, Option.map_some]⟩
theorem cb_en0 {g : cb_G} {ad : Nat → Nat} {w : cb_W} {r ci : Nat} (hs : cb_sh r = (0, ci)) : cb_en g ad w r = .inr (ci, cb_fs ad w ci r) := by
  unfold cb_en
  rw [hs]
  rfl
theorem cb_en1 {g : cb_G} {ad : Nat → Nat} {w : cb_W} {r n : Nat} (hs : cb_sh r = (1, n)) : cb_en g ad w r = .inl (g.2.2.1 1, n, .inl (w.2.1 r)) := by
  unfold cb_en
  rw [hs]
  rfl
theorem cb_en2 {g : cb_G} {ad : Nat → Nat} {w : cb_W} {r n : Nat} (hs : cb_sh r = (2, n)) : cb_en g ad w r = .inl (g.2.2.1 2, n, .inl (w.2.1 r)) := by
  unfold cb_en
  rw [hs]
  rfl
theorem cb_enR {g : cb_G} {ad : Nat → Nat} {w : cb_W} {r n kd : Nat} (hs : cb_sh r = (kd, n)) (hk : 3 ≤ kd) : cb_en g ad w r = .inl (g.2.2.1 kd, n, .inr (.inr (.inr (.inr (fun j => (w.2.2 r j).map ad))))) := by
  unfold cb_en
  rw [hs]
  rw [if_neg (by show ¬ kd = 0; omega), if_neg (by show ¬ kd ≤ 2; omega)]
theorem cb_fsat {ad : Nat → Nat} {w : cb_W} {ci r k : Nat} (hk : k < cb_nf ci) : (cb_fs ad w ci r)[k]? = some (cb_vv ad (cb_fv w ci r k)) := by
  unfold cb_fs
  rw [List.getElem?_map, List.getElem?_range hk]
  rfl
theorem cb_fslen {ad : Nat → Nat} {w : cb_W} {ci r : Nat} : (cb_fs ad w ci r).length = cb_nf ci := by
  unfold cb_fs
  rw [List.length_map, List.length_range]
theorem cb_fsset {ad : Nat → Nat} {w w' : cb_W} {ci r k : Nat} {v : Value} (hk : k < cb_nf ci) (h1 : cb_vv ad (cb_fv w' ci r k) = v) (h2 : ∀ j, j ≠ k → cb_vv ad (cb_fv w' ci r j) = cb_vv ad (cb_fv w ci r j)) : cb_fs ad w' ci r = (cb_fs ad w ci r).set k v := by
  apply List.ext_getElem?
  intro j
  by_cases hj : j = k
  · subst hj
    rw [List.getElem?_set_self (by rw [cb_fslen]; exact hk), cb_fsat hk, h1]
  · rw [List.getElem?_set_ne (Ne.symm hj)]
    by_cases hl : j < cb_nf ci
    · rw [cb_fsat hl, cb_fsat hl, h2 j hj]
    · rw [List.getElem?_eq_none (by rw [cb_fslen]; omega), List.getElem?_eq_none (by rw [cb_fslen]; omega)]
theorem cb_u2s {α : Type} {M : Nat → Nat → α} {r k : Nat} {x : α} : cb_u2 M r k x r k = x := by simp [cb_u2]
theorem cb_u2n {α : Type} {M : Nat → Nat → α} {r k q j : Nat} {x : α} (h : q ≠ r ∨ j ≠ k) : cb_u2 M r k x q j = M q j := by
  unfold cb_u2
  rcases h with h | h
  · rw [if_neg h]
  · by_cases hq : q = r
    · rw [if_pos hq, if_neg h]
    · rw [if_neg hq]
theorem cb_u2r {α : Type} {M : Nat → Nat → α} {r k q : Nat} {x : α} (h : q ≠ r) : cb_u2 M r k x q = M q := funext fun _ => cb_u2n (Or.inl h)
section CBM
variable {κ : cb_K} {cc : ByteArray} {nL : Nat} {own : String} {R : Room} {w : cb_W} {ca sl pc : Nat} {lv : List (Option cb_V)} {st : List cb_V}
theorem cb_get (O : cb_Ok κ cc nL own R) {idx ci k r : Nat} (hf : cb_FL own idx ci k) (hr : w.1 r = true) (hs : cb_sh r = (0, ci)) (hd : decode cc pc = .ok (.getfield idx, 3)) (kk : cb_X κ w ca sl (pc + 3) lv (cb_fv w ci r k :: st)) : cb_X κ w ca sl pc lv (.inr (some r) :: st) := by
  intro ad H locs ls hW hk hS hl
  have hW0 := hW
  obtain ⟨L, hL, hP, hD, hq, hro⟩ := hW
  obtain ⟨i, hi, he⟩ := cb_pos (g := κ.2.2.1.1) (ad := ad) hL hr
  rw [cb_en0 hs] at he
  obtain ⟨hkn, ⟨hci, hws, hty, hnm⟩, hlk⟩ := hf
  obtain ⟨hx, hb, hml, hown, hts, hE, -⟩ := O
  rcases hlk with hlk | ⟨host, hlk⟩
  · exact va_get hx hb hts hws hown hE.1 hP i he (cb_clat hci) k hkn (hts _ hlk) (fun _ h => h) (cb_fsat hkn) hd (kk ad H locs ls hW0 hk hS hl)
  · exact va_getN hx hb hts hws hown hE.1 hP i he (cb_clat hci) k hkn (va_Nw.use rfl (hE.2.2.1 _ hlk)) (fun _ h => h) (cb_fsat hkn) hd (kk ad H locs ls hW0 hk hS hl)
theorem cb_getI (O : cb_Ok κ cc nL own R) {idx ci k r : Nat} (hf : cb_FL own idx ci k) (hi : cb_ir ci k = false) (hs : cb_sh r = (0, ci)) (hd : decode cc pc = .ok (.getfield idx, 3)) (hr : w.1 r = true) (kk : cb_X κ w ca sl (pc + 3) lv (.inl (w.2.1 r k) :: st)) : cb_X κ w ca sl pc lv (.inr (some r) :: st) := by
  refine cb_get O hf hr hs hd ?_
  rw [cb_fv, if_neg (by rw [hi]; decide)]
  exact kk
theorem cb_getR (O : cb_Ok κ cc nL own R) {idx ci k r q : Nat} (hf : cb_FL own idx ci k) (hi : cb_ir ci k = true) (hs : cb_sh r = (0, ci)) (hd : decode cc pc = .ok (.getfield idx, 3)) (hr : w.1 r = true) (hq : w.2.2 r k = some q) (kk : cb_X κ w ca sl (pc + 3) lv (.inr (some q) :: st)) : cb_X κ w ca sl pc lv (.inr (some r) :: st) := by
  refine cb_get O hf hr hs hd ?_
  rw [cb_fv, if_pos hi, hq]
  exact kk
theorem cb_putC (O : cb_Ok κ cc nL own R) {idx ci k r : Nat} {w' : cb_W} {v : cb_V} (hf : cb_FL own idx ci k) (hfin : (cb_T ci k).2.2.2 = false ∨ ((cb_T ci k).2.2.2 = true ∧ κ.2.1.2.2.2.1.name = "<init>" ∧ (cb_T ci k).1 = own ∧ Cond.fieldLink own idx (cb_T ci k).1 (cb_T ci k).2.1 (cb_T ci k).2.2.1 ∈ cb_gw)) (hr : w.1 r = true) (hs : cb_sh r = (0, ci)) (hd : decode cc pc = .ok (.putfield idx, 3))
    (hn : ∀ ad, narrow (cb_tt ci k) (cb_vv ad v) = cb_vv ad v) (hft : ∀ ad, fits (cb_tt ci k) (cb_vv ad v) = true)
    (hv : ∀ ad, cb_vv ad (cb_fv w' ci r k) = cb_vv ad v) (hv2 : ∀ ad j, j ≠ k → cb_vv ad (cb_fv w' ci r j) = cb_vv ad (cb_fv w ci r j)) (ho : ∀ q, q ≠ r → w.2.1 q = w'.2.1 q ∧ w.2.2 q = w'.2.2 q) (hlive : w.1 = w'.1) (hrr : ∀ j q, w'.2.2 r j = some q → w.1 q = true ∨ w.2.2 r j = some q)
    (kk : cb_X κ w' ca sl (pc + 3) lv st) : cb_X κ w ca sl pc lv (v :: .inr (some r) :: st) := by
  intro ad H locs ls hW hk hS hl
  obtain ⟨L, hL, hP, hD, hq, hro⟩ := hW
  obtain ⟨i, hi, he⟩ := cb_pos (g := κ.2.2.1.1) (ad := ad) hL hr
  rw [cb_en0 hs] at he
  obtain ⟨hkn, ⟨hci, hws, hty, hnm⟩, hlk⟩ := hf
  obtain ⟨hx, hb, hml, hown, hts, hE, -⟩ := O
  have hset : (cb_ls κ.2.2.1.1 ad w L).set i (ad r, .inr (ci, (cb_fs ad w ci r).set k (cb_vv ad v))) = cb_ls κ.2.2.1.1 ad w' L :=
    cb_set hD hi (by rw [cb_en0 hs, cb_fsset hkn (hv ad) (hv2 ad)]) (fun q hq' => cb_enc (ho q hq').1 (fun k' => by rw [(ho q hq').2]))
  have fin : ∀ (H1 : Heap) (locs1 : List Loc), va_P (κ.2.2.1.1.1, κ.2.2.1.1.2.1) cb_cl ((cb_ls κ.2.2.1.1 ad w L).set i (ad r, .inr (ci, (cb_fs ad w ci r).set k (cb_vv ad v)))) H1 → va_D (cb_A κ.2.2.1.2) ((cb_ls κ.2.2.1.1 ad w L).set i (ad r, .inr (ci, (cb_fs ad w ci r).set k (cb_vv ad v)))) → va_S (cb_A κ.2.2.1.2) κ.1.2.2.2.2.heap H1 locs1 → W κ.1.1 κ.1.2.1 κ.1.2.2.1 κ.1.2.2.2.1 κ.1.2.2.2.2 κ.2.1.1 κ.2.1.2.1 κ.2.1.2.2.1 κ.2.1.2.2.2.1 κ.2.1.2.2.2.2 H1 locs1 ca sl κ.2.2.2.2.2 (F0 κ.2.1.1 (pc + 3) ls (st.map (cb_vv ad))) := by
    intro H1 locs1 hP1 hD1 hS1
    rw [hset] at hP1 hD1
    refine kk ad H1 locs1 ls ⟨L, fun q => by rw [← hlive]; exact hL q, hP1, hD1, fun a ha j q hjq => ?_, fun j hj => by rw [← hlive]; exact hro j hj⟩ hk hS1 hl
    rw [← hlive] at ha ⊢
    by_cases har : a = r
    · subst har
      rcases hrr j q hjq with h | h
      · exact h
      · exact hq a ha j q h
    · rw [← (ho a har).2] at hjq
      exact hq a ha j q hjq
  rcases hfin with hfin | ⟨hfin, hin, hdecl, hlk2⟩
  · rcases hlk with hlk | ⟨host, hlk⟩
    · exact va_put hx hb hts hws (cb_tt ci) hty hnm hown hE.1 hP hD hS i he (cb_clat hci) k hkn (hts _ hlk) (fun _ h => h) hfin (hty k hkn) (hn ad) (hft ad) (by rw [cb_fslen]; exact hkn) hd fin
    · exact va_putN hx hb hts hws (cb_tt ci) hty hnm hown hE.1 hP hD hS i he (cb_clat hci) k hkn (va_Nw.use rfl (hE.2.2.1 _ hlk)) (fun _ h => h) hfin (hty k hkn) (hn ad) (hft ad) (by rw [cb_fslen]; exact hkn) hd fin
  · exact va_putF hx hb hts hws (cb_tt ci) hty hnm hown hE.1 hP hD hS i he (cb_clat hci) k hkn (hts _ hlk2) (fun _ h => h) hfin hin hdecl (hty k hkn) (hn ad) (hft ad) (by rw [cb_fslen]; exact hkn) hd fin
theorem cb_putIc (O : cb_Ok κ cc nL own R) {idx ci k r : Nat} {x : Int32} (hf : cb_FL own idx ci k) (hfin : (cb_T ci k).2.2.2 = false ∨ ((cb_T ci k).2.2.2 = true ∧ κ.2.1.2.2.2.1.name = "<init>" ∧ (cb_T ci k).1 = own ∧ Cond.fieldLink own idx (cb_T ci k).1 (cb_T ci k).2.1 (cb_T ci k).2.2.1 ∈ cb_gw)) (hi : cb_ir ci k = false) (hs : cb_sh r = (0, ci)) (hd : decode cc pc = .ok (.putfield idx, 3)) (hn : narrow (cb_tt ci k) (.int x) = .int x) (hft : fits (cb_tt ci k) (.int x) = true) (hr : w.1 r = true)
    (kk : cb_X κ (cb_um w r k x) ca sl (pc + 3) lv st) : cb_X κ w ca sl pc lv (.inl x :: .inr (some r) :: st) := by
  refine cb_putC O (w' := cb_um w r k x) (v := .inl x) hf hfin hr hs hd (fun _ => hn) (fun _ => hft) (fun ad => ?_) (fun ad j hj => ?_) (fun q hq => ⟨?_, rfl⟩) rfl (fun j q h => Or.inr h) kk
  · rw [cb_fv, if_neg (by rw [hi]; decide)]
    show Value.int (cb_u2 w.2.1 r k x r k) = Value.int x
    rw [cb_u2s]
  · unfold cb_fv
    by_cases h : cb_ir ci j = true
    · rw [if_pos h, if_pos h]; rfl
    · rw [if_neg h, if_neg h]
      show Value.int (cb_u2 w.2.1 r k x r j) = Value.int (w.2.1 r j)
      rw [cb_u2n (Or.inr hj)]
  · show w.2.1 q = cb_u2 w.2.1 r k x q
    rw [cb_u2r hq]
theorem cb_putRc (O : cb_Ok κ cc nL own R) {idx ci k r q : Nat} (hf : cb_FL own idx ci k) (hfin : (cb_T ci k).2.2.2 = false ∨ ((cb_T ci k).2.2.2 = true ∧ κ.2.1.2.2.2.1.name = "<init>" ∧ (cb_T ci k).1 = own ∧ Cond.fieldLink own idx (cb_T ci k).1 (cb_T ci k).2.1 (cb_T ci k).2.2.1 ∈ cb_gw)) (hi : cb_ir ci k = true) (hs : cb_sh r = (0, ci)) (hd : decode cc pc = .ok (.putfield idx, 3)) (hn : ∀ a, narrow (cb_tt ci k) (.ref a) = .ref a) (hft : ∀ a, fits (cb_tt ci k) (.ref a) = true) (hr : w.1 r = true) (hq : w.1 q = true)
    (kk : cb_X κ (cb_ur w r k (some q)) ca sl (pc + 3) lv st) : cb_X κ w ca sl pc lv (.inr (some q) :: .inr (some r) :: st) := by
  refine cb_putC O (w' := cb_ur w r k (some q)) (v := .inr (some q)) hf hfin hr hs hd (fun ad => hn (ad q)) (fun ad => hft (ad q)) (fun ad => ?_) (fun ad j hj => ?_) (fun q' hq' => ⟨rfl, ?_⟩) rfl (fun j q' h => ?_) kk
  · rw [cb_fv, if_pos hi]
    show va_rf ((cb_u2 w.2.2 r k (some q) r k).map ad) = va_rf ((some q).map ad)
    rw [cb_u2s]
  · unfold cb_fv
    by_cases h : cb_ir ci j = true
    · rw [if_pos h, if_pos h]
      show va_rf ((cb_u2 w.2.2 r k (some q) r j).map ad) = va_rf ((w.2.2 r j).map ad)
      rw [cb_u2n (Or.inr hj)]
    · rw [if_neg h, if_neg h]; rfl
  · show w.2.2 q' = cb_u2 w.2.2 r k (some q) q'
    rw [cb_u2r hq']
  · by_cases hj : j = k
    · subst hj
      have h2 : cb_u2 w.2.2 r j (some q) r j = some q' := h
      rw [cb_u2s] at h2
      cases h2
      exact Or.inl hq
    · have h2 : cb_u2 w.2.2 r k (some q) r j = some q' := h
      rw [cb_u2n (Or.inr hj)] at h2
      exact Or.inr h2
theorem cb_ty0 (g : cb_G) : (cb_ty g)[0]? = some (g.2.2.1 1, .int) := rfl
theorem cb_ty1 (g : cb_G) : (cb_ty g)[1]? = some (g.2.2.1 2, .boolean) := rfl
theorem cb_iald (O : cb_Ok κ cc nL own R) {r n : Nat} {i : Int32} (j : Nat) (hs : cb_sh r = (1, n)) (hd : decode cc pc = .ok (.iaload, 1)) (hn : n < 2147483648) (hr : w.1 r = true) (hi : i = nI j) (hj : j < n) (kk : cb_X κ w ca sl (pc + 1) lv (.inl (w.2.1 r j) :: st)) : cb_X κ w ca sl pc lv (.inl i :: .inr (some r) :: st) := by
  intro ad H locs ls hW hk hS hl
  have hW0 := hW
  obtain ⟨L, hL, hP, hD, hq, hro⟩ := hW
  obtain ⟨p, hp, he⟩ := cb_pos (g := κ.2.2.1.1) (ad := ad) hL hr
  rw [cb_en1 hs] at he
  obtain ⟨hx, hb, hml, hown, hts, hE, -⟩ := O
  subst hi
  refine va_iald hx hb hE.1 hP p 0 he (cb_ty0 _) (vp_in_nI hj hn) hd ?_
  rw [nI_clamp (by omega)]
  exact kk ad H locs ls hW0 hk hS hl
theorem cb_zald (O : cb_Ok κ cc nL own R) {r n : Nat} {i : Int32} (j : Nat) (hs : cb_sh r = (2, n)) (hd : decode cc pc = .ok (.baload, 1)) (hn : n < 2147483648) (hr : w.1 r = true) (hi : i = nI j) (hj : j < n) (kk : cb_X κ w ca sl (pc + 1) lv (.inl (w.2.1 r j) :: st)) : cb_X κ w ca sl pc lv (.inl i :: .inr (some r) :: st) := by
  intro ad H locs ls hW hk hS hl
  have hW0 := hW
  obtain ⟨L, hL, hP, hD, hq, hro⟩ := hW
  obtain ⟨p, hp, he⟩ := cb_pos (g := κ.2.2.1.1) (ad := ad) hL hr
  rw [cb_en2 hs] at he
  obtain ⟨hx, hb, hml, hown, hts, hE, -⟩ := O
  subst hi
  refine va_zald hx hb hE.1 hP p 1 he (cb_ty1 _) (vp_in_nI hj hn) hd ?_
  rw [nI_clamp (by omega)]
  exact kk ad H locs ls hW0 hk hS hl
theorem cb_arrW {g : cb_G} {z : Nat} {ad : Nat → Nat} {H1 : Heap} {L : List Nat} {r j : Nat} {x : Int32} {e : va_E} {p : Nat} (hL : ∀ r, r ∈ L ↔ w.1 r = true) (hD : va_D (cb_A z) (cb_ls g ad w L)) (hq : ∀ r, w.1 r = true → ∀ k q, w.2.2 r k = some q → w.1 q = true) (hro : ∀ j, j < 4 → ad (900 + j) = g.2.2.2.1 j ∧ w.1 (900 + j) = false) (hp : L[p]? = some r) (he : cb_en g ad (cb_um w r j x) r = e) (hP1 : va_P (g.1, g.2.1) cb_cl ((cb_ls g ad w L).set p (ad r, e)) H1) (hD1 : va_D (cb_A z) ((cb_ls g ad w L).set p (ad r, e))) : cb_Wo g z ad (cb_um w r j x) H1 := by
  have hset : (cb_ls g ad w L).set p (ad r, e) = cb_ls g ad (cb_um w r j x) L := cb_set hD hp he (fun q hq' => cb_enc (by show w.2.1 q = cb_u2 w.2.1 r j x q; rw [cb_u2r hq']) (fun _ => rfl))
  rw [hset] at hP1 hD1
  exact ⟨L, hL, hP1, hD1, hq, hro⟩
theorem cb_upd {M : Nat → Nat → Int32} {r j : Nat} {x : Int32} : cb_u2 M r j x r = upd (M r) j x := by
  funext k
  simp [cb_u2, upd]
theorem cb_iast (O : cb_Ok κ cc nL own R) {r n : Nat} {i x : Int32} (j : Nat) (hs : cb_sh r = (1, n)) (hd : decode cc pc = .ok (.iastore, 1)) (hn : n < 2147483648) (hr : w.1 r = true) (hi : i = nI j) (hj : j < n) (kk : cb_X κ (cb_um w r j x) ca sl (pc + 1) lv st) : cb_X κ w ca sl pc lv (.inl x :: .inl i :: .inr (some r) :: st) := by
  intro ad H locs ls hW hk hS hl
  obtain ⟨L, hL, hP, hD, hq, hro⟩ := hW
  obtain ⟨p, hp, he⟩ := cb_pos (g := κ.2.2.1.1) (ad := ad) hL hr
  rw [cb_en1 hs] at he
  obtain ⟨hx, hb, hml, hown, hts, hE, -⟩ := O
  subst hi
  refine va_iast hx hb hE.1 hP hD hS p 0 he (cb_ty0 _) (vp_in_nI hj hn) hd (fun H1 locs1 hP1 hD1 hS1 => ?_)
  rw [nI_clamp (by omega)] at hP1 hD1
  exact kk ad H1 locs1 ls (cb_arrW hL hD hq hro hp (by rw [cb_en1 hs]; show _ = Sum.inl (_, _, Sum.inl _); rw [← cb_upd]; rfl) hP1 hD1) hk hS1 hl
theorem cb_zast (O : cb_Ok κ cc nL own R) {r n : Nat} {i x : Int32} (j : Nat) (hs : cb_sh r = (2, n)) (hd : decode cc pc = .ok (.bastore, 1)) (hn : n < 2147483648) (hr : w.1 r = true) (hi : i = nI j) (hj : j < n) (hxn : vp_nar .boolean x = x) (kk : cb_X κ (cb_um w r j x) ca sl (pc + 1) lv st) : cb_X κ w ca sl pc lv (.inl x :: .inl i :: .inr (some r) :: st) := by
  intro ad H locs ls hW hk hS hl
  obtain ⟨L, hL, hP, hD, hq, hro⟩ := hW
  obtain ⟨p, hp, he⟩ := cb_pos (g := κ.2.2.1.1) (ad := ad) hL hr
  rw [cb_en2 hs] at he
  obtain ⟨hx, hb, hml, hown, hts, hE, -⟩ := O
  subst hi
  refine va_zast hx hb hE.1 hP hD hS p 1 he (cb_ty1 _) (vp_in_nI hj hn) hd (fun H1 locs1 hP1 hD1 hS1 => ?_)
  rw [nI_clamp (by omega), hxn] at hP1 hD1
  exact kk ad H1 locs1 ls (cb_arrW hL hD hq hro hp (by rw [cb_en2 hs]; show _ = Sum.inl (_, _, Sum.inl _); rw [← cb_upd]; rfl) hP1 hD1) hk hS1 hl
theorem cb_tyR {g : cb_G} {kd : Nat} {s : State} {z : Nat} (hE : cb_Ev g z s) (h : 3 ≤ kd) (h2 : kd ≤ 5) : ∃ ty : FieldType, (cb_ty g)[kd - 1]? = some (g.2.2.1 kd, ty) ∧ ty.isReference = true := by
  rcases (show kd = 3 ∨ kd = 4 ∨ kd = 5 by omega) with rfl | rfl | rfl
  · exact ⟨_, rfl, rfl⟩
  · exact ⟨_, rfl, rfl⟩
  · exact ⟨_, rfl, rfl⟩
end CBM

def cb_gw : List Cond := lw_tbl.filter goodWord
theorem cb_mem {w : Cond} (i : Nat) (h : lw_tbl[i]? = some w) (hg : goodWord w = true) : w ∈ cb_gw := List.mem_filter.mpr ⟨List.mem_of_getElem? h, hg⟩
theorem cb_good {w : Cond} (h : w ∈ cb_gw) : (w.onTables && w.keeps) = true ∨ ∃ ty, w = .arrayClass ty := good_of_word (List.mem_filter.mp h).2
theorem cb_gin {w : Cond} (h : w ∈ cb_gw) : GoodIn cb_gw (w :: cb_gw) := by
  intro v hv
  rcases List.mem_cons.mp hv with rfl | hv
  · exact ⟨h, cb_good h⟩
  · exact ⟨hv, cb_good hv⟩
def cb_isN : Cond → Bool
  | .fieldLinkNest _ _ _ _ _ _ => true
  | .methodLinkNest _ _ _ _ => true
  | _ => false
def cb_nw : List Cond := lw_tbl.filter cb_isN
theorem cb_nmem {w : Cond} (i : Nat) (h : lw_tbl[i]? = some w) (hg : cb_isN w = true) : w ∈ cb_nw := List.mem_filter.mpr ⟨List.mem_of_getElem? h, hg⟩
def cb_Nw (U : State) : Prop := ∀ w ∈ cb_nw, va_Nw w U
theorem cb_Nw.warm {s U : State} (hW : s.WarmedH U.vm) (h : cb_Nw s) : cb_Nw U := by
  intro w hw
  have h1 := h w hw
  have h2 := (List.mem_filter.mp hw).2
  cases w <;> first | (exact va_Nw.warmF hW h1) | (exact va_Nw.warmM hW h1) | (exact absurd h2 (by simp [cb_isN]))
def cb_AOA (U : State) : Prop := (Cond.arrayOver (.array .int)).before #[] U = true
abbrev cb_V : Type := Int32 ⊕ Option Nat
abbrev cb_W : Type := (Nat → Bool) × (Nat → Nat → Int32) × (Nat → Nat → Option Nat)
abbrev cb_G : Type := (Nat → ClassId) × (Nat → Nat → Nat) × (Nat → ClassId) × (Nat → Nat) × Nat × (Nat → Int32)
def cb_vv (ad : Nat → Nat) (v : cb_V) : Value := match v with
  | .inl x => .int x
  | .inr r => va_rf (r.map ad)
def cb_cl : List vw_C := [(RX0, TX0, 4), (RX1, TX1, 10), (RX2, TX2, 5), (RX3, TX3, 2), (RX4, TX4, 4), (RX5, TX5, 2), (RX6, TX6, 3), (RX7, TX7, 2), (RX8, TX8, 4), (RX9, TX9, 6), (RX10, TX10, 12), (RX11, TX11, 41)]
def cb_nf (ci : Nat) : Nat := ([4, 10, 5, 2, 4, 2, 3, 2, 4, 6, 12, 41] : List Nat).getD ci 0
def cb_tt (ci : Nat) : Nat → FieldType := match ci with
  | 0 => tyX0
  | 1 => tyX1
  | 2 => tyX2
  | 3 => tyX3
  | 4 => tyX4
  | 5 => tyX5
  | 6 => tyX6
  | 7 => tyX7
  | 8 => tyX8
  | 9 => tyX9
  | 10 => tyX10
  | _ => tyX11
def cb_ir (ci k : Nat) : Bool := match cb_tt ci k with
  | .int => false
  | .boolean => false
  | _ => true
def cb_sh (r : Nat) : Nat × Nat :=
  if r < 46 then ([(0, 10), (0, 4), (0, 5), (3, 20), (4, 200), (1, 8), (0, 8), (0, 7), (5, 10), (1, 10), (5, 10), (5, 10), (1, 16), (5, 6), (0, 3), (1, 5), (1, 16), (9, 0), (9, 0), (9, 0), (0, 1), (1, 64), (1, 64), (1, 8), (1, 64), (1, 64), (0, 6), (1, 16), (9, 0), (9, 0), (0, 1), (1, 64), (1, 64), (1, 8), (1, 64), (1, 64), (0, 6), (1, 16), (9, 0), (9, 0), (0, 0), (9, 0), (0, 3), (1, 5), (0, 3), (1, 5)] : List (Nat × Nat)).getD r (9, 0)
  else if r < 100 then (9, 0)
  else if r < 110 then (1, 16)
  else if r < 130 then (1, 10)
  else if r < 136 then (1, 16)
  else if r < 200 then (9, 0)
  else if r < 320 then (if (r - 200) % 6 = 0 then (0, 9) else (1, 64))
  else if r < 400 then (9, 0)
  else if r < 600 then (0, 2)
  else if r < 1000 then (9, 0)
  else ([(0, 11), (9, 0), (9, 0), (1, 160), (1, 10), (2, 100), (1, 100), (9, 0), (9, 0), (9, 0), (2, 64), (1, 64), (2, 8), (9, 0), (1, 64), (1, 1280), (1, 1280), (1, 1280), (1, 1280), (1, 1280), (2, 20), (9, 0), (1, 200), (1, 200), (1, 200), (1, 200), (1, 200), (9, 0), (1, 8), (9, 0), (9, 0), (1, 16), (1, 5), (1, 5), (9, 0), (1, 16), (1, 5), (9, 0), (9, 0), (9, 0), (9, 0), (9, 0)] : List (Nat × Nat)).getD (r - 1000) (9, 0)
def cb_fv (w : cb_W) (ci r k : Nat) : cb_V := if cb_ir ci k = true then .inr (w.2.2 r k) else .inl (w.2.1 r k)
def cb_fs (ad : Nat → Nat) (w : cb_W) (ci r : Nat) : List Value := (List.range (cb_nf ci)).map (fun k => cb_vv ad (cb_fv w ci r k))
def cb_en (g : cb_G) (ad : Nat → Nat) (w : cb_W) (r : Nat) : va_E :=
  if (cb_sh r).1 = 0 then .inr ((cb_sh r).2, cb_fs ad w (cb_sh r).2 r)
  else if (cb_sh r).1 ≤ 2 then .inl (g.2.2.1 (cb_sh r).1, (cb_sh r).2, .inl (w.2.1 r))
  else .inl (g.2.2.1 (cb_sh r).1, (cb_sh r).2, .inr (.inr (.inr (.inr (fun j => (w.2.2 r j).map ad)))))
def cb_ls (g : cb_G) (ad : Nat → Nat) (w : cb_W) (L : List Nat) : va_W := L.map (fun r => (ad r, cb_en g ad w r))
def cb_A (z : Nat) : Nat → Prop := fun q => z ≤ q
def cb_Wo (g : cb_G) (z : Nat) (ad : Nat → Nat) (w : cb_W) (H : Heap) : Prop :=
  ∃ L : List Nat, (∀ r, r ∈ L ↔ w.1 r = true) ∧ va_P (g.1, g.2.1) cb_cl (cb_ls g ad w L) H ∧ va_D (cb_A z) (cb_ls g ad w L) ∧ (∀ r, w.1 r = true → ∀ k q, w.2.2 r k = some q → w.1 q = true) ∧ (∀ j, j < 4 → ad (900 + j) = g.2.2.2.1 j ∧ w.1 (900 + j) = false)
def cb_ty (g : cb_G) : List (ClassId × FieldType) := [(g.2.2.1 1, .int), (g.2.2.1 2, .boolean), (g.2.2.1 3, .object "CutBoard$Sheet"), (g.2.2.1 4, .object "CutBoard$Entry"), (g.2.2.1 5, .array .int)]
def cb_ro (g : cb_G) (j : Nat) : Nat × (Nat → Int32) := match j with
  | 0 => (5, fun k => ([0xAAAAAAAA, 0xCCCCCCCC, 0xF0F0F0F0, 0xFF00FF00, 0xFFFF0000] : List Int32).getD k 0)
  | 1 => (4, fun k => ([-1, 1, 0, 0] : List Int32).getD k 0)
  | 2 => (4, fun k => ([0, 0, -1, 1] : List Int32).getD k 0)
  | _ => (g.2.2.2.2.1, g.2.2.2.2.2)
def cb_Ev (g : cb_G) (z : Nat) (U : State) : Prop :=
  va_K (g.1, g.2.1) cb_cl (cb_ty g) U ∧ z ≤ U.heap.size ∧ cb_Nw U ∧ va_AO "CutBoard$Sheet" U ∧ va_AO "CutBoard$Entry" U ∧ cb_AOA U ∧
  va_Z "CutBoard$RowSearch" "HOLDING" "[I" (.ref (g.2.2.2.1 0)) (cb_A z) U U.heap ∧ va_Z "CutBoard$Board" "ROW_STEPS" "[I" (.ref (g.2.2.2.1 1)) (cb_A z) U U.heap ∧ va_Z "CutBoard$Board" "COLUMN_STEPS" "[I" (.ref (g.2.2.2.1 2)) (cb_A z) U U.heap ∧
  (∀ j, j < 4 → va_T .int (g.2.2.2.1 j) (cb_ro g j).1 (fun k => .int ((cb_ro g j).2 k)) (cb_A z) U U.heap)
def cb_lh (ad : Nat → Nat) (ls : Array Slot) (n : Nat) (lv : List (Option cb_V)) : Prop := ls.size = n ∧ lv_wf ls ∧ ∀ (i : Nat) (v : cb_V), lv[i]? = some (some v) → ls[i]? = some (Slot.val (cb_vv ad v))
abbrev cb_K : Type := (Program × Launch × Env × Room × State) × (MethodId × Array Value × List Frame × Method × Code) × (cb_G × Nat) × ((Nat → Nat) × (Nat → Bool) × (State → Prop))
def cb_X (κ : cb_K) (w : cb_W) (ca sl pc : Nat) (lv : List (Option cb_V)) (st : List cb_V) : Prop :=
  ∀ (ad : Nat → Nat) (H : Heap) (locs : List Loc) (ls : Array Slot), cb_Wo κ.2.2.1.1 κ.2.2.1.2 ad w H → (∀ q, κ.2.2.2.2.1 q = true → ad q = κ.2.2.2.1 q) → va_S (cb_A κ.2.2.1.2) κ.1.2.2.2.2.heap H locs → cb_lh ad ls κ.2.1.2.2.2.2.maxLocals lv →
    W κ.1.1 κ.1.2.1 κ.1.2.2.1 κ.1.2.2.2.1 κ.1.2.2.2.2 κ.2.1.1 κ.2.1.2.1 κ.2.1.2.2.1 κ.2.1.2.2.2.1 κ.2.1.2.2.2.2 H locs ca sl κ.2.2.2.2.2 (F0 κ.2.1.1 pc ls (st.map (cb_vv ad)))
def cb_Ok (κ : cb_K) (cc : ByteArray) (nL : Nat) (own : String) (R : Room) : Prop :=
  κ.1.1.tables.exec = Jvm.exec ∧ κ.2.1.2.2.2.2.code = cc ∧ κ.2.1.2.2.2.2.maxLocals = nL ∧ κ.1.2.2.2.2.vm.findClass own = some κ.2.1.1.cls ∧ (∀ w ∈ cb_gw, w.before κ.2.1.2.1 κ.1.2.2.2.2 = true) ∧ cb_Ev κ.2.2.1.1 κ.2.2.1.2 κ.1.2.2.2.2 ∧ κ.1.2.2.2.1 = R ∧ κ.2.1.2.2.2.1.locks = false
def cb_Qt (g : cb_G) (z : Nat) (ad0 : Nat → Nat) (keep : Nat → Bool) (post : Option Int32 → cb_W → Prop) : Array Value → State → Outcome → State → Prop := fun _ st o t =>
  (∃ (r : Option Int32) (w : cb_W) (ad : Nat → Nat), o = .returned (r.map Value.int) ∧ post r w ∧ (∀ q, keep q = true → ad q = ad0 q) ∧ cb_Wo g z ad w t.heap) ∧ va_F (cb_A z) st t
def cb_Pc (g : cb_G) (z : Nat) (ad : Nat → Nat) (As : List cb_V) (w : cb_W) : Array Value → State → Prop := fun v U => v = (As.map (cb_vv ad)).toArray ∧ cb_Wo g z ad w U.heap ∧ cb_Ev g z U
def cb_Rt (κ : cb_K) (keep : Nat → Bool) (post : Option Int32 → cb_W → Prop) (mc ms : Nat) (ret : Option FieldType) : Prop :=
  κ.2.2.2.2.2 = MQ κ.2.1.2.2.1 (cb_Qt κ.2.2.1.1 κ.2.2.1.2 κ.2.2.2.1 κ.2.2.2.2.1 post) κ.2.1.2.1 κ.1.2.2.2.2 mc ms (cb_A κ.2.2.1.2) ∧ κ.2.1.2.2.2.1.sig.returnType = ret ∧ κ.2.2.2.2.1 = keep
def cb_rm (fr mc ms lo : Nat) : Room := { frames := fr, cells := mc, slots := ms, locals := lo }
def cb_Con (y : MethodName) (cc : ByteArray) (maxL : Nat) (ret : Option FieldType) (fr lo mc ms : Nat) (keep : Nat → Bool) (As : List cb_V) (w : cb_W) (post : Option Int32 → cb_W → Prop) : Prop :=
  ∀ (g : cb_G) (z : Nat) (l : Launch) (ad : Nat → Nat), Met l y (.code y cc maxL ret :: cb_gw) (cb_rm fr mc ms lo) (cb_Pc g z ad As w) (cb_Qt g z ad keep post) mc ms (cb_A z)
theorem cb_cat (ad : Nat → Nat) (v : cb_V) : (cb_vv ad v).category = 1 := by
  rcases v with x | r
  · rfl
  · cases r <;> rfl
theorem cb_slen (ad : Nat → Nat) : ∀ As : List cb_V, (lg_sl (As.map (cb_vv ad))).length = As.length
  | [] => rfl
  | a :: As => by
    have h := cb_slen ad As
    simp only [lg_sl] at h
    simp only [lg_sl, List.map_cons, List.flatMap_cons, cb_cat, List.length_append, List.length_cons, h]
    simp; omega
theorem cb_args (ad : Nat → Nat) : ∀ (As : List cb_V) (j i : Nat) (v : cb_V), As[i]? = some v → (j + i, cb_vv ad v) ∈ lv_args j (As.map (cb_vv ad))
  | [], j, i, v, h => by simp at h
  | a :: As, j, 0, v, h => by
    simp at h
    subst h
    simp [lv_args]
  | a :: As, j, i + 1, v, h => by
    simp at h
    have h2 := cb_args ad As (j + 1) i v h
    simp only [List.map_cons, lv_args, cb_cat]
    rw [show j + (i + 1) = j + 1 + i by omega]
    exact List.mem_cons_of_mem _ h2
def cb_l0 (As : List cb_V) (n : Nat) : List (Option cb_V) := As.map some ++ List.replicate (n - As.length) none
theorem cb_entry (ad : Nat → Nat) (As : List cb_V) {n : Nat} (h : As.length ≤ n) : cb_lh ad ((lg_sl (As.map (cb_vv ad)) ++ List.replicate (n - (lg_sl (As.map (cb_vv ad))).length) Slot.unset).toArray) n (cb_l0 As n) := by
  obtain ⟨h1, h2, h3⟩ := lv_entry (As.map (cb_vv ad)) (n := n) (by rw [cb_slen]; exact h)
  refine ⟨h1, h2, fun i v hv => ?_⟩
  have hi : As[i]? = some v := by
    unfold cb_l0 at hv
    by_cases hl : i < As.length
    · rw [List.getElem?_append_left (by simpa using hl), List.getElem?_map] at hv
      cases ha : As[i]? with
      | none => rw [ha] at hv; cases hv
      | some a => rw [ha] at hv; simp at hv; rw [hv]
    · rw [List.getElem?_append_right (by simpa using hl)] at hv
      have := List.eq_of_mem_replicate (List.mem_of_getElem? hv)
      cases this
  have := h3 _ (cb_args ad As 0 i v hi)
  simpa using this
theorem cb_con {y : MethodName} {cc : ByteArray} {maxL : Nat} {ret : Option FieldType} {fr lo mc ms : Nat} {keep : Nat → Bool} {As : List cb_V} {w : cb_W} {post : Option Int32 → cb_W → Prop} (hy : plainName y.cls = true) (hn : As.length ≤ maxL)
    (body : ∀ κ : cb_K, cb_Ok κ cc maxL y.cls (cb_rm fr mc ms lo) → cb_Rt κ keep post mc ms ret → κ.2.1.2.2.2.1.name = y.name → cb_X κ w 0 0 0 (cb_l0 As maxL) []) : cb_Con y cc maxL ret fr lo mc ms keep As w post := by
  intro g z l ad
  refine Met.ofW (cc := cc) (maxL := maxL) (ret := ret) hy rfl ?_
  intro p e s m args below meth c s₁ B hml hv
  obtain ⟨rfl, hW, hE⟩ := hv
  have hts := atoms_spec (ws := .code y cc maxL ret :: cb_gw) B.pre
  have h := body ((p, l, e, (headSpec (.code y cc maxL ret :: cb_gw) (cb_rm fr mc ms lo)).room, s), (m, (As.map (cb_vv ad)).toArray, below, meth, c), (g, z), (ad, keep, MQ below (cb_Qt g z ad keep post) (As.map (cb_vv ad)).toArray s mc ms (cb_A z)))
    ⟨B.exec, B.bytes, hml, findClass_of_methodNamed B.named, fun w hw => hts w (List.mem_cons_of_mem _ hw), hE, rfl, B.notSynchronized⟩ ⟨rfl, B.returns, rfl⟩ (name_of_methodNamed B.named B.method).1
    ad s.heap [] ((lg_sl (As.map (cb_vv ad)) ++ List.replicate (maxL - (lg_sl (As.map (cb_vv ad))).length) Slot.unset).toArray) hW (fun _ _ => rfl) va_S.rf (by rw [hml]; exact cb_entry ad As hn)
  rw [lg_entry_eq]
  exact h
theorem cb_iret {κ : cb_K} {cc : ByteArray} {nL : Nat} {own : String} {R : Room} {keep : Nat → Bool} {post : Option Int32 → cb_W → Prop} {mc ms : Nat} {ty : FieldType} {w : cb_W} {ca sl pc : Nat} {lv : List (Option cb_V)} {v : Int32} (O : cb_Ok κ cc nL own R) (Rt : cb_Rt κ keep post mc ms (some ty)) (hn : narrow ty (.int v) = .int v) (h1 : ca ≤ mc) (h2 : sl ≤ ms) (hd : decode cc pc = .ok (.ireturn, 1)) (hp : post (some v) w) : cb_X κ w ca sl pc lv [.inl v] := by
  intro ad H locs ls hW hk hS hl
  obtain ⟨hx, hb, hml, hown, hts, hE, hR, hlk⟩ := O
  rw [Rt.1]
  refine W.widen h1 h2 ?_
  exact W.zret (v := v) hx hb Rt.2.1 hn (fun t ht hw => ⟨⟨some v, w, ad, rfl, hp, hk, by rw [ht]; exact hW⟩, hS.F ht⟩) hS.2.2 hd hlk
theorem cb_vret {κ : cb_K} {cc : ByteArray} {nL : Nat} {own : String} {R : Room} {keep : Nat → Bool} {post : Option Int32 → cb_W → Prop} {mc ms : Nat} {w : cb_W} {ca sl pc : Nat} {lv : List (Option cb_V)} (O : cb_Ok κ cc nL own R) (Rt : cb_Rt κ keep post mc ms none) (h1 : ca ≤ mc) (h2 : sl ≤ ms) (hd : decode cc pc = .ok (.return_, 1)) (hp : post none w) : cb_X κ w ca sl pc lv [] := by
  intro ad H locs ls hW hk hS hl
  obtain ⟨hx, hb, hml, hown, hts, hE, hR, hlk⟩ := O
  rw [Rt.1]
  refine W.widen h1 h2 ?_
  exact W.vret hx hb Rt.2.1 (fun t ht hw => ⟨⟨none, w, ad, rfl, hp, hk, by rw [ht]; exact hW⟩, hS.F ht⟩) hS.2.2 hd hlk

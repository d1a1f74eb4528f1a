def cb_okv (P : Nat → Bool) (v : cb_V) : Bool := match v with
  | .inr (some q) => P q || (decide (900 ≤ q) && decide (q < 904))
  | _ => true
def cb_kp (P : Nat → Bool) (lv : List (Option cb_V)) (st : List cb_V) : Bool := lv.all (fun o => match o with
  | some v => cb_okv P v
  | none => true) && st.all (cb_okv P)
theorem cb_okvv {ad ad' : Nat → Nat} {P : Nat → Bool} {v : cb_V} (h : cb_okv P v = true) (ha : ∀ q, P q = true → ad' q = ad q) (h9 : ∀ j, j < 4 → ad' (900 + j) = ad (900 + j)) : cb_vv ad' v = cb_vv ad v := by
  rcases v with x | o
  · rfl
  · cases o with
    | none => rfl
    | some q =>
      simp only [cb_okv, Bool.or_eq_true, Bool.and_eq_true, decide_eq_true_eq] at h
      show Value.ref (ad' q) = Value.ref (ad q)
      rcases h with h | ⟨h1, h2⟩
      · rw [ha q h]
      · have := h9 (q - 900) (by omega)
        rw [show 900 + (q - 900) = q by omega] at this
        rw [this]
theorem cb_kpl {ad ad' : Nat → Nat} {P : Nat → Bool} {lv : List (Option cb_V)} {st : List cb_V} {ls : Array Slot} {n : Nat} (h : cb_kp P lv st = true) (ha : ∀ q, P q = true → ad' q = ad q) (h9 : ∀ j, j < 4 → ad' (900 + j) = ad (900 + j)) (hl : cb_lh ad ls n lv) : cb_lh ad' ls n lv ∧ st.map (cb_vv ad') = st.map (cb_vv ad) := by
  simp only [cb_kp, Bool.and_eq_true, List.all_eq_true] at h
  refine ⟨⟨hl.1, hl.2.1, fun i v hv => ?_⟩, List.map_congr_left fun v hv => cb_okvv (h.2 v hv) ha h9⟩
  rw [cb_okvv (h.1 _ (List.mem_of_getElem? hv)) ha h9]
  exact hl.2.2 i v hv
theorem cb_Wo.ro {g : cb_G} {z : Nat} {ad : Nat → Nat} {w : cb_W} {H : Heap} (h : cb_Wo g z ad w H) : ∀ j, j < 4 → ad (900 + j) = g.2.2.2.1 j := fun j hj => (h.choose_spec.2.2.2.2 j hj).1
theorem cb_Nw.same {u U : State} (h : u.vm = U.vm) (hN : cb_Nw u) : cb_Nw U := by
  intro w hw
  have h1 := hN w hw
  have h2 := (List.mem_filter.mp hw).2
  cases w <;> first | (exact va_Nw.same rfl h h1) | (exact absurd h2 (by simp [cb_isN]))
theorem cb_Ev.mv {g : cb_G} {z : Nat} {s U : State} {locs : List Loc} (hE : cb_Ev g z s) (hW : s.WarmedH U.vm) (hS : va_S (cb_A z) s.heap U.heap locs) : cb_Ev g z U := by
  obtain ⟨h1, h2, h3, h4, h5, h6, h7, h8, h9, h10⟩ := hE
  have hkp : ∀ a : Nat, a < s.heap.size → ¬ cb_A z a → U.heap[a]? = s.heap[a]? := fun a ha hn => hS.2.1 a ha hn
  exact ⟨va_K.moved hW.alike h1, Nat.le_trans h2 hS.1, cb_Nw.warm hW h3, va_AO.moved hW.alike h4, va_AO.moved hW.alike h5, over_moved hW.alike h6, (va_Z.moved hW.alike h7).kept hkp, (va_Z.moved hW.alike h8).kept hkp, (va_Z.moved hW.alike h9).kept hkp, fun j hj => (va_T.moved hW.alike (h10 j hj)).kept hkp⟩
theorem cb_Ev.calling {g : cb_G} {z : Nat} {U : State} {fr : JFrame} {mk : MethodId} {a : Array Value} (hE : cb_Ev g z U) : cb_Ev g z (U.calling fr mk a) := by
  obtain ⟨h1, h2, h3, h4, h5, h6, h7, h8, h9, h10⟩ := hE
  have hal : U.vm.Alike (U.calling fr mk a).vm := Vm.Alike.refl U.vm
  exact ⟨va_K.moved hal h1, h2, cb_Nw.same (u := U) (U := U.calling fr mk a) rfl h3, va_AO.moved hal h4, va_AO.moved hal h5, over_moved hal h6, va_Z.moved hal h7, va_Z.moved hal h8, va_Z.moved hal h9, fun j hj => va_T.moved hal (h10 j hj)⟩
theorem cb_blind {g : cb_G} {z : Nat} {ad : Nat → Nat} {As : List cb_V} {w : cb_W} : FrameBlind (cb_Pc g z ad As w) := fun a U fr mk h => ⟨h.1, h.2.1, h.2.2.calling⟩
def cb_ML (own : String) (idx : Nat) (y : MethodName) : Prop := Cond.methodLink own idx y ∈ cb_gw ∨ ∃ host, Cond.methodLinkNest own idx y host ∈ cb_nw
def cb_MY (y : MethodName) (code : ByteArray) (maxL : Nat) (ret : Option FieldType) (n : Nat) : Prop := Cond.code y code maxL ret ∈ cb_gw ∧ Cond.initialized y.cls ∈ cb_gw ∧ (y.cls ≠ "java/lang/invoke/MethodHandle" ∧ y.cls ≠ "java/lang/invoke/VarHandle" ∧ (parseMethodDescriptor y.desc).map (fun d => d.parameters.length) = some n)
def cb_pi (P : Int32 → cb_W → Prop) : Option Int32 → cb_W → Prop := fun r w => match r with
  | some x => P x w
  | none => False
def cb_pv (P : cb_W → Prop) : Option Int32 → cb_W → Prop := fun r w => match r with
  | some _ => False
  | none => P w
section CBC
variable {κ : cb_K} {cc : ByteArray} {nL : Nat} {own : String} {R : Room} {w : cb_W} {ca sl pc : Nat} {lv : List (Option cb_V)} {st stk : List cb_V} {y : MethodName} {code : ByteArray} {maxL : Nat} {ret : Option FieldType} {fr lo mc ms idx n : Nat} {keep : Nat → Bool} {As : List cb_V}
theorem cb_back {post : Option Int32 → cb_W → Prop} {ad : Nat → Nat} {H : Heap} {locs : List Loc} {ls : Array Slot} {a : Array Value} (hE : cb_Ev κ.2.2.1.1 κ.2.2.1.2 κ.1.2.2.2.2) (hW : cb_Wo κ.2.2.1.1 κ.2.2.1.2 ad w H) (hk : ∀ q, κ.2.2.2.2.1 q = true → ad q = κ.2.2.2.1 q) (hS : va_S (cb_A κ.2.2.1.2) κ.1.2.2.2.2.heap H locs) (hl : cb_lh ad ls κ.2.1.2.2.2.2.maxLocals lv) (hkk : ∀ q, κ.2.2.2.2.1 q = true → keep q = true) (hkp : cb_kp keep lv st = true)
    (hr : va_Run κ.1.1 κ.1.2.1 κ.1.2.2.1 κ.1.2.2.2.1 κ.1.2.2.2.2 κ.2.1.1 κ.2.1.2.1 κ.2.1.2.2.1 κ.2.1.2.2.2.1 κ.2.1.2.2.2.2 H locs ca sl mc ms (F0 κ.2.1.1 pc ls (stk.map (cb_vv ad))) (st.map (cb_vv ad)) (cb_Qt κ.2.2.1.1 κ.2.2.1.2 ad keep post a) (cb_A κ.2.2.1.2))
    (kk : ∀ (r : Option Int32) (w' : cb_W), post r w' → cb_X κ w' (ca + mc) (sl + ms) (pc + 3) lv ((r.map Sum.inl).toList ++ st)) : W κ.1.1 κ.1.2.1 κ.1.2.2.1 κ.1.2.2.2.1 κ.1.2.2.2.2 κ.2.1.1 κ.2.1.2.1 κ.2.1.2.2.1 κ.2.1.2.2.2.1 κ.2.1.2.2.2.2 H locs ca sl κ.2.2.2.2.2 (F0 κ.2.1.1 pc ls (stk.map (cb_vv ad))) := by
  intro T hT X
  obtain ⟨v, st₀, t, T', L, h0, X', hL, e1, e2, ⟨⟨r, w', ad', hv, hp, hkad, hWo⟩, hz, hf⟩, stp⟩ := hr T hT X
  rw [h0] at hz hf
  have hv' : v = r.map Value.int := by
    cases hv
    rfl
  subst hv'
  have h9 : ∀ j, j < 4 → ad' (900 + j) = ad (900 + j) := fun j hj => (hWo.ro j hj).trans (hW.ro j hj).symm
  obtain ⟨hl2, hst2⟩ := cb_kpl hkp hkad h9 hl
  have hS1 : va_S (cb_A κ.2.2.1.2) κ.1.2.2.2.2.heap t.heap (locs ++ L) := ⟨Nat.le_trans hS.1 hz, fun q h1 h2 => by
      rw [hf q (Nat.lt_of_lt_of_le h1 hS.1) h2]
      exact hS.2.1 q h1 h2, fun q hq => by
      rcases List.mem_append.mp hq with h | h
      · exact hS.2.2 q h
      · exact hL q h⟩
  have K := kk r w' hp ad' t.heap (locs ++ L) ls hWo (fun q hq => (hkad q (hkk q hq)).trans (hk q hq)) hS1 hl2
  obtain ⟨t2, a1, b1⟩ := K T' e1 X'
  refine ⟨t2, stp t2 ?_, b1⟩
  have e3 : ((r.map Sum.inl).toList ++ st).map (cb_vv ad') = (r.map Value.int).toList ++ st.map (cb_vv ad) := by
    rw [List.map_append, hst2]
    cases r <;> rfl
  rw [e3] at a1
  exact a1
theorem cb_cat8 {ad : Nat → Nat} {m : MethodId} {ls : Array Slot} {rest : List Value} : ∀ {st : List cb_V}, st.length ≤ 8 → 2 * (F0 m pc ls rest).monitorRoom + ((st.map (cb_vv ad)).map fun v => v.category).sum ≤ 8 := by
  intro st h
  have e : ((st.map (cb_vv ad)).map fun v => v.category).sum = st.length := by
    induction st with
    | nil => rfl
    | cons a t ih =>
      simp only [List.map_cons, List.sum_cons, cb_cat, List.length_cons]
      rw [ih (by simp at h; omega)]
      omega
  rw [e]
  show 2 * 0 + _ ≤ 8
  omega
theorem cb_run0 {post : Option Int32 → cb_W → Prop} (O : cb_Ok κ cc nL own R) (hc : cb_Con y code maxL ret fr lo mc ms keep As w post) (hm : cb_MY y code maxL ret n) (hR : fr + 1 ≤ R.frames ∧ 8 + (maxL + 11) + lo ≤ R.locals) (l : Cond.methodLink own idx y ∈ cb_gw) : CallB κ.1.2.2.2.1 κ.1.2.2.2.2 κ.2.1.2.1 own idx y code maxL ret (.code y code maxL ret :: cb_gw) (cb_rm fr mc ms lo) mc ms n := by
  obtain ⟨hx, hb, hml, hown, hts, hE, hRR, -⟩ := O
  exact callB_of n hts (cb_gin hm.1) rfl rfl rfl (hts _ hm.2.1) (hts _ l) hm.2.2 (by rw [hRR]; exact hR)
theorem cb_runN {post : Option Int32 → cb_W → Prop} {host : String} (O : cb_Ok κ cc nL own R) (hc : cb_Con y code maxL ret fr lo mc ms keep As w post) (hm : cb_MY y code maxL ret n) (hR : fr + 1 ≤ R.frames ∧ 8 + (maxL + 11) + lo ≤ R.locals) (l : Cond.methodLinkNest own idx y host ∈ cb_nw) : va_CN κ.1.2.2.2.1 κ.1.2.2.2.2 κ.2.1.2.1 own idx y host code maxL ret (.code y code maxL ret :: cb_gw) (cb_rm fr mc ms lo) mc ms n := by
  obtain ⟨hx, hb, hml, hown, hts, hE, hRR, -⟩ := O
  exact va_cnB n hts (cb_gin hm.1) rfl rfl rfl (hE.2.2.1 _ l) (hts _ hm.2.1) hm.2.2 (by rw [hRR]; exact hR)
theorem cb_callV0 {post : Option Int32 → cb_W → Prop} {b ci : Nat} (O : cb_Ok κ cc nL own R) (hc : cb_Con y code maxL ret fr lo mc ms keep (.inr (some b) :: As) w post) (hm : cb_MY y code maxL ret n) (hi : Cond.instanceMethod y ∈ cb_gw) (hsel : Cond.selects y.cls y y ∈ cb_gw) (hl : cb_ML own idx y) (hlen : As.length = n) (hs : cb_sh b = (0, ci)) (hcl : cb_CT ci ∧ cb_C ci = y.cls) (hR : fr + 1 ≤ R.frames ∧ 8 + (maxL + 11) + lo ≤ R.locals) (hf : ca + mc ≤ R.cells ∧ sl + ms ≤ R.slots) (hkk : ∀ q, κ.2.2.2.2.1 q = true → keep q = true) (hkp : cb_kp keep lv st = true) (h8 : st.length ≤ 8) (hd : decode cc pc = .ok (.invokevirtual idx, 3)) (hstk : stk = As.reverse ++ (.inr (some b) :: st)) (hr : w.1 b = true)
    (kk : ∀ (r : Option Int32) (w' : cb_W), post r w' → cb_X κ w' (ca + mc) (sl + ms) (pc + 3) lv ((r.map Sum.inl).toList ++ st)) : cb_X κ w ca sl pc lv stk := by
  intro ad H locs ls hW hk hS hlh
  obtain ⟨hx, hb, hml, hown, hts, hE, hRR, -⟩ := id O
  have hP : PreV κ.1.2.2.2.2 H y.cls (ad b) (cb_Pc κ.2.2.1.1 κ.2.2.1.2 ad (.inr (some b) :: As) w) (As.map (cb_vv ad)) := by
    refine ⟨cb_blind, ?_, fun U hU hWm => ⟨rfl, by rw [hU]; exact hW, hE.mv hWm (by rw [hU]; exact hS)⟩⟩
    obtain ⟨L, hL, hPP, hD, hq, hro⟩ := hW
    obtain ⟨p, hp, he⟩ := cb_pos (g := κ.2.2.1.1) (ad := ad) hL hr
    rw [cb_en0 hs] at he
    have := va_recv hE.1 hPP (cb_clat hcl.1.1) he
    rw [hcl.2] at this
    exact this
  have hstk2 : (F0 κ.2.1.1 pc ls (stk.map (cb_vv ad))).stack = (As.map (cb_vv ad)).reverse ++ .ref (ad b) :: st.map (cb_vv ad) := by
    show stk.map (cb_vv ad) = _
    rw [hstk, List.map_append, List.map_reverse]
    rfl
  rcases hl with l | ⟨host, l⟩
  · exact cb_back hE hW hk hS hlh hkk hkp (va_runV (As := As.map (cb_vv ad)) (rest := st.map (cb_vv ad)) ⟨hx, hb, rfl, hown, hts⟩ (hc κ.2.2.1.1 κ.2.2.1.2 κ.1.2.1 ad) ⟨cb_run0 O hc hm hR l, hts _ hi, hts _ hsel⟩ hP rfl (by rw [List.length_map]; exact hlen) hlh.1 hstk2 (cb_cat8 h8) hd (by rw [hRR]; exact hf)) kk
  · exact cb_back hE hW hk hS hlh hkk hkp (va_runVN (As := As.map (cb_vv ad)) (rest := st.map (cb_vv ad)) ⟨hx, hb, rfl, hown, hts⟩ (hc κ.2.2.1.1 κ.2.2.1.2 κ.1.2.1 ad) ⟨cb_runN O hc hm hR l, hts _ hi, hts _ hsel⟩ hP rfl (by rw [List.length_map]; exact hlen) hlh.1 hstk2 (cb_cat8 h8) hd (by rw [hRR]; exact hf)) kk
theorem cb_callS0 {post : Option Int32 → cb_W → Prop} (O : cb_Ok κ cc nL own R) (hc : cb_Con y code maxL ret fr lo mc ms keep As w post) (hm : cb_MY y code maxL ret n) (hi : Cond.static y ∈ cb_gw) (hl : cb_ML own idx y) (hlen : As.length = n) (hR : fr + 1 ≤ R.frames ∧ 8 + (maxL + 11) + lo ≤ R.locals) (hf : ca + mc ≤ R.cells ∧ sl + ms ≤ R.slots) (hkk : ∀ q, κ.2.2.2.2.1 q = true → keep q = true) (hkp : cb_kp keep lv st = true) (h8 : st.length ≤ 8) (hd : decode cc pc = .ok (.invokestatic idx, 3)) (hstk : stk = As.reverse ++ st)
    (kk : ∀ (r : Option Int32) (w' : cb_W), post r w' → cb_X κ w' (ca + mc) (sl + ms) (pc + 3) lv ((r.map Sum.inl).toList ++ st)) : cb_X κ w ca sl pc lv stk := by
  intro ad H locs ls hW hk hS hlh
  obtain ⟨hx, hb, hml, hown, hts, hE, hRR, -⟩ := id O
  have hP : PreS κ.1.2.2.2.2 H (cb_Pc κ.2.2.1.1 κ.2.2.1.2 ad As w) (As.map (cb_vv ad)) :=
    ⟨cb_blind, fun U hU hWm => ⟨rfl, by rw [hU]; exact hW, hE.mv hWm (by rw [hU]; exact hS)⟩⟩
  have hstk2 : (F0 κ.2.1.1 pc ls (stk.map (cb_vv ad))).stack = (As.map (cb_vv ad)).reverse ++ st.map (cb_vv ad) := by
    show stk.map (cb_vv ad) = _
    rw [hstk, List.map_append, List.map_reverse]
  rcases hl with l | ⟨host, l⟩
  · exact cb_back hE hW hk hS hlh hkk hkp (va_runS (As := As.map (cb_vv ad)) (rest := st.map (cb_vv ad)) ⟨hx, hb, rfl, hown, hts⟩ (hc κ.2.2.1.1 κ.2.2.1.2 κ.1.2.1 ad) ⟨cb_run0 O hc hm hR l, hts _ hi⟩ hP rfl (by rw [List.length_map]; exact hlen) hlh.1 hstk2 (cb_cat8 h8) hd (by rw [hRR]; exact hf)) kk
  · exact cb_back hE hW hk hS hlh hkk hkp (va_runSN (As := As.map (cb_vv ad)) (rest := st.map (cb_vv ad)) ⟨hx, hb, rfl, hown, hts⟩ (hc κ.2.2.1.1 κ.2.2.1.2 κ.1.2.1 ad) ⟨cb_runN O hc hm hR l, hts _ hi, trivial⟩ hP rfl (by rw [List.length_map]; exact hlen) hlh.1 hstk2 (cb_cat8 h8) hd (by rw [hRR]; exact hf)) kk
theorem cb_callI0 {post : Option Int32 → cb_W → Prop} {b : Nat} (O : cb_Ok κ cc nL own R) (hc : cb_Con y code maxL none fr lo mc ms keep (.inr (some b) :: As) w post) (hm : cb_MY y code maxL none n) (hi : Cond.instanceMethod y ∈ cb_gw) (hy : y.name = "<init>") (hl : cb_ML own idx y) (hlen : As.length = n) (hR : fr + 1 ≤ R.frames ∧ 8 + (maxL + 11) + lo ≤ R.locals) (hf : ca + mc ≤ R.cells ∧ sl + ms ≤ R.slots) (hkk : ∀ q, κ.2.2.2.2.1 q = true → keep q = true) (hkp : cb_kp keep lv st = true) (h8 : st.length ≤ 8) (hd : decode cc pc = .ok (.invokespecial idx, 3)) (hstk : stk = As.reverse ++ (.inr (some b) :: st))
    (kk : ∀ (r : Option Int32) (w' : cb_W), post r w' → cb_X κ w' (ca + mc) (sl + ms) (pc + 3) lv ((r.map Sum.inl).toList ++ st)) : cb_X κ w ca sl pc lv stk := by
  intro ad H locs ls hW hk hS hlh
  obtain ⟨hx, hb, hml, hown, hts, hE, hRR, -⟩ := id O
  have hP : PreS κ.1.2.2.2.2 H (cb_Pc κ.2.2.1.1 κ.2.2.1.2 ad (.inr (some b) :: As) w) (.ref (ad b) :: As.map (cb_vv ad)) :=
    ⟨cb_blind, fun U hU hWm => ⟨rfl, by rw [hU]; exact hW, hE.mv hWm (by rw [hU]; exact hS)⟩⟩
  have hstk2 : (F0 κ.2.1.1 pc ls (stk.map (cb_vv ad))).stack = (As.map (cb_vv ad)).reverse ++ .ref (ad b) :: st.map (cb_vv ad) := by
    show stk.map (cb_vv ad) = _
    rw [hstk, List.map_append, List.map_reverse]
    rfl
  rcases hl with l | ⟨host, l⟩
  · exact cb_back hE hW hk hS hlh hkk hkp (va_runI (As := As.map (cb_vv ad)) (rest := st.map (cb_vv ad)) ⟨hx, hb, rfl, hown, hts⟩ (hc κ.2.2.1.1 κ.2.2.1.2 κ.1.2.1 ad) ⟨cb_run0 O hc hm hR l, hy, hts _ hi⟩ hP rfl (by rw [List.length_map]; exact hlen) hlh.1 hstk2 (cb_cat8 h8) hd (by rw [hRR]; exact hf)) kk
  · exact cb_back hE hW hk hS hlh hkk hkp (va_runIN (As := As.map (cb_vv ad)) (rest := st.map (cb_vv ad)) ⟨hx, hb, rfl, hown, hts⟩ (hc κ.2.2.1.1 κ.2.2.1.2 κ.1.2.1 ad) ⟨cb_runN O hc hm hR l, hy, hts _ hi⟩ hP rfl (by rw [List.length_map]; exact hlen) hlh.1 hstk2 (cb_cat8 h8) hd (by rw [hRR]; exact hf)) kk
end CBC

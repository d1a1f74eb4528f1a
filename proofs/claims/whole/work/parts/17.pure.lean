def cb_Pu (y : MethodName) (cc : ByteArray) (maxL : Nat) (ret : Option FieldType) (fr lo : Nat) (As : List cb_V) (w : cb_W) (v : Int32) : Prop := cb_Con y cc maxL ret fr lo 0 0 (fun _ => true) As w (cb_pi (fun x w' => x = v ∧ w' = w))
section CBQ
variable {κ : cb_K} {cc : ByteArray} {nL : Nat} {own : String} {R : Room} {w : cb_W} {ca sl pc : Nat} {lv : List (Option cb_V)} {st stk : List cb_V} {y : MethodName} {code : ByteArray} {maxL : Nat} {ret : Option FieldType} {fr lo mc ms idx n : Nat} {keep : Nat → Bool} {As : List cb_V}
theorem cb_ifp_eq {P : Prop} [Decidable P] (O : cb_Ok κ cc nL own R) {off : Int} (tgt : Nat) (hd : decode cc pc = .ok (.ifCond .eq off, 3)) (ht : (pc : Int) + off = (tgt : Int)) (kt : ¬ P → cb_X κ w ca sl tgt lv st) (kf : P → cb_X κ w ca sl (pc + 3) lv st) : cb_X κ w ca sl pc lv (.inl (if P then 1 else 0) :: st) := by
  by_cases h : P
  · rw [if_pos h]
    exact cb_if_eq O tgt hd ht (fun c => absurd c (by decide)) (fun _ => kf h)
  · rw [if_neg h]
    exact cb_if_eq O tgt hd ht (fun _ => kt h) (fun c => absurd rfl c)
theorem cb_ifp_ne {P : Prop} [Decidable P] (O : cb_Ok κ cc nL own R) {off : Int} (tgt : Nat) (hd : decode cc pc = .ok (.ifCond .ne off, 3)) (ht : (pc : Int) + off = (tgt : Int)) (kt : P → cb_X κ w ca sl tgt lv st) (kf : ¬ P → cb_X κ w ca sl (pc + 3) lv st) : cb_X κ w ca sl pc lv (.inl (if P then 1 else 0) :: st) := by
  by_cases h : P
  · rw [if_pos h]
    exact cb_if_ne O tgt hd ht (fun _ => kt h) (fun c => absurd c (by decide))
  · rw [if_neg h]
    exact cb_if_ne O tgt hd ht (fun c => absurd rfl c) (fun _ => kf h)
theorem cb_cSp {v : Int32} (O : cb_Ok κ cc nL own R) (hc : cb_Pu y code maxL ret fr lo As w v) (hm : cb_MY y code maxL ret n) (hi : Cond.static y ∈ cb_gw) (hl : cb_ML own idx y) (hd : decode cc pc = .ok (.invokestatic idx, 3)) (hstk : stk = As.reverse ++ st) (hlen : As.length = n) (hR : fr + 1 ≤ R.frames ∧ 8 + (maxL + 11) + lo ≤ R.locals) (h8 : st.length ≤ 8) (hkp : cb_kp (fun _ => true) lv st = true) (hf : ca ≤ R.cells ∧ sl ≤ R.slots) (kk : cb_X κ w ca sl (pc + 3) lv (.inl v :: st)) : cb_X κ w ca sl pc lv stk :=
  cb_callS0 O hc hm hi hl hlen hR hf (fun _ _ => rfl) hkp h8 hd hstk (fun r w' h => by
    cases r with
    | none => exact absurd h (fun h => h)
    | some x =>
      obtain ⟨rfl, rfl⟩ := h
      exact kk)
theorem cb_cVp {v : Int32} {b ci : Nat} (O : cb_Ok κ cc nL own R) (hc : cb_Pu y code maxL ret fr lo (.inr (some b) :: As) w v) (hm : cb_MY y code maxL ret n) (hi : Cond.instanceMethod y ∈ cb_gw) (hsel : Cond.selects y.cls y y ∈ cb_gw) (hl : cb_ML own idx y) (hd : decode cc pc = .ok (.invokevirtual idx, 3)) (hstk : stk = As.reverse ++ (.inr (some b) :: st)) (hct : cb_CT ci) (hlen : As.length = n) (hs : cb_sh b = (0, ci)) (hcl : cb_C ci = y.cls) (hR : fr + 1 ≤ R.frames ∧ 8 + (maxL + 11) + lo ≤ R.locals) (h8 : st.length ≤ 8) (hkp : cb_kp (fun _ => true) lv st = true) (hf : ca ≤ R.cells ∧ sl ≤ R.slots) (hr : w.1 b = true) (kk : cb_X κ w ca sl (pc + 3) lv (.inl v :: st)) : cb_X κ w ca sl pc lv stk :=
  cb_callV0 O hc hm hi hsel hl hlen hs ⟨hct, hcl⟩ hR hf (fun _ _ => rfl) hkp h8 hd hstk hr (fun r w' h => by
    cases r with
    | none => exact absurd h (fun h => h)
    | some x =>
      obtain ⟨rfl, rfl⟩ := h
      exact kk)
theorem cb_cSi {P : Int32 → cb_W → Prop} (O : cb_Ok κ cc nL own R) (hc : cb_Con y code maxL ret fr lo mc ms keep As w (cb_pi P)) (hm : cb_MY y code maxL ret n) (hi : Cond.static y ∈ cb_gw) (hl : cb_ML own idx y) (hd : decode cc pc = .ok (.invokestatic idx, 3)) (hstk : stk = As.reverse ++ st) (hlen : As.length = n) (hR : fr + 1 ≤ R.frames ∧ 8 + (maxL + 11) + lo ≤ R.locals) (h8 : st.length ≤ 8) (hkp : cb_kp keep lv st = true) (hf : ca + mc ≤ R.cells ∧ sl + ms ≤ R.slots) (hkk : ∀ q, κ.2.2.2.2.1 q = true → keep q = true) (kk : ∀ x w', P x w' → cb_X κ w' (ca + mc) (sl + ms) (pc + 3) lv (.inl x :: st)) : cb_X κ w ca sl pc lv stk :=
  cb_callS0 O hc hm hi hl hlen hR hf hkk hkp h8 hd hstk (fun r w' h => by
    cases r with
    | none => exact absurd h (fun h => h)
    | some x => exact kk x w' h)
theorem cb_cSv {P : cb_W → Prop} (O : cb_Ok κ cc nL own R) (hc : cb_Con y code maxL ret fr lo mc ms keep As w (cb_pv P)) (hm : cb_MY y code maxL ret n) (hi : Cond.static y ∈ cb_gw) (hl : cb_ML own idx y) (hd : decode cc pc = .ok (.invokestatic idx, 3)) (hstk : stk = As.reverse ++ st) (hlen : As.length = n) (hR : fr + 1 ≤ R.frames ∧ 8 + (maxL + 11) + lo ≤ R.locals) (h8 : st.length ≤ 8) (hkp : cb_kp keep lv st = true) (hf : ca + mc ≤ R.cells ∧ sl + ms ≤ R.slots) (hkk : ∀ q, κ.2.2.2.2.1 q = true → keep q = true) (kk : ∀ w', P w' → cb_X κ w' (ca + mc) (sl + ms) (pc + 3) lv st) : cb_X κ w ca sl pc lv stk :=
  cb_callS0 O hc hm hi hl hlen hR hf hkk hkp h8 hd hstk (fun r w' h => by
    cases r with
    | some x => exact absurd h (fun h => h)
    | none => exact kk w' h)
theorem cb_cVi {P : Int32 → cb_W → Prop} {b ci : Nat} (O : cb_Ok κ cc nL own R) (hc : cb_Con y code maxL ret fr lo mc ms keep (.inr (some b) :: As) w (cb_pi P)) (hm : cb_MY y code maxL ret n) (hi : Cond.instanceMethod y ∈ cb_gw) (hsel : Cond.selects y.cls y y ∈ cb_gw) (hl : cb_ML own idx y) (hd : decode cc pc = .ok (.invokevirtual idx, 3)) (hstk : stk = As.reverse ++ (.inr (some b) :: st)) (hct : cb_CT ci) (hlen : As.length = n) (hs : cb_sh b = (0, ci)) (hcl : cb_C ci = y.cls) (hR : fr + 1 ≤ R.frames ∧ 8 + (maxL + 11) + lo ≤ R.locals) (h8 : st.length ≤ 8) (hkp : cb_kp keep lv st = true) (hf : ca + mc ≤ R.cells ∧ sl + ms ≤ R.slots) (hkk : ∀ q, κ.2.2.2.2.1 q = true → keep q = true) (hr : w.1 b = true) (kk : ∀ x w', P x w' → cb_X κ w' (ca + mc) (sl + ms) (pc + 3) lv (.inl x :: st)) : cb_X κ w ca sl pc lv stk :=
  cb_callV0 O hc hm hi hsel hl hlen hs ⟨hct, hcl⟩ hR hf hkk hkp h8 hd hstk hr (fun r w' h => by
    cases r with
    | none => exact absurd h (fun h => h)
    | some x => exact kk x w' h)
theorem cb_cVv {P : cb_W → Prop} {b ci : Nat} (O : cb_Ok κ cc nL own R) (hc : cb_Con y code maxL ret fr lo mc ms keep (.inr (some b) :: As) w (cb_pv P)) (hm : cb_MY y code maxL ret n) (hi : Cond.instanceMethod y ∈ cb_gw) (hsel : Cond.selects y.cls y y ∈ cb_gw) (hl : cb_ML own idx y) (hd : decode cc pc = .ok (.invokevirtual idx, 3)) (hstk : stk = As.reverse ++ (.inr (some b) :: st)) (hct : cb_CT ci) (hlen : As.length = n) (hs : cb_sh b = (0, ci)) (hcl : cb_C ci = y.cls) (hR : fr + 1 ≤ R.frames ∧ 8 + (maxL + 11) + lo ≤ R.locals) (h8 : st.length ≤ 8) (hkp : cb_kp keep lv st = true) (hf : ca + mc ≤ R.cells ∧ sl + ms ≤ R.slots) (hkk : ∀ q, κ.2.2.2.2.1 q = true → keep q = true) (hr : w.1 b = true) (kk : ∀ w', P w' → cb_X κ w' (ca + mc) (sl + ms) (pc + 3) lv st) : cb_X κ w ca sl pc lv stk :=
  cb_callV0 O hc hm hi hsel hl hlen hs ⟨hct, hcl⟩ hR hf hkk hkp h8 hd hstk hr (fun r w' h => by
    cases r with
    | some x => exact absurd h (fun h => h)
    | none => exact kk w' h)
theorem cb_cIv {P : cb_W → Prop} {b : Nat} (O : cb_Ok κ cc nL own R) (hc : cb_Con y code maxL none fr lo mc ms keep (.inr (some b) :: As) w (cb_pv P)) (hm : cb_MY y code maxL none n) (hi : Cond.instanceMethod y ∈ cb_gw) (hy : y.name = "<init>") (hl : cb_ML own idx y) (hd : decode cc pc = .ok (.invokespecial idx, 3)) (hstk : stk = As.reverse ++ (.inr (some b) :: st)) (hlen : As.length = n) (hR : fr + 1 ≤ R.frames ∧ 8 + (maxL + 11) + lo ≤ R.locals) (h8 : st.length ≤ 8) (hkp : cb_kp keep lv st = true) (hf : ca + mc ≤ R.cells ∧ sl + ms ≤ R.slots) (hkk : ∀ q, κ.2.2.2.2.1 q = true → keep q = true) (kk : ∀ w', P w' → cb_X κ w' (ca + mc) (sl + ms) (pc + 3) lv st) : cb_X κ w ca sl pc lv stk :=
  cb_callI0 O hc hm hi hy hl hlen hR hf hkk hkp h8 hd hstk (fun r w' h => by
    cases r with
    | some x => exact absurd h (fun h => h)
    | none => exact kk w' h)
end CBQ

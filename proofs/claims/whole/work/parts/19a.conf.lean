theorem cb_ofW {l : Launch} {y : MethodName} {ws ws' : List Cond} {rm : Room} {Pc : Array Value → State → Prop} {Qc : Array Value → State → Outcome → State → Prop} {mc ms : Nat} {free : Addr → Prop} {cc : ByteArray} {maxL : Nat} {ret : Option FieldType}
    (hy : plainFor y = true) (hw : ws = Cond.code y cc maxL ret :: ws')
    (body : ∀ p e s m args below meth c s₁, BodyLoose p l y (headSpec ws rm) cc maxL ret e s m args below meth c s₁ → c.maxLocals = maxL → Pc args s →
      W p l e (headSpec ws rm).room s m args below meth c s.heap [] 0 0 (MQ below Qc args s mc ms free) (entryFrame m args maxL)) : Met l y ws rm Pc Qc mc ms free := by
  refine MetFree.of_bodySF (code := cc) (maxLocals := maxL) (ret := ret) hy ?_ ?_
  · intro args s m h hn
    obtain ⟨meth, c, h1, h2, h3, h4, h5, h6, -, -⟩ := Cond.code_spec hn (atoms_spec (ws := ws) h _ (by rw [hw]; exact List.mem_cons_self))
    exact ⟨meth, c, h1, h2, h3, h4, h5, h6⟩
  · intro p e s m args below meth c s₁ B hml hP _
    have hh0 : s₁.heap = s.heap := by rw [B.state]; rfl
    obtain ⟨t, a1, o, b1, b2, b3⟩ := body p e s m args below meth c s₁ B hml hP s₁ hh0 (Stand.of_body B)
    exact ⟨t, o, a1, b1, b2, ⟨b3.1, b3.2⟩⟩
theorem cb_conF {y : MethodName} {cc : ByteArray} {maxL : Nat} {ret : Option FieldType} {fr lo mc ms : Nat} {keep : Nat → Bool} {As : List cb_V} {w : cb_W} {post : Option Int32 → cb_W → Prop} (hy : plainFor y = true) (hn : As.length ≤ maxL)
    (body : ∀ κ : cb_K, cb_Ok κ cc maxL y.cls (cb_rm fr mc ms lo) → cb_Rt κ keep post mc ms ret → κ.2.1.2.2.2.1.name = y.name → cb_X κ w 0 0 0 (cb_l0 As maxL) []) : cb_Con y cc maxL ret fr lo mc ms keep As w post := by
  intro g z l ad
  refine cb_ofW (cc := cc) (maxL := maxL) (ret := ret) hy rfl ?_
  intro p e s m args below meth c s₁ B hml hv
  obtain ⟨rfl, hW, hE⟩ := hv
  have hts := atoms_spec (ws := .code y cc maxL ret :: cb_gw) B.pre
  have h := body ((p, l, e, (headSpec (.code y cc maxL ret :: cb_gw) (cb_rm fr mc ms lo)).room, s), (m, (As.map (cb_vv ad)).toArray, below, meth, c), (g, z), (ad, keep, MQ below (cb_Qt g z ad keep post) (As.map (cb_vv ad)).toArray s mc ms (cb_A z)))
    ⟨B.exec, B.bytes, hml, findClass_of_methodNamed B.named, fun w hw => hts w (List.mem_cons_of_mem _ hw), hE, rfl, B.notSynchronized⟩ ⟨rfl, B.returns, rfl⟩ (name_of_methodNamed B.named B.method).1
    ad s.heap [] ((lg_sl (As.map (cb_vv ad)) ++ List.replicate (maxL - (lg_sl (As.map (cb_vv ad))).length) Slot.unset).toArray) hW (fun _ _ => rfl) va_S.rf (by rw [hml]; exact cb_entry ad As hn)
  rw [lg_entry_eq]
  exact h

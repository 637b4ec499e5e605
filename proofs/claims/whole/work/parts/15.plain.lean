/-! ===== members of classes that the machine has entries for (Math, String), which are bytecode themselves ===== -/
theorem vx_ofWF {l : Launch} {y : MethodName} {ws ws' : List Cond} {rm : Room} {Pc : Array Value → State → Prop} {Qc : Array Value → State → Outcome → State → Prop} {XC : String → State → State → Prop} {mc ms : Nat} {free : Addr → Prop} {cc : ByteArray} {maxL : Nat} {ret : Option FieldType}
    (hy : plainFor y = true) (hw : ws = Cond.code y cc maxL ret :: ws')
    (body : ∀ p e s m args below meth c s₁, BodyLoose p l y (headSpec ws rm) cc maxL ret e s m args below meth c s₁ → c.maxLocals = maxL → (∀ x ∈ c.exceptionTable.toList, False) → Pc args s →
      W p l e (headSpec ws rm).room s m args below meth c s.heap [] 0 0 (vx_MQ below Qc XC args s mc ms free) (entryFrame m args maxL)) : vx_Met l y ws rm Pc Qc XC mc ms free := by
  refine MetFree.of_bodySF (code := cc) (maxLocals := maxL) (ret := ret) hy ?_ ?_
  · intro args s m h hn
    obtain ⟨meth, c, h1, h2, h3, h4, h5, h6, -, -⟩ := Cond.code_spec hn (atoms_spec (ws := ws) h _ (by rw [hw]; exact List.mem_cons_self))
    exact ⟨meth, c, h1, h2, h3, h4, h5, h6⟩
  · intro p e s m args below meth c s₁ B hml hP _
    have hh0 : s₁.heap = s.heap := by rw [B.state]; rfl
    have ht : ∀ x ∈ c.exceptionTable.toList, False := by
      obtain ⟨meth9, c9, h1, h2, -, -, -, -, h7, -⟩ := Cond.code_spec B.named (atoms_spec (ws := ws) B.pre _ (by rw [hw]; exact List.mem_cons_self))
      cases Option.some.inj (h1.symm.trans B.method)
      cases Option.some.inj (h2.symm.trans (Stand.of_body B).code)
      intro x hx
      rw [Array.isEmpty_iff.mp h7] at hx
      cases hx
    obtain ⟨t, a1, o, b1, b2, b3⟩ := body p e s m args below meth c s₁ B hml ht hP s₁ hh0 (Stand.of_body B)
    exact ⟨t, o, a1, b1, b2, b3⟩
/-- a method without handlers: its contract out of its body -/
theorem MetA.ofF {scr : Scr} {l : Launch} {d : Nat} {M : Mth} {as : List Value} {S : Sto} {r : Res} (hh : M.2.2.2.2 = []) (hy : plainFor M.1 = true) (hn : (entL as).length ≤ M.2.2.1) (k : Ev scr l d M 0 (entN as M.2.2.1) [] S r) : MetA scr l d M as S r := by
  refine ⟨k.1, fun ρ dC dI ws tys sz as' hWR hSR hl => ?_⟩
  have hw : Mws M = Cond.code M.1 M.2.1 M.2.2.1 M.2.2.2.1 :: lw_good := by unfold Mws; rw [if_pos hh]
  refine vx_ofWF (cc := M.2.1) (maxL := M.2.2.1) (ret := M.2.2.2.1) hy hw ?_
  intro p e s m args below meth c s₁ B hml hxt hv
  obtain ⟨rfl, hsz, hP, hK, hD0, hG⟩ := hv
  subst hsz
  have hts0 := atoms_spec (ws := Mws M) B.pre
  have hts : ∀ w ∈ lw_good, w.before as'.toArray s = true := fun w h => hts0 w (by rw [hw]; exact List.mem_cons_of_mem _ h)
  have hex : c.exceptionTable.toList = tableOf M.2.2.2.2 := by
    rw [hh]
    cases hq : c.exceptionTable.toList with
    | nil => rfl
    | cons x y => exact absurd (hxt x (by rw [hq]; exact List.mem_cons_self)) id
  have hlen : (lg_sl as').length ≤ M.2.2.1 := by rw [entL_len hSR]; exact hn
  have he := lv_entry as' (n := M.2.2.1) hlen
  rw [lg_entry_eq]
  refine k.2 p e (headSpec (Mws M) (Rm d (r.2.2.1 - S.2.1) (r.2.2.2 - S.2.2))).room s m as'.toArray below meth c ρ dC dI (va_A ws s.heap.size) ws (r.2.2.1 - S.2.1) (r.2.2.2 - S.2.2) _
    ⟨B.exec, B.bytes, hml, B.returns, hts, findClass_of_methodNamed B.named, B.notSynchronized, (name_of_methodNamed B.named B.method).1, hex, hG, fun q h => Or.inr h, hl⟩
    ⟨Nat.le_refl _, Nat.le_refl _, Nat.le_refl _, Nat.le_refl _⟩ (Or.inl rfl) s.heap [] 0 0 ws tys _ [] ⟨hWR, Ext.rf ws, hP, hK, hD0.self, va_S.rf⟩ ⟨?_, he.2.1, fun i v hi => ?_⟩ rfl (by have := k.1.1; omega) (by have := k.1.2; omega)
  · rw [he.1]
    unfold entN
    rw [List.length_append, List.length_replicate]
    omega
  · unfold entN at hi
    by_cases hlt : i < (entL as).length
    · rw [List.getElem?_append_left hlt] at hi
      obtain ⟨v', e1, e2⟩ := LR.entry hSR 0 i v hi
      rw [Nat.zero_add] at e2
      exact ⟨v', e1, he.2.2 _ e2⟩
    · rw [List.getElem?_append_right (by omega)] at hi
      have := List.mem_of_getElem? hi
      rw [List.mem_replicate] at this
      cases this.2

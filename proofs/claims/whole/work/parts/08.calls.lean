/-! ===== calls, ends, throws ===== -/
theorem freeA {A : Nat → Prop} {ws : va_W} {H0 H : Heap} {locs : List Loc} (hD : va_D A ws) (hS : va_S A H0 H locs) (hA : ∀ q, H0.size ≤ q → A q) : ∀ q, va_A ws H.size q → A q := by
  intro q h
  rcases h with ⟨k, e, h⟩ | h
  · exact hD.2 k _ h
  · exact hA q (Nat.le_trans hS.1 h)
theorem goodIn_good (w0 : Cond) (h0 : w0 ∈ lw_good) : GoodIn lw_good (w0 :: lw_good) := fun w hw => by
  have hm : w ∈ lw_good := by
    rcases List.mem_cons.mp hw with h | h
    · rw [h]; exact h0
    · exact h
  exact ⟨hm, good_of_word (List.mem_filter.mp hm).2⟩
/-- what a callee's name and code need -/
def iMeth (M' : Mth) (n : Nat) : Prop := Cond.initialized M'.1.cls ∈ lw_good ∧ (M'.1.cls ≠ "java/lang/invoke/MethodHandle" ∧ M'.1.cls ≠ "java/lang/invoke/VarHandle") ∧ (parseMethodDescriptor M'.1.desc).map (fun d => d.parameters.length) = some n ∧ M'.2.2.1 ≤ 60
def iPlain (M' : Mth) : Prop := M'.2.2.2.2 = [] ∧ Cond.code M'.1 M'.2.1 M'.2.2.1 M'.2.2.2.1 ∈ lw_good
def iCallV (M : Mth) (pc : Nat) (M' : Mth) (n ci : Nat) : Prop := (∃ ix : Nat, decode M.2.1 pc = .ok (.invokevirtual ix, 3) ∧ Cond.methodLink M.1.cls ix M'.1 ∈ lw_good) ∧ (Cond.instanceMethod M'.1 ∈ lw_good ∧ Cond.selects M'.1.cls M'.1 M'.1 ∈ lw_good ∧ ∃ (T : u_T) (N : Nat), vwCl[ci]? = some (M'.1.cls, T, N)) ∧ iMeth M' n ∧ iPlain M'
def iCallS (M : Mth) (pc : Nat) (M' : Mth) (n : Nat) : Prop := (∃ ix : Nat, decode M.2.1 pc = .ok (.invokestatic ix, 3) ∧ Cond.methodLink M.1.cls ix M'.1 ∈ lw_good) ∧ Cond.static M'.1 ∈ lw_good ∧ iMeth M' n ∧ iPlain M'
def iCallI (M : Mth) (pc : Nat) (M' : Mth) (n : Nat) : Prop := (∃ ix : Nat, decode M.2.1 pc = .ok (.invokespecial ix, 3) ∧ Cond.methodLink M.1.cls ix M'.1 ∈ lw_good) ∧ (Cond.instanceMethod M'.1 ∈ lw_good ∧ M'.1.name = "<init>" ∧ M'.2.2.2.1 = none) ∧ iMeth M' n ∧ iPlain M'
section RulesC
variable {scr : Scr} {l : Launch} {d : Nat} {M M' : Mth} {pc n ci : Nat} {L : List (Option Value)} {st as : List Value} {S : Sto} {r r1 : Res}
variable {p : Program} {e : Env} {R : Room} {s : State} {m : MethodId} {args : Array Value} {below : List Frame} {meth : Method} {c : Code} {ρ : Nat → Nat} {dC : Nat → ClassId} {dI : Nat → Nat → Nat} {A : Nat → Prop} {ws0 : va_W} {mc ms : Nat} {Q : State → Prop}
variable {H : Heap} {locs : List Loc} {cells slots : Nat} {ws : va_W} {tys : List (ClassId × FieldType)} {ls : Array Slot}
abbrev Pc0 (scr : Scr) (ρ : Nat → Nat) (dC : Nat → ClassId) (dI : Nat → Nat → Nat) (ws : va_W) (tys : List (ClassId × FieldType)) (sz : Nat) : State → Prop := fun U => U.heap.size = sz ∧ va_P (dC, dI) vwCl ws U.heap ∧ va_K (dC, dI) vwCl tys U ∧ va_D (fun _ => True) ws ∧ Gl scr ρ (va_A ws sz) U U.heap
theorem Pc0.blind (as' : List Value) (sz : Nat) : FrameBlind (va_Pc as' (Pc0 scr ρ dC dI ws tys sz)) := fun a U g mk q => by
  obtain ⟨q0, q1, qP, qK, qD, qG⟩ := q
  exact ⟨q0, q1, qP, va_K.moved (u := U) (U := U.calling g mk a) (Vm.Alike.refl U.vm) qK, qD, Gl.same (s := U) (U := U.calling g mk a) rfl qG⟩
theorem Pc0.now (hC : Cx l p s m args meth c M scr ρ A) (hW : Wd s ρ dC dI A ws0 H locs ws tys S) (as' : List Value) : ∀ U : State, U.heap = H → s.WarmedH U.vm → va_Pc as' (Pc0 scr ρ dC dI ws tys H.size) as'.toArray U := fun U hU hWm => by
  obtain ⟨-, -, -, -, -, -, -, -, -, hG, hA, -⟩ := hC
  obtain ⟨-, -, hP, hK, hD, hS⟩ := hW
  exact ⟨rfl, by rw [hU], by rw [hU]; exact hP, va_K.moved hWm.alike hK, hD.weaken (fun _ _ _ _ => trivial), by rw [hU]; exact Gl.moved hWm ((hG.kept hS.1 hS.2.1).narrow (freeA hD hS hA))⟩
abbrev Run0 (l : Launch) (p : Program) (e : Env) (R : Room) (s : State) (m : MethodId) (args : Array Value) (below : List Frame) (meth : Method) (c : Code) (ρ : Nat → Nat) (dC : Nat → ClassId) (dI : Nat → Nat → Nat) (H : Heap) (locs : List Loc) (cells slots : Nat) (ws : va_W) (S : Sto) (r1 : Res) (pc : Nat) (ls : Array Slot) (st0 rest : List Value) : Prop :=
  vx_Run p l e R s m args below meth c H locs cells slots (r1.2.2.1 - S.2.1) (r1.2.2.2 - S.2.2) (F0 m pc ls st0) rest (fun st oc t => RQ r1 ρ dC dI (va_A ws H.size) ws #[] st oc t) (RX r1 ρ dC dI (va_A ws H.size) ws) (va_A ws H.size)
theorem runV {b : Nat} {fs : List Value} {rest as' : List Value} {b' : Nat} (hC : Cx l p s m args meth c M scr ρ A) (hR : d + 1 + 8 ≤ R.frames ∧ 200 + 100 * (d + 1) ≤ R.locals) (hW : Wd s ρ dC dI A ws0 H locs ws tys S) (hL : ls.size = M.2.2.1) (h : iCallV M pc M' n ci)
    (hM : MetA scr l d M' (.ref b :: as) S r1) (hb : S.1[b]? = some (oB ci fs)) (eb : lkA ρ ws b = some b') (has : SR ρ ws as as') (hn : as.length = n) (hcat : (rest.map fun v => v.category).sum ≤ 8) (hf : cells + (r1.2.2.1 - S.2.1) ≤ R.cells ∧ slots + (r1.2.2.2 - S.2.2) ≤ R.slots) :
    Run0 l p e R s m args below meth c ρ dC dI H locs cells slots ws S r1 pc ls (as'.reverse ++ .ref b' :: rest) rest := by
  obtain ⟨⟨ix, hd, hlk⟩, ⟨hin, hse, T, N, hcl⟩, ⟨hini, hmh, hpar, hmx⟩, hpl, hcode⟩ := h
  obtain ⟨e1, hw, fs', rfl, -⟩ := lkA.at hW.1 hb eb
  have hg : ∀ w ∈ lw_good, w.before args s = true := hC.2.2.2.2.1
  have hws : Mws M' = Cond.code M'.1 M'.2.1 M'.2.2.1 M'.2.2.2.1 :: lw_good := by unfold Mws; rw [if_pos hpl]
  have hm := hM.2 ρ dC dI ws tys H.size (.ref b' :: as') hW.1 ⟨_, _, rfl, ⟨b', eb, rfl⟩, has⟩ hC.2.2.2.2.2.2.2.2.2.2.2
  have cw : CallB R s args M.1.cls ix M'.1 M'.2.1 M'.2.2.1 M'.2.2.2.1 (Mws M') (Rm d (r1.2.2.1 - S.2.1) (r1.2.2.2 - S.2.2)) (r1.2.2.1 - S.2.1) (r1.2.2.2 - S.2.2) n :=
    callB_of n hg (by rw [hws]; exact goodIn_good _ hcode) hws rfl rfl (hg _ hini) (hg _ hlk) ⟨hmh.1, hmh.2, hpar⟩ ⟨by show d + 8 + 1 ≤ R.frames; omega, by show 8 + (M'.2.2.1 + 11) + (200 + 100 * d) ≤ R.locals; omega⟩
  exact vx_runV (cc := M.2.1) (nL := M.2.2.1) (Ts := lw_good) (C := M'.1.cls) ⟨hC.1, hC.2.1, hC.2.2.1, hC.2.2.2.2.2.1, hg⟩ hm ⟨cw, hg _ hin, hg _ hse⟩ ⟨Pc0.blind _ _, va_recv hW.2.2.2.1 hW.2.2.1 hcl hw, Pc0.now hC hW _⟩ rfl ((SR.len has).trans hn) hL rfl (lv_room hcat) hd hf
theorem runS {rest as' : List Value} (hC : Cx l p s m args meth c M scr ρ A) (hR : d + 1 + 8 ≤ R.frames ∧ 200 + 100 * (d + 1) ≤ R.locals) (hW : Wd s ρ dC dI A ws0 H locs ws tys S) (hL : ls.size = M.2.2.1) (h : iCallS M pc M' n)
    (hM : MetA scr l d M' as S r1) (has : SR ρ ws as as') (hn : as.length = n) (hcat : (rest.map fun v => v.category).sum ≤ 8) (hf : cells + (r1.2.2.1 - S.2.1) ≤ R.cells ∧ slots + (r1.2.2.2 - S.2.2) ≤ R.slots) :
    Run0 l p e R s m args below meth c ρ dC dI H locs cells slots ws S r1 pc ls (as'.reverse ++ rest) rest := by
  obtain ⟨⟨ix, hd, hlk⟩, hst, ⟨hini, hmh, hpar, hmx⟩, hpl, hcode⟩ := h
  have hg : ∀ w ∈ lw_good, w.before args s = true := hC.2.2.2.2.1
  have hws : Mws M' = Cond.code M'.1 M'.2.1 M'.2.2.1 M'.2.2.2.1 :: lw_good := by unfold Mws; rw [if_pos hpl]
  have hm := hM.2 ρ dC dI ws tys H.size as' hW.1 has hC.2.2.2.2.2.2.2.2.2.2.2
  have cw : CallB R s args M.1.cls ix M'.1 M'.2.1 M'.2.2.1 M'.2.2.2.1 (Mws M') (Rm d (r1.2.2.1 - S.2.1) (r1.2.2.2 - S.2.2)) (r1.2.2.1 - S.2.1) (r1.2.2.2 - S.2.2) n :=
    callB_of n hg (by rw [hws]; exact goodIn_good _ hcode) hws rfl rfl (hg _ hini) (hg _ hlk) ⟨hmh.1, hmh.2, hpar⟩ ⟨by show d + 8 + 1 ≤ R.frames; omega, by show 8 + (M'.2.2.1 + 11) + (200 + 100 * d) ≤ R.locals; omega⟩
  exact vx_runS (As := as') (cc := M.2.1) (nL := M.2.2.1) (Ts := lw_good) ⟨hC.1, hC.2.1, hC.2.2.1, hC.2.2.2.2.2.1, hg⟩ hm ⟨cw, hg _ hst⟩ ⟨Pc0.blind _ _, Pc0.now hC hW _⟩ rfl ((SR.len has).trans hn) hL rfl (lv_room hcat) hd hf
theorem runI {b : Nat} {rest as' : List Value} {b' : Nat} (hC : Cx l p s m args meth c M scr ρ A) (hR : d + 1 + 8 ≤ R.frames ∧ 200 + 100 * (d + 1) ≤ R.locals) (hW : Wd s ρ dC dI A ws0 H locs ws tys S) (hL : ls.size = M.2.2.1) (h : iCallI M pc M' n)
    (hM : MetA scr l d M' (.ref b :: as) S r1) (eb : lkA ρ ws b = some b') (has : SR ρ ws as as') (hn : as.length = n) (hcat : (rest.map fun v => v.category).sum ≤ 8) (hf : cells + (r1.2.2.1 - S.2.1) ≤ R.cells ∧ slots + (r1.2.2.2 - S.2.2) ≤ R.slots) :
    Run0 l p e R s m args below meth c ρ dC dI H locs cells slots ws S r1 pc ls (as'.reverse ++ .ref b' :: rest) rest := by
  obtain ⟨⟨ix, hd, hlk⟩, ⟨hin, hy1, hret⟩, ⟨hini, hmh, hpar, hmx⟩, hpl, hcode⟩ := h
  have hg : ∀ w ∈ lw_good, w.before args s = true := hC.2.2.2.2.1
  have hws : Mws M' = Cond.code M'.1 M'.2.1 M'.2.2.1 none :: lw_good := by unfold Mws; rw [if_pos hpl, hret]
  rw [hret] at hcode
  have hm := hM.2 ρ dC dI ws tys H.size (.ref b' :: as') hW.1 ⟨_, _, rfl, ⟨b', eb, rfl⟩, has⟩ hC.2.2.2.2.2.2.2.2.2.2.2
  have cw : CallB R s args M.1.cls ix M'.1 M'.2.1 M'.2.2.1 none (Mws M') (Rm d (r1.2.2.1 - S.2.1) (r1.2.2.2 - S.2.2)) (r1.2.2.1 - S.2.1) (r1.2.2.2 - S.2.2) n :=
    callB_of n hg (by rw [hws]; exact goodIn_good _ hcode) hws rfl rfl (hg _ hini) (hg _ hlk) ⟨hmh.1, hmh.2, hpar⟩ ⟨by show d + 8 + 1 ≤ R.frames; omega, by show 8 + (M'.2.2.1 + 11) + (200 + 100 * d) ≤ R.locals; omega⟩
  exact vx_runI (cc := M.2.1) (nL := M.2.2.1) (Ts := lw_good) ⟨hC.1, hC.2.1, hC.2.2.1, hC.2.2.2.2.2.1, hg⟩ hm ⟨cw, hy1, hg _ hin⟩ ⟨Pc0.blind _ _, Pc0.now hC hW _⟩ rfl ((SR.len has).trans hn) hL rfl (lv_room hcat) hd hf
theorem WdE.back (hW : Wd s ρ dC dI A ws0 H locs ws tys S) (hA : ∀ q, s.heap.size ≤ q → A q) {t T' : State} {ws1 : va_W} {tys1 : List (ClassId × FieldType)} {S1 : Sto} {L1 : List Loc} (hE : WdE t ρ dC dI (va_A ws H.size) ws ws1 tys1 S1) (e1 : T'.heap = t.heap) (ha : s.vm.Alike t.vm) (hS1 : va_S A s.heap T'.heap (locs ++ L1)) : Wd s ρ dC dI A ws0 T'.heap (locs ++ L1) ws1 tys1 S1 := by
  obtain ⟨h1, h2, h3, h4, h5⟩ := hE
  exact ⟨h1, hW.2.1.tr h2, by rw [e1]; exact h3, va_K.moved ha.symm h4, h5.weaken (fun _ _ _ h => freeA hW.2.2.2.2.1 hW.2.2.2.2.2 hA _ h), hS1⟩
/-- behind a call that returned -/
theorem ret_of {st0 rest' : List Value} {v0 : Option Value} {S1 : Sto} (hC : Cx l p s m args meth c M scr ρ A) (hR : d + 1 + 8 ≤ R.frames ∧ 200 + 100 * (d + 1) ≤ R.locals ∧ mc ≤ R.cells ∧ ms ≤ R.slots) (hE : EndQ l p e R s m args below meth c M ρ dC dI A ws0 mc ms r Q) (hW : Wd s ρ dC dI A ws0 H locs ws tys S) (hL : LR ρ ws L ls) (hS : SR ρ ws st rest') (hc : cells + r.2.2.1 = mc + S.2.1) (hs : slots + r.2.2.2 = ms + S.2.2)
    (hm1 : S.2.1 ≤ S1.2.1 ∧ S.2.2 ≤ S1.2.2) (hr : Run0 l p e R s m args below meth c ρ dC dI H locs cells slots ws S (.inl v0, S1) pc ls st0 rest') (k : Ev scr l (d + 1) M (pc + 3) L (v0.toList ++ st) S1 r) : W p l e R s m args below meth c H locs cells slots Q (F0 m pc ls st0) := by
  intro T hT X
  rcases hr T hT X with ⟨v, st₀, t, T', L1, h0, X', hL1, e1, e2, ⟨⟨v1, v', ws1, tys1, hr1, hoc, hOR, hWE⟩, hF⟩, stp⟩ | ⟨q, st₀, t, T', L1, E, ce, h0, X', hL1, e1, e2, ⟨⟨ws1, tys1, hr1, -⟩, -⟩, -⟩
  · cases hoc
    cases hr1
    have hAf := freeA hW.2.2.2.2.1 hW.2.2.2.2.2 hC.2.2.2.2.2.2.2.2.2.2.1
    obtain ⟨hz, hk, hS1⟩ := vx_keep h0 e1 hW.2.2.2.2.2 (fun q _ h => hAf q h) hAf hL1 hF
    have ha : s.vm.Alike t.vm := by rw [← e2]; exact X'.warmed.alike
    have hW1 := WdE.back hW hC.2.2.2.2.2.2.2.2.2.2.1 hWE e1 ha hS1
    have hst : SR ρ ws1 (v0.toList ++ st) (v.toList ++ rest') := by
      refine SR.app ?_ (SR.mono hWE.2.1 hS)
      cases v0 with
      | none => have hOR : v = none := hOR; subst hOR; rfl
      | some x => obtain ⟨x', rfl, hx⟩ := hOR; exact ⟨x', [], rfl, hx, rfl⟩
    have hcc : (cells + (S1.2.1 - S.2.1)) + r.2.2.1 = mc + S1.2.1 := by have := hm1.1; omega
    have hss : (slots + (S1.2.2 - S.2.2)) + r.2.2.2 = ms + S1.2.2 := by have := hm1.2; omega
    obtain ⟨t2, a1, b1⟩ := k.2 p e R s m args below meth c ρ dC dI A ws0 mc ms Q hC hR hE T'.heap (locs ++ L1) _ _ ws1 tys1 ls _ hW1 (LR.mono hWE.2.1 hL) hst hcc hss T' rfl X'
    exact ⟨t2, stp t2 a1, b1⟩
  · cases hr1
/-- behind a call that threw, in a method without handlers -/
theorem thr_of {st0 rest' : List Value} {E0 : String} {S1 : Sto} (hh : M.2.2.2.2 = []) (hC : Cx l p s m args meth c M scr ρ A) (hE : EndQ l p e R s m args below meth c M ρ dC dI A ws0 mc ms (.inr E0, S1) Q) (hW : Wd s ρ dC dI A ws0 H locs ws tys S) (hc : cells + S1.2.1 = mc + S.2.1) (hs : slots + S1.2.2 = ms + S.2.2)
    (hm1 : S.2.1 ≤ S1.2.1 ∧ S.2.2 ≤ S1.2.2) (hr : Run0 l p e R s m args below meth c ρ dC dI H locs cells slots ws S (.inr E0, S1) pc ls st0 rest') : W p l e R s m args below meth c H locs cells slots Q (F0 m pc ls st0) := by
  rcases hE with rfl | ⟨v, hv, -⟩
  · intro T hT X
    rcases hr T hT X with ⟨v, st₀, t, T', L1, h0, X', hL1, e1, e2, ⟨⟨v1, v', ws1, tys1, hr1, hoc, hOR, hWE⟩, hF⟩, stp⟩ | ⟨q, st₀, t, T', L1, E, ce, h0, X', hL1, e1, e2, ⟨⟨ws1, tys1, hr1, hWE⟩, hF⟩, hq, hcv, hcl, stp⟩
    · cases hr1
    · cases hr1
      have hAf := freeA hW.2.2.2.2.1 hW.2.2.2.2.2 hC.2.2.2.2.2.2.2.2.2.2.1
      obtain ⟨hz, hk, hS1⟩ := vx_keep h0 e1 hW.2.2.2.2.2 (fun q _ h => hAf q h) hAf hL1 hF
      have ha : s.vm.Alike t.vm := by rw [← e2]; exact X'.warmed.alike
      have hW1 := WdE.back hW hC.2.2.2.2.2.2.2.2.2.2.1 hWE e1 ha hS1
      have hcc : cells + (S1.2.1 - S.2.1) ≤ mc := by have := hm1.1; omega
      have hss : slots + (S1.2.2 - S.2.2) ≤ ms := by have := hm1.2; omega
      have hex : c.exceptionTable.toList = tableOf M.2.2.2.2 := hC.2.2.2.2.2.2.2.2.1
      have hno : ∀ x ∈ c.exceptionTable.toList, covers x pc = false := by
        rw [hex, hh]
        intro x hx
        cases hx
      obtain ⟨t2, a1, b1⟩ := vx_out (Qc := RQ (.inr E0, S1) ρ dC dI A ws0) (XC := RX (.inr E0, S1) ρ dC dI A ws0) (args := args) (s := s) (R := R) (p := p) (l := l) (e := e) (below := below) (m := m) (ls := ls) (rest := rest') (free := A) (H := T'.heap) (locs := locs ++ L1) (pc := pc) hno hC.2.2.2.2.2.2.1 (by rw [e1]; exact hq) hcv hcl
        (fun t2 ht2 ha2 => ⟨⟨ws1, tys1, rfl, hW1.1, hW1.2.1, by rw [ht2]; exact hW1.2.2.1, va_K.moved ha2 hW1.2.2.2.1, hW1.2.2.2.2.1⟩, hS1.F ht2⟩) hS1.2.2 hcc hss T' rfl X'
      exact ⟨t2, stp.trans a1, b1⟩
  · cases hv
end RulesC

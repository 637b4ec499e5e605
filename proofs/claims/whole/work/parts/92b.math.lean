/-! Math.abs, min, max of doubles: rows of the machine, not bytecode -/
section MathRows
/-- a method that a row of the machine answers in place of its code, changing nothing -/
theorem ov_go (p : Program) {e : Env} {below : List Frame} {s target : State} {g : JFrame} {c : Code}
    (htopS : s.topJava?.isSome) (habove : ∃ mid, s.frames.tail = mid ++ below) (hrunning : s.status = .running) (hrunnable : s.curStatus? = some .runnable) (haloneS : s.alone = true) (hcodeG : s.code? g.method = some c)
    {m : MethodId} {meth : Method} {k : Class} {cm : Code} {as : List Value} {v : Value} {nL np : Nat} {row : NativeRow} (acts : List Action)
    (hk : s.vm.classes[m.cls]? = some k) (hx : k.methods[m.idx]? = some meth) (hboot : k.loader = none)
    (hkn : k.name = "java/lang/Math") (hrow : NativeRow.find? p.tables.natives "java/lang/Math" meth.name meth.desc = some row) (hpar : meth.sig.parameters.length = np)
    (hc : meth.code = some cm) (hml : cm.maxLocals = nL) (hl : meth.locks = false)
    (hgiv : ∀ n : Nat, ((argsToLocals as.toArray nL).toList.filterMap fun | .val v => some v | _ => none).toArray.extract 0 (np + n) = as.toArray)
    (hrun : ∀ S, ∃ acts, (row.sem as.toArray).run e S = .ok (some v) S acts)
    (hroom : (s.calling g m as.toArray).hasRoom e.platform {} = true)
    {ig : Instr} {len : Nat} (hdg : decode c.code g.pc = .ok (ig, len))
    (hrest : Steps p.tables e below (s.setTop { g with pc := g.pc + len, stack := v :: g.stack }) target) :
    Steps p.tables e below (doInvoke e (s.setTop g) acts m as.toArray).1 target := by
  obtain ⟨g0, hg⟩ := Option.isSome_iff_exists.mp htopS
  obtain ⟨r, hr⟩ := State.topJava?_eq_some.mp hg
  obtain ⟨mid, hmid⟩ := habove
  have hcur : s.cur < s.threads.size := State.cur_lt_of_frames hr
  have hm : s.vm.method? m = some meth := by simp [Vm.method?, hk, hx]
  have htop : s.setTop g = s.setFrames (.java g :: r) := State.setTop_of_frames _ hr
  have htail : s.frames.tail = r := by rw [hr]; rfl
  have hfull : e.platform.stackFull (s.setTop g).me (s.setTop g).frames cm.maxLocals = false := by
    have hfc := State.frames_calling htopS g m as.toArray
    obtain ⟨-, r2, -, r4⟩ := State.hasRoom_stack hroom
    rw [State.localsInUse_invoking hfc (meth := meth) (c := cm) hm hc] at r4
    rw [hfc, htail] at r2
    rw [htail] at r4
    have hw := stackUse_le_stackWeight (.java g :: r)
    rw [State.calling_eq htopS, State.stackLimits_setFrames] at r2 r4
    rw [htop, State.frames_setFrames _ hcur]
    refine Platform.stackFull_eq_false (by rw [State.stackLimits_setFrames]; simp only [List.length_cons] at r2 ⊢; have : ({} : Room).frames = 0 := rfl; omega) (by rw [State.stackLimits_setFrames]; have : ({} : Room).locals = 0 := rfl; omega)
  rw [(doInvoke_java (s := s.setTop g) (e := e) (acts := acts) (args := as.toArray) (meth := meth) (code := cm) hm hc hl hfull).1, hml]
  have hU : (s.setTop g).pushFrame (.java { method := m, pc := 0, locals := argsToLocals as.toArray nL, stack := [], locked := none }) = s.setFrames (.java (entryFrame m as.toArray nL) :: .java g :: r) := by
    rw [State.pushFrame, State.frames_setTop _ hr, htop, State.setFrames_setFrames]
    rfl
  rw [hU]
  have hf1 : (s.setFrames (.java (entryFrame m as.toArray nL) :: .java g :: r)).frames = .java (entryFrame m as.toArray nL) :: .java g :: r := State.frames_setFrames _ hcur
  have hov : overridden p.tables e (s.setFrames (.java (entryFrame m as.toArray nL) :: .java g :: r)) (entryFrame m as.toArray nL) = some row := by
    have hk' : (s.setFrames (.java (entryFrame m as.toArray nL) :: .java g :: r)).vm.classes[(entryFrame m as.toArray nL).method.cls]? = some k := hk
    have hx' : k.methods[(entryFrame m as.toArray nL).method.idx]? = some meth := hx
    unfold overridden
    rw [if_neg (by show ¬ ((0 : Nat) != 0) = true; decide), hk']
    dsimp only
    rw [if_neg (by rw [hboot, hkn]; simp [overriddenIn]), hx', hkn]
    exact hrow
  have hb2 : ∀ F : List Frame, ((s.setFrames F).vm.classes[m.cls]?.bind fun y => y.methods[m.idx]?) = some meth := by
    intro F
    show (s.vm.classes[m.cls]?.bind fun y => y.methods[m.idx]?) = some meth
    simp [hk, hx]
  obtain ⟨acts2, hr2⟩ := hrun (s.setFrames (.native { method := m, args := as.toArray } :: .java g :: r))
  have hcode : ∀ F : List Frame, (s.setFrames F).code? g.method = some c := by
    intro F
    have := hcodeG
    rw [State.code?_eq] at this ⊢
    simpa [State.setFrames] using this
  have hfs : handOver (s.setFrames (.native { method := m, args := as.toArray } :: .java g :: r)) (some v) (.java g :: r)
      = some (.java { g with pc := g.pc + len, stack := v :: g.stack } :: r) := by
    simp [handOver, hcode, hdg, Except.toOption]
  have hgv : ∃ n, argCount (s.setFrames (.java (entryFrame m as.toArray nL) :: .java g :: r)) m = np + n := by
    unfold argCount
    rw [hb2]
    dsimp only
    rw [hpar]
    exact ⟨_, rfl⟩
  obtain ⟨n, hn⟩ := hgv
  have hstep2 : (stepThread p.tables e (s.setFrames (.java (entryFrame m as.toArray nL) :: .java g :: r))).1 = s.setTop { g with pc := g.pc + len, stack := v :: g.stack } := by
    unfold stepThread
    rw [hf1]
    dsimp only
    rw [hov]
    dsimp only
    have e1 : ((entryFrame m as.toArray nL).locals.toList.filterMap fun | .val v => some v | _ => none).toArray.extract 0 (argCount (s.setFrames (.java (entryFrame m as.toArray nL) :: .java g :: r)) (entryFrame m as.toArray nL).method) = as.toArray := by
      show _ = _
      rw [show (entryFrame m as.toArray nL).method = m from rfl, hn]
      exact hgiv n
    have e3 : ∀ G : Array Value, G = as.toArray → (afterNative e { method := m, args := G, locked := (entryFrame m as.toArray nL).locked } (.java g :: r) ((row.sem G).run e ((s.setFrames (.java (entryFrame m as.toArray nL) :: .java g :: r)).setFrames (.native { method := m, args := G, locked := (entryFrame m as.toArray nL).locked } :: .java g :: r)))).1 = s.setTop { g with pc := g.pc + len, stack := v :: g.stack } := by
      intro G hG
      subst hG
      rw [State.setFrames_setFrames, show (entryFrame m as.toArray nL).locked = none from rfl, hr2]
      simp only [afterNative]
      rw [doReturn_native (f := { method := m, args := as.toArray }) (below := .java g :: r) (State.frames_setFrames _ hcur) rfl hfs, State.setFrames_setFrames, ← State.setTop_of_frames _ hr]
    exact e3 _ e1
  refine Steps.head ⟨hrunning, by simpa using hrunnable, by simpa using haloneS⟩ ⟨.java (entryFrame m as.toArray nL) :: .java g :: mid, by rw [hf1]; rw [hr] at hmid; simp at hmid; simp [hmid], by simp, by simp⟩ ?_
  rw [hstep2]
  exact hrest
def rwAbs : NativeRow := (NativeRow.find? Native.java_lang_Math.nans.rows "java/lang/Math" "abs" "(D)D").get (by decide +kernel)
set_option maxRecDepth 100000 in
theorem rwAbs_row (p : Program) : NativeRow.find? p.tables.natives "java/lang/Math" "abs" "(D)D" = some rwAbs := by
  cases p <;> rfl
theorem rwAbs_run {a : UInt64} (ha : vf_n64 a) (e : Env) (S : State) : ∃ acts, (rwAbs.sem #[.double a]).run e S = .ok (some (.double (a &&& 0x7fffffffffffffff))) S acts := by
  have hsem : rwAbs.sem #[.double a] = (do
      let r ← Jvm.anyNaN64 (a &&& 0x7fffffffffffffff)
      Jvm.mark "nat.java_lang_Math.abs"
      Pure.pure (some (.double r))) := rfl
  have hw : wpRun (rwAbs.sem #[.double a]) (fun v s2 _ => v = some (.double (a &&& 0x7fffffffffffffff)) ∧ s2 = S) (fun _ _ _ => False) e S := by
    rw [hsem]
    have hn : (a &&& 0x7fffffffffffffff) &&& 0x7fffffffffffffff ≤ 0x7ff0000000000000 := by rw [UInt64.and_assoc, UInt64.and_self]; exact ha
    simp [jvm, wpRun, Jvm.anyNaN64, hn]
  have hw' := (wpRun_iff_run _ _ _ _ _).mp hw
  cases hr : (rwAbs.sem #[.double a]).run e S with
  | ok v s2 acts2 => rw [hr] at hw'; obtain ⟨rfl, rfl⟩ := hw'; exact ⟨_, rfl⟩
  | ctl x s2 acts2 => rw [hr] at hw'; cases x <;> exact hw'.elim
def rwMax : NativeRow := (NativeRow.find? Native.java_lang_Math.nans.rows "java/lang/Math" "max" "(DD)D").get (by decide +kernel)
set_option maxRecDepth 100000 in
theorem rwMax_row (p : Program) : NativeRow.find? p.tables.natives "java/lang/Math" "max" "(DD)D" = some rwMax := by
  cases p <;> rfl
theorem rwMax_run {a b : UInt64} (ha : FP.dIsNaN a = false) (hb : FP.dIsNaN b = false) (e : Env) (S : State) : ∃ acts, (rwMax.sem #[.double a, .double b]).run e S = .ok (some (.double (Native.java_lang_Math.nans.pick64 true a b))) S acts := by
  have hsem : rwMax.sem #[.double a, .double b] = (do
      let r ← if FP.dIsNaN a then Jvm.anyNaN64 a else if FP.dIsNaN b then Jvm.anyNaN64 b else Pure.pure (Native.java_lang_Math.nans.pick64 true a b)
      Jvm.mark "nat.java_lang_Math.max"
      Pure.pure (some (.double r))) := rfl
  have hw : wpRun (rwMax.sem #[.double a, .double b]) (fun v s2 _ => v = some (.double (Native.java_lang_Math.nans.pick64 true a b)) ∧ s2 = S) (fun _ _ _ => False) e S := by
    rw [hsem]
    simp [jvm, wpRun, ha, hb]
  have hw' := (wpRun_iff_run _ _ _ _ _).mp hw
  cases hr : (rwMax.sem #[.double a, .double b]).run e S with
  | ok v s2 acts2 => rw [hr] at hw'; obtain ⟨rfl, rfl⟩ := hw'; exact ⟨_, rfl⟩
  | ctl x s2 acts2 => rw [hr] at hw'; cases x <;> exact hw'.elim
def rwMin : NativeRow := (NativeRow.find? Native.java_lang_Math.nans.rows "java/lang/Math" "min" "(DD)D").get (by decide +kernel)
set_option maxRecDepth 100000 in
theorem rwMin_row (p : Program) : NativeRow.find? p.tables.natives "java/lang/Math" "min" "(DD)D" = some rwMin := by
  cases p <;> rfl
theorem rwMin_run {a b : UInt64} (ha : FP.dIsNaN a = false) (hb : FP.dIsNaN b = false) (e : Env) (S : State) : ∃ acts, (rwMin.sem #[.double a, .double b]).run e S = .ok (some (.double (Native.java_lang_Math.nans.pick64 false a b))) S acts := by
  have hsem : rwMin.sem #[.double a, .double b] = (do
      let r ← if FP.dIsNaN a then Jvm.anyNaN64 a else if FP.dIsNaN b then Jvm.anyNaN64 b else Pure.pure (Native.java_lang_Math.nans.pick64 false a b)
      Jvm.mark "nat.java_lang_Math.min"
      Pure.pure (some (.double r))) := rfl
  have hw : wpRun (rwMin.sem #[.double a, .double b]) (fun v s2 _ => v = some (.double (Native.java_lang_Math.nans.pick64 false a b)) ∧ s2 = S) (fun _ _ _ => False) e S := by
    rw [hsem]
    simp [jvm, wpRun, ha, hb]
  have hw' := (wpRun_iff_run _ _ _ _ _).mp hw
  cases hr : (rwMin.sem #[.double a, .double b]).run e S with
  | ok v s2 acts2 => rw [hr] at hw'; obtain ⟨rfl, rfl⟩ := hw'; exact ⟨_, rfl⟩
  | ctl x s2 acts2 => rw [hr] at hw'; cases x <;> exact hw'.elim
theorem W_ov {p : Program} {l : Launch} {e : Env} {R : Room} {s : State} {m : MethodId} {args : Array Value} {below : List Frame} {meth : Method} {c : Code} {H : Heap} {locs : List Loc} {cells slots : Nat} {Q : State → Prop} {ls : Array Slot} {pc : Nat} {rest : List Value} {cc : ByteArray}
    (hexec : p.tables.exec = Jvm.exec) (hb : c.code = cc) (hml : c.maxLocals = ls.size) {own : String} {index : Nat} (hown : s.vm.findClass own = some m.cls) {y : MethodName} {code : ByteArray} {nL : Nat} {ret : Option FieldType}
    (hlink : (Cond.methodLink own index y).before args s = true) (hstat : (Cond.static y).before args s = true) (hinit : (Cond.initialized y.cls).before args s = true) (hcode : (Cond.code y code nL ret).before args s = true) (hy : y.cls = "java/lang/Math")
    (hmh : y.cls ≠ "java/lang/invoke/MethodHandle" ∧ y.cls ≠ "java/lang/invoke/VarHandle") {as : List Value} {v : Value} {np : Nat} {row : NativeRow} (hpd : (parseMethodDescriptor y.desc).map (fun d => d.parameters.length) = some np) (hn : as.length = np) (hrow : NativeRow.find? p.tables.natives "java/lang/Math" y.name y.desc = some row)
    (hgiv : ∀ n : Nat, ((argsToLocals as.toArray nL).toList.filterMap fun | .val v => some v | _ => none).toArray.extract 0 (np + n) = as.toArray) (hrun : ∀ S, ∃ acts, (row.sem as.toArray).run e S = .ok (some v) S acts)
    (hframes : 1 ≤ R.frames) (hlocals : (rest.map fun v => v.category).sum + (nL + 11) ≤ R.locals) (hcells : cells ≤ R.cells) (hslots : slots ≤ R.slots) (hdg : decode cc pc = .ok (.invokestatic index, 3))
    (k : W p l e R s m args below meth c H locs cells slots Q (F0 m (pc + 3) ls (v :: rest))) : W p l e R s m args below meth c H locs cells slots Q (F0 m pc ls (as.reverse ++ rest)) := by
  intro T hT X
  obtain ⟨mk, hnamed⟩ := Cond.code_named hcode
  obtain ⟨methS, cS, hmethS, -, -, -, -, -, -, hsigS⟩ := Cond.code_spec hnamed hcode
  have hstatic := Cond.static_spec hnamed hmethS hstat
  obtain ⟨kS, hkS, -⟩ := className_of_methodNamed hnamed
  have hinitS : kS.init = .initialized := Cond.initialized_spec (findClass_of_methodNamed hnamed) hkS hinit
  have hps : methS.sig.parameters.length = np := by
    rw [hsigS] at hpd
    simpa using hpd
  obtain ⟨vm1, X1, hstep1⟩ := X.invokestatic hexec hown hlink hnamed hmethS hstatic hkS hinitS hmh (g := F0 m pc ls (as.reverse ++ rest)) rfl (argsL := as) (rest := rest) (by rw [hps, hn]) rfl (by rw [hb]; exact hdg)
  have hnamed1 : (T.setVm vm1).methodNamed? y = some mk := X1.named hnamed
  have hcodeU : (Cond.code y code nL ret).before args (T.setVm vm1) = true := Cond.tabsOnly_warm (args' := args) (T := T.setVm vm1) X1.warmed _ rfl hcode
  obtain ⟨methM, cM, hmethM, hcodeM', -, hlocalsM, -, hlocksM, -, hsigM⟩ := Cond.code_spec hnamed1 hcodeU
  obtain ⟨kP, hkP, hkname⟩ := className_of_methodNamed hnamed1
  obtain ⟨hmnM, hmdM⟩ := name_of_methodNamed hnamed1 hmethM
  have hkP' : vm1.classes[mk.cls]? = some kP := hkP
  have hxP : kP.methods[mk.idx]? = some methM := by simpa [Vm.method?, hkP'] using hmethM
  have hbootP : kP.loader = none := Vm.bootOf_findClass (findClass_of_methodNamed hnamed1) hkP
  have hpm : methM.sig.parameters.length = np := by
    rw [hsigM] at hpd
    simpa using hpd
  obtain ⟨t, a1, b1⟩ := k (T.setVm vm1) hT X1
  refine ⟨t, hstep1 t fun acts => ?_, b1⟩
  exact ov_go p (g := { F0 m pc ls (as.reverse ++ rest) with stack := rest }) X1.here.top X1.here.above X1.here.running X1.here.runnable X1.here.alone X1.here.code acts hkP hxP hbootP (hkname.trans hy) (by rw [hmnM, hmdM]; exact hrow) hpm hcodeM' hlocalsM hlocksM hgiv hrun
    (X1.room_calling (g := { F0 m pc ls (as.reverse ++ rest) with stack := rest }) (by show ls.size = _; rw [hml]) hmethM hcodeM' (R' := {}) (by show 0 + 1 ≤ R.frames; omega) (by rw [hlocalsM]; show 2 * 0 + (rest.map fun v => v.category).sum + (nL + 11) + 0 ≤ R.locals; omega) (by show cells + 0 ≤ R.cells; omega) (by show slots + 0 ≤ R.slots; omega)) (by rw [hb]; exact hdg) a1
theorem DV.nan {x : UInt64} {k : Int} (h : DV x k) : FP.dIsNaN x = false := by
  obtain ⟨s, n, h1, h2⟩ := h
  unfold FP.dIsNaN
  exact decide_eq_false (fun q => by
    have q : FP.Core.decode FP.Core.b64 x.toNat = .nan := q
    rw [h1] at q
    cases q)
section RulesMD
variable {scr : Scr} {l : Launch} {d : Nat} {M : Mth} {pc : Nat} {L : List (Option Value)} {st : List Value} {S : Sto} {r : Res}
theorem ev_mabsD {x : UInt64} {a : Int} (h : iCallS M pc M_Ma_absD 1) (hx : DV x a) (hlen : L.length = M.2.2.1) (hcat : (st.map fun v => v.category).sum ≤ 8) (k : Ev scr l d M (pc + 3) L (.double (absB x) :: st) S r) : Ev scr l d M pc L (.double x :: st) S r := by
  obtain ⟨⟨ix, hd, hlk⟩, hst, ⟨hini, hmh, hpar, hmx⟩, hh, hcode⟩ := h
  refine ⟨k.1, fun p e R s m args below meth c ρ dC dI A ws0 mc ms Q hC hR hE H locs cells slots ws tys ls st0 hW hL hS hc hs => ?_⟩
  obtain ⟨v0, r0, rfl, hv0, hS⟩ := hS
  have hv0 : v0 = .double x := hv0
  subst hv0
  have hcat' : (r0.map fun v => v.category).sum ≤ 8 := by rw [SR.cat hS]; exact hcat
  have h1 := k.1.1
  have h2 := k.1.2
  have hg : ∀ w ∈ lw_good, w.before args s = true := hC.2.2.2.2.1
  exact W_ov (as := [.double x]) hC.1 hC.2.1 (by rw [hL.1, hlen]; exact hC.2.2.1) hC.2.2.2.2.2.1 (hg _ hlk) (hg _ hst) (hg _ hini) (hg _ hcode) rfl hmh hpar rfl (rwAbs_row p) (fun n => by simp [argsToLocals, Value.category, Nat.add_comm 1 n]) (rwAbs_run hx.n64 e) (by omega) (by show _ + (2 + 11) ≤ _; omega) (by omega) (by omega) hd (k.2 p e R s m args below meth c ρ dC dI A ws0 mc ms Q hC hR hE H locs cells slots ws tys ls _ hW hL ⟨_, _, rfl, rfl, hS⟩ hc hs)
theorem ev_mminD {x y : UInt64} {a b : Int} (h : iCallS M pc M_Ma_minD 2) (hx : DV x a) (hy : DV y b) (hlen : L.length = M.2.2.1) (hcat : (st.map fun v => v.category).sum ≤ 8) (k : Ev scr l d M (pc + 3) L (.double (Native.java_lang_Math.nans.pick64 false x y) :: st) S r) : Ev scr l d M pc L (.double y :: .double x :: st) S r := by
  obtain ⟨⟨ix, hd, hlk⟩, hst, ⟨hini, hmh, hpar, hmx⟩, hh, hcode⟩ := h
  refine ⟨k.1, fun p e R s m args below meth c ρ dC dI A ws0 mc ms Q hC hR hE H locs cells slots ws tys ls st0 hW hL hS hc hs => ?_⟩
  obtain ⟨v1, r1, rfl, hv1, hS⟩ := hS
  have hv1 : v1 = .double y := hv1
  subst hv1
  obtain ⟨v0, r0, rfl, hv0, hS⟩ := hS
  have hv0 : v0 = .double x := hv0
  subst hv0
  have hcat' : (r0.map fun v => v.category).sum ≤ 8 := by rw [SR.cat hS]; exact hcat
  have h1 := k.1.1
  have h2 := k.1.2
  have hg : ∀ w ∈ lw_good, w.before args s = true := hC.2.2.2.2.1
  exact W_ov (as := [.double x, .double y]) hC.1 hC.2.1 (by rw [hL.1, hlen]; exact hC.2.2.1) hC.2.2.2.2.2.1 (hg _ hlk) (hg _ hst) (hg _ hini) (hg _ hcode) rfl hmh hpar rfl (rwMin_row p) (fun n => by simp [argsToLocals, Value.category, Nat.add_comm 2 n]) (rwMin_run hx.nan hy.nan e) (by omega) (by show _ + (4 + 11) ≤ _; omega) (by omega) (by omega) hd (k.2 p e R s m args below meth c ρ dC dI A ws0 mc ms Q hC hR hE H locs cells slots ws tys ls _ hW hL ⟨_, _, rfl, rfl, hS⟩ hc hs)
theorem ev_mmaxD {x y : UInt64} {a b : Int} (h : iCallS M pc M_Ma_maxD 2) (hx : DV x a) (hy : DV y b) (hlen : L.length = M.2.2.1) (hcat : (st.map fun v => v.category).sum ≤ 8) (k : Ev scr l d M (pc + 3) L (.double (Native.java_lang_Math.nans.pick64 true x y) :: st) S r) : Ev scr l d M pc L (.double y :: .double x :: st) S r := by
  obtain ⟨⟨ix, hd, hlk⟩, hst, ⟨hini, hmh, hpar, hmx⟩, hh, hcode⟩ := h
  refine ⟨k.1, fun p e R s m args below meth c ρ dC dI A ws0 mc ms Q hC hR hE H locs cells slots ws tys ls st0 hW hL hS hc hs => ?_⟩
  obtain ⟨v1, r1, rfl, hv1, hS⟩ := hS
  have hv1 : v1 = .double y := hv1
  subst hv1
  obtain ⟨v0, r0, rfl, hv0, hS⟩ := hS
  have hv0 : v0 = .double x := hv0
  subst hv0
  have hcat' : (r0.map fun v => v.category).sum ≤ 8 := by rw [SR.cat hS]; exact hcat
  have h1 := k.1.1
  have h2 := k.1.2
  have hg : ∀ w ∈ lw_good, w.before args s = true := hC.2.2.2.2.1
  exact W_ov (as := [.double x, .double y]) hC.1 hC.2.1 (by rw [hL.1, hlen]; exact hC.2.2.1) hC.2.2.2.2.2.1 (hg _ hlk) (hg _ hst) (hg _ hini) (hg _ hcode) rfl hmh hpar rfl (rwMax_row p) (fun n => by simp [argsToLocals, Value.category, Nat.add_comm 2 n]) (rwMax_run hx.nan hy.nan e) (by omega) (by show _ + (4 + 11) ≤ _; omega) (by omega) (by omega) hd (k.2 p e R s m args below meth c ρ dC dI A ws0 mc ms Q hC hR hE H locs cells slots ws tys ls _ hW hL ⟨_, _, rfl, rfl, hS⟩ hc hs)
end RulesMD
theorem DV.pickMin {x y : UInt64} {a b : Int} (hx : DV x a) (hy : DV y b) : DV (Native.java_lang_Math.nans.pick64 false x y) (if b < a then b else a) := by
  unfold Native.java_lang_Math.nans.pick64
  rw [hx.cmp hy]
  rcases Int.lt_trichotomy a b with h | h | h
  · rw [show (if b < a then b else a) = a from if_neg (by omega), show compare a b = .lt from Int.compare_eq_lt.mpr h]
    exact hx
  · subst h
    rw [show (if a < a then a else a) = a from if_neg (by omega), show compare a a = .eq from Int.compare_eq_eq.mpr rfl]
    dsimp only
    split
    · exact hy
    · exact hx
  · rw [show (if b < a then b else a) = b from if_pos h, show compare a b = .gt from Int.compare_eq_gt.mpr h]
    exact hy
theorem DV.pickMax {x y : UInt64} {a b : Int} (hx : DV x a) (hy : DV y b) : DV (Native.java_lang_Math.nans.pick64 true x y) (if a < b then b else a) := by
  unfold Native.java_lang_Math.nans.pick64
  rw [hx.cmp hy]
  rcases Int.lt_trichotomy a b with h | h | h
  · rw [show (if a < b then b else a) = b from if_pos h, show compare a b = .lt from Int.compare_eq_lt.mpr h]
    exact hy
  · subst h
    rw [show (if a < a then a else a) = a from if_neg (by omega), show compare a a = .eq from Int.compare_eq_eq.mpr rfl]
    dsimp only
    split
    · exact hy
    · exact hx
  · rw [show (if a < b then b else a) = a from if_neg (by omega), show compare a b = .gt from Int.compare_eq_gt.mpr h]
    exact hx
end MathRows

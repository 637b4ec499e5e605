/-! Math.abs, min, max of doubles: rows of the machine, not bytecode -/
section MathRows
/-- a method that a row of the machine answers in place of its code, changing nothing -/
theorem ov_go (p : Program) {e : Env} {below : List Frame} {s target : State} {g : JFrame} {c : Code}
    (htopS : s.topJava?.isSome) (habove : ∃ mid, s.frames.tail = mid ++ below) (hrunning : s.status = .running) (hrunnable : s.curStatus? = some .runnable) (haloneS : s.alone = true) (hcodeG : s.code? g.method = some c)
    {m : MethodId} {meth : Method} {k : Class} {cm : Code} {as : List Value} {v : Value} {nL np : Nat} {row : NativeRow} (acts : List Action)
    (hk : s.vm.classes[m.cls]? = some k) (hx : k.methods[m.idx]? = some meth) (hboot : k.loader = none)
    (hkn : k.name = "java/lang/Math") (hrow : NativeRow.find? p.tables.natives "java/lang/Math" meth.name meth.desc = some row) (hpar : meth.sig.parameters.length = np)
    (hc : meth.code = some cm) (hml : cm.maxLocals = nL) (hl : meth.locks = false)
    (hgiv : ∀ n : Nat, ((argsToLocals as.toArray nL).toList.filterMap fun | .val v => some v | _ => none).toArray.extract 0 (np + n) = as.toArray)
    (hrun : ∀ S, ∃ acts, (row.sem as.toArray).run e S = .ok (some v) S acts)
    (hroom : (s.calling g m as.toArray).hasRoom e.platform {} = true)
    {ig : Instr} {len : Nat} (hdg : decode c.code g.pc = .ok (ig, len))
    (hrest : Steps p.tables e below (s.setTop { g with pc := g.pc + len, stack := v :: g.stack }) target) :
    Steps p.tables e below (doInvoke e (s.setTop g) acts m as.toArray).1 target := by
  obtain ⟨g0, hg⟩ := Option.isSome_iff_exists.mp htopS
  obtain ⟨r, hr⟩ := State.topJava?_eq_some.mp hg
  obtain ⟨mid, hmid⟩ := habove
  have hcur : s.cur < s.threads.size := State.cur_lt_of_frames hr
  have hm : s.vm.method? m = some meth := by simp [Vm.method?, hk, hx]
  have htop : s.setTop g = s.setFrames (.java g :: r) := State.setTop_of_frames _ hr
  have htail : s.frames.tail = r := by rw [hr]; rfl
  have hfull : e.platform.stackFull (s.setTop g).me (s.setTop g).frames cm.maxLocals = false := by
    have hfc := State.frames_calling htopS g m as.toArray
    obtain ⟨-, r2, -, r4⟩ := State.hasRoom_stack hroom
    rw [State.localsInUse_invoking hfc (meth := meth) (c := cm) hm hc] at r4
    rw [hfc, htail] at r2
    rw [htail] at r4
    have hw := stackUse_le_stackWeight (.java g :: r)
    rw [State.calling_eq htopS, State.stackLimits_setFrames] at r2 r4
    rw [htop, State.frames_setFrames _ hcur]
    refine Platform.stackFull_eq_false (by rw [State.stackLimits_setFrames]; simp only [List.length_cons] at r2 ⊢; have : ({} : Room).frames = 0 := rfl; omega) (by rw [State.stackLimits_setFrames]; have : ({} : Room).locals = 0 := rfl; omega)
  rw [(doInvoke_java (s := s.setTop g) (e := e) (acts := acts) (args := as.toArray) (meth := meth) (code := cm) hm hc hl hfull).1, hml]
  have hU : (s.setTop g).pushFrame (.java { method := m, pc := 0, locals := argsToLocals as.toArray nL, stack := [], locked := none }) = s.setFrames (.java (entryFrame m as.toArray nL) :: .java g :: r) := by
    rw [State.pushFrame, State.frames_setTop _ hr, htop, State.setFrames_setFrames]
    rfl
  rw [hU]
  have hf1 : (s.setFrames (.java (entryFrame m as.toArray nL) :: .java g :: r)).frames = .java (entryFrame m as.toArray nL) :: .java g :: r := State.frames_setFrames _ hcur
  have hov : overridden p.tables e (s.setFrames (.java (entryFrame m as.toArray nL) :: .java g :: r)) (entryFrame m as.toArray nL) = some row := by
    have hk' : (s.setFrames (.java (entryFrame m as.toArray nL) :: .java g :: r)).vm.classes[(entryFrame m as.toArray nL).method.cls]? = some k := hk
    have hx' : k.methods[(entryFrame m as.toArray nL).method.idx]? = some meth := hx
    unfold overridden
    rw [if_neg (by show ¬ ((0 : Nat) != 0) = true; decide), hk']
    dsimp only
    rw [if_neg (by rw [hboot, hkn]; simp [overriddenIn]), hx', hkn]
    exact hrow
  have hb2 : ∀ F : List Frame, ((s.setFrames F).vm.classes[m.cls]?.bind fun y => y.methods[m.idx]?) = some meth := by
    intro F
    show (s.vm.classes[m.cls]?.bind fun y => y.methods[m.idx]?) = some meth
    simp [hk, hx]
  obtain ⟨acts2, hr2⟩ := hrun (s.setFrames (.native { method := m, args := as.toArray } :: .java g :: r))
  have hcode : ∀ F : List Frame, (s.setFrames F).code? g.method = some c := by
    intro F
    have := hcodeG
    rw [State.code?_eq] at this ⊢
    simpa [State.setFrames] using this
  have hfs : handOver (s.setFrames (.native { method := m, args := as.toArray } :: .java g :: r)) (some v) (.java g :: r)
      = some (.java { g with pc := g.pc + len, stack := v :: g.stack } :: r) := by
    simp [handOver, hcode, hdg, Except.toOption]
  have hgv : ∃ n, argCount (s.setFrames (.java (entryFrame m as.toArray nL) :: .java g :: r)) m = np + n := by
    unfold argCount
    rw [hb2]
    dsimp only
    rw [hpar]
    exact ⟨_, rfl⟩
  obtain ⟨n, hn⟩ := hgv
  have hstep2 : (stepThread p.tables e (s.setFrames (.java (entryFrame m as.toArray nL) :: .java g :: r))).1 = s.setTop { g with pc := g.pc + len, stack := v :: g.stack } := by
    unfold stepThread
    rw [hf1]
    dsimp only
    rw [hov]
    dsimp only
    have e1 : ((entryFrame m as.toArray nL).locals.toList.filterMap fun | .val v => some v | _ => none).toArray.extract 0 (argCount (s.setFrames (.java (entryFrame m as.toArray nL) :: .java g :: r)) (entryFrame m as.toArray nL).method) = as.toArray := by
      show _ = _
      rw [show (entryFrame m as.toArray nL).method = m from rfl, hn]
      exact hgiv n
    have e3 : ∀ G : Array Value, G = as.toArray → (afterNative e { method := m, args := G, locked := (entryFrame m as.toArray nL).locked } (.java g :: r) ((row.sem G).run e ((s.setFrames (.java (entryFrame m as.toArray nL) :: .java g :: r)).setFrames (.native { method := m, args := G, locked := (entryFrame m as.toArray nL).locked } :: .java g :: r)))).1 = s.setTop { g with pc := g.pc + len, stack := v :: g.stack } := by
      intro G hG
      subst hG
      rw [State.setFrames_setFrames, show (entryFrame m as.toArray nL).locked = none from rfl, hr2]
      simp only [afterNative]
      rw [doReturn_native (f := { method := m, args := as.toArray }) (below := .java g :: r) (State.frames_setFrames _ hcur) rfl hfs, State.setFrames_setFrames, ← State.setTop_of_frames _ hr]
    exact e3 _ e1
  refine Steps.head ⟨hrunning, by simpa using hrunnable, by simpa using haloneS⟩ ⟨.java (entryFrame m as.toArray nL) :: .java g :: mid, by rw [hf1]; rw [hr] at hmid; simp at hmid; simp [hmid], by simp, by simp⟩ ?_
  rw [hstep2]
  exact hrest
def rwAbs : NativeRow := (NativeRow.find? Native.java_lang_Math.nans.rows "java/lang/Math" "abs" "(D)D").get (by decide +kernel)
set_option maxRecDepth 100000 in
theorem rwAbs_row (p : Program) : NativeRow.find? p.tables.natives "java/lang/Math" "abs" "(D)D" = some rwAbs := by
  cases p <;> rfl
theorem rwAbs_run {a : UInt64} (ha : vf_n64 a) (e : Env) (S : State) : ∃ acts, (rwAbs.sem #[.double a]).run e S = .ok (some (.double (a &&& 0x7fffffffffffffff))) S acts := by
  have hsem : rwAbs.sem #[.double a] = (do
      let r ← Jvm.anyNaN64 (a &&& 0x7fffffffffffffff)
      Jvm.mark "nat.java_lang_Math.abs"
      Pure.pure (some (.double r))) := rfl
  have hw : wpRun (rwAbs.sem #[.double a]) (fun v s2 _ => v = some (.double (a &&& 0x7fffffffffffffff)) ∧ s2 = S) (fun _ _ _ => False) e S := by
    rw [hsem]
    have hn : (a &&& 0x7fffffffffffffff) &&& 0x7fffffffffffffff ≤ 0x7ff0000000000000 := by rw [UInt64.and_assoc, UInt64.and_self]; exact ha
    simp [jvm, wpRun, Jvm.anyNaN64, hn]
  have hw' := (wpRun_iff_run _ _ _ _ _).mp hw
  cases hr : (rwAbs.sem #[.double a]).run e S with
  | ok v s2 acts2 => rw [hr] at hw'; obtain ⟨rfl, rfl⟩ := hw'; exact ⟨_, rfl⟩
  | ctl x s2 acts2 => rw [hr] at hw'; cases x <;> exact hw'.elim
def rwMax : NativeRow := (NativeRow.find? Native.java_lang_Math.nans.rows "java/lang/Math" "max" "(DD)D").get (by decide +kernel)
set_option maxRecDepth 100000 in
theorem rwMax_row (p : Program) : NativeRow.find? p.tables.natives "java/lang/Math" "max" "(DD)D" = some rwMax := by
  cases p <;> rfl
theorem rwMax_run {a b : UInt64} (ha : FP.dIsNaN a = false) (hb : FP.dIsNaN b = false) (e : Env) (S : State) : ∃ acts, (rwMax.sem #[.double a, .double b]).run e S = .ok (some (.double (Native.java_lang_Math.nans.pick64 true a b))) S acts := by
  have hsem : rwMax.sem #[.double a, .double b] = (do
      let r ← if FP.dIsNaN a then Jvm.anyNaN64 a else if FP.dIsNaN b then Jvm.anyNaN64 b else Pure.pure (Native.java_lang_Math.nans.pick64 true a b)
      Jvm.mark "nat.java_lang_Math.max"
      Pure.pure (some (.double r))) := rfl
  have hw : wpRun (rwMax.sem #[.double a, .double b]) (fun v s2 _ => v = some (.double (Native.java_lang_Math.nans.pick64 true a b)) ∧ s2 = S) (fun _ _ _ => False) e S := by
    rw [hsem]
    simp [jvm, wpRun, ha, hb]
  have hw' := (wpRun_iff_run _ _ _ _ _).mp hw
  cases hr : (rwMax.sem #[.double a, .double b]).run e S with
  | ok v s2 acts2 => rw [hr] at hw'; obtain ⟨rfl, rfl⟩ := hw'; exact ⟨_, rfl⟩
  | ctl x s2 acts2 => rw [hr] at hw'; cases x <;> exact hw'.elim
def rwMin : NativeRow := (NativeRow.find? Native.java_lang_Math.nans.rows "java/lang/Math" "min" "(DD)D").get (by decide +kernel)
set_option maxRecDepth 100000 in
theorem rwMin_row (p : Program) : NativeRow.find? p.tables.natives "java/lang/Math" "min" "(DD)D" = some rwMin := by
  cases p <;> rfl
theorem rwMin_run {a b : UInt64} (ha : FP.dIsNaN a = false) (hb : FP.dIsNaN b = false) (e : Env) (S : State) : ∃ acts, (rwMin.sem #[.double a, .double b]).run e S = .ok (some (.double (Native.java_lang_Math.nans.pick64 false a b))) S acts := by
  have hsem : rwMin.sem #[.double a, .double b] = (do
      let r ← if FP.dIsNaN a then Jvm.anyNaN64 a else if FP.dIsNaN b then Jvm.anyNaN64 b else Pure.pure (Native.java_lang_Math.nans.pick64 false a b)
      Jvm.mark "nat.java_lang_Math.min"
      Pure.pure (some (.double r))) := rfl
  have hw : wpRun (rwMin.sem #[.double a, .double b]) (fun v s2 _ => v = some (.double (Native.java_lang_Math.nans.pick64 false a b)) ∧ s2 = S) (fun _ _ _ => False) e S := by
    rw [hsem]
    simp [jvm, wpRun, ha, hb]
  have hw' := (wpRun_iff_run _ _ _ _ _).mp hw
  cases hr : (rwMin.sem #[.double a, .double b]).run e S with
  | ok v s2 acts2 => rw [hr] at hw'; obtain ⟨rfl, rfl⟩ := hw'; exact ⟨_, rfl⟩
  | ctl x s2 acts2 => rw [hr] at hw'; cases x <;> exact hw'.elim
end MathRows

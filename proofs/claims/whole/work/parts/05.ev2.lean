/-! ===== what a method sees of the rest: strings, statics, the script ===== -/
/-- the seven names of commands, their bytes -/
def cmdLen : List Nat := [4, 4, 4, 4, 5, 4, 5]
def cmdByt : List (List Int32) := [[115, 107, 105, 112], [100, 114, 97, 119], [109, 111, 118, 101], [108, 101, 102, 116], [114, 105, 103, 104, 116], [111, 112, 101, 110], [99, 108, 111, 115, 101]]
def cmdTxt : List String := ["skip", "draw", "move", "left", "right", "open", "close"]
/-- class names, entries of a class's pool that name a command: (class, entry, which) -/
def ldcTab : List (String × Nat × Nat) := [("ParallelRewriting", 399, 1), ("ParallelRewriting", 401, 2), ("ParallelRewriting", 403, 3), ("ParallelRewriting", 405, 4), ("ParallelRewriting", 407, 5), ("ParallelRewriting", 409, 6), ("ParallelRewriting", 411, 0), ("ParallelRewritingModel", 262, 0), ("ParallelRewritingModel", 268, 1), ("ParallelRewritingModel", 270, 2), ("ParallelRewritingModel", 272, 3), ("ParallelRewritingModel", 274, 4), ("ParallelRewritingModel", 276, 5), ("ParallelRewritingModel", 278, 6)]
/-- entries that are the text of an exception: (class, entry, text) -/
def msgTab : List (String × Nat × String) := [("ParallelRewriting", 93, "character is not from 32 to 126"), ("ParallelRewriting", 104, "the text is full"), ("ParallelRewriting", 360, "no such table"), ("ParallelRewriting", 366, "no such letter"), ("ParallelRewriting", 371, "the text is not such a word"), ("ParallelRewriting", 132, "the list is full"), ("ParallelRewriting", 144, "the table has all the context rules it can have"), ("ParallelRewriting", 173, "no such position"), ("ParallelRewriting", 187, "the new word would be too long"), ("ParallelRewriting", 375, "the number of steps is not from 0 to 1000"), ("ParallelRewriting", 373, "the table is not deterministic or not plain"), ("ParallelRewriting", 381, "the word has more than Long.MAX_VALUE letters"), ("ParallelRewriting", 227, "no polynomial bounds the growth"), ("ParallelRewriting", 242, "the recurrence has no such number"), ("ParallelRewriting", 253, "limit is not from 0 to 50"), ("ParallelRewriting", 255, "the table is not deterministic"), ("ParallelRewriting", 261, "no adult word comes up to the limit"), ("ParallelRewriting", 263, "length is not from 0 to 4"), ("ParallelRewriting", 275, "there are more than Long.MAX_VALUE choices"), ("ParallelRewriting", 383, "the number of steps is not from 0 to 5"), ("ParallelRewriting", 385, "a table is not deterministic"), ("ParallelRewriting", 286, "no sequence leads to the target word"), ("ParallelRewriting", 292, "the text is not the name of a command"), ("ParallelRewriting", 416, "the word has no figure"), ("ParallelRewriting", 307, "side is not from 0 to 3"), ("ParallelRewriting", 326, "no such row"), ("ParallelRewriting", 335, "the row is missing"), ("ParallelRewriting", 337, "no such index"), ("ParallelRewriting", 343, "the divisor is 0"), ("ParallelRewriting", 358, "nothing was saved")]
def ncTab : List (String × String) := [("java/lang/IllegalStateException", "java/lang/IllegalArgumentException"), ("java/lang/IndexOutOfBoundsException", "java/lang/IllegalArgumentException"), ("java/lang/ArithmeticException", "java/lang/IllegalArgumentException"), ("java/util/NoSuchElementException", "java/lang/IllegalArgumentException"), ("java/lang/IllegalArgumentException", "java/lang/IllegalStateException"), ("java/lang/IndexOutOfBoundsException", "java/lang/IllegalStateException"), ("java/lang/ArithmeticException", "java/lang/IllegalStateException"), ("java/util/NoSuchElementException", "java/lang/IllegalStateException"), ("java/lang/IllegalArgumentException", "java/lang/IndexOutOfBoundsException"), ("java/lang/IllegalStateException", "java/lang/IndexOutOfBoundsException"), ("java/lang/ArithmeticException", "java/lang/IndexOutOfBoundsException"), ("java/util/NoSuchElementException", "java/lang/IndexOutOfBoundsException"), ("java/lang/IllegalArgumentException", "java/lang/ArithmeticException"), ("java/lang/IllegalStateException", "java/lang/ArithmeticException"), ("java/lang/IndexOutOfBoundsException", "java/lang/ArithmeticException"), ("java/util/NoSuchElementException", "java/lang/ArithmeticException"), ("java/lang/IllegalArgumentException", "java/util/NoSuchElementException"), ("java/lang/IllegalStateException", "java/util/NoSuchElementException"), ("java/lang/IndexOutOfBoundsException", "java/util/NoSuchElementException"), ("java/lang/ArithmeticException", "java/util/NoSuchElementException")]
def exTab : List String := ["java/lang/IllegalArgumentException", "java/lang/IllegalStateException", "java/lang/IndexOutOfBoundsException", "java/lang/ArithmeticException", "java/util/NoSuchElementException"]
def dclTab : List String := ["java/lang/RuntimeException", "java/lang/Exception", "java/lang/Throwable"]
def dclWords : List Cond := dclTab.map (fun Y => .declares (Bundle.initS Y))
theorem va_AOA.moved {t : FieldType} {u U : State} (hvm : u.vm.Alike U.vm) (h : va_AOA t u) : va_AOA t U := by
  obtain ⟨comp, c, k, h1, h2, h3, h4, h5⟩ := arrayOverA_spec h
  obtain ⟨k', hk', he⟩ := hvm.2.2 _ _ h3
  have hi : (U.vm.classes.findIdx? fun (x : Class) => match x.kind with | .array component _ => component == comp | _ => false) = some c := by
    have e1 : ∀ vm : Vm, (vm.bare.classes.findIdx? fun (x : Class) => match x.kind with | .array component _ => component == comp | _ => false) = (vm.classes.findIdx? fun (x : Class) => match x.kind with | .array component _ => component == comp | _ => false) := fun vm => by
      simp only [Vm.bare, Array.findIdx?_map]
      rfl
    rw [← e1]
    first | rw [hvm.bare_eq] | rw [← hvm.bare_eq]
    rw [e1]
    exact h2
  have hkind : k'.kind = .array comp (.array t) := by rw [he]; exact h4
  have f1 : U.vm.findClass (FieldType.array t).toString = some comp := by rw [hvm.findClass]; exact h1
  have f2 : U.vm.findClass ("[" ++ (FieldType.array t).toString) = some c := by rw [hvm.findClass]; exact h5
  unfold va_AOA Cond.before Cond.holds
  simp only [Cond.value]
  rw [f1, Option.bind_some]
  refine (congrArg (fun o : Option Nat => (o.bind (fun c => (U.vm.classes[c]?).map fun (k : Class) => match k.kind with | .array _ ty => decide (ty = FieldType.array t) && decide (U.vm.findClass ("[" ++ (FieldType.array t).toString) = some c) | _ => false) == some true)) hi).trans ?_
  simp [hk', hkind, f2]
def Gl (scr : Scr) (ρ : Nat → Nat) (A : Nat → Prop) (s : State) (H : Heap) : Prop :=
  vk_S 7 cmdLen cmdByt ρ (fun i => ρ (200 + i)) A s H ∧ (∀ q ∈ ldcTab, vk_R q.1 q.2.1 (cmdTxt.getD q.2.2 "") (ρ q.2.2) s) ∧ (∀ q ∈ msgTab, ∃ sa : Nat, vk_R q.1 q.2.1 q.2.2 sa s) ∧
  vx_Zq Bundle.tN "UNASSIGNED_STACK" Bundle.steD A s H ∧ vx_Zq Bundle.tN "SUPPRESSED_SENTINEL" Bundle.listD A s H ∧ (∀ q ∈ ncTab, va_Nc q.1 q.2 s) ∧
  (va_X (ρ 100) scr.1 scr.2 s H ∧ ρ 100 < H.size ∧ ¬ A (ρ 100)) ∧ (va_Z "java/lang/Math" "negativeZeroDoubleBits" "J" (.long (-9223372036854775808)) A s H ∧ va_Z "java/lang/String" "COMPACT_STRINGS" "Z" (.int 1) A s H ∧ va_Zq "jdk/internal/util/Preconditions" "SIOOBE_FORMATTER" "Ljava/util/function/BiFunction;" A s H) ∧
  (∀ X ∈ exTab, va_Nw (.castable X X) s) ∧ (∀ Y ∈ dclTab, va_Nw (.declares (Bundle.initS Y)) s) ∧ (va_AO "ParallelRewriting$Table" s ∧ va_AO "ParallelRewriting$Word" s ∧ va_AOA .double s)
theorem Gl.moved {scr : Scr} {ρ : Nat → Nat} {A : Nat → Prop} {s U : State} {H : Heap} (hW : s.WarmedH U.vm) (h : Gl scr ρ A s H) : Gl scr ρ A U H := by
  obtain ⟨g1, g2, g3, g4, g5, g6, ⟨g7, g8, g9⟩, g10, g11, g13, g12⟩ := h
  exact ⟨vk_S.moved hW.alike g1, fun q hq => vk_R.warm hW (g2 q hq), fun q hq => by obtain ⟨sa, h⟩ := g3 q hq; exact ⟨sa, vk_R.warm hW h⟩, vx_Zq.moved hW.alike g4, vx_Zq.moved hW.alike g5, fun q hq => va_Nc.moved hW.alike (g6 q hq), ⟨va_X.moved hW.alike g7, g8, g9⟩, ⟨va_Z.moved hW.alike g10.1, va_Z.moved hW.alike g10.2.1, va_Zq.moved hW.alike g10.2.2⟩, fun X hX => va_Nw.warmC hW (g11 X hX), fun X hX => va_Nw.warmD hW (g13 X hX), va_AO.moved hW.alike g12.1, va_AO.moved hW.alike g12.2.1, va_AOA.moved hW.alike g12.2.2⟩
theorem Gl.same {scr : Scr} {ρ : Nat → Nat} {A : Nat → Prop} {s U : State} {H : Heap} (hv : U.vm = s.vm) (h : Gl scr ρ A s H) : Gl scr ρ A U H := by
  have ha : s.vm.Alike U.vm := by rw [hv]; exact Vm.Alike.refl s.vm
  obtain ⟨g1, g2, g3, g4, g5, g6, ⟨g7, g8, g9⟩, g10, g11, g13, g12⟩ := h
  exact ⟨vk_S.moved ha g1, fun q hq => vk_R.same hv (g2 q hq), fun q hq => by obtain ⟨sa, h⟩ := g3 q hq; exact ⟨sa, vk_R.same hv h⟩, vx_Zq.moved ha g4, vx_Zq.moved ha g5, fun q hq => va_Nc.moved ha (g6 q hq), ⟨va_X.moved ha g7, g8, g9⟩, ⟨va_Z.moved ha g10.1, va_Z.moved ha g10.2.1, va_Zq.moved ha g10.2.2⟩, fun X hX => va_Nw.same rfl hv.symm (g11 X hX), fun X hX => va_Nw.same rfl hv.symm (g13 X hX), va_AO.moved ha g12.1, va_AO.moved ha g12.2.1, va_AOA.moved ha g12.2.2⟩
theorem Gl.kept {scr : Scr} {ρ : Nat → Nat} {A : Nat → Prop} {s : State} {H H1 : Heap} (h : Gl scr ρ A s H) (hz : H.size ≤ H1.size) (hq : ∀ a : Nat, a < H.size → ¬ A a → H1[a]? = H[a]?) : Gl scr ρ A s H1 := by
  obtain ⟨g1, g2, g3, g4, g5, g6, ⟨g7, g8, g9⟩, g10, g11, g13, g12⟩ := h
  exact ⟨vk_S.kept g1 hq, g2, g3, vx_Zq.kept g4 hq, vx_Zq.kept g5 hq, g6, ⟨g7.kept (hq _ g8 g9), Nat.lt_of_lt_of_le g8 hz, g9⟩, ⟨va_Z.kept g10.1 hq, va_Z.kept g10.2.1 hq, va_Zq.kept g10.2.2 hq⟩, g11, g13, g12⟩
theorem Gl.narrow {scr : Scr} {ρ : Nat → Nat} {A B : Nat → Prop} {s : State} {H : Heap} (h : Gl scr ρ A s H) (hAB : ∀ q, B q → A q) : Gl scr ρ B s H := by
  obtain ⟨g1, g2, g3, g4, g5, g6, ⟨g7, g8, g9⟩, g10, g11, g13, g12⟩ := h
  exact ⟨vk_S.narrow g1 hAB, g2, g3, vx_Zq.narrow g4 hAB, vx_Zq.narrow g5 hAB, g6, ⟨g7, g8, fun q => g9 (hAB _ q)⟩, ⟨va_Z.narrow g10.1 hAB, va_Z.narrow g10.2.1 hAB, va_Zq.narrow g10.2.2 hAB⟩, g11, g13, g12⟩
/-- the words that stay good over calls -/
def lw_good : List Cond := lw_tbl.filter goodWord
theorem lw_in {w : Cond} (i : Nat) (h : lw_tbl[i]? = some w) (hg : goodWord w = true) : w ∈ lw_good := List.mem_filter.mpr ⟨List.mem_of_getElem? h, hg⟩
theorem lw_inT {w : Cond} (i : Nat) (h : tables_1[i]? = some w) (hg : goodWord w = true) : w ∈ lw_good := List.mem_filter.mpr ⟨List.mem_append_right _ (List.mem_of_getElem? h), hg⟩
theorem lw_inP {q : MethodName × Nat} (i : Nat) (h : lw_privs[i]? = some q) (hg : goodWord (Cond.selects q.1.cls q.1 q.1) = true) : Cond.selects q.1.cls q.1 q.1 ∈ lw_good := List.mem_filter.mpr ⟨List.mem_append_left _ (List.mem_map.mpr ⟨q, List.mem_of_getElem? h, rfl⟩), hg⟩
/-! ===== the judgements ===== -/
def Mws (M : Mth) : List Cond := (if M.2.2.2.2 = [] then Cond.code M.1 M.2.1 M.2.2.1 M.2.2.2.1 else Cond.codeWith M.1 M.2.1 M.2.2.1 M.2.2.2.1 M.2.2.2.2) :: lw_good
def Rm (d mc ms : Nat) : Room := { frames := d + 8, cells := mc, slots := ms, locals := 200 + 100 * d }
/-- the machine and its tables, as a method's body sees them -/
def Cx (l : Launch) (p : Program) (s : State) (m : MethodId) (args : Array Value) (meth : Method) (c : Code) (M : Mth) (scr : Scr) (ρ : Nat → Nat) (A : Nat → Prop) : Prop :=
  p.tables.exec = Jvm.exec ∧ c.code = M.2.1 ∧ c.maxLocals = M.2.2.1 ∧ meth.sig.returnType = M.2.2.2.1 ∧ (∀ w ∈ lw_good, w.before args s = true) ∧ s.vm.findClass M.1.cls = some m.cls ∧ meth.locks = false ∧ meth.name = M.1.name ∧
  c.exceptionTable.toList = tableOf M.2.2.2.2 ∧ Gl scr ρ A s s.heap ∧ (∀ q, s.heap.size ≤ q → A q) ∧ l.stackTraces = false
/-- the world: the store's cells are held, apart, nothing outside has changed -/
def Wd (s : State) (ρ : Nat → Nat) (dC : Nat → ClassId) (dI : Nat → Nat → Nat) (A : Nat → Prop) (ws0 : va_W) (H : Heap) (locs : List Loc) (ws : va_W) (tys : List (ClassId × FieldType)) (S : Sto) : Prop :=
  WR ρ ws tys S.1 ∧ Ext ws0 ws ∧ va_P (dC, dI) vwCl ws H ∧ va_K (dC, dI) vwCl tys s ∧ va_D A ws ∧ va_S A s.heap H locs
/-- the world behind a method -/
def WdE (t : State) (ρ : Nat → Nat) (dC : Nat → ClassId) (dI : Nat → Nat → Nat) (A : Nat → Prop) (ws0 ws : va_W) (tys : List (ClassId × FieldType)) (S : Sto) : Prop :=
  WR ρ ws tys S.1 ∧ Ext ws0 ws ∧ va_P (dC, dI) vwCl ws t.heap ∧ va_K (dC, dI) vwCl tys t ∧ va_D A ws
def RQ (r : Res) (ρ : Nat → Nat) (dC : Nat → ClassId) (dI : Nat → Nat → Nat) (A : Nat → Prop) (ws0 : va_W) : Array Value → State → Outcome → State → Prop := fun _ st oc t =>
  (∃ (v v' : Option Value) (ws : va_W) (tys : List (ClassId × FieldType)), r.1 = .inl v ∧ oc = .returned v' ∧ OR ρ ws v v' ∧ WdE t ρ dC dI A ws0 ws tys r.2) ∧ va_F A st t
def RX (r : Res) (ρ : Nat → Nat) (dC : Nat → ClassId) (dI : Nat → Nat → Nat) (A : Nat → Prop) (ws0 : va_W) : String → State → State → Prop := fun E st t =>
  (∃ (ws : va_W) (tys : List (ClassId × FieldType)), r.1 = .inr E ∧ WdE t ρ dC dI A ws0 ws tys r.2) ∧ va_F A st t
/-- which end a method may come to, and that it serves -/
def EndQ (l : Launch) (p : Program) (e : Env) (R : Room) (s : State) (m : MethodId) (args : Array Value) (below : List Frame) (meth : Method) (c : Code) (M : Mth) (ρ : Nat → Nat) (dC : Nat → ClassId) (dI : Nat → Nat → Nat) (A : Nat → Prop) (ws0 : va_W) (mc ms : Nat) (r : Res) (Q : State → Prop) : Prop :=
  (Q = vx_MQ below (RQ r ρ dC dI A ws0) (RX r ρ dC dI A ws0) args s mc ms A) ∨
  (∃ v : Int32, r.1 = .inl (some (.int v)) ∧ ∀ (H : Heap) (locs : List Loc) (ws : va_W) (tys : List (ClassId × FieldType)) (ls : Array Slot) (pc : Nat), Wd s ρ dC dI A ws0 H locs ws tys r.2 → decode M.2.1 pc = .ok (.ireturn, 1) → W p l e R s m args below meth c H locs mc ms Q (F0 m pc ls [.int v]))
/-- from pc on, with these locals, this operand stack and this store, the method comes to r -/
def Ev (scr : Scr) (l : Launch) (d : Nat) (M : Mth) (pc : Nat) (L : List (Option Value)) (st : List Value) (S : Sto) (r : Res) : Prop :=
  (S.2.1 ≤ r.2.2.1 ∧ S.2.2 ≤ r.2.2.2) ∧ ∀ (p : Program) (e : Env) (R : Room) (s : State) (m : MethodId) (args : Array Value) (below : List Frame) (meth : Method) (c : Code) (ρ : Nat → Nat) (dC : Nat → ClassId) (dI : Nat → Nat → Nat) (A : Nat → Prop) (ws0 : va_W) (mc ms : Nat) (Q : State → Prop),
    Cx l p s m args meth c M scr ρ A → (d + 8 ≤ R.frames ∧ 200 + 100 * d ≤ R.locals ∧ mc ≤ R.cells ∧ ms ≤ R.slots) → EndQ l p e R s m args below meth c M ρ dC dI A ws0 mc ms r Q →
    ∀ (H : Heap) (locs : List Loc) (cells slots : Nat) (ws : va_W) (tys : List (ClassId × FieldType)) (ls : Array Slot) (st' : List Value), Wd s ρ dC dI A ws0 H locs ws tys S → LR ρ ws L ls → SR ρ ws st st' → cells + r.2.2.1 = mc + S.2.1 → slots + r.2.2.2 = ms + S.2.2 →
      W p l e R s m args below meth c H locs cells slots Q (F0 m pc ls st')
/-- the method's contract -/
def MetA (scr : Scr) (l : Launch) (d : Nat) (M : Mth) (as : List Value) (S : Sto) (r : Res) : Prop :=
  (S.2.1 ≤ r.2.2.1 ∧ S.2.2 ≤ r.2.2.2) ∧ ∀ (ρ : Nat → Nat) (dC : Nat → ClassId) (dI : Nat → Nat → Nat) (ws : va_W) (tys : List (ClassId × FieldType)) (sz : Nat) (as' : List Value), WR ρ ws tys S.1 → SR ρ ws as as' → l.stackTraces = false →
    vx_Met l M.1 (Mws M) (Rm d (r.2.2.1 - S.2.1) (r.2.2.2 - S.2.2)) (va_Pc as' (fun U => U.heap.size = sz ∧ va_P (dC, dI) vwCl ws U.heap ∧ va_K (dC, dI) vwCl tys U ∧ va_D (fun _ => True) ws ∧ Gl scr ρ (va_A ws sz) U U.heap))
      (RQ r ρ dC dI (va_A ws sz) ws) (RX r ρ dC dI (va_A ws sz) ws) (r.2.2.1 - S.2.1) (r.2.2.2 - S.2.2) (va_A ws sz)
/-! ===== the locals at an entry ===== -/
theorem LR.entry {ρ : Nat → Nat} {ws : va_W} : ∀ {as as' : List Value}, SR ρ ws as as' → ∀ (i0 i : Nat) (v : Value), (entL as)[i]? = some (some v) → ∃ v', VR ρ ws v v' ∧ (i0 + i, v') ∈ lv_args i0 as'
  | [], _, h, i0, i, v, hi => by simp [entL] at hi
  | w :: as, _, ⟨x, r', h1, h2, h3⟩, i0, i, v, hi => by
    subst h1
    have hc := VR.cat h2
    unfold entL at hi
    by_cases h : w.category = 2
    · rw [if_pos h] at hi
      match i, hi with
      | 0, hi =>
        have : w = v := by simpa using hi
        subst this
        exact ⟨x, h2, by simp [lv_args]⟩
      | 1, hi => simp at hi
      | i + 2, hi =>
        obtain ⟨v', e1, e2⟩ := LR.entry h3 (i0 + 2) i v (by simpa using hi)
        refine ⟨v', e1, ?_⟩
        unfold lv_args
        rw [hc, if_pos h, show i0 + (i + 2) = i0 + 2 + i by omega]
        exact List.mem_cons_of_mem _ e2
    · rw [if_neg h] at hi
      match i, hi with
      | 0, hi =>
        have : w = v := by simpa using hi
        subst this
        exact ⟨x, h2, by simp [lv_args]⟩
      | i + 1, hi =>
        obtain ⟨v', e1, e2⟩ := LR.entry h3 (i0 + 1) i v (by simpa using hi)
        refine ⟨v', e1, ?_⟩
        unfold lv_args
        rw [hc, if_neg h, show i0 + (i + 1) = i0 + 1 + i by omega]
        exact List.mem_cons_of_mem _ e2
theorem entL_len {ρ : Nat → Nat} {ws : va_W} : ∀ {as as' : List Value}, SR ρ ws as as' → (lg_sl as').length = (entL as).length
  | [], _, h => by subst h; rfl
  | w :: as, _, ⟨x, r', h1, h2, h3⟩ => by
    subst h1
    have hc := VR.cat h2
    have ih := entL_len h3
    unfold lg_sl at ih ⊢
    unfold entL
    rw [List.flatMap_cons, List.length_append, ih, hc]
    by_cases h : w.category = 2
    · rw [if_pos h, if_pos h]; simp; omega
    · rw [if_neg h, if_neg h]; simp; omega
/-- a method without handlers: its contract out of its body -/
theorem MetA.of {scr : Scr} {l : Launch} {d : Nat} {M : Mth} {as : List Value} {S : Sto} {r : Res} (hh : M.2.2.2.2 = []) (hy : plainName M.1.cls = true) (hn : (entL as).length ≤ M.2.2.1) (k : Ev scr l d M 0 (entN as M.2.2.1) [] S r) : MetA scr l d M as S r := by
  refine ⟨k.1, fun ρ dC dI ws tys sz as' hWR hSR hl => ?_⟩
  have hw : Mws M = Cond.code M.1 M.2.1 M.2.2.1 M.2.2.2.1 :: lw_good := by unfold Mws; rw [if_pos hh]
  refine vx_ofW (cc := M.2.1) (maxL := M.2.2.1) (ret := M.2.2.2.1) hy hw ?_
  intro p e s m args below meth c s₁ B hml hxt hv
  obtain ⟨rfl, hsz, hP, hK, hD0, hG⟩ := hv
  subst hsz
  have hts0 := atoms_spec (ws := Mws M) B.pre
  have hts : ∀ w ∈ lw_good, w.before as'.toArray s = true := fun w h => hts0 w (by rw [hw]; exact List.mem_cons_of_mem _ h)
  have hex : c.exceptionTable.toList = tableOf M.2.2.2.2 := by
    rw [hh]
    cases hq : c.exceptionTable.toList with
    | nil => rfl
    | cons x y => exact absurd (hxt x (by rw [hq]; exact List.mem_cons_self)) id
  have hlen : (lg_sl as').length ≤ M.2.2.1 := by rw [entL_len hSR]; exact hn
  have he := lv_entry as' (n := M.2.2.1) hlen
  rw [lg_entry_eq]
  refine k.2 p e (headSpec (Mws M) (Rm d (r.2.2.1 - S.2.1) (r.2.2.2 - S.2.2))).room s m as'.toArray below meth c ρ dC dI (va_A ws s.heap.size) ws (r.2.2.1 - S.2.1) (r.2.2.2 - S.2.2) _
    ⟨B.exec, B.bytes, hml, B.returns, hts, findClass_of_methodNamed B.named, B.notSynchronized, (name_of_methodNamed B.named B.method).1, hex, hG, fun q h => Or.inr h, hl⟩
    ⟨Nat.le_refl _, Nat.le_refl _, Nat.le_refl _, Nat.le_refl _⟩ (Or.inl rfl) s.heap [] 0 0 ws tys _ [] ⟨hWR, Ext.rf ws, hP, hK, hD0.self, va_S.rf⟩ ⟨?_, he.2.1, fun i v hi => ?_⟩ rfl (by have := k.1.1; omega) (by have := k.1.2; omega)
  · rw [he.1]
    unfold entN
    rw [List.length_append, List.length_replicate]
    omega
  · unfold entN at hi
    by_cases hlt : i < (entL as).length
    · rw [List.getElem?_append_left hlt] at hi
      obtain ⟨v', e1, e2⟩ := LR.entry hSR 0 i v hi
      rw [Nat.zero_add] at e2
      exact ⟨v', e1, he.2.2 _ e2⟩
    · rw [List.getElem?_append_right (by omega)] at hi
      have := List.mem_of_getElem? hi
      rw [List.mem_replicate] at this
      cases this.2

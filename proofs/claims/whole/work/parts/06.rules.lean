/-! ===== the rules: an instruction, a rule (by program: wip/whole/gen06.py) ===== -/
abbrev aI (n : Nat) (f : Nat → Int32) : ACell := .inl (.int, n, .inl f)
abbrev aZ (n : Nat) (f : Nat → Int32) : ACell := .inl (.boolean, n, .inl f)
abbrev aC (n : Nat) (f : Nat → Int32) : ACell := .inl (.char, n, .inl f)
abbrev aJ (n : Nat) (f : Nat → Int64) : ACell := .inl (.long, n, .inr (.inl f))
abbrev aD (n : Nat) (f : Nat → UInt64) : ACell := .inl (.double, n, .inr (.inr (.inr (.inl f))))
abbrev aQ (C : String) (n : Nat) (f : Nat → Option Nat) : ACell := .inl (.object C, n, .inr (.inr (.inr (.inr f))))
abbrev aQQ (n : Nat) (f : Nat → Option Nat) : ACell := .inl (.array .double, n, .inr (.inr (.inr (.inr f))))
abbrev oB (ci : Nat) (fs : List Value) : ACell := .inr (ci, fs)
/-- an instruction at its place -/
def iIns (M : Mth) (pc : Nat) (i : Instr) (n : Nat) : Prop := decode M.2.1 pc = .ok (i, n)
def iIcmp (M : Mth) (pc : Nat) (c : Jvm.ClassFile.Cond) (tgt : Nat) : Prop := ∃ off : Int, decode M.2.1 pc = .ok (.if_icmp c off, 3) ∧ (pc : Int) + off = (tgt : Int)
def iIf (M : Mth) (pc : Nat) (c : Jvm.ClassFile.Cond) (tgt : Nat) : Prop := ∃ off : Int, decode M.2.1 pc = .ok (.ifCond c off, 3) ∧ (pc : Int) + off = (tgt : Int)
def iGoto (M : Mth) (pc tgt : Nat) : Prop := ∃ off : Int, decode M.2.1 pc = .ok (.goto off, 3) ∧ (pc : Int) + off = (tgt : Int)
/-- locals behind a store -/
def clrL (i : Nat) (L : List (Option Value)) : List (Option Value) := match i with
  | 0 => L
  | j + 1 => match L[j]? with
    | some (some w) => if w.category = 2 then L.set j none else L
    | _ => L
def stL (i : Nat) (v : Value) (L : List (Option Value)) : List (Option Value) := (clrL i L).set i (some v)
def stL2 (i : Nat) (v : Value) (L : List (Option Value)) : List (Option Value) := ((clrL i L).set i (some v)).set (i + 1) none
def lvAll (ls : Array Slot) : List (Nat × Value) := (List.range ls.size).filterMap (fun (i : Nat) => match ls[i]? with | some (Slot.val v) => some (i, v) | _ => none)
theorem lvAll_mem {ls : Array Slot} {i : Nat} {v : Value} : (i, v) ∈ lvAll ls ↔ ls[i]? = some (.val v) := by
  unfold lvAll
  rw [List.mem_filterMap]
  constructor
  · rintro ⟨j, -, hj⟩
    split at hj
    · rename_i w hw
      cases hj
      exact hw
    · cases hj
  · intro h
    exact ⟨i, List.mem_range.mpr (Array.getElem?_eq_some_iff.mp h).1, by rw [h]⟩
theorem lvAll_has {ls : Array Slot} (h : lv_wf ls) : lv_has ls ls.size (lvAll ls) := ⟨rfl, h, fun q hq => lvAll_mem.mp hq⟩
theorem clrL_len (i : Nat) (L : List (Option Value)) : (clrL i L).length = L.length := by
  unfold clrL
  split
  · rfl
  · split
    · split
      · simp
      · rfl
    · rfl
theorem clrL_get {i j : Nat} {L : List (Option Value)} {v : Value} (h : (clrL i L)[j]? = some (some v)) : L[j]? = some (some v) ∧ ¬ (j + 1 = i ∧ v.category = 2) := by
  unfold clrL at h
  split at h
  · exact ⟨h, fun q => by omega⟩
  · rename_i k
    split at h
    · rename_i w hw
      split at h
      · rename_i hc
        by_cases hkj : k = j
        · subst hkj
          rw [List.getElem?_set_self (List.getElem?_eq_some_iff.mp hw).1] at h
          cases h
        · rw [List.getElem?_set_ne hkj] at h
          exact ⟨h, fun q => by omega⟩
      · rename_i hc
        refine ⟨h, fun q => ?_⟩
        have : j = k := by omega
        subst this
        rw [hw] at h
        cases h
        exact hc q.2
    · rename_i hn
      refine ⟨h, fun q => ?_⟩
      have : j = k := by omega
      subst this
      exact hn v h
theorem LR.store {ρ : Nat → Nat} {ws : va_W} {L : List (Option Value)} {ls ls' : Array Slot} {i : Nat} {v v' : Value} (hL : LR ρ ws L ls) (hv : VR ρ ws v v') {nL : Nat} (hn : nL = L.length) (h : lv_has ls' nL ((i, v') :: (lvAll ls).filter (fun q => !(q.1 == i) && !(q.1 + 1 == i && q.2.category == 2)))) (hi : i < nL) : LR ρ ws (stL i v L) ls' := by
  refine ⟨by rw [h.1, hn]; unfold stL; rw [List.length_set, clrL_len], h.2.1, fun j w hj => ?_⟩
  unfold stL at hj
  by_cases hij : i = j
  · subst hij
    rw [List.getElem?_set_self (by rw [clrL_len]; omega)] at hj
    cases hj
    exact ⟨v', hv, h.2.2 _ List.mem_cons_self⟩
  · rw [List.getElem?_set_ne hij] at hj
    obtain ⟨h1, h2⟩ := clrL_get hj
    obtain ⟨w', e1, e2⟩ := hL.2.2 j w h1
    refine ⟨w', e1, h.2.2 (j, w') (List.mem_cons_of_mem _ (List.mem_filter.mpr ⟨lvAll_mem.mpr e2, ?_⟩))⟩
    have hc := VR.cat e1
    simp only [Bool.and_eq_true, Bool.not_eq_true', beq_eq_false_iff_ne, Bool.and_eq_false_iff]
    refine ⟨fun q => hij q.symm, ?_⟩
    by_cases hq : j + 1 = i
    · right
      intro q
      exact h2 ⟨hq, hc ▸ q⟩
    · left
      exact hq
theorem LR.store2 {ρ : Nat → Nat} {ws : va_W} {L : List (Option Value)} {ls ls' : Array Slot} {i : Nat} {v v' : Value} (hL : LR ρ ws L ls) (hv : VR ρ ws v v') {nL : Nat} (hn : nL = L.length) (h : lv_has ls' nL ((i, v') :: (lvAll ls).filter (fun q => !(q.1 == i) && (!(q.1 == i + 1) && !(q.1 + 1 == i && q.2.category == 2))))) (hi : i + 1 < nL) : LR ρ ws (stL2 i v L) ls' := by
  refine ⟨by rw [h.1, hn]; unfold stL2; rw [List.length_set, List.length_set, clrL_len], h.2.1, fun j w hj => ?_⟩
  unfold stL2 at hj
  by_cases hij1 : i + 1 = j
  · subst hij1
    rw [List.getElem?_set_self (by rw [List.length_set, clrL_len]; omega)] at hj
    cases hj
  rw [List.getElem?_set_ne hij1] at hj
  by_cases hij : i = j
  · subst hij
    rw [List.getElem?_set_self (by rw [clrL_len]; omega)] at hj
    cases hj
    exact ⟨v', hv, h.2.2 _ List.mem_cons_self⟩
  · rw [List.getElem?_set_ne hij] at hj
    obtain ⟨h1, h2⟩ := clrL_get hj
    obtain ⟨w', e1, e2⟩ := hL.2.2 j w h1
    refine ⟨w', e1, h.2.2 (j, w') (List.mem_cons_of_mem _ (List.mem_filter.mpr ⟨lvAll_mem.mpr e2, ?_⟩))⟩
    have hc := VR.cat e1
    simp only [Bool.and_eq_true, Bool.not_eq_true', beq_eq_false_iff_ne, Bool.and_eq_false_iff]
    refine ⟨fun q => hij q.symm, fun q => hij1 q.symm, ?_⟩
    by_cases hq : j + 1 = i
    · right
      intro q
      exact h2 ⟨hq, hc ▸ q⟩
    · left
      exact hq
section Rules
variable {scr : Scr} {l : Launch} {d : Nat} {M : Mth} {pc : Nat} {L : List (Option Value)} {st : List Value} {S : Sto} {r : Res}
theorem ev_iadd {x y : Int32} (h : iIns M pc .iadd 1) (k : Ev scr l d M (pc + 1) L (.int (x + y) :: st) S r) : Ev scr l d M pc L (.int y :: .int x :: st) S r := by
  refine ⟨k.1, fun p e R s m args below meth c ρ dC dI A ws0 mc ms Q hC hR hE H locs cells slots ws tys ls st0 hW hL hS hc hs => ?_⟩
  obtain ⟨v0, r0, rfl, hv0, hS⟩ := hS
  have hv0 : v0 = .int y := hv0
  subst hv0
  obtain ⟨v1, r1, rfl, hv1, hS⟩ := hS
  have hv1 : v1 = .int x := hv1
  subst hv1
  exact lv_iadd hC.1 hC.2.1 h  (k.2 p e R s m args below meth c ρ dC dI A ws0 mc ms Q hC hR hE H locs cells slots ws tys ls _ hW hL ⟨_, _, rfl, rfl, hS⟩ hc hs)
theorem ev_isub {x y : Int32} (h : iIns M pc .isub 1) (k : Ev scr l d M (pc + 1) L (.int (x - y) :: st) S r) : Ev scr l d M pc L (.int y :: .int x :: st) S r := by
  refine ⟨k.1, fun p e R s m args below meth c ρ dC dI A ws0 mc ms Q hC hR hE H locs cells slots ws tys ls st0 hW hL hS hc hs => ?_⟩
  obtain ⟨v0, r0, rfl, hv0, hS⟩ := hS
  have hv0 : v0 = .int y := hv0
  subst hv0
  obtain ⟨v1, r1, rfl, hv1, hS⟩ := hS
  have hv1 : v1 = .int x := hv1
  subst hv1
  exact lv_isub hC.1 hC.2.1 h  (k.2 p e R s m args below meth c ρ dC dI A ws0 mc ms Q hC hR hE H locs cells slots ws tys ls _ hW hL ⟨_, _, rfl, rfl, hS⟩ hc hs)
theorem ev_imul {x y : Int32} (h : iIns M pc .imul 1) (k : Ev scr l d M (pc + 1) L (.int (x * y) :: st) S r) : Ev scr l d M pc L (.int y :: .int x :: st) S r := by
  refine ⟨k.1, fun p e R s m args below meth c ρ dC dI A ws0 mc ms Q hC hR hE H locs cells slots ws tys ls st0 hW hL hS hc hs => ?_⟩
  obtain ⟨v0, r0, rfl, hv0, hS⟩ := hS
  have hv0 : v0 = .int y := hv0
  subst hv0
  obtain ⟨v1, r1, rfl, hv1, hS⟩ := hS
  have hv1 : v1 = .int x := hv1
  subst hv1
  exact lv_imul hC.1 hC.2.1 h  (k.2 p e R s m args below meth c ρ dC dI A ws0 mc ms Q hC hR hE H locs cells slots ws tys ls _ hW hL ⟨_, _, rfl, rfl, hS⟩ hc hs)
theorem ev_iand {x y : Int32} (h : iIns M pc .iand 1) (k : Ev scr l d M (pc + 1) L (.int (x &&& y) :: st) S r) : Ev scr l d M pc L (.int y :: .int x :: st) S r := by
  refine ⟨k.1, fun p e R s m args below meth c ρ dC dI A ws0 mc ms Q hC hR hE H locs cells slots ws tys ls st0 hW hL hS hc hs => ?_⟩
  obtain ⟨v0, r0, rfl, hv0, hS⟩ := hS
  have hv0 : v0 = .int y := hv0
  subst hv0
  obtain ⟨v1, r1, rfl, hv1, hS⟩ := hS
  have hv1 : v1 = .int x := hv1
  subst hv1
  exact lv_iand hC.1 hC.2.1 h  (k.2 p e R s m args below meth c ρ dC dI A ws0 mc ms Q hC hR hE H locs cells slots ws tys ls _ hW hL ⟨_, _, rfl, rfl, hS⟩ hc hs)
theorem ev_ior {x y : Int32} (h : iIns M pc .ior 1) (k : Ev scr l d M (pc + 1) L (.int (x ||| y) :: st) S r) : Ev scr l d M pc L (.int y :: .int x :: st) S r := by
  refine ⟨k.1, fun p e R s m args below meth c ρ dC dI A ws0 mc ms Q hC hR hE H locs cells slots ws tys ls st0 hW hL hS hc hs => ?_⟩
  obtain ⟨v0, r0, rfl, hv0, hS⟩ := hS
  have hv0 : v0 = .int y := hv0
  subst hv0
  obtain ⟨v1, r1, rfl, hv1, hS⟩ := hS
  have hv1 : v1 = .int x := hv1
  subst hv1
  exact lv_ior hC.1 hC.2.1 h  (k.2 p e R s m args below meth c ρ dC dI A ws0 mc ms Q hC hR hE H locs cells slots ws tys ls _ hW hL ⟨_, _, rfl, rfl, hS⟩ hc hs)
theorem ev_ishl {x y : Int32} (h : iIns M pc .ishl 1) (k : Ev scr l d M (pc + 1) L (.int (x <<< (y &&& 31)) :: st) S r) : Ev scr l d M pc L (.int y :: .int x :: st) S r := by
  refine ⟨k.1, fun p e R s m args below meth c ρ dC dI A ws0 mc ms Q hC hR hE H locs cells slots ws tys ls st0 hW hL hS hc hs => ?_⟩
  obtain ⟨v0, r0, rfl, hv0, hS⟩ := hS
  have hv0 : v0 = .int y := hv0
  subst hv0
  obtain ⟨v1, r1, rfl, hv1, hS⟩ := hS
  have hv1 : v1 = .int x := hv1
  subst hv1
  exact lv_ishl hC.1 hC.2.1 h  (k.2 p e R s m args below meth c ρ dC dI A ws0 mc ms Q hC hR hE H locs cells slots ws tys ls _ hW hL ⟨_, _, rfl, rfl, hS⟩ hc hs)
theorem ev_ishr {x y : Int32} (h : iIns M pc .ishr 1) (k : Ev scr l d M (pc + 1) L (.int (x >>> (y &&& 31)) :: st) S r) : Ev scr l d M pc L (.int y :: .int x :: st) S r := by
  refine ⟨k.1, fun p e R s m args below meth c ρ dC dI A ws0 mc ms Q hC hR hE H locs cells slots ws tys ls st0 hW hL hS hc hs => ?_⟩
  obtain ⟨v0, r0, rfl, hv0, hS⟩ := hS
  have hv0 : v0 = .int y := hv0
  subst hv0
  obtain ⟨v1, r1, rfl, hv1, hS⟩ := hS
  have hv1 : v1 = .int x := hv1
  subst hv1
  exact lv_ishr hC.1 hC.2.1 h  (k.2 p e R s m args below meth c ρ dC dI A ws0 mc ms Q hC hR hE H locs cells slots ws tys ls _ hW hL ⟨_, _, rfl, rfl, hS⟩ hc hs)
theorem ev_iushr {x y : Int32} (h : iIns M pc .iushr 1) (k : Ev scr l d M (pc + 1) L (.int (x.toUInt32 >>> (y.toUInt32 &&& Int32.toUInt32 31)).toInt32 :: st) S r) : Ev scr l d M pc L (.int y :: .int x :: st) S r := by
  refine ⟨k.1, fun p e R s m args below meth c ρ dC dI A ws0 mc ms Q hC hR hE H locs cells slots ws tys ls st0 hW hL hS hc hs => ?_⟩
  obtain ⟨v0, r0, rfl, hv0, hS⟩ := hS
  have hv0 : v0 = .int y := hv0
  subst hv0
  obtain ⟨v1, r1, rfl, hv1, hS⟩ := hS
  have hv1 : v1 = .int x := hv1
  subst hv1
  exact lv_iushr hC.1 hC.2.1 h rfl (k.2 p e R s m args below meth c ρ dC dI A ws0 mc ms Q hC hR hE H locs cells slots ws tys ls _ hW hL ⟨_, _, rfl, rfl, hS⟩ hc hs)
theorem ev_idiv {x y : Int32} (h : iIns M pc .idiv 1) (hne : ¬ y = 0) (k : Ev scr l d M (pc + 1) L (.int (x / y) :: st) S r) : Ev scr l d M pc L (.int y :: .int x :: st) S r := by
  refine ⟨k.1, fun p e R s m args below meth c ρ dC dI A ws0 mc ms Q hC hR hE H locs cells slots ws tys ls st0 hW hL hS hc hs => ?_⟩
  obtain ⟨v0, r0, rfl, hv0, hS⟩ := hS
  have hv0 : v0 = .int y := hv0
  subst hv0
  obtain ⟨v1, r1, rfl, hv1, hS⟩ := hS
  have hv1 : v1 = .int x := hv1
  subst hv1
  exact lv_idiv hC.1 hC.2.1 h hne (k.2 p e R s m args below meth c ρ dC dI A ws0 mc ms Q hC hR hE H locs cells slots ws tys ls _ hW hL ⟨_, _, rfl, rfl, hS⟩ hc hs)
theorem ev_irem {x y : Int32} (h : iIns M pc .irem 1) (hne : ¬ y = 0) (k : Ev scr l d M (pc + 1) L (.int (x - x / y * y) :: st) S r) : Ev scr l d M pc L (.int y :: .int x :: st) S r := by
  refine ⟨k.1, fun p e R s m args below meth c ρ dC dI A ws0 mc ms Q hC hR hE H locs cells slots ws tys ls st0 hW hL hS hc hs => ?_⟩
  obtain ⟨v0, r0, rfl, hv0, hS⟩ := hS
  have hv0 : v0 = .int y := hv0
  subst hv0
  obtain ⟨v1, r1, rfl, hv1, hS⟩ := hS
  have hv1 : v1 = .int x := hv1
  subst hv1
  exact lv_irem hC.1 hC.2.1 h hne (k.2 p e R s m args below meth c ρ dC dI A ws0 mc ms Q hC hR hE H locs cells slots ws tys ls _ hW hL ⟨_, _, rfl, rfl, hS⟩ hc hs)
theorem ev_ladd {x y : Int64} (h : iIns M pc .ladd 1) (k : Ev scr l d M (pc + 1) L (.long (x + y) :: st) S r) : Ev scr l d M pc L (.long y :: .long x :: st) S r := by
  refine ⟨k.1, fun p e R s m args below meth c ρ dC dI A ws0 mc ms Q hC hR hE H locs cells slots ws tys ls st0 hW hL hS hc hs => ?_⟩
  obtain ⟨v0, r0, rfl, hv0, hS⟩ := hS
  have hv0 : v0 = .long y := hv0
  subst hv0
  obtain ⟨v1, r1, rfl, hv1, hS⟩ := hS
  have hv1 : v1 = .long x := hv1
  subst hv1
  exact lv_ladd hC.1 hC.2.1 h  (k.2 p e R s m args below meth c ρ dC dI A ws0 mc ms Q hC hR hE H locs cells slots ws tys ls _ hW hL ⟨_, _, rfl, rfl, hS⟩ hc hs)
theorem ev_lsub {x y : Int64} (h : iIns M pc .lsub 1) (k : Ev scr l d M (pc + 1) L (.long (x - y) :: st) S r) : Ev scr l d M pc L (.long y :: .long x :: st) S r := by
  refine ⟨k.1, fun p e R s m args below meth c ρ dC dI A ws0 mc ms Q hC hR hE H locs cells slots ws tys ls st0 hW hL hS hc hs => ?_⟩
  obtain ⟨v0, r0, rfl, hv0, hS⟩ := hS
  have hv0 : v0 = .long y := hv0
  subst hv0
  obtain ⟨v1, r1, rfl, hv1, hS⟩ := hS
  have hv1 : v1 = .long x := hv1
  subst hv1
  exact lv_lsub hC.1 hC.2.1 h  (k.2 p e R s m args below meth c ρ dC dI A ws0 mc ms Q hC hR hE H locs cells slots ws tys ls _ hW hL ⟨_, _, rfl, rfl, hS⟩ hc hs)
theorem ev_lmul {x y : Int64} (h : iIns M pc .lmul 1) (k : Ev scr l d M (pc + 1) L (.long (x * y) :: st) S r) : Ev scr l d M pc L (.long y :: .long x :: st) S r := by
  refine ⟨k.1, fun p e R s m args below meth c ρ dC dI A ws0 mc ms Q hC hR hE H locs cells slots ws tys ls st0 hW hL hS hc hs => ?_⟩
  obtain ⟨v0, r0, rfl, hv0, hS⟩ := hS
  have hv0 : v0 = .long y := hv0
  subst hv0
  obtain ⟨v1, r1, rfl, hv1, hS⟩ := hS
  have hv1 : v1 = .long x := hv1
  subst hv1
  exact lv_lmul hC.1 hC.2.1 h  (k.2 p e R s m args below meth c ρ dC dI A ws0 mc ms Q hC hR hE H locs cells slots ws tys ls _ hW hL ⟨_, _, rfl, rfl, hS⟩ hc hs)
theorem ev_land {x y : Int64} (h : iIns M pc .land 1) (k : Ev scr l d M (pc + 1) L (.long (x &&& y) :: st) S r) : Ev scr l d M pc L (.long y :: .long x :: st) S r := by
  refine ⟨k.1, fun p e R s m args below meth c ρ dC dI A ws0 mc ms Q hC hR hE H locs cells slots ws tys ls st0 hW hL hS hc hs => ?_⟩
  obtain ⟨v0, r0, rfl, hv0, hS⟩ := hS
  have hv0 : v0 = .long y := hv0
  subst hv0
  obtain ⟨v1, r1, rfl, hv1, hS⟩ := hS
  have hv1 : v1 = .long x := hv1
  subst hv1
  exact lv_land hC.1 hC.2.1 h  (k.2 p e R s m args below meth c ρ dC dI A ws0 mc ms Q hC hR hE H locs cells slots ws tys ls _ hW hL ⟨_, _, rfl, rfl, hS⟩ hc hs)
theorem ev_lrem {x y : Int64} (h : iIns M pc .lrem 1) (hne : ¬ y = 0) (k : Ev scr l d M (pc + 1) L (.long (x - x / y * y) :: st) S r) : Ev scr l d M pc L (.long y :: .long x :: st) S r := by
  refine ⟨k.1, fun p e R s m args below meth c ρ dC dI A ws0 mc ms Q hC hR hE H locs cells slots ws tys ls st0 hW hL hS hc hs => ?_⟩
  obtain ⟨v0, r0, rfl, hv0, hS⟩ := hS
  have hv0 : v0 = .long y := hv0
  subst hv0
  obtain ⟨v1, r1, rfl, hv1, hS⟩ := hS
  have hv1 : v1 = .long x := hv1
  subst hv1
  exact lv_lrem hC.1 hC.2.1 h hne (k.2 p e R s m args below meth c ρ dC dI A ws0 mc ms Q hC hR hE H locs cells slots ws tys ls _ hW hL ⟨_, _, rfl, rfl, hS⟩ hc hs)
theorem ev_lneg {x : Int64} (h : iIns M pc .lneg 1) (k : Ev scr l d M (pc + 1) L (.long (-x) :: st) S r) : Ev scr l d M pc L (.long x :: st) S r := by
  refine ⟨k.1, fun p e R s m args below meth c ρ dC dI A ws0 mc ms Q hC hR hE H locs cells slots ws tys ls st0 hW hL hS hc hs => ?_⟩
  obtain ⟨v0, r0, rfl, hv0, hS⟩ := hS
  have hv0 : v0 = .long x := hv0
  subst hv0
  exact lv_lneg hC.1 hC.2.1 h  (k.2 p e R s m args below meth c ρ dC dI A ws0 mc ms Q hC hR hE H locs cells slots ws tys ls _ hW hL ⟨_, _, rfl, rfl, hS⟩ hc hs)
theorem ev_lcmp {x y : Int64} (h : iIns M pc .lcmp 1) (k : Ev scr l d M (pc + 1) L (.int (lg_cmp x y) :: st) S r) : Ev scr l d M pc L (.long y :: .long x :: st) S r := by
  refine ⟨k.1, fun p e R s m args below meth c ρ dC dI A ws0 mc ms Q hC hR hE H locs cells slots ws tys ls st0 hW hL hS hc hs => ?_⟩
  obtain ⟨v0, r0, rfl, hv0, hS⟩ := hS
  have hv0 : v0 = .long y := hv0
  subst hv0
  obtain ⟨v1, r1, rfl, hv1, hS⟩ := hS
  have hv1 : v1 = .long x := hv1
  subst hv1
  exact W.lcmp hC.1 hC.2.1 h  (k.2 p e R s m args below meth c ρ dC dI A ws0 mc ms Q hC hR hE H locs cells slots ws tys ls _ hW hL ⟨_, _, rfl, rfl, hS⟩ hc hs)
theorem ev_i2l {x : Int32} (h : iIns M pc .i2l 1) (k : Ev scr l d M (pc + 1) L (.long x.toInt64 :: st) S r) : Ev scr l d M pc L (.int x :: st) S r := by
  refine ⟨k.1, fun p e R s m args below meth c ρ dC dI A ws0 mc ms Q hC hR hE H locs cells slots ws tys ls st0 hW hL hS hc hs => ?_⟩
  obtain ⟨v0, r0, rfl, hv0, hS⟩ := hS
  have hv0 : v0 = .int x := hv0
  subst hv0
  exact lv_i2l hC.1 hC.2.1 h rfl (k.2 p e R s m args below meth c ρ dC dI A ws0 mc ms Q hC hR hE H locs cells slots ws tys ls _ hW hL ⟨_, _, rfl, rfl, hS⟩ hc hs)
theorem ev_l2i {x : Int64} (h : iIns M pc .l2i 1) (k : Ev scr l d M (pc + 1) L (.int x.toInt32 :: st) S r) : Ev scr l d M pc L (.long x :: st) S r := by
  refine ⟨k.1, fun p e R s m args below meth c ρ dC dI A ws0 mc ms Q hC hR hE H locs cells slots ws tys ls st0 hW hL hS hc hs => ?_⟩
  obtain ⟨v0, r0, rfl, hv0, hS⟩ := hS
  have hv0 : v0 = .long x := hv0
  subst hv0
  exact lv_l2i hC.1 hC.2.1 h rfl (k.2 p e R s m args below meth c ρ dC dI A ws0 mc ms Q hC hR hE H locs cells slots ws tys ls _ hW hL ⟨_, _, rfl, rfl, hS⟩ hc hs)
theorem ev_i2c {x : Int32} (h : iIns M pc .i2c 1) (k : Ev scr l d M (pc + 1) L (.int (x.toUInt32 % 65536).toInt32 :: st) S r) : Ev scr l d M pc L (.int x :: st) S r := by
  refine ⟨k.1, fun p e R s m args below meth c ρ dC dI A ws0 mc ms Q hC hR hE H locs cells slots ws tys ls st0 hW hL hS hc hs => ?_⟩
  obtain ⟨v0, r0, rfl, hv0, hS⟩ := hS
  have hv0 : v0 = .int x := hv0
  subst hv0
  exact lv_i2c hC.1 hC.2.1 h rfl (k.2 p e R s m args below meth c ρ dC dI A ws0 mc ms Q hC hR hE H locs cells slots ws tys ls _ hW hL ⟨_, _, rfl, rfl, hS⟩ hc hs)
theorem ev_dadd {x y : UInt64} (h : iIns M pc .dadd 1) (hne : vf_n64 (FP.dadd x y)) (k : Ev scr l d M (pc + 1) L (.double (FP.dadd x y) :: st) S r) : Ev scr l d M pc L (.double y :: .double x :: st) S r := by
  refine ⟨k.1, fun p e R s m args below meth c ρ dC dI A ws0 mc ms Q hC hR hE H locs cells slots ws tys ls st0 hW hL hS hc hs => ?_⟩
  obtain ⟨v0, r0, rfl, hv0, hS⟩ := hS
  have hv0 : v0 = .double y := hv0
  subst hv0
  obtain ⟨v1, r1, rfl, hv1, hS⟩ := hS
  have hv1 : v1 = .double x := hv1
  subst hv1
  exact lv_dadd hC.1 hC.2.1 h hne (k.2 p e R s m args below meth c ρ dC dI A ws0 mc ms Q hC hR hE H locs cells slots ws tys ls _ hW hL ⟨_, _, rfl, rfl, hS⟩ hc hs)
theorem ev_dsub {x y : UInt64} (h : iIns M pc .dsub 1) (hne : vf_n64 (FP.dsub x y)) (k : Ev scr l d M (pc + 1) L (.double (FP.dsub x y) :: st) S r) : Ev scr l d M pc L (.double y :: .double x :: st) S r := by
  refine ⟨k.1, fun p e R s m args below meth c ρ dC dI A ws0 mc ms Q hC hR hE H locs cells slots ws tys ls st0 hW hL hS hc hs => ?_⟩
  obtain ⟨v0, r0, rfl, hv0, hS⟩ := hS
  have hv0 : v0 = .double y := hv0
  subst hv0
  obtain ⟨v1, r1, rfl, hv1, hS⟩ := hS
  have hv1 : v1 = .double x := hv1
  subst hv1
  exact lv_dsub hC.1 hC.2.1 h hne (k.2 p e R s m args below meth c ρ dC dI A ws0 mc ms Q hC hR hE H locs cells slots ws tys ls _ hW hL ⟨_, _, rfl, rfl, hS⟩ hc hs)
theorem ev_dmul {x y : UInt64} (h : iIns M pc .dmul 1) (hne : vf_n64 (FP.dmul x y)) (k : Ev scr l d M (pc + 1) L (.double (FP.dmul x y) :: st) S r) : Ev scr l d M pc L (.double y :: .double x :: st) S r := by
  refine ⟨k.1, fun p e R s m args below meth c ρ dC dI A ws0 mc ms Q hC hR hE H locs cells slots ws tys ls st0 hW hL hS hc hs => ?_⟩
  obtain ⟨v0, r0, rfl, hv0, hS⟩ := hS
  have hv0 : v0 = .double y := hv0
  subst hv0
  obtain ⟨v1, r1, rfl, hv1, hS⟩ := hS
  have hv1 : v1 = .double x := hv1
  subst hv1
  exact lv_dmul hC.1 hC.2.1 h hne (k.2 p e R s m args below meth c ρ dC dI A ws0 mc ms Q hC hR hE H locs cells slots ws tys ls _ hW hL ⟨_, _, rfl, rfl, hS⟩ hc hs)
theorem ev_ddiv {x y : UInt64} (h : iIns M pc .ddiv 1) (hne : vf_n64 (FP.ddiv x y)) (k : Ev scr l d M (pc + 1) L (.double (FP.ddiv x y) :: st) S r) : Ev scr l d M pc L (.double y :: .double x :: st) S r := by
  refine ⟨k.1, fun p e R s m args below meth c ρ dC dI A ws0 mc ms Q hC hR hE H locs cells slots ws tys ls st0 hW hL hS hc hs => ?_⟩
  obtain ⟨v0, r0, rfl, hv0, hS⟩ := hS
  have hv0 : v0 = .double y := hv0
  subst hv0
  obtain ⟨v1, r1, rfl, hv1, hS⟩ := hS
  have hv1 : v1 = .double x := hv1
  subst hv1
  exact lv_ddiv hC.1 hC.2.1 h hne (k.2 p e R s m args below meth c ρ dC dI A ws0 mc ms Q hC hR hE H locs cells slots ws tys ls _ hW hL ⟨_, _, rfl, rfl, hS⟩ hc hs)
theorem ev_drem {x y : UInt64} (h : iIns M pc .drem 1) (hne : vf_n64 (FP.drem x y)) (k : Ev scr l d M (pc + 1) L (.double (FP.drem x y) :: st) S r) : Ev scr l d M pc L (.double y :: .double x :: st) S r := by
  refine ⟨k.1, fun p e R s m args below meth c ρ dC dI A ws0 mc ms Q hC hR hE H locs cells slots ws tys ls st0 hW hL hS hc hs => ?_⟩
  obtain ⟨v0, r0, rfl, hv0, hS⟩ := hS
  have hv0 : v0 = .double y := hv0
  subst hv0
  obtain ⟨v1, r1, rfl, hv1, hS⟩ := hS
  have hv1 : v1 = .double x := hv1
  subst hv1
  exact lv_drem hC.1 hC.2.1 h hne (k.2 p e R s m args below meth c ρ dC dI A ws0 mc ms Q hC hR hE H locs cells slots ws tys ls _ hW hL ⟨_, _, rfl, rfl, hS⟩ hc hs)
theorem ev_frem {x y : UInt32} (h : iIns M pc .frem 1) (hne : vf_n32 (FP.frem x y)) (k : Ev scr l d M (pc + 1) L (.float (FP.frem x y) :: st) S r) : Ev scr l d M pc L (.float y :: .float x :: st) S r := by
  refine ⟨k.1, fun p e R s m args below meth c ρ dC dI A ws0 mc ms Q hC hR hE H locs cells slots ws tys ls st0 hW hL hS hc hs => ?_⟩
  obtain ⟨v0, r0, rfl, hv0, hS⟩ := hS
  have hv0 : v0 = .float y := hv0
  subst hv0
  obtain ⟨v1, r1, rfl, hv1, hS⟩ := hS
  have hv1 : v1 = .float x := hv1
  subst hv1
  exact lv_frem hC.1 hC.2.1 h hne (k.2 p e R s m args below meth c ρ dC dI A ws0 mc ms Q hC hR hE H locs cells slots ws tys ls _ hW hL ⟨_, _, rfl, rfl, hS⟩ hc hs)
theorem ev_dneg {x : UInt64} (h : iIns M pc .dneg 1) (k : Ev scr l d M (pc + 1) L (.double (FP.dneg x) :: st) S r) : Ev scr l d M pc L (.double x :: st) S r := by
  refine ⟨k.1, fun p e R s m args below meth c ρ dC dI A ws0 mc ms Q hC hR hE H locs cells slots ws tys ls st0 hW hL hS hc hs => ?_⟩
  obtain ⟨v0, r0, rfl, hv0, hS⟩ := hS
  have hv0 : v0 = .double x := hv0
  subst hv0
  exact lv_dneg hC.1 hC.2.1 h  (k.2 p e R s m args below meth c ρ dC dI A ws0 mc ms Q hC hR hE H locs cells slots ws tys ls _ hW hL ⟨_, _, rfl, rfl, hS⟩ hc hs)
theorem ev_dcmp {x y : UInt64} {op : CmpOp} (h : iIns M pc (.dcmp op) 1) (k : Ev scr l d M (pc + 1) L (.int (Op.cmpValue (FP.dcmp x y) op) :: st) S r) : Ev scr l d M pc L (.double y :: .double x :: st) S r := by
  refine ⟨k.1, fun p e R s m args below meth c ρ dC dI A ws0 mc ms Q hC hR hE H locs cells slots ws tys ls st0 hW hL hS hc hs => ?_⟩
  obtain ⟨v0, r0, rfl, hv0, hS⟩ := hS
  have hv0 : v0 = .double y := hv0
  subst hv0
  obtain ⟨v1, r1, rfl, hv1, hS⟩ := hS
  have hv1 : v1 = .double x := hv1
  subst hv1
  exact lv_dcmp hC.1 hC.2.1 h  (k.2 p e R s m args below meth c ρ dC dI A ws0 mc ms Q hC hR hE H locs cells slots ws tys ls _ hW hL ⟨_, _, rfl, rfl, hS⟩ hc hs)
theorem ev_i2d {x : Int32} (h : iIns M pc .i2d 1) (k : Ev scr l d M (pc + 1) L (.double (FP.i2d x) :: st) S r) : Ev scr l d M pc L (.int x :: st) S r := by
  refine ⟨k.1, fun p e R s m args below meth c ρ dC dI A ws0 mc ms Q hC hR hE H locs cells slots ws tys ls st0 hW hL hS hc hs => ?_⟩
  obtain ⟨v0, r0, rfl, hv0, hS⟩ := hS
  have hv0 : v0 = .int x := hv0
  subst hv0
  exact lv_i2d hC.1 hC.2.1 h  (k.2 p e R s m args below meth c ρ dC dI A ws0 mc ms Q hC hR hE H locs cells slots ws tys ls _ hW hL ⟨_, _, rfl, rfl, hS⟩ hc hs)
theorem ev_l2d {x : Int64} (h : iIns M pc .l2d 1) (k : Ev scr l d M (pc + 1) L (.double (FP.l2d x) :: st) S r) : Ev scr l d M pc L (.long x :: st) S r := by
  refine ⟨k.1, fun p e R s m args below meth c ρ dC dI A ws0 mc ms Q hC hR hE H locs cells slots ws tys ls st0 hW hL hS hc hs => ?_⟩
  obtain ⟨v0, r0, rfl, hv0, hS⟩ := hS
  have hv0 : v0 = .long x := hv0
  subst hv0
  exact lv_l2d hC.1 hC.2.1 h  (k.2 p e R s m args below meth c ρ dC dI A ws0 mc ms Q hC hR hE H locs cells slots ws tys ls _ hW hL ⟨_, _, rfl, rfl, hS⟩ hc hs)
theorem ev_d2i {x : UInt64} (h : iIns M pc .d2i 1) (k : Ev scr l d M (pc + 1) L (.int (FP.d2i x) :: st) S r) : Ev scr l d M pc L (.double x :: st) S r := by
  refine ⟨k.1, fun p e R s m args below meth c ρ dC dI A ws0 mc ms Q hC hR hE H locs cells slots ws tys ls st0 hW hL hS hc hs => ?_⟩
  obtain ⟨v0, r0, rfl, hv0, hS⟩ := hS
  have hv0 : v0 = .double x := hv0
  subst hv0
  exact lv_d2i hC.1 hC.2.1 h  (k.2 p e R s m args below meth c ρ dC dI A ws0 mc ms Q hC hR hE H locs cells slots ws tys ls _ hW hL ⟨_, _, rfl, rfl, hS⟩ hc hs)
theorem ev_d2l {x : UInt64} (h : iIns M pc .d2l 1) (k : Ev scr l d M (pc + 1) L (.long (FP.d2l x) :: st) S r) : Ev scr l d M pc L (.double x :: st) S r := by
  refine ⟨k.1, fun p e R s m args below meth c ρ dC dI A ws0 mc ms Q hC hR hE H locs cells slots ws tys ls st0 hW hL hS hc hs => ?_⟩
  obtain ⟨v0, r0, rfl, hv0, hS⟩ := hS
  have hv0 : v0 = .double x := hv0
  subst hv0
  exact lv_d2l hC.1 hC.2.1 h  (k.2 p e R s m args below meth c ρ dC dI A ws0 mc ms Q hC hR hE H locs cells slots ws tys ls _ hW hL ⟨_, _, rfl, rfl, hS⟩ hc hs)
theorem ev_f2d {x : UInt32} (h : iIns M pc .f2d 1) (hne : vf_n64 (FP.f2d x)) (k : Ev scr l d M (pc + 1) L (.double (FP.f2d x) :: st) S r) : Ev scr l d M pc L (.float x :: st) S r := by
  refine ⟨k.1, fun p e R s m args below meth c ρ dC dI A ws0 mc ms Q hC hR hE H locs cells slots ws tys ls st0 hW hL hS hc hs => ?_⟩
  obtain ⟨v0, r0, rfl, hv0, hS⟩ := hS
  have hv0 : v0 = .float x := hv0
  subst hv0
  exact lv_f2d hC.1 hC.2.1 h hne (k.2 p e R s m args below meth c ρ dC dI A ws0 mc ms Q hC hR hE H locs cells slots ws tys ls _ hW hL ⟨_, _, rfl, rfl, hS⟩ hc hs)
theorem ev_d2f {x : UInt64} (h : iIns M pc .d2f 1) (hne : vf_n32 (FP.d2f x)) (k : Ev scr l d M (pc + 1) L (.float (FP.d2f x) :: st) S r) : Ev scr l d M pc L (.double x :: st) S r := by
  refine ⟨k.1, fun p e R s m args below meth c ρ dC dI A ws0 mc ms Q hC hR hE H locs cells slots ws tys ls st0 hW hL hS hc hs => ?_⟩
  obtain ⟨v0, r0, rfl, hv0, hS⟩ := hS
  have hv0 : v0 = .double x := hv0
  subst hv0
  exact lv_d2f hC.1 hC.2.1 h hne (k.2 p e R s m args below meth c ρ dC dI A ws0 mc ms Q hC hR hE H locs cells slots ws tys ls _ hW hL ⟨_, _, rfl, rfl, hS⟩ hc hs)
theorem ev_iconst {n : Int} {v : Int32} (h : iIns M pc (.iconst n) 1) (hv : Int32.ofInt n = v) (k : Ev scr l d M (pc + 1) L (.int v :: st) S r) : Ev scr l d M pc L (st) S r := by
  refine ⟨k.1, fun p e R s m args below meth c ρ dC dI A ws0 mc ms Q hC hR hE H locs cells slots ws tys ls st0 hW hL hS hc hs => ?_⟩
  exact lv_iconst hC.1 hC.2.1 h hv (k.2 p e R s m args below meth c ρ dC dI A ws0 mc ms Q hC hR hE H locs cells slots ws tys ls _ hW hL ⟨_, _, rfl, rfl, hS⟩ hc hs)
theorem ev_bipush {n : Int} {v : Int32} (h : iIns M pc (.bipush n) 2) (hv : (Int8.ofInt n).toInt32 = v) (k : Ev scr l d M (pc + 2) L (.int v :: st) S r) : Ev scr l d M pc L (st) S r := by
  refine ⟨k.1, fun p e R s m args below meth c ρ dC dI A ws0 mc ms Q hC hR hE H locs cells slots ws tys ls st0 hW hL hS hc hs => ?_⟩
  exact lv_bipush hC.1 hC.2.1 h hv (k.2 p e R s m args below meth c ρ dC dI A ws0 mc ms Q hC hR hE H locs cells slots ws tys ls _ hW hL ⟨_, _, rfl, rfl, hS⟩ hc hs)
theorem ev_sipush {n : Int} {v : Int32} (h : iIns M pc (.sipush n) 3) (hv : (Int16.ofInt n).toInt32 = v) (k : Ev scr l d M (pc + 3) L (.int v :: st) S r) : Ev scr l d M pc L (st) S r := by
  refine ⟨k.1, fun p e R s m args below meth c ρ dC dI A ws0 mc ms Q hC hR hE H locs cells slots ws tys ls st0 hW hL hS hc hs => ?_⟩
  exact lv_sipush hC.1 hC.2.1 h hv (k.2 p e R s m args below meth c ρ dC dI A ws0 mc ms Q hC hR hE H locs cells slots ws tys ls _ hW hL ⟨_, _, rfl, rfl, hS⟩ hc hs)
theorem ev_lconst {n : Fin 2} {v : Int64} (h : iIns M pc (.lconst n) 1) (hv : Int64.ofNat (n : Nat) = v) (k : Ev scr l d M (pc + 1) L (.long v :: st) S r) : Ev scr l d M pc L (st) S r := by
  refine ⟨k.1, fun p e R s m args below meth c ρ dC dI A ws0 mc ms Q hC hR hE H locs cells slots ws tys ls st0 hW hL hS hc hs => ?_⟩
  exact lv_lconst hC.1 hC.2.1 h hv (k.2 p e R s m args below meth c ρ dC dI A ws0 mc ms Q hC hR hE H locs cells slots ws tys ls _ hW hL ⟨_, _, rfl, rfl, hS⟩ hc hs)
theorem ev_dconst0  (h : iIns M pc (.dconst 0) 1) (k : Ev scr l d M (pc + 1) L (.double FP.dconst0 :: st) S r) : Ev scr l d M pc L (st) S r := by
  refine ⟨k.1, fun p e R s m args below meth c ρ dC dI A ws0 mc ms Q hC hR hE H locs cells slots ws tys ls st0 hW hL hS hc hs => ?_⟩
  exact lv_dconst0 hC.1 hC.2.1 h  (k.2 p e R s m args below meth c ρ dC dI A ws0 mc ms Q hC hR hE H locs cells slots ws tys ls _ hW hL ⟨_, _, rfl, rfl, hS⟩ hc hs)
theorem ev_dconst1  (h : iIns M pc (.dconst 1) 1) (k : Ev scr l d M (pc + 1) L (.double FP.dconst1 :: st) S r) : Ev scr l d M pc L (st) S r := by
  refine ⟨k.1, fun p e R s m args below meth c ρ dC dI A ws0 mc ms Q hC hR hE H locs cells slots ws tys ls st0 hW hL hS hc hs => ?_⟩
  exact lv_dconst1 hC.1 hC.2.1 h  (k.2 p e R s m args below meth c ρ dC dI A ws0 mc ms Q hC hR hE H locs cells slots ws tys ls _ hW hL ⟨_, _, rfl, rfl, hS⟩ hc hs)
def iLdcI (M : Mth) (pc : Nat) (v : Int32) : Prop := ∃ ix : Nat, decode M.2.1 pc = .ok (.ldc ix, 2) ∧ Jvm.Cond.constant M.1.cls ix v ∈ lw_good
theorem ev_LdcI {v : Int32} (h : iLdcI M pc v) (k : Ev scr l d M (pc + 2) L (.int v :: st) S r) : Ev scr l d M pc L st S r := by
  obtain ⟨ix, h, hm⟩ := h
  refine ⟨k.1, fun p e R s m args below meth c ρ dC dI A ws0 mc ms Q hC hR hE H locs cells slots ws tys ls st0 hW hL hS hc hs => ?_⟩
  exact lv_ldc hC.1 hC.2.1 hC.2.2.2.2.2.1 (hC.2.2.2.2.1 _ hm) h (k.2 p e R s m args below meth c ρ dC dI A ws0 mc ms Q hC hR hE H locs cells slots ws tys ls _ hW hL ⟨_, _, rfl, rfl, hS⟩ hc hs)
def iLdcL (M : Mth) (pc : Nat) (v : Int64) : Prop := ∃ ix : Nat, decode M.2.1 pc = .ok (.ldc2_w ix, 3) ∧ Jvm.Cond.constantLong M.1.cls ix v ∈ lw_good
theorem ev_LdcL {v : Int64} (h : iLdcL M pc v) (k : Ev scr l d M (pc + 3) L (.long v :: st) S r) : Ev scr l d M pc L st S r := by
  obtain ⟨ix, h, hm⟩ := h
  refine ⟨k.1, fun p e R s m args below meth c ρ dC dI A ws0 mc ms Q hC hR hE H locs cells slots ws tys ls st0 hW hL hS hc hs => ?_⟩
  exact lv_ldc2 hC.1 hC.2.1 hC.2.2.2.2.2.1 (hC.2.2.2.2.1 _ hm) h (k.2 p e R s m args below meth c ρ dC dI A ws0 mc ms Q hC hR hE H locs cells slots ws tys ls _ hW hL ⟨_, _, rfl, rfl, hS⟩ hc hs)
def iLdcD (M : Mth) (pc : Nat) (v : UInt64) : Prop := ∃ ix : Nat, decode M.2.1 pc = .ok (.ldc2_w ix, 3) ∧ Jvm.Cond.constantDouble M.1.cls ix v ∈ lw_good
theorem ev_LdcD {v : UInt64} (h : iLdcD M pc v) (k : Ev scr l d M (pc + 3) L (.double v :: st) S r) : Ev scr l d M pc L st S r := by
  obtain ⟨ix, h, hm⟩ := h
  refine ⟨k.1, fun p e R s m args below meth c ρ dC dI A ws0 mc ms Q hC hR hE H locs cells slots ws tys ls st0 hW hL hS hc hs => ?_⟩
  exact lv_ldc2d hC.1 hC.2.1 hC.2.2.2.2.2.1 (hC.2.2.2.2.1 _ hm) h (k.2 p e R s m args below meth c ρ dC dI A ws0 mc ms Q hC hR hE H locs cells slots ws tys ls _ hW hL ⟨_, _, rfl, rfl, hS⟩ hc hs)
theorem ev_iload {i : Nat} {x : Int32} (h : iIns M pc (.iload i) 2) (hl : L[i]? = some (some (.int x))) (k : Ev scr l d M (pc + 2) L (.int x :: st) S r) : Ev scr l d M pc L st S r := by
  refine ⟨k.1, fun p e R s m args below meth c ρ dC dI A ws0 mc ms Q hC hR hE H locs cells slots ws tys ls st0 hW hL hS hc hs => ?_⟩
  obtain ⟨v', e1, e2⟩ := hL.2.2 i _ hl
  have e1 : v' = .int x := e1
  subst e1
  exact lv_iload hC.1 hC.2.1 h e2 (k.2 p e R s m args below meth c ρ dC dI A ws0 mc ms Q hC hR hE H locs cells slots ws tys ls _ hW hL ⟨_, _, rfl, rfl, hS⟩ hc hs)
theorem ev_iload_n {j : Fin 4} {x : Int32} (h : iIns M pc (.iload_n j) 1) (hl : L[(j : Nat)]? = some (some (.int x))) (k : Ev scr l d M (pc + 1) L (.int x :: st) S r) : Ev scr l d M pc L st S r := by
  refine ⟨k.1, fun p e R s m args below meth c ρ dC dI A ws0 mc ms Q hC hR hE H locs cells slots ws tys ls st0 hW hL hS hc hs => ?_⟩
  obtain ⟨v', e1, e2⟩ := hL.2.2 _ _ hl
  have e1 : v' = .int x := e1
  subst e1
  exact lv_iload_n hC.1 hC.2.1 h rfl e2 (k.2 p e R s m args below meth c ρ dC dI A ws0 mc ms Q hC hR hE H locs cells slots ws tys ls _ hW hL ⟨_, _, rfl, rfl, hS⟩ hc hs)
theorem ev_lload {i : Nat} {x : Int64} (h : iIns M pc (.lload i) 2) (hl : L[i]? = some (some (.long x))) (k : Ev scr l d M (pc + 2) L (.long x :: st) S r) : Ev scr l d M pc L st S r := by
  refine ⟨k.1, fun p e R s m args below meth c ρ dC dI A ws0 mc ms Q hC hR hE H locs cells slots ws tys ls st0 hW hL hS hc hs => ?_⟩
  obtain ⟨v', e1, e2⟩ := hL.2.2 i _ hl
  have e1 : v' = .long x := e1
  subst e1
  exact lv_lload hC.1 hC.2.1 h e2 (k.2 p e R s m args below meth c ρ dC dI A ws0 mc ms Q hC hR hE H locs cells slots ws tys ls _ hW hL ⟨_, _, rfl, rfl, hS⟩ hc hs)
theorem ev_lload_n {j : Fin 4} {x : Int64} (h : iIns M pc (.lload_n j) 1) (hl : L[(j : Nat)]? = some (some (.long x))) (k : Ev scr l d M (pc + 1) L (.long x :: st) S r) : Ev scr l d M pc L st S r := by
  refine ⟨k.1, fun p e R s m args below meth c ρ dC dI A ws0 mc ms Q hC hR hE H locs cells slots ws tys ls st0 hW hL hS hc hs => ?_⟩
  obtain ⟨v', e1, e2⟩ := hL.2.2 _ _ hl
  have e1 : v' = .long x := e1
  subst e1
  exact lv_lload_n hC.1 hC.2.1 h rfl e2 (k.2 p e R s m args below meth c ρ dC dI A ws0 mc ms Q hC hR hE H locs cells slots ws tys ls _ hW hL ⟨_, _, rfl, rfl, hS⟩ hc hs)
theorem ev_dload {i : Nat} {x : UInt64} (h : iIns M pc (.dload i) 2) (hl : L[i]? = some (some (.double x))) (k : Ev scr l d M (pc + 2) L (.double x :: st) S r) : Ev scr l d M pc L st S r := by
  refine ⟨k.1, fun p e R s m args below meth c ρ dC dI A ws0 mc ms Q hC hR hE H locs cells slots ws tys ls st0 hW hL hS hc hs => ?_⟩
  obtain ⟨v', e1, e2⟩ := hL.2.2 i _ hl
  have e1 : v' = .double x := e1
  subst e1
  exact lv_dload hC.1 hC.2.1 h e2 (k.2 p e R s m args below meth c ρ dC dI A ws0 mc ms Q hC hR hE H locs cells slots ws tys ls _ hW hL ⟨_, _, rfl, rfl, hS⟩ hc hs)
theorem ev_dload_n {j : Fin 4} {x : UInt64} (h : iIns M pc (.dload_n j) 1) (hl : L[(j : Nat)]? = some (some (.double x))) (k : Ev scr l d M (pc + 1) L (.double x :: st) S r) : Ev scr l d M pc L st S r := by
  refine ⟨k.1, fun p e R s m args below meth c ρ dC dI A ws0 mc ms Q hC hR hE H locs cells slots ws tys ls st0 hW hL hS hc hs => ?_⟩
  obtain ⟨v', e1, e2⟩ := hL.2.2 _ _ hl
  have e1 : v' = .double x := e1
  subst e1
  exact lv_dload_n hC.1 hC.2.1 h rfl e2 (k.2 p e R s m args below meth c ρ dC dI A ws0 mc ms Q hC hR hE H locs cells slots ws tys ls _ hW hL ⟨_, _, rfl, rfl, hS⟩ hc hs)
theorem ev_aload {i : Nat} {x : Nat} (h : iIns M pc (.aload i) 2) (hl : L[i]? = some (some (.ref x))) (k : Ev scr l d M (pc + 2) L (.ref x :: st) S r) : Ev scr l d M pc L st S r := by
  refine ⟨k.1, fun p e R s m args below meth c ρ dC dI A ws0 mc ms Q hC hR hE H locs cells slots ws tys ls st0 hW hL hS hc hs => ?_⟩
  obtain ⟨v', ⟨a, e0, e1⟩, e2⟩ := hL.2.2 i _ hl
  subst e1
  exact lv_aload hC.1 hC.2.1 h e2 (k.2 p e R s m args below meth c ρ dC dI A ws0 mc ms Q hC hR hE H locs cells slots ws tys ls _ hW hL ⟨_, _, rfl, ⟨a, e0, rfl⟩, hS⟩ hc hs)
theorem ev_aload_n {j : Fin 4} {x : Nat} (h : iIns M pc (.aload_n j) 1) (hl : L[(j : Nat)]? = some (some (.ref x))) (k : Ev scr l d M (pc + 1) L (.ref x :: st) S r) : Ev scr l d M pc L st S r := by
  refine ⟨k.1, fun p e R s m args below meth c ρ dC dI A ws0 mc ms Q hC hR hE H locs cells slots ws tys ls st0 hW hL hS hc hs => ?_⟩
  obtain ⟨v', ⟨a, e0, e1⟩, e2⟩ := hL.2.2 _ _ hl
  subst e1
  exact lv_aload_n hC.1 hC.2.1 h rfl e2 (k.2 p e R s m args below meth c ρ dC dI A ws0 mc ms Q hC hR hE H locs cells slots ws tys ls _ hW hL ⟨_, _, rfl, ⟨a, e0, rfl⟩, hS⟩ hc hs)
theorem ev_istore {i : Nat} {x : Int32} (h : iIns M pc (.istore i) 2) (hi : i < L.length) (k : Ev scr l d M (pc + 2) (stL i (.int x) L) st S r) : Ev scr l d M pc L (.int x :: st) S r := by
  refine ⟨k.1, fun p e R s m args below meth c ρ dC dI A ws0 mc ms Q hC hR hE H locs cells slots ws tys ls st0 hW hL hS hc hs => ?_⟩
  obtain ⟨v0, r0, rfl, hv0, hS⟩ := hS
  have hv0 : v0 = .int x := hv0
  subst hv0
  have hz : ls.size = L.length := hL.1
  exact lv_istore hC.1 hC.2.1 h (lvAll_has hL.2.1) (by omega) rfl (fun ls2 h2 => k.2 p e R s m args below meth c ρ dC dI A ws0 mc ms Q hC hR hE H locs cells slots ws tys ls2 _ hW (LR.store hL rfl hz h2 (by omega)) hS hc hs)
theorem ev_istore_n {j : Fin 4} {x : Int32} (h : iIns M pc (.istore_n j) 1) (hi : (j : Nat) < L.length) (k : Ev scr l d M (pc + 1) (stL (j : Nat) (.int x) L) st S r) : Ev scr l d M pc L (.int x :: st) S r := by
  refine ⟨k.1, fun p e R s m args below meth c ρ dC dI A ws0 mc ms Q hC hR hE H locs cells slots ws tys ls st0 hW hL hS hc hs => ?_⟩
  obtain ⟨v0, r0, rfl, hv0, hS⟩ := hS
  have hv0 : v0 = .int x := hv0
  subst hv0
  have hz : ls.size = L.length := hL.1
  exact lv_istore_n hC.1 hC.2.1 h rfl (lvAll_has hL.2.1) (by omega) rfl (fun ls2 h2 => k.2 p e R s m args below meth c ρ dC dI A ws0 mc ms Q hC hR hE H locs cells slots ws tys ls2 _ hW (LR.store hL rfl hz h2 (by omega)) hS hc hs)
theorem ev_astore {i : Nat} {x : Nat} (h : iIns M pc (.astore i) 2) (hi : i < L.length) (k : Ev scr l d M (pc + 2) (stL i (.ref x) L) st S r) : Ev scr l d M pc L (.ref x :: st) S r := by
  refine ⟨k.1, fun p e R s m args below meth c ρ dC dI A ws0 mc ms Q hC hR hE H locs cells slots ws tys ls st0 hW hL hS hc hs => ?_⟩
  obtain ⟨v0, r0, rfl, hv0, hS⟩ := hS
  obtain ⟨a, e0, e1⟩ := hv0
  subst e1
  have hz : ls.size = L.length := hL.1
  exact lv_astore hC.1 hC.2.1 h (lvAll_has hL.2.1) (by omega) rfl (fun ls2 h2 => k.2 p e R s m args below meth c ρ dC dI A ws0 mc ms Q hC hR hE H locs cells slots ws tys ls2 _ hW (LR.store hL ⟨a, e0, rfl⟩ hz h2 (by omega)) hS hc hs)
theorem ev_astore_n {j : Fin 4} {x : Nat} (h : iIns M pc (.astore_n j) 1) (hi : (j : Nat) < L.length) (k : Ev scr l d M (pc + 1) (stL (j : Nat) (.ref x) L) st S r) : Ev scr l d M pc L (.ref x :: st) S r := by
  refine ⟨k.1, fun p e R s m args below meth c ρ dC dI A ws0 mc ms Q hC hR hE H locs cells slots ws tys ls st0 hW hL hS hc hs => ?_⟩
  obtain ⟨v0, r0, rfl, hv0, hS⟩ := hS
  obtain ⟨a, e0, e1⟩ := hv0
  subst e1
  have hz : ls.size = L.length := hL.1
  exact lv_astore_n hC.1 hC.2.1 h rfl (lvAll_has hL.2.1) (by omega) rfl (fun ls2 h2 => k.2 p e R s m args below meth c ρ dC dI A ws0 mc ms Q hC hR hE H locs cells slots ws tys ls2 _ hW (LR.store hL ⟨a, e0, rfl⟩ hz h2 (by omega)) hS hc hs)
theorem ev_lstore {i : Nat} {x : Int64} (h : iIns M pc (.lstore i) 2) (hi : i + 1 < L.length) (k : Ev scr l d M (pc + 2) (stL2 i (.long x) L) st S r) : Ev scr l d M pc L (.long x :: st) S r := by
  refine ⟨k.1, fun p e R s m args below meth c ρ dC dI A ws0 mc ms Q hC hR hE H locs cells slots ws tys ls st0 hW hL hS hc hs => ?_⟩
  obtain ⟨v0, r0, rfl, hv0, hS⟩ := hS
  have hv0 : v0 = .long x := hv0
  subst hv0
  have hz : ls.size = L.length := hL.1
  exact lv_lstore hC.1 hC.2.1 h (lvAll_has hL.2.1) (by omega) rfl (fun ls2 h2 => k.2 p e R s m args below meth c ρ dC dI A ws0 mc ms Q hC hR hE H locs cells slots ws tys ls2 _ hW (LR.store2 hL rfl hz h2 (by omega)) hS hc hs)
theorem ev_lstore_n {j : Fin 4} {x : Int64} (h : iIns M pc (.lstore_n j) 1) (hi : (j : Nat) + 1 < L.length) (k : Ev scr l d M (pc + 1) (stL2 (j : Nat) (.long x) L) st S r) : Ev scr l d M pc L (.long x :: st) S r := by
  refine ⟨k.1, fun p e R s m args below meth c ρ dC dI A ws0 mc ms Q hC hR hE H locs cells slots ws tys ls st0 hW hL hS hc hs => ?_⟩
  obtain ⟨v0, r0, rfl, hv0, hS⟩ := hS
  have hv0 : v0 = .long x := hv0
  subst hv0
  have hz : ls.size = L.length := hL.1
  exact lv_lstore_n hC.1 hC.2.1 h rfl (lvAll_has hL.2.1) (by omega) rfl (fun ls2 h2 => k.2 p e R s m args below meth c ρ dC dI A ws0 mc ms Q hC hR hE H locs cells slots ws tys ls2 _ hW (LR.store2 hL rfl hz h2 (by omega)) hS hc hs)
theorem ev_dstore {i : Nat} {x : UInt64} (h : iIns M pc (.dstore i) 2) (hi : i + 1 < L.length) (k : Ev scr l d M (pc + 2) (stL2 i (.double x) L) st S r) : Ev scr l d M pc L (.double x :: st) S r := by
  refine ⟨k.1, fun p e R s m args below meth c ρ dC dI A ws0 mc ms Q hC hR hE H locs cells slots ws tys ls st0 hW hL hS hc hs => ?_⟩
  obtain ⟨v0, r0, rfl, hv0, hS⟩ := hS
  have hv0 : v0 = .double x := hv0
  subst hv0
  have hz : ls.size = L.length := hL.1
  exact lv_dstore hC.1 hC.2.1 h (lvAll_has hL.2.1) (by omega) rfl (fun ls2 h2 => k.2 p e R s m args below meth c ρ dC dI A ws0 mc ms Q hC hR hE H locs cells slots ws tys ls2 _ hW (LR.store2 hL rfl hz h2 (by omega)) hS hc hs)
theorem ev_dstore_n {j : Fin 4} {x : UInt64} (h : iIns M pc (.dstore_n j) 1) (hi : (j : Nat) + 1 < L.length) (k : Ev scr l d M (pc + 1) (stL2 (j : Nat) (.double x) L) st S r) : Ev scr l d M pc L (.double x :: st) S r := by
  refine ⟨k.1, fun p e R s m args below meth c ρ dC dI A ws0 mc ms Q hC hR hE H locs cells slots ws tys ls st0 hW hL hS hc hs => ?_⟩
  obtain ⟨v0, r0, rfl, hv0, hS⟩ := hS
  have hv0 : v0 = .double x := hv0
  subst hv0
  have hz : ls.size = L.length := hL.1
  exact lv_dstore_n hC.1 hC.2.1 h rfl (lvAll_has hL.2.1) (by omega) rfl (fun ls2 h2 => k.2 p e R s m args below meth c ρ dC dI A ws0 mc ms Q hC hR hE H locs cells slots ws tys ls2 _ hW (LR.store2 hL rfl hz h2 (by omega)) hS hc hs)
theorem ev_iinc {i : Nat} {n : Int} {x : Int32} (h : iIns M pc (.iinc i n) 3) (hl : L[i]? = some (some (.int x))) (k : Ev scr l d M (pc + 3) (stL i (.int (x + Int32.ofInt n)) L) st S r) : Ev scr l d M pc L st S r := by
  refine ⟨k.1, fun p e R s m args below meth c ρ dC dI A ws0 mc ms Q hC hR hE H locs cells slots ws tys ls st0 hW hL hS hc hs => ?_⟩
  obtain ⟨v', e1, e2⟩ := hL.2.2 i _ hl
  have e1 : v' = .int x := e1
  subst e1
  have hz : ls.size = L.length := hL.1
  have hi : i < ls.size := (Array.getElem?_eq_some_iff.mp e2).1
  obtain ⟨kx, hkx⟩ := List.getElem?_of_mem (lvAll_mem.mpr e2)
  exact lv_iinc hC.1 hC.2.1 h (lvAll_has hL.2.1) hkx rfl hi rfl (fun ls2 h2 => k.2 p e R s m args below meth c ρ dC dI A ws0 mc ms Q hC hR hE H locs cells slots ws tys ls2 _ hW (LR.store hL rfl hz h2 hi) hS hc hs)
theorem ev_dup {v : Value} (h : iIns M pc .dup 1) (hv : v.category = 1) (k : Ev scr l d M (pc + 1) L (v :: v :: st) S r) : Ev scr l d M pc L (v :: st) S r := by
  refine ⟨k.1, fun p e R s m args below meth c ρ dC dI A ws0 mc ms Q hC hR hE H locs cells slots ws tys ls st0 hW hL hS hc hs => ?_⟩
  obtain ⟨v0, r0, rfl, hv0, hS⟩ := hS
  exact lv_dup hC.1 hC.2.1 h (by rw [VR.cat hv0]; exact hv) (k.2 p e R s m args below meth c ρ dC dI A ws0 mc ms Q hC hR hE H locs cells slots ws tys ls _ hW hL ⟨_, _, rfl, hv0, ⟨_, _, rfl, hv0, hS⟩⟩ hc hs)
theorem ev_pop {v : Value} (h : iIns M pc .pop 1) (hv : v.category = 1) (k : Ev scr l d M (pc + 1) L st S r) : Ev scr l d M pc L (v :: st) S r := by
  refine ⟨k.1, fun p e R s m args below meth c ρ dC dI A ws0 mc ms Q hC hR hE H locs cells slots ws tys ls st0 hW hL hS hc hs => ?_⟩
  obtain ⟨v0, r0, rfl, hv0, hS⟩ := hS
  exact lv_pop hC.1 hC.2.1 h (by rw [VR.cat hv0]; exact hv) (k.2 p e R s m args below meth c ρ dC dI A ws0 mc ms Q hC hR hE H locs cells slots ws tys ls _ hW hL hS hc hs)
theorem ev_dup_x1 {u v : Value} (h : iIns M pc .dup_x1 1) (hu : u.category = 1) (hv : v.category = 1) (k : Ev scr l d M (pc + 1) L (u :: v :: u :: st) S r) : Ev scr l d M pc L (u :: v :: st) S r := by
  refine ⟨k.1, fun p e R s m args below meth c ρ dC dI A ws0 mc ms Q hC hR hE H locs cells slots ws tys ls st0 hW hL hS hc hs => ?_⟩
  obtain ⟨v0, r0, rfl, hv0, hS⟩ := hS
  obtain ⟨v1, r1, rfl, hv1, hS⟩ := hS
  exact lv_dup_x1 hC.1 hC.2.1 h (by rw [VR.cat hv0]; exact hu) (by rw [VR.cat hv1]; exact hv) (k.2 p e R s m args below meth c ρ dC dI A ws0 mc ms Q hC hR hE H locs cells slots ws tys ls _ hW hL ⟨_, _, rfl, hv0, ⟨_, _, rfl, hv1, ⟨_, _, rfl, hv0, hS⟩⟩⟩ hc hs)
theorem ev_dup2_11 {u v : Value} (h : iIns M pc .dup2 1) (hu : u.category = 1) (hv : v.category = 1) (k : Ev scr l d M (pc + 1) L (u :: v :: u :: v :: st) S r) : Ev scr l d M pc L (u :: v :: st) S r := by
  refine ⟨k.1, fun p e R s m args below meth c ρ dC dI A ws0 mc ms Q hC hR hE H locs cells slots ws tys ls st0 hW hL hS hc hs => ?_⟩
  obtain ⟨v0, r0, rfl, hv0, hS⟩ := hS
  obtain ⟨v1, r1, rfl, hv1, hS⟩ := hS
  exact lv_dup2_11 hC.1 hC.2.1 h (by rw [VR.cat hv0]; exact hu) (by rw [VR.cat hv1]; exact hv) (k.2 p e R s m args below meth c ρ dC dI A ws0 mc ms Q hC hR hE H locs cells slots ws tys ls _ hW hL ⟨_, _, rfl, hv0, ⟨_, _, rfl, hv1, ⟨_, _, rfl, hv0, ⟨_, _, rfl, hv1, hS⟩⟩⟩⟩ hc hs)
theorem ev_icmp_ne {x y : Int32} {tgt : Nat} (h : iIcmp M pc .ne tgt) (kt : ¬ x = y → Ev scr l d M tgt L st S r) (kf : x = y → Ev scr l d M (pc + 3) L st S r) : Ev scr l d M pc L (.int y :: .int x :: st) S r := by
  obtain ⟨off, h, ht⟩ := h
  by_cases hq : x = y
  · refine ⟨(kf hq).1, fun p e R s m args below meth c ρ dC dI A ws0 mc ms Q hC hR hE H locs cells slots ws tys ls st0 hW hL hS hc hs => ?_⟩
    obtain ⟨v0, r0, rfl, hv0, hS⟩ := hS
    have hv0 : v0 = .int y := hv0
    subst hv0
    obtain ⟨v1, r1, rfl, hv1, hS⟩ := hS
    have hv1 : v1 = .int x := hv1
    subst hv1
    exact lv_icmp_ne hC.1 hC.2.1 h ht (fun q => absurd hq q) (fun _ => (kf hq).2 p e R s m args below meth c ρ dC dI A ws0 mc ms Q hC hR hE H locs cells slots ws tys ls _ hW hL hS hc hs)
  · refine ⟨(kt hq).1, fun p e R s m args below meth c ρ dC dI A ws0 mc ms Q hC hR hE H locs cells slots ws tys ls st0 hW hL hS hc hs => ?_⟩
    obtain ⟨v0, r0, rfl, hv0, hS⟩ := hS
    have hv0 : v0 = .int y := hv0
    subst hv0
    obtain ⟨v1, r1, rfl, hv1, hS⟩ := hS
    have hv1 : v1 = .int x := hv1
    subst hv1
    exact lv_icmp_ne hC.1 hC.2.1 h ht (fun _ => (kt hq).2 p e R s m args below meth c ρ dC dI A ws0 mc ms Q hC hR hE H locs cells slots ws tys ls _ hW hL hS hc hs) (fun q => absurd q hq)
theorem ev_if_ne {x : Int32} {tgt : Nat} (h : iIf M pc .ne tgt) (kt : ¬ x = 0 → Ev scr l d M tgt L st S r) (kf : x = 0 → Ev scr l d M (pc + 3) L st S r) : Ev scr l d M pc L (.int x :: st) S r := by
  obtain ⟨off, h, ht⟩ := h
  by_cases hq : x = 0
  · refine ⟨(kf hq).1, fun p e R s m args below meth c ρ dC dI A ws0 mc ms Q hC hR hE H locs cells slots ws tys ls st0 hW hL hS hc hs => ?_⟩
    obtain ⟨v0, r0, rfl, hv0, hS⟩ := hS
    have hv0 : v0 = .int x := hv0
    subst hv0
    exact lv_if_ne hC.1 hC.2.1 h ht (fun q => absurd hq q) (fun _ => (kf hq).2 p e R s m args below meth c ρ dC dI A ws0 mc ms Q hC hR hE H locs cells slots ws tys ls _ hW hL hS hc hs)
  · refine ⟨(kt hq).1, fun p e R s m args below meth c ρ dC dI A ws0 mc ms Q hC hR hE H locs cells slots ws tys ls st0 hW hL hS hc hs => ?_⟩
    obtain ⟨v0, r0, rfl, hv0, hS⟩ := hS
    have hv0 : v0 = .int x := hv0
    subst hv0
    exact lv_if_ne hC.1 hC.2.1 h ht (fun _ => (kt hq).2 p e R s m args below meth c ρ dC dI A ws0 mc ms Q hC hR hE H locs cells slots ws tys ls _ hW hL hS hc hs) (fun q => absurd q hq)
theorem ev_icmp_eq {x y : Int32} {tgt : Nat} (h : iIcmp M pc .eq tgt) (kt : x = y → Ev scr l d M tgt L st S r) (kf : ¬ (x = y) → Ev scr l d M (pc + 3) L st S r) : Ev scr l d M pc L (.int y :: .int x :: st) S r := by
  obtain ⟨off, h, ht⟩ := h
  by_cases hq : x = y
  · refine ⟨(kt hq).1, fun p e R s m args below meth c ρ dC dI A ws0 mc ms Q hC hR hE H locs cells slots ws tys ls st0 hW hL hS hc hs => ?_⟩
    obtain ⟨v0, r0, rfl, hv0, hS⟩ := hS
    have hv0 : v0 = .int y := hv0
    subst hv0
    obtain ⟨v1, r1, rfl, hv1, hS⟩ := hS
    have hv1 : v1 = .int x := hv1
    subst hv1
    exact lv_icmp_eq hC.1 hC.2.1 h ht (fun _ => (kt hq).2 p e R s m args below meth c ρ dC dI A ws0 mc ms Q hC hR hE H locs cells slots ws tys ls _ hW hL hS hc hs) (fun q => absurd hq q)
  · refine ⟨(kf hq).1, fun p e R s m args below meth c ρ dC dI A ws0 mc ms Q hC hR hE H locs cells slots ws tys ls st0 hW hL hS hc hs => ?_⟩
    obtain ⟨v0, r0, rfl, hv0, hS⟩ := hS
    have hv0 : v0 = .int y := hv0
    subst hv0
    obtain ⟨v1, r1, rfl, hv1, hS⟩ := hS
    have hv1 : v1 = .int x := hv1
    subst hv1
    exact lv_icmp_eq hC.1 hC.2.1 h ht (fun q => absurd q hq) (fun _ => (kf hq).2 p e R s m args below meth c ρ dC dI A ws0 mc ms Q hC hR hE H locs cells slots ws tys ls _ hW hL hS hc hs)
theorem ev_if_eq {x : Int32} {tgt : Nat} (h : iIf M pc .eq tgt) (kt : x = 0 → Ev scr l d M tgt L st S r) (kf : ¬ (x = 0) → Ev scr l d M (pc + 3) L st S r) : Ev scr l d M pc L (.int x :: st) S r := by
  obtain ⟨off, h, ht⟩ := h
  by_cases hq : x = 0
  · refine ⟨(kt hq).1, fun p e R s m args below meth c ρ dC dI A ws0 mc ms Q hC hR hE H locs cells slots ws tys ls st0 hW hL hS hc hs => ?_⟩
    obtain ⟨v0, r0, rfl, hv0, hS⟩ := hS
    have hv0 : v0 = .int x := hv0
    subst hv0
    exact lv_if_eq hC.1 hC.2.1 h ht (fun _ => (kt hq).2 p e R s m args below meth c ρ dC dI A ws0 mc ms Q hC hR hE H locs cells slots ws tys ls _ hW hL hS hc hs) (fun q => absurd hq q)
  · refine ⟨(kf hq).1, fun p e R s m args below meth c ρ dC dI A ws0 mc ms Q hC hR hE H locs cells slots ws tys ls st0 hW hL hS hc hs => ?_⟩
    obtain ⟨v0, r0, rfl, hv0, hS⟩ := hS
    have hv0 : v0 = .int x := hv0
    subst hv0
    exact lv_if_eq hC.1 hC.2.1 h ht (fun q => absurd q hq) (fun _ => (kf hq).2 p e R s m args below meth c ρ dC dI A ws0 mc ms Q hC hR hE H locs cells slots ws tys ls _ hW hL hS hc hs)
theorem ev_icmp_lt {x y : Int32} {tgt : Nat} (h : iIcmp M pc .lt tgt) (kt : x < y → Ev scr l d M tgt L st S r) (kf : ¬ (x < y) → Ev scr l d M (pc + 3) L st S r) : Ev scr l d M pc L (.int y :: .int x :: st) S r := by
  obtain ⟨off, h, ht⟩ := h
  by_cases hq : x < y
  · refine ⟨(kt hq).1, fun p e R s m args below meth c ρ dC dI A ws0 mc ms Q hC hR hE H locs cells slots ws tys ls st0 hW hL hS hc hs => ?_⟩
    obtain ⟨v0, r0, rfl, hv0, hS⟩ := hS
    have hv0 : v0 = .int y := hv0
    subst hv0
    obtain ⟨v1, r1, rfl, hv1, hS⟩ := hS
    have hv1 : v1 = .int x := hv1
    subst hv1
    exact lv_icmp_lt hC.1 hC.2.1 h ht (fun _ => (kt hq).2 p e R s m args below meth c ρ dC dI A ws0 mc ms Q hC hR hE H locs cells slots ws tys ls _ hW hL hS hc hs) (fun q => absurd hq q)
  · refine ⟨(kf hq).1, fun p e R s m args below meth c ρ dC dI A ws0 mc ms Q hC hR hE H locs cells slots ws tys ls st0 hW hL hS hc hs => ?_⟩
    obtain ⟨v0, r0, rfl, hv0, hS⟩ := hS
    have hv0 : v0 = .int y := hv0
    subst hv0
    obtain ⟨v1, r1, rfl, hv1, hS⟩ := hS
    have hv1 : v1 = .int x := hv1
    subst hv1
    exact lv_icmp_lt hC.1 hC.2.1 h ht (fun q => absurd q hq) (fun _ => (kf hq).2 p e R s m args below meth c ρ dC dI A ws0 mc ms Q hC hR hE H locs cells slots ws tys ls _ hW hL hS hc hs)
theorem ev_if_lt {x : Int32} {tgt : Nat} (h : iIf M pc .lt tgt) (kt : x < 0 → Ev scr l d M tgt L st S r) (kf : ¬ (x < 0) → Ev scr l d M (pc + 3) L st S r) : Ev scr l d M pc L (.int x :: st) S r := by
  obtain ⟨off, h, ht⟩ := h
  by_cases hq : x < 0
  · refine ⟨(kt hq).1, fun p e R s m args below meth c ρ dC dI A ws0 mc ms Q hC hR hE H locs cells slots ws tys ls st0 hW hL hS hc hs => ?_⟩
    obtain ⟨v0, r0, rfl, hv0, hS⟩ := hS
    have hv0 : v0 = .int x := hv0
    subst hv0
    exact lv_if_lt hC.1 hC.2.1 h ht (fun _ => (kt hq).2 p e R s m args below meth c ρ dC dI A ws0 mc ms Q hC hR hE H locs cells slots ws tys ls _ hW hL hS hc hs) (fun q => absurd hq q)
  · refine ⟨(kf hq).1, fun p e R s m args below meth c ρ dC dI A ws0 mc ms Q hC hR hE H locs cells slots ws tys ls st0 hW hL hS hc hs => ?_⟩
    obtain ⟨v0, r0, rfl, hv0, hS⟩ := hS
    have hv0 : v0 = .int x := hv0
    subst hv0
    exact lv_if_lt hC.1 hC.2.1 h ht (fun q => absurd q hq) (fun _ => (kf hq).2 p e R s m args below meth c ρ dC dI A ws0 mc ms Q hC hR hE H locs cells slots ws tys ls _ hW hL hS hc hs)
theorem ev_icmp_ge {x y : Int32} {tgt : Nat} (h : iIcmp M pc .ge tgt) (kt : y ≤ x → Ev scr l d M tgt L st S r) (kf : ¬ (y ≤ x) → Ev scr l d M (pc + 3) L st S r) : Ev scr l d M pc L (.int y :: .int x :: st) S r := by
  obtain ⟨off, h, ht⟩ := h
  by_cases hq : y ≤ x
  · refine ⟨(kt hq).1, fun p e R s m args below meth c ρ dC dI A ws0 mc ms Q hC hR hE H locs cells slots ws tys ls st0 hW hL hS hc hs => ?_⟩
    obtain ⟨v0, r0, rfl, hv0, hS⟩ := hS
    have hv0 : v0 = .int y := hv0
    subst hv0
    obtain ⟨v1, r1, rfl, hv1, hS⟩ := hS
    have hv1 : v1 = .int x := hv1
    subst hv1
    exact lv_icmp_ge hC.1 hC.2.1 h ht (fun _ => (kt hq).2 p e R s m args below meth c ρ dC dI A ws0 mc ms Q hC hR hE H locs cells slots ws tys ls _ hW hL hS hc hs) (fun q => absurd hq q)
  · refine ⟨(kf hq).1, fun p e R s m args below meth c ρ dC dI A ws0 mc ms Q hC hR hE H locs cells slots ws tys ls st0 hW hL hS hc hs => ?_⟩
    obtain ⟨v0, r0, rfl, hv0, hS⟩ := hS
    have hv0 : v0 = .int y := hv0
    subst hv0
    obtain ⟨v1, r1, rfl, hv1, hS⟩ := hS
    have hv1 : v1 = .int x := hv1
    subst hv1
    exact lv_icmp_ge hC.1 hC.2.1 h ht (fun q => absurd q hq) (fun _ => (kf hq).2 p e R s m args below meth c ρ dC dI A ws0 mc ms Q hC hR hE H locs cells slots ws tys ls _ hW hL hS hc hs)
theorem ev_if_ge {x : Int32} {tgt : Nat} (h : iIf M pc .ge tgt) (kt : 0 ≤ x → Ev scr l d M tgt L st S r) (kf : ¬ (0 ≤ x) → Ev scr l d M (pc + 3) L st S r) : Ev scr l d M pc L (.int x :: st) S r := by
  obtain ⟨off, h, ht⟩ := h
  by_cases hq : 0 ≤ x
  · refine ⟨(kt hq).1, fun p e R s m args below meth c ρ dC dI A ws0 mc ms Q hC hR hE H locs cells slots ws tys ls st0 hW hL hS hc hs => ?_⟩
    obtain ⟨v0, r0, rfl, hv0, hS⟩ := hS
    have hv0 : v0 = .int x := hv0
    subst hv0
    exact lv_if_ge hC.1 hC.2.1 h ht (fun _ => (kt hq).2 p e R s m args below meth c ρ dC dI A ws0 mc ms Q hC hR hE H locs cells slots ws tys ls _ hW hL hS hc hs) (fun q => absurd hq q)
  · refine ⟨(kf hq).1, fun p e R s m args below meth c ρ dC dI A ws0 mc ms Q hC hR hE H locs cells slots ws tys ls st0 hW hL hS hc hs => ?_⟩
    obtain ⟨v0, r0, rfl, hv0, hS⟩ := hS
    have hv0 : v0 = .int x := hv0
    subst hv0
    exact lv_if_ge hC.1 hC.2.1 h ht (fun q => absurd q hq) (fun _ => (kf hq).2 p e R s m args below meth c ρ dC dI A ws0 mc ms Q hC hR hE H locs cells slots ws tys ls _ hW hL hS hc hs)
theorem ev_icmp_gt {x y : Int32} {tgt : Nat} (h : iIcmp M pc .gt tgt) (kt : y < x → Ev scr l d M tgt L st S r) (kf : ¬ (y < x) → Ev scr l d M (pc + 3) L st S r) : Ev scr l d M pc L (.int y :: .int x :: st) S r := by
  obtain ⟨off, h, ht⟩ := h
  by_cases hq : y < x
  · refine ⟨(kt hq).1, fun p e R s m args below meth c ρ dC dI A ws0 mc ms Q hC hR hE H locs cells slots ws tys ls st0 hW hL hS hc hs => ?_⟩
    obtain ⟨v0, r0, rfl, hv0, hS⟩ := hS
    have hv0 : v0 = .int y := hv0
    subst hv0
    obtain ⟨v1, r1, rfl, hv1, hS⟩ := hS
    have hv1 : v1 = .int x := hv1
    subst hv1
    exact lv_icmp_gt hC.1 hC.2.1 h ht (fun _ => (kt hq).2 p e R s m args below meth c ρ dC dI A ws0 mc ms Q hC hR hE H locs cells slots ws tys ls _ hW hL hS hc hs) (fun q => absurd hq q)
  · refine ⟨(kf hq).1, fun p e R s m args below meth c ρ dC dI A ws0 mc ms Q hC hR hE H locs cells slots ws tys ls st0 hW hL hS hc hs => ?_⟩
    obtain ⟨v0, r0, rfl, hv0, hS⟩ := hS
    have hv0 : v0 = .int y := hv0
    subst hv0
    obtain ⟨v1, r1, rfl, hv1, hS⟩ := hS
    have hv1 : v1 = .int x := hv1
    subst hv1
    exact lv_icmp_gt hC.1 hC.2.1 h ht (fun q => absurd q hq) (fun _ => (kf hq).2 p e R s m args below meth c ρ dC dI A ws0 mc ms Q hC hR hE H locs cells slots ws tys ls _ hW hL hS hc hs)
theorem ev_if_gt {x : Int32} {tgt : Nat} (h : iIf M pc .gt tgt) (kt : 0 < x → Ev scr l d M tgt L st S r) (kf : ¬ (0 < x) → Ev scr l d M (pc + 3) L st S r) : Ev scr l d M pc L (.int x :: st) S r := by
  obtain ⟨off, h, ht⟩ := h
  by_cases hq : 0 < x
  · refine ⟨(kt hq).1, fun p e R s m args below meth c ρ dC dI A ws0 mc ms Q hC hR hE H locs cells slots ws tys ls st0 hW hL hS hc hs => ?_⟩
    obtain ⟨v0, r0, rfl, hv0, hS⟩ := hS
    have hv0 : v0 = .int x := hv0
    subst hv0
    exact lv_if_gt hC.1 hC.2.1 h ht (fun _ => (kt hq).2 p e R s m args below meth c ρ dC dI A ws0 mc ms Q hC hR hE H locs cells slots ws tys ls _ hW hL hS hc hs) (fun q => absurd hq q)
  · refine ⟨(kf hq).1, fun p e R s m args below meth c ρ dC dI A ws0 mc ms Q hC hR hE H locs cells slots ws tys ls st0 hW hL hS hc hs => ?_⟩
    obtain ⟨v0, r0, rfl, hv0, hS⟩ := hS
    have hv0 : v0 = .int x := hv0
    subst hv0
    exact lv_if_gt hC.1 hC.2.1 h ht (fun q => absurd q hq) (fun _ => (kf hq).2 p e R s m args below meth c ρ dC dI A ws0 mc ms Q hC hR hE H locs cells slots ws tys ls _ hW hL hS hc hs)
theorem ev_icmp_le {x y : Int32} {tgt : Nat} (h : iIcmp M pc .le tgt) (kt : x ≤ y → Ev scr l d M tgt L st S r) (kf : ¬ (x ≤ y) → Ev scr l d M (pc + 3) L st S r) : Ev scr l d M pc L (.int y :: .int x :: st) S r := by
  obtain ⟨off, h, ht⟩ := h
  by_cases hq : x ≤ y
  · refine ⟨(kt hq).1, fun p e R s m args below meth c ρ dC dI A ws0 mc ms Q hC hR hE H locs cells slots ws tys ls st0 hW hL hS hc hs => ?_⟩
    obtain ⟨v0, r0, rfl, hv0, hS⟩ := hS
    have hv0 : v0 = .int y := hv0
    subst hv0
    obtain ⟨v1, r1, rfl, hv1, hS⟩ := hS
    have hv1 : v1 = .int x := hv1
    subst hv1
    exact lv_icmp_le hC.1 hC.2.1 h ht (fun _ => (kt hq).2 p e R s m args below meth c ρ dC dI A ws0 mc ms Q hC hR hE H locs cells slots ws tys ls _ hW hL hS hc hs) (fun q => absurd hq q)
  · refine ⟨(kf hq).1, fun p e R s m args below meth c ρ dC dI A ws0 mc ms Q hC hR hE H locs cells slots ws tys ls st0 hW hL hS hc hs => ?_⟩
    obtain ⟨v0, r0, rfl, hv0, hS⟩ := hS
    have hv0 : v0 = .int y := hv0
    subst hv0
    obtain ⟨v1, r1, rfl, hv1, hS⟩ := hS
    have hv1 : v1 = .int x := hv1
    subst hv1
    exact lv_icmp_le hC.1 hC.2.1 h ht (fun q => absurd q hq) (fun _ => (kf hq).2 p e R s m args below meth c ρ dC dI A ws0 mc ms Q hC hR hE H locs cells slots ws tys ls _ hW hL hS hc hs)
theorem ev_if_le {x : Int32} {tgt : Nat} (h : iIf M pc .le tgt) (kt : x ≤ 0 → Ev scr l d M tgt L st S r) (kf : ¬ (x ≤ 0) → Ev scr l d M (pc + 3) L st S r) : Ev scr l d M pc L (.int x :: st) S r := by
  obtain ⟨off, h, ht⟩ := h
  by_cases hq : x ≤ 0
  · refine ⟨(kt hq).1, fun p e R s m args below meth c ρ dC dI A ws0 mc ms Q hC hR hE H locs cells slots ws tys ls st0 hW hL hS hc hs => ?_⟩
    obtain ⟨v0, r0, rfl, hv0, hS⟩ := hS
    have hv0 : v0 = .int x := hv0
    subst hv0
    exact lv_if_le hC.1 hC.2.1 h ht (fun _ => (kt hq).2 p e R s m args below meth c ρ dC dI A ws0 mc ms Q hC hR hE H locs cells slots ws tys ls _ hW hL hS hc hs) (fun q => absurd hq q)
  · refine ⟨(kf hq).1, fun p e R s m args below meth c ρ dC dI A ws0 mc ms Q hC hR hE H locs cells slots ws tys ls st0 hW hL hS hc hs => ?_⟩
    obtain ⟨v0, r0, rfl, hv0, hS⟩ := hS
    have hv0 : v0 = .int x := hv0
    subst hv0
    exact lv_if_le hC.1 hC.2.1 h ht (fun q => absurd q hq) (fun _ => (kf hq).2 p e R s m args below meth c ρ dC dI A ws0 mc ms Q hC hR hE H locs cells slots ws tys ls _ hW hL hS hc hs)
theorem ev_goto {tgt : Nat} (h : iGoto M pc tgt) (k : Ev scr l d M tgt L st S r) : Ev scr l d M pc L st S r := by
  obtain ⟨off, h, ht⟩ := h
  refine ⟨k.1, fun p e R s m args below meth c ρ dC dI A ws0 mc ms Q hC hR hE H locs cells slots ws tys ls st0 hW hL hS hc hs => ?_⟩
  exact lv_goto hC.1 hC.2.1 h ht (k.2 p e R s m args below meth c ρ dC dI A ws0 mc ms Q hC hR hE H locs cells slots ws tys ls _ hW hL hS hc hs)
/-- fewer known locals -/
def subL : List (Option Value) → List (Option Value) → Prop
  | [], [] => True
  | a :: x, b :: y => (a = none ∨ a = b) ∧ subL x y
  | _, _ => False
theorem subL.get : ∀ {L1 L2 : List (Option Value)}, subL L1 L2 → L1.length = L2.length ∧ ∀ (i : Nat) (v : Value), L1[i]? = some (some v) → L2[i]? = some (some v)
  | [], [], _ => ⟨rfl, fun i v h => h⟩
  | a :: x, b :: y, ⟨h1, h2⟩ => by
    obtain ⟨e1, e2⟩ := subL.get h2
    refine ⟨by simp [e1], fun i v h => ?_⟩
    match i, h with
    | 0, h =>
      have ha : a = some v := by simpa using h
      subst ha
      rcases h1 with h1 | h1
      · cases h1
      · subst h1; rfl
    | i + 1, h => simpa using e2 i v (by simpa using h)
theorem ev_sub {L2 : List (Option Value)} (hs : subL L2 L) (k : Ev scr l d M pc L2 st S r) : Ev scr l d M pc L st S r := by
  obtain ⟨hs1, hs2⟩ := subL.get hs
  refine ⟨k.1, fun p e R s m args below meth c ρ dC dI A ws0 mc ms Q hC hR hE H locs cells slots ws tys ls st0 hW hL hS hc hs => ?_⟩
  exact k.2 p e R s m args below meth c ρ dC dI A ws0 mc ms Q hC hR hE H locs cells slots ws tys ls _ hW ⟨by rw [hL.1, hs1], hL.2.1, fun i v h => hL.2.2 i v (hs2 i v h)⟩ hS hc hs
end Rules

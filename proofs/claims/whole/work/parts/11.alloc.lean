/-! ===== making cells; copying; switches; handlers ===== -/
section RulesN
variable {scr : Scr} {l : Launch} {d : Nat} {M M' : Mth} {pc n ci : Nat} {L : List (Option Value)} {st as : List Value} {S S1 : Sto} {r : Res} {v0 : Option Value} {E0 : String}
abbrev Sto.new (S : Sto) (c : ACell) (n : Nat) : Sto := (S.1 ++ [c], S.2.1 + 1, S.2.2 + n)
def iNew (M : Mth) (pc ci : Nat) (fs : List Value) : Prop := ∃ ix : Nat, decode M.2.1 pc = .ok (.new ix, 3) ∧ ∃ (C : String) (T : u_T) (N : Nat) (ty : Nat → FieldType), vwCl[ci]? = some (C, T, N) ∧ (∀ w ∈ u_ws C T N, w ∈ lw_good) ∧ (∀ k, k < N → parseFieldDescriptor (T k).2.2.1 = some (ty k)) ∧ Cond.classLink M.1.cls ix C ∈ lw_good ∧ Cond.instantiable C N ∈ lw_good ∧ Cond.initialized C ∈ lw_good ∧ (∀ j, j < N → defaultValue (ty j) = vp_V fs j) ∧ fs.length = N
def noRef : List Value → Bool
  | [] => true
  | .ref _ :: _ => false
  | .retAddr _ :: _ => false
  | _ :: r => noRef r
theorem SR.noRef {ρ : Nat → Nat} {ws : va_W} : ∀ {fs : List Value}, noRef fs = true → SR ρ ws fs fs
  | [], _ => rfl
  | v :: r, h => by
    cases v <;> first | (exact ⟨_, _, rfl, rfl, SR.noRef (fs := r) h⟩) | (cases h)
theorem ev_new {fs : List Value} (h : iNew M pc ci fs) (hfs : noRef fs = true) (hl : S.1.length < 1000) (k : Ev scr l d M (pc + 3) L (.ref S.1.length :: st) (S.new (oB ci fs) fs.length) r) : Ev scr l d M pc L st S r := by
  obtain ⟨ix, h, C, T, N, ty, hcl, hin, hty, hlk, hins, hini, hdf, hN⟩ := h
  have k1 : S.2.1 + 1 ≤ r.2.2.1 ∧ S.2.2 + fs.length ≤ r.2.2.2 := k.1
  refine ⟨⟨by omega, by omega⟩, fun p e R s m args below meth c ρ dC dI A ws0 mc ms Q hC hR hE H locs cells slots ws tys ls st0 hW hL hS hc hs => ?_⟩
  have hg : ∀ w ∈ lw_good, w.before args s = true := hC.2.2.2.2.1
  refine va_new hC.1 hC.2.1 hg hin ty hty hC.2.2.2.2.2.1 (hg _ hlk) (hg _ hins) (hg _ hini) hW.2.2.2.1 hW.2.2.1 hW.2.2.2.2.1 hW.2.2.2.2.2 hC.2.2.2.2.2.2.2.2.2.2.1 hcl hdf (by omega) (by omega) h (fun q H1 hP hD hS1 => ?_)
  have hX : Ext ws (ws ++ [(q, .inr (ci, fs))]) := Ext.app _ _
  exact k.2 p e R s m args below meth c ρ dC dI A ws0 mc ms Q hC hR hE H1 locs _ _ _ tys ls _ ⟨WR.push hW.1 (fun t q hq => ⟨t, hq⟩) hl ⟨fs, rfl, SR.noRef hfs⟩, hW.2.1.tr hX, hP, hW.2.2.2.1, hD, hS1⟩ (LR.mono hX hL) ⟨_, _, rfl, ⟨q, lkA.new hW.1.1 hl, rfl⟩, SR.mono hX hS⟩ (by show cells + 1 + r.2.2.1 = mc + (S.2.1 + 1); omega) (by show slots + N + r.2.2.2 = ms + (S.2.2 + fs.length); omega)
def iNewA (M : Mth) (pc : Nat) (t : ArrayType) : Prop := decode M.2.1 pc = .ok (.newarray t, 2) ∧ Cond.arrayClass (newarray.typeOf t) ∈ lw_good
theorem ev_newA {t : ArrayType} {ty : FieldType} {n : Int32} {N : Nat} {x : (Nat → Int32) ⊕ (Nat → Int64) ⊕ (Nat → UInt32) ⊕ (Nat → UInt64) ⊕ (Nat → Option Nat)} (h : iNewA M pc t) (hty : newarray.typeOf t = ty) (hx : ∀ cA : ClassId, vp_cell cA (N, x) = arrV cA N (fun _ => defaultValue ty)) (hx2 : ∀ (ρ : Nat → Nat) (ws : va_W), AR ρ ws (N, x) (N, x)) (hn : ¬ n < 0) (hN : n.toNatClampNeg = N) (hb : N * componentBytes ty ≤ 536870912) (hl : S.1.length < 1000)
    (k : Ev scr l d M (pc + 2) L (.ref S.1.length :: st) (S.new (.inl (ty, N, x)) N) r) : Ev scr l d M pc L (.int n :: st) S r := by
  obtain ⟨h, ha⟩ := h
  have k1 : S.2.1 + 1 ≤ r.2.2.1 ∧ S.2.2 + N ≤ r.2.2.2 := k.1
  refine ⟨⟨by omega, by omega⟩, fun p e R s m args below meth c ρ dC dI A ws0 mc ms Q hC hR hE H locs cells slots ws tys ls st0 hW hL hS hc hs => ?_⟩
  obtain ⟨v0, r0, rfl, hv0, hS⟩ := hS
  have hv0 : v0 = .int n := hv0
  subst hv0
  have hg : ∀ w ∈ lw_good, w.before args s = true := hC.2.2.2.2.1
  refine va_newa (atype := t) (a0 := (N, x)) hC.1 hC.2.1 (hg _ ha) hty hW.2.2.2.1 hW.2.2.1 hW.2.2.2.2.1 hW.2.2.2.2.2 hC.2.2.2.2.2.2.2.2.2.2.1 hx hn hN hb (by omega) (by omega) h (fun q cA H1 hK hP hD hS1 => ?_)
  have hX : Ext ws (ws ++ [(q, .inl (cA, N, x))]) := Ext.app _ _
  have hty' : ∀ (t : Nat) (q : ClassId × FieldType), tys[t]? = some q → ∃ t' : Nat, (tys ++ [(cA, ty)])[t']? = some q := fun t q hq => ⟨t, by rw [List.getElem?_append_left (List.getElem?_eq_some_iff.mp hq).1]; exact hq⟩
  exact k.2 p e R s m args below meth c ρ dC dI A ws0 mc ms Q hC hR hE H1 locs _ _ _ _ ls _ ⟨WR.push hW.1 hty' hl ⟨cA, (N, x), rfl, ⟨tys.length, by simp⟩, hx2 _ _⟩, hW.2.1.tr hX, hP, hK, hD, hS1⟩ (LR.mono hX hL) ⟨_, _, rfl, ⟨q, lkA.new hW.1.1 hl, rfl⟩, SR.mono hX hS⟩ (by show cells + 1 + r.2.2.1 = mc + (S.2.1 + 1); omega) (by show slots + N + r.2.2.2 = ms + (S.2.2 + N); omega)
def iNewQ (M : Mth) (pc : Nat) (C : String) : Prop := ∃ ix : Nat, decode M.2.1 pc = .ok (.anewarray ix, 3) ∧ Cond.classLink M.1.cls ix C ∈ lw_good ∧ (C = "ParallelRewriting$Table" ∨ C = "ParallelRewriting$Word")
theorem ev_newQ {C : String} {n : Int32} {N : Nat} (h : iNewQ M pc C) (hn : ¬ n < 0) (hN : n.toNatClampNeg = N) (hb : N * 4 ≤ 536870912) (hl : S.1.length < 1000)
    (k : Ev scr l d M (pc + 3) L (.ref S.1.length :: st) (S.new (aQ C N (fun _ => none)) N) r) : Ev scr l d M pc L (.int n :: st) S r := by
  obtain ⟨ix, h, hlk, hCC⟩ := h
  have k1 : S.2.1 + 1 ≤ r.2.2.1 ∧ S.2.2 + N ≤ r.2.2.2 := k.1
  refine ⟨⟨by omega, by omega⟩, fun p e R s m args below meth c ρ dC dI A ws0 mc ms Q hC hR hE H locs cells slots ws tys ls st0 hW hL hS hc hs => ?_⟩
  obtain ⟨v0, r0, rfl, hv0, hS⟩ := hS
  have hv0 : v0 = .int n := hv0
  subst hv0
  have hg : ∀ w ∈ lw_good, w.before args s = true := hC.2.2.2.2.1
  have hG := hC.2.2.2.2.2.2.2.2.2.1.2.2.2.2.2.2.2.2.2.2
  have hao : va_AO C s := by
    rcases hCC with rfl | rfl
    · exact hG.1
    · exact hG.2.1
  refine va_newq hC.1 hC.2.1 hC.2.2.2.2.2.1 (hg _ hlk) hao hW.2.2.2.1 hW.2.2.1 hW.2.2.2.2.1 hW.2.2.2.2.2 hC.2.2.2.2.2.2.2.2.2.2.1 hn hN hb (by omega) (by omega) h (fun q cA H1 hK hP hD hS1 => ?_)
  have hX : Ext ws (ws ++ [(q, .inl (cA, N, .inr (.inr (.inr (.inr (fun _ => none))))))]) := Ext.app _ _
  have hty' : ∀ (t : Nat) (q : ClassId × FieldType), tys[t]? = some q → ∃ t' : Nat, (tys ++ [(cA, .object C)])[t']? = some q := fun t q hq => ⟨t, by rw [List.getElem?_append_left (List.getElem?_eq_some_iff.mp hq).1]; exact hq⟩
  exact k.2 p e R s m args below meth c ρ dC dI A ws0 mc ms Q hC hR hE H1 locs _ _ _ _ ls _ ⟨WR.push hW.1 hty' hl ⟨cA, _, rfl, ⟨tys.length, by simp⟩, rfl, fun _ => none, rfl, fun _ => ⟨fun _ => rfl, fun _ q => by cases q⟩⟩, hW.2.1.tr hX, hP, hK, hD, hS1⟩ (LR.mono hX hL) ⟨_, _, rfl, ⟨q, lkA.new hW.1.1 hl, rfl⟩, SR.mono hX hS⟩ (by show cells + 1 + r.2.2.1 = mc + (S.2.1 + 1); omega) (by show slots + N + r.2.2.2 = ms + (S.2.2 + N); omega)
/-- Object's constructor does nothing -/
def iObjI (M : Mth) (pc : Nat) : Prop := ∃ ix : Nat, decode M.2.1 pc = .ok (.invokespecial ix, 3) ∧ Cond.methodLink M.1.cls ix Lib.objectInit ∈ lw_good
theorem obj_w : Cond.instanceMethod Lib.objectInit ∈ lw_good ∧ Cond.code Lib.objectInit ⟨#[0xb1]⟩ 1 none ∈ lw_good := by decide +kernel
theorem ev_objI {a : Nat} (h : iObjI M pc) (hlen : L.length = M.2.2.1) (hcat : (st.map fun v => v.category).sum ≤ 8) (k : Ev scr l d M (pc + 3) L st S r) : Ev scr l d M pc L (.ref a :: st) S r := by
  obtain ⟨ix, h, hlk⟩ := h
  refine ⟨k.1, fun p e R s m args below meth c ρ dC dI A ws0 mc ms Q hC hR hE H locs cells slots ws tys ls st0 hW hL hS hc hs => ?_⟩
  obtain ⟨v1, r1, rfl, ⟨a', ea, rfl⟩, hS⟩ := hS
  have hg : ∀ w ∈ lw_good, w.before args s = true := hC.2.2.2.2.1
  have hcat' : (r1.map fun v => v.category).sum ≤ 8 := by rw [SR.cat hS]; exact hcat
  have hroom := lv_room (m := m) (pc := pc) (ls := ls) (rest := .ref a' :: r1) hcat'
  refine W.objInit hC.1 hC.2.1 hC.2.2.2.2.2.1 (hg _ hlk) (hg _ obj_w.1) (hg _ obj_w.2) rfl (by rw [hC.2.2.1]; show ls.size = _; rw [hL.1]; exact hlen) (rest := r1) rfl h (by omega) (by omega) ?_
  exact k.2 p e R s m args below meth c ρ dC dI A ws0 mc ms Q hC hR hE H locs cells slots ws tys ls _ hW hL hS hc hs
/-- System.arraycopy of ints -/
def iCpy (M : Mth) (pc : Nat) : Prop := ∃ ix : Nat, decode M.2.1 pc = .ok (.invokestatic ix, 3) ∧ Cond.methodLink M.1.cls ix arraycopyName ∈ lw_good
theorem cpy_w : Cond.native arraycopyName ∈ lw_good ∧ Cond.static arraycopyName ∈ lw_good ∧ Cond.initialized "java/lang/System" ∈ lw_good := by decide +kernel
theorem ev_cpyI {a b n0 n1 : Nat} {f g : Nat → Int32} {sp dp n : Int32} (h : iCpy M pc) (hlen : L.length = M.2.2.1) (hcat : (st.map fun v => v.category).sum ≤ 8) (ha : S.1[a]? = some (aI n0 f)) (hb : S.1[b]? = some (aI n1 g)) (h1 : ¬ sp < 0) (h2 : ¬ dp < 0) (h3 : ¬ n < 0) (h4 : sp.toNatClampNeg + n.toNatClampNeg ≤ n0) (h5 : dp.toNatClampNeg + n.toNatClampNeg ≤ n1)
    (k : Ev scr l d M (pc + 3) L st (S.put b (aI n1 (va_cpy f g sp.toNatClampNeg dp.toNatClampNeg n.toNatClampNeg))) r) : Ev scr l d M pc L (.int n :: .int dp :: .ref b :: .int sp :: .ref a :: st) S r := by
  obtain ⟨ix, h, hlk⟩ := h
  refine ⟨k.1, fun p e R s m args below meth c ρ dC dI A ws0 mc ms Q hC hR hE H locs cells slots ws tys ls st0 hW hL hS hc hs => ?_⟩
  obtain ⟨v0, r0, rfl, hv0, hS⟩ := hS
  have hv0 : v0 = .int n := hv0
  subst hv0
  obtain ⟨v1, r1, rfl, hv1, hS⟩ := hS
  have hv1 : v1 = .int dp := hv1
  subst hv1
  obtain ⟨v2, r2, rfl, ⟨b', eb, rfl⟩, hS⟩ := hS
  obtain ⟨v3, r3, rfl, hv3, hS⟩ := hS
  have hv3 : v3 = .int sp := hv3
  subst hv3
  obtain ⟨v4, r4, rfl, ⟨a', ea, rfl⟩, hS⟩ := hS
  obtain ⟨e1, hw, cA, x', rfl, ⟨t0, ht⟩, hx⟩ := lkA.at hW.1 ha ea
  have hx := AR.prim hx
  subst hx
  obtain ⟨e2, hw2, cB, y', rfl, ⟨t1, ht1⟩, hy⟩ := lkA.at hW.1 hb eb
  have hy := AR.prim hy
  subst hy
  have hg : ∀ w ∈ lw_good, w.before args s = true := hC.2.2.2.2.1
  have hcat' : (r4.map fun v => v.category).sum ≤ 8 := by rw [SR.cat hS]; exact hcat
  have hnf : nativeFrameWords "java/lang/System" "arraycopy" 5 + 11 ≤ 192 := by decide
  have hE2 : Ext ws (ws.set b (b', .inl (cB, n1, .inl (va_cpy f g sp.toNatClampNeg dp.toNatClampNeg n.toNatClampNeg)))) := Ext.set hw2
  exact va_copyi (ty := .int) hC.1 hC.2.1 (by rw [hC.2.2.1, hL.1]; exact hlen.symm) hC.2.2.2.2.2.1 (hg _ hlk) (hg _ cpy_w.1) (hg _ cpy_w.2.1) (hg _ cpy_w.2.2) hW.2.2.2.1 hW.2.2.1 hW.2.2.2.2.1 hW.2.2.2.2.2 a b t0 t1 hw hw2 ht ht1 rfl h1 h2 h3 h4 h5 (fun _ _ => rfl) (by omega) (by omega) h
    (fun H1 locs1 hP hD hS1 => k.2 p e R s m args below meth c ρ dC dI A ws0 mc ms Q hC hR hE H1 locs1 cells slots _ tys ls _ ⟨WR.set hW.1 hw2 ⟨cB, _, rfl, ⟨t1, ht1⟩, rfl, rfl⟩, hW.2.1.tr hE2, hP, hW.2.2.2.1, hD, hS1⟩ (LR.mono hE2 hL) (SR.mono hE2 hS) hc hs)
theorem ev_cpyL {a b n0 n1 : Nat} {f g : Nat → Int64} {sp dp n : Int32} (h : iCpy M pc) (hlen : L.length = M.2.2.1) (hcat : (st.map fun v => v.category).sum ≤ 8) (ha : S.1[a]? = some (aJ n0 f)) (hb : S.1[b]? = some (aJ n1 g)) (h1 : ¬ sp < 0) (h2 : ¬ dp < 0) (h3 : ¬ n < 0) (h4 : sp.toNatClampNeg + n.toNatClampNeg ≤ n0) (h5 : dp.toNatClampNeg + n.toNatClampNeg ≤ n1)
    (k : Ev scr l d M (pc + 3) L st (S.put b (aJ n1 (va_cpy f g sp.toNatClampNeg dp.toNatClampNeg n.toNatClampNeg))) r) : Ev scr l d M pc L (.int n :: .int dp :: .ref b :: .int sp :: .ref a :: st) S r := by
  obtain ⟨ix, h, hlk⟩ := h
  refine ⟨k.1, fun p e R s m args below meth c ρ dC dI A ws0 mc ms Q hC hR hE H locs cells slots ws tys ls st0 hW hL hS hc hs => ?_⟩
  obtain ⟨v0, r0, rfl, hv0, hS⟩ := hS
  have hv0 : v0 = .int n := hv0
  subst hv0
  obtain ⟨v1, r1, rfl, hv1, hS⟩ := hS
  have hv1 : v1 = .int dp := hv1
  subst hv1
  obtain ⟨v2, r2, rfl, ⟨b', eb, rfl⟩, hS⟩ := hS
  obtain ⟨v3, r3, rfl, hv3, hS⟩ := hS
  have hv3 : v3 = .int sp := hv3
  subst hv3
  obtain ⟨v4, r4, rfl, ⟨a', ea, rfl⟩, hS⟩ := hS
  obtain ⟨e1, hw, cA, x', rfl, ⟨t0, ht⟩, hx⟩ := lkA.at hW.1 ha ea
  have hx := AR.primL hx
  subst hx
  obtain ⟨e2, hw2, cB, y', rfl, ⟨t1, ht1⟩, hy⟩ := lkA.at hW.1 hb eb
  have hy := AR.primL hy
  subst hy
  have hg : ∀ w ∈ lw_good, w.before args s = true := hC.2.2.2.2.1
  have hcat' : (r4.map fun v => v.category).sum ≤ 8 := by rw [SR.cat hS]; exact hcat
  have hnf : nativeFrameWords "java/lang/System" "arraycopy" 5 + 11 ≤ 192 := by decide
  have hE2 : Ext ws (ws.set b (b', .inl (cB, n1, .inr (.inl (va_cpy f g sp.toNatClampNeg dp.toNatClampNeg n.toNatClampNeg))))) := Ext.set hw2
  exact va_copyl (ty := .long) hC.1 hC.2.1 (by rw [hC.2.2.1, hL.1]; exact hlen.symm) hC.2.2.2.2.2.1 (hg _ hlk) (hg _ cpy_w.1) (hg _ cpy_w.2.1) (hg _ cpy_w.2.2) hW.2.2.2.1 hW.2.2.1 hW.2.2.2.2.1 hW.2.2.2.2.2 a b t0 t1 hw hw2 ht ht1 rfl h1 h2 h3 h4 h5 (fun _ _ => rfl) (by omega) (by omega) h
    (fun H1 locs1 hP hD hS1 => k.2 p e R s m args below meth c ρ dC dI A ws0 mc ms Q hC hR hE H1 locs1 cells slots _ tys ls _ ⟨WR.set hW.1 hw2 ⟨cB, _, rfl, ⟨t1, ht1⟩, rfl, rfl⟩, hW.2.1.tr hE2, hP, hW.2.2.2.1, hD, hS1⟩ (LR.mono hE2 hL) (SR.mono hE2 hS) hc hs)
/-- a switch, at a value -/
def iSw (M : Mth) (pc : Nat) (x : Int32) (tgt : Nat) : Prop := ∃ (dflt lo hi : Int) (offs : Array Int) (len : Nat), decode M.2.1 pc = .ok (.tableswitch dflt lo hi offs, len) ∧
  ((¬ x.toInt < lo ∧ ¬ hi < x.toInt ∧ ∃ off : Int, offs[(x.toInt - lo).toNat]? = some off ∧ (pc : Int) + off = (tgt : Int)) ∨ ((x.toInt < lo ∨ hi < x.toInt) ∧ (pc : Int) + dflt = (tgt : Int)))
theorem ev_switch {x : Int32} {tgt : Nat} (h : iSw M pc x tgt) (k : Ev scr l d M tgt L st S r) : Ev scr l d M pc L (.int x :: st) S r := by
  obtain ⟨dflt, lo, hi, offs, len, h, hq⟩ := h
  refine ⟨k.1, fun p e R s m args below meth c ρ dC dI A ws0 mc ms Q hC hR hE H locs cells slots ws tys ls st0 hW hL hS hc hs => ?_⟩
  obtain ⟨v0, r0, rfl, hv0, hS⟩ := hS
  have hv0 : v0 = .int x := hv0
  subst hv0
  have kk := k.2 p e R s m args below meth c ρ dC dI A ws0 mc ms Q hC hR hE H locs cells slots ws tys ls _ hW hL hS hc hs
  rcases hq with ⟨q1, q2, off, q3, q4⟩ | ⟨q1, q2⟩
  · exact lv_tableIn hC.1 hC.2.1 h q1 q2 q3 q4 kk
  · exact lv_tableOut hC.1 hC.2.1 h q1 q2 kk
end RulesN

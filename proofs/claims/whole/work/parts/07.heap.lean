/-! ===== the rules over the store (by program: wip/whole/gen07.py) ===== -/
section RulesH
variable {scr : Scr} {l : Launch} {d : Nat} {M : Mth} {pc : Nat} {L : List (Option Value)} {st : List Value} {S : Sto} {r : Res}
abbrev Sto.put (S : Sto) (k : Nat) (c : ACell) : Sto := (S.1.set k c, S.2)
theorem AR.prim {ρ : Nat → Nat} {ws : va_W} {n : Nat} {x' : vp_A} {f : Nat → Int32} (h : AR ρ ws (n, .inl f) x') : x' = (n, .inl f) := Prod.ext h.1 h.2
theorem AR.primL {ρ : Nat → Nat} {ws : va_W} {n : Nat} {x' : vp_A} {f : Nat → Int64} (h : AR ρ ws (n, .inr (.inl f)) x') : x' = (n, .inr (.inl f)) := Prod.ext h.1 h.2
theorem AR.primD {ρ : Nat → Nat} {ws : va_W} {n : Nat} {x' : vp_A} {f : Nat → UInt64} (h : AR ρ ws (n, .inr (.inr (.inr (.inl f)))) x') : x' = (n, .inr (.inr (.inr (.inl f)))) := Prod.ext h.1 h.2
theorem AR.refs {ρ : Nat → Nat} {ws : va_W} {n : Nat} {x' : vp_A} {f : Nat → Option Nat} (h : AR ρ ws (n, .inr (.inr (.inr (.inr f)))) x') : ∃ f', x' = (n, .inr (.inr (.inr (.inr f')))) ∧ QR ρ ws f f' := by
  obtain ⟨h1, f', h2, h3⟩ := h
  exact ⟨f', Prod.ext h1 h2, h3⟩
theorem ev_iald {a n : Nat} {f : Nat → Int32} {i : Int32} (h : iIns M pc .iaload 1) (hk : S.1[a]? = some (aI n f)) (hin : vp_in i n) (k : Ev scr l d M (pc + 1) L (.int (f i.toNatClampNeg) :: st) S r) : Ev scr l d M pc L (.int i :: .ref a :: st) S r := by
  refine ⟨k.1, fun p e R s m args below meth c ρ dC dI A ws0 mc ms Q hC hR hE H locs cells slots ws tys ls st0 hW hL hS hc hs => ?_⟩
  obtain ⟨v0, r0, rfl, hv0, hS⟩ := hS
  have hv0 : v0 = .int i := hv0
  subst hv0
  obtain ⟨v1, r1, rfl, ⟨a', ea, rfl⟩, hS⟩ := hS
  obtain ⟨e1, hw, cA, x', rfl, ⟨t0, ht⟩, hx⟩ := lkA.at hW.1 hk ea
  have hx := AR.prim hx
  subst hx
  exact va_iald hC.1 hC.2.1 hW.2.2.2.1 hW.2.2.1 a t0 hw ht hin h (k.2 p e R s m args below meth c ρ dC dI A ws0 mc ms Q hC hR hE H locs cells slots ws tys ls _ hW hL ⟨_, _, rfl, rfl, hS⟩ hc hs)
theorem ev_iast {a n : Nat} {f : Nat → Int32} {i : Int32} {x : Int32} (h : iIns M pc .iastore 1) (hk : S.1[a]? = some (aI n f)) (hin : vp_in i n) (k : Ev scr l d M (pc + 1) L st (S.put a (aI n (upd f i.toNatClampNeg x))) r) : Ev scr l d M pc L (.int x :: .int i :: .ref a :: st) S r := by
  refine ⟨k.1, fun p e R s m args below meth c ρ dC dI A ws0 mc ms Q hC hR hE H locs cells slots ws tys ls st0 hW hL hS hc hs => ?_⟩
  obtain ⟨vx, rx, rfl, hvx, hS⟩ := hS
  have hvx : vx = .int x := hvx
  subst hvx
  obtain ⟨v0, r0, rfl, hv0, hS⟩ := hS
  have hv0 : v0 = .int i := hv0
  subst hv0
  obtain ⟨v1, r1, rfl, ⟨a', ea, rfl⟩, hS⟩ := hS
  obtain ⟨e1, hw, cA, x', rfl, ⟨t0, ht⟩, hx⟩ := lkA.at hW.1 hk ea
  have hx := AR.prim hx
  subst hx
  have hE2 : Ext ws (ws.set a (a', .inl (cA, n, .inl (upd f i.toNatClampNeg x)))) := Ext.set hw
  exact va_iast hC.1 hC.2.1 hW.2.2.2.1 hW.2.2.1 hW.2.2.2.2.1 hW.2.2.2.2.2 a t0 hw ht hin h (fun H1 locs1 hP hD hS1 => k.2 p e R s m args below meth c ρ dC dI A ws0 mc ms Q hC hR hE H1 locs1 cells slots _ tys ls _ ⟨WR.set hW.1 hw ⟨cA, _, rfl, ⟨t0, ht⟩, rfl, rfl⟩, hW.2.1.tr hE2, hP, hW.2.2.2.1, hD, hS1⟩ (LR.mono hE2 hL) (SR.mono hE2 hS) hc hs)
theorem ev_zald {a n : Nat} {f : Nat → Int32} {i : Int32} (h : iIns M pc .baload 1) (hk : S.1[a]? = some (aZ n f)) (hin : vp_in i n) (k : Ev scr l d M (pc + 1) L (.int (f i.toNatClampNeg) :: st) S r) : Ev scr l d M pc L (.int i :: .ref a :: st) S r := by
  refine ⟨k.1, fun p e R s m args below meth c ρ dC dI A ws0 mc ms Q hC hR hE H locs cells slots ws tys ls st0 hW hL hS hc hs => ?_⟩
  obtain ⟨v0, r0, rfl, hv0, hS⟩ := hS
  have hv0 : v0 = .int i := hv0
  subst hv0
  obtain ⟨v1, r1, rfl, ⟨a', ea, rfl⟩, hS⟩ := hS
  obtain ⟨e1, hw, cA, x', rfl, ⟨t0, ht⟩, hx⟩ := lkA.at hW.1 hk ea
  have hx := AR.prim hx
  subst hx
  exact va_zald hC.1 hC.2.1 hW.2.2.2.1 hW.2.2.1 a t0 hw ht hin h (k.2 p e R s m args below meth c ρ dC dI A ws0 mc ms Q hC hR hE H locs cells slots ws tys ls _ hW hL ⟨_, _, rfl, rfl, hS⟩ hc hs)
theorem ev_zast {a n : Nat} {f : Nat → Int32} {i : Int32} {x : Int32} (h : iIns M pc .bastore 1) (hk : S.1[a]? = some (aZ n f)) (hin : vp_in i n) (k : Ev scr l d M (pc + 1) L st (S.put a (aZ n (upd f i.toNatClampNeg (vp_nar .boolean x)))) r) : Ev scr l d M pc L (.int x :: .int i :: .ref a :: st) S r := by
  refine ⟨k.1, fun p e R s m args below meth c ρ dC dI A ws0 mc ms Q hC hR hE H locs cells slots ws tys ls st0 hW hL hS hc hs => ?_⟩
  obtain ⟨vx, rx, rfl, hvx, hS⟩ := hS
  have hvx : vx = .int x := hvx
  subst hvx
  obtain ⟨v0, r0, rfl, hv0, hS⟩ := hS
  have hv0 : v0 = .int i := hv0
  subst hv0
  obtain ⟨v1, r1, rfl, ⟨a', ea, rfl⟩, hS⟩ := hS
  obtain ⟨e1, hw, cA, x', rfl, ⟨t0, ht⟩, hx⟩ := lkA.at hW.1 hk ea
  have hx := AR.prim hx
  subst hx
  have hE2 : Ext ws (ws.set a (a', .inl (cA, n, .inl (upd f i.toNatClampNeg (vp_nar .boolean x))))) := Ext.set hw
  exact va_zast hC.1 hC.2.1 hW.2.2.2.1 hW.2.2.1 hW.2.2.2.2.1 hW.2.2.2.2.2 a t0 hw ht hin h (fun H1 locs1 hP hD hS1 => k.2 p e R s m args below meth c ρ dC dI A ws0 mc ms Q hC hR hE H1 locs1 cells slots _ tys ls _ ⟨WR.set hW.1 hw ⟨cA, _, rfl, ⟨t0, ht⟩, rfl, rfl⟩, hW.2.1.tr hE2, hP, hW.2.2.2.1, hD, hS1⟩ (LR.mono hE2 hL) (SR.mono hE2 hS) hc hs)
theorem ev_cald {a n : Nat} {f : Nat → Int32} {i : Int32} (h : iIns M pc .caload 1) (hk : S.1[a]? = some (aC n f)) (hin : vp_in i n) (k : Ev scr l d M (pc + 1) L (.int (f i.toNatClampNeg) :: st) S r) : Ev scr l d M pc L (.int i :: .ref a :: st) S r := by
  refine ⟨k.1, fun p e R s m args below meth c ρ dC dI A ws0 mc ms Q hC hR hE H locs cells slots ws tys ls st0 hW hL hS hc hs => ?_⟩
  obtain ⟨v0, r0, rfl, hv0, hS⟩ := hS
  have hv0 : v0 = .int i := hv0
  subst hv0
  obtain ⟨v1, r1, rfl, ⟨a', ea, rfl⟩, hS⟩ := hS
  obtain ⟨e1, hw, cA, x', rfl, ⟨t0, ht⟩, hx⟩ := lkA.at hW.1 hk ea
  have hx := AR.prim hx
  subst hx
  exact va_cald hC.1 hC.2.1 hW.2.2.2.1 hW.2.2.1 a t0 hw ht hin h (k.2 p e R s m args below meth c ρ dC dI A ws0 mc ms Q hC hR hE H locs cells slots ws tys ls _ hW hL ⟨_, _, rfl, rfl, hS⟩ hc hs)
theorem ev_cast {a n : Nat} {f : Nat → Int32} {i : Int32} {x : Int32} (h : iIns M pc .castore 1) (hk : S.1[a]? = some (aC n f)) (hin : vp_in i n) (k : Ev scr l d M (pc + 1) L st (S.put a (aC n (upd f i.toNatClampNeg (vp_nar .char x)))) r) : Ev scr l d M pc L (.int x :: .int i :: .ref a :: st) S r := by
  refine ⟨k.1, fun p e R s m args below meth c ρ dC dI A ws0 mc ms Q hC hR hE H locs cells slots ws tys ls st0 hW hL hS hc hs => ?_⟩
  obtain ⟨vx, rx, rfl, hvx, hS⟩ := hS
  have hvx : vx = .int x := hvx
  subst hvx
  obtain ⟨v0, r0, rfl, hv0, hS⟩ := hS
  have hv0 : v0 = .int i := hv0
  subst hv0
  obtain ⟨v1, r1, rfl, ⟨a', ea, rfl⟩, hS⟩ := hS
  obtain ⟨e1, hw, cA, x', rfl, ⟨t0, ht⟩, hx⟩ := lkA.at hW.1 hk ea
  have hx := AR.prim hx
  subst hx
  have hE2 : Ext ws (ws.set a (a', .inl (cA, n, .inl (upd f i.toNatClampNeg (vp_nar .char x))))) := Ext.set hw
  exact va_cast hC.1 hC.2.1 hW.2.2.2.1 hW.2.2.1 hW.2.2.2.2.1 hW.2.2.2.2.2 a t0 hw ht hin h (fun H1 locs1 hP hD hS1 => k.2 p e R s m args below meth c ρ dC dI A ws0 mc ms Q hC hR hE H1 locs1 cells slots _ tys ls _ ⟨WR.set hW.1 hw ⟨cA, _, rfl, ⟨t0, ht⟩, rfl, rfl⟩, hW.2.1.tr hE2, hP, hW.2.2.2.1, hD, hS1⟩ (LR.mono hE2 hL) (SR.mono hE2 hS) hc hs)
theorem ev_lald {a n : Nat} {f : Nat → Int64} {i : Int32} (h : iIns M pc .laload 1) (hk : S.1[a]? = some (aJ n f)) (hin : vp_in i n) (k : Ev scr l d M (pc + 1) L (.long (f i.toNatClampNeg) :: st) S r) : Ev scr l d M pc L (.int i :: .ref a :: st) S r := by
  refine ⟨k.1, fun p e R s m args below meth c ρ dC dI A ws0 mc ms Q hC hR hE H locs cells slots ws tys ls st0 hW hL hS hc hs => ?_⟩
  obtain ⟨v0, r0, rfl, hv0, hS⟩ := hS
  have hv0 : v0 = .int i := hv0
  subst hv0
  obtain ⟨v1, r1, rfl, ⟨a', ea, rfl⟩, hS⟩ := hS
  obtain ⟨e1, hw, cA, x', rfl, ⟨t0, ht⟩, hx⟩ := lkA.at hW.1 hk ea
  have hx := AR.primL hx
  subst hx
  exact va_lald hC.1 hC.2.1 hW.2.2.2.1 hW.2.2.1 a t0 hw ht hin h (k.2 p e R s m args below meth c ρ dC dI A ws0 mc ms Q hC hR hE H locs cells slots ws tys ls _ hW hL ⟨_, _, rfl, rfl, hS⟩ hc hs)
theorem ev_last {a n : Nat} {f : Nat → Int64} {i : Int32} {x : Int64} (h : iIns M pc .lastore 1) (hk : S.1[a]? = some (aJ n f)) (hin : vp_in i n) (k : Ev scr l d M (pc + 1) L st (S.put a (aJ n (vp_updL f i.toNatClampNeg x))) r) : Ev scr l d M pc L (.long x :: .int i :: .ref a :: st) S r := by
  refine ⟨k.1, fun p e R s m args below meth c ρ dC dI A ws0 mc ms Q hC hR hE H locs cells slots ws tys ls st0 hW hL hS hc hs => ?_⟩
  obtain ⟨vx, rx, rfl, hvx, hS⟩ := hS
  have hvx : vx = .long x := hvx
  subst hvx
  obtain ⟨v0, r0, rfl, hv0, hS⟩ := hS
  have hv0 : v0 = .int i := hv0
  subst hv0
  obtain ⟨v1, r1, rfl, ⟨a', ea, rfl⟩, hS⟩ := hS
  obtain ⟨e1, hw, cA, x', rfl, ⟨t0, ht⟩, hx⟩ := lkA.at hW.1 hk ea
  have hx := AR.primL hx
  subst hx
  have hE2 : Ext ws (ws.set a (a', .inl (cA, n, .inr (.inl (vp_updL f i.toNatClampNeg x))))) := Ext.set hw
  exact va_last hC.1 hC.2.1 hW.2.2.2.1 hW.2.2.1 hW.2.2.2.2.1 hW.2.2.2.2.2 a t0 hw ht hin h (fun H1 locs1 hP hD hS1 => k.2 p e R s m args below meth c ρ dC dI A ws0 mc ms Q hC hR hE H1 locs1 cells slots _ tys ls _ ⟨WR.set hW.1 hw ⟨cA, _, rfl, ⟨t0, ht⟩, rfl, rfl⟩, hW.2.1.tr hE2, hP, hW.2.2.2.1, hD, hS1⟩ (LR.mono hE2 hL) (SR.mono hE2 hS) hc hs)
theorem ev_dald {a n : Nat} {f : Nat → UInt64} {i : Int32} (h : iIns M pc .daload 1) (hk : S.1[a]? = some (aD n f)) (hin : vp_in i n) (k : Ev scr l d M (pc + 1) L (.double (f i.toNatClampNeg) :: st) S r) : Ev scr l d M pc L (.int i :: .ref a :: st) S r := by
  refine ⟨k.1, fun p e R s m args below meth c ρ dC dI A ws0 mc ms Q hC hR hE H locs cells slots ws tys ls st0 hW hL hS hc hs => ?_⟩
  obtain ⟨v0, r0, rfl, hv0, hS⟩ := hS
  have hv0 : v0 = .int i := hv0
  subst hv0
  obtain ⟨v1, r1, rfl, ⟨a', ea, rfl⟩, hS⟩ := hS
  obtain ⟨e1, hw, cA, x', rfl, ⟨t0, ht⟩, hx⟩ := lkA.at hW.1 hk ea
  have hx := AR.primD hx
  subst hx
  exact va_dald hC.1 hC.2.1 hW.2.2.2.1 hW.2.2.1 a t0 hw ht hin h (k.2 p e R s m args below meth c ρ dC dI A ws0 mc ms Q hC hR hE H locs cells slots ws tys ls _ hW hL ⟨_, _, rfl, rfl, hS⟩ hc hs)
theorem ev_dast {a n : Nat} {f : Nat → UInt64} {i : Int32} {x : UInt64} (h : iIns M pc .dastore 1) (hk : S.1[a]? = some (aD n f)) (hin : vp_in i n) (k : Ev scr l d M (pc + 1) L st (S.put a (aD n (vf_upd f i.toNatClampNeg x))) r) : Ev scr l d M pc L (.double x :: .int i :: .ref a :: st) S r := by
  refine ⟨k.1, fun p e R s m args below meth c ρ dC dI A ws0 mc ms Q hC hR hE H locs cells slots ws tys ls st0 hW hL hS hc hs => ?_⟩
  obtain ⟨vx, rx, rfl, hvx, hS⟩ := hS
  have hvx : vx = .double x := hvx
  subst hvx
  obtain ⟨v0, r0, rfl, hv0, hS⟩ := hS
  have hv0 : v0 = .int i := hv0
  subst hv0
  obtain ⟨v1, r1, rfl, ⟨a', ea, rfl⟩, hS⟩ := hS
  obtain ⟨e1, hw, cA, x', rfl, ⟨t0, ht⟩, hx⟩ := lkA.at hW.1 hk ea
  have hx := AR.primD hx
  subst hx
  have hE2 : Ext ws (ws.set a (a', .inl (cA, n, .inr (.inr (.inr (.inl (vf_upd f i.toNatClampNeg x))))))) := Ext.set hw
  exact va_dast hC.1 hC.2.1 hW.2.2.2.1 hW.2.2.1 hW.2.2.2.2.1 hW.2.2.2.2.2 a t0 hw ht hin h (fun H1 locs1 hP hD hS1 => k.2 p e R s m args below meth c ρ dC dI A ws0 mc ms Q hC hR hE H1 locs1 cells slots _ tys ls _ ⟨WR.set hW.1 hw ⟨cA, _, rfl, ⟨t0, ht⟩, rfl, rfl⟩, hW.2.1.tr hE2, hP, hW.2.2.2.1, hD, hS1⟩ (LR.mono hE2 hL) (SR.mono hE2 hS) hc hs)
theorem ev_alen {a : Nat} {ty : FieldType} {x : vp_A} (h : iIns M pc .arraylength 1) (hk : S.1[a]? = some (.inl (ty, x))) (k : Ev scr l d M (pc + 1) L (.int (Int32.ofNat x.1) :: st) S r) : Ev scr l d M pc L (.ref a :: st) S r := by
  refine ⟨k.1, fun p e R s m args below meth c ρ dC dI A ws0 mc ms Q hC hR hE H locs cells slots ws tys ls st0 hW hL hS hc hs => ?_⟩
  obtain ⟨v1, r1, rfl, ⟨a', ea, rfl⟩, hS⟩ := hS
  obtain ⟨e1, hw, cA, x', rfl, ⟨t0, ht⟩, hx⟩ := lkA.at hW.1 hk ea
  have hx1 : x'.1 = x.1 := hx.1
  exact va_alen hC.1 hC.2.1 hW.2.2.2.1 hW.2.2.1 a t0 hw ht (by rw [hx1]) h (k.2 p e R s m args below meth c ρ dC dI A ws0 mc ms Q hC hR hE H locs cells slots ws tys ls _ hW hL ⟨_, _, rfl, rfl, hS⟩ hc hs)
theorem ev_qald {C : String} {a n b : Nat} {f : Nat → Option Nat} {i : Int32} (h : iIns M pc .aaload 1) (hk : S.1[a]? = some (aQ C n f)) (hin : vp_in i n) (hb : f i.toNatClampNeg = some b) (k : Ev scr l d M (pc + 1) L (.ref b :: st) S r) : Ev scr l d M pc L (.int i :: .ref a :: st) S r := by
  refine ⟨k.1, fun p e R s m args below meth c ρ dC dI A ws0 mc ms Q hC hR hE H locs cells slots ws tys ls st0 hW hL hS hc hs => ?_⟩
  obtain ⟨v0, r0, rfl, hv0, hS⟩ := hS
  have hv0 : v0 = .int i := hv0
  subst hv0
  obtain ⟨v1, r1, rfl, ⟨a', ea, rfl⟩, hS⟩ := hS
  obtain ⟨e1, hw, cA, x', rfl, ⟨t0, ht⟩, hx⟩ := lkA.at hW.1 hk ea
  obtain ⟨f', rfl, hq⟩ := AR.refs hx
  obtain ⟨b', hb1, hb2⟩ := (hq _).2 b hb
  refine va_aldq hC.1 hC.2.1 hW.2.2.2.1 hW.2.2.1 a t0 hw ht hin h ?_
  refine k.2 p e R s m args below meth c ρ dC dI A ws0 mc ms Q hC hR hE H locs cells slots ws tys ls _ hW hL ⟨_, _, rfl, ⟨b', hb1, ?_⟩, hS⟩ hc hs
  rw [hb2]
  rfl
theorem ev_qqald {a n b : Nat} {f : Nat → Option Nat} {i : Int32} (h : iIns M pc .aaload 1) (hk : S.1[a]? = some (aQQ n f)) (hin : vp_in i n) (hb : f i.toNatClampNeg = some b) (k : Ev scr l d M (pc + 1) L (.ref b :: st) S r) : Ev scr l d M pc L (.int i :: .ref a :: st) S r := by
  refine ⟨k.1, fun p e R s m args below meth c ρ dC dI A ws0 mc ms Q hC hR hE H locs cells slots ws tys ls st0 hW hL hS hc hs => ?_⟩
  obtain ⟨v0, r0, rfl, hv0, hS⟩ := hS
  have hv0 : v0 = .int i := hv0
  subst hv0
  obtain ⟨v1, r1, rfl, ⟨a', ea, rfl⟩, hS⟩ := hS
  obtain ⟨e1, hw, cA, x', rfl, ⟨t0, ht⟩, hx⟩ := lkA.at hW.1 hk ea
  obtain ⟨f', rfl, hq⟩ := AR.refs hx
  obtain ⟨b', hb1, hb2⟩ := (hq _).2 b hb
  refine W.aald (v := va_rf (f' i.toNatClampNeg)) (ty := .array .double) hC.1 hC.2.1 (hW.2.2.1 a _ hw) ((hW.2.2.2.1.2 t0 _ ht).1 n (fun j => va_rf (f' j))) rfl (fun q => by cases q) (by show ¬ (i < 0 ∨ (arrV _ _ _).slots.size ≤ _); rw [arrV_size]; exact hin) (by show (arrV _ _ _).slots[_]? = _; rw [arrV_read _ _ (Nat.not_le.mp fun q => hin (Or.inr q))]) rfl rfl h ?_
  refine k.2 p e R s m args below meth c ρ dC dI A ws0 mc ms Q hC hR hE H locs cells slots ws tys ls _ hW hL ⟨_, _, rfl, ⟨b', hb1, ?_⟩, hS⟩ hc hs
  rw [hb2]
  rfl
theorem ev_qast {C : String} {T : u_T} {N a n b ci : Nat} {f : Nat → Option Nat} {fs : List Value} {i : Int32} (h : iIns M pc .aastore 1) (hk : S.1[a]? = some (aQ C n f)) (hb : S.1[b]? = some (oB ci fs)) (hci : vwCl[ci]? = some (C, T, N)) (hin : vp_in i n) (k : Ev scr l d M (pc + 1) L st (S.put a (aQ C n (va_up f i.toNatClampNeg (some b)))) r) : Ev scr l d M pc L (.ref b :: .int i :: .ref a :: st) S r := by
  refine ⟨k.1, fun p e R s m args below meth c ρ dC dI A ws0 mc ms Q hC hR hE H locs cells slots ws tys ls st0 hW hL hS hc hs => ?_⟩
  obtain ⟨vx, rx, rfl, ⟨b', eb, rfl⟩, hS⟩ := hS
  obtain ⟨v0, r0, rfl, hv0, hS⟩ := hS
  have hv0 : v0 = .int i := hv0
  subst hv0
  obtain ⟨v1, r1, rfl, ⟨a', ea, rfl⟩, hS⟩ := hS
  obtain ⟨e1, hw, cA, x', rfl, ⟨t0, ht⟩, hx⟩ := lkA.at hW.1 hk ea
  obtain ⟨f', rfl, hq⟩ := AR.refs hx
  obtain ⟨e2, hw2, fs', rfl, hfs⟩ := lkA.at hW.1 hb eb
  have hE2 : Ext ws (ws.set a (a', .inl (cA, n, .inr (.inr (.inr (.inr (va_up f' i.toNatClampNeg (some b')))))))) := Ext.set hw
  have hq2 : QR ρ ws (va_up f i.toNatClampNeg (some b)) (va_up f' i.toNatClampNeg (some b')) := fun j => by
    unfold va_up
    by_cases hj : j = i.toNatClampNeg
    · rw [if_pos hj, if_pos hj]
      exact ⟨(fun q => by cases q), fun k hk => by cases hk; exact ⟨b', eb, rfl⟩⟩
    · rw [if_neg hj, if_neg hj]
      exact hq j
  have hCR : CR ρ ws tys (aQ C n (va_up f i.toNatClampNeg (some b))) (.inl (cA, n, .inr (.inr (.inr (.inr (va_up f' i.toNatClampNeg (some b'))))))) := ⟨cA, _, rfl, ⟨t0, ht⟩, rfl, _, rfl, hq2⟩
  exact va_astq (r := (C, T, N)) hC.1 hC.2.1 hW.2.2.2.1 hW.2.2.1 hW.2.2.2.2.1 hW.2.2.2.2.2 a t0 b ci hw ht hw2 hci hin h (fun H1 locs1 hP hD hS1 => k.2 p e R s m args below meth c ρ dC dI A ws0 mc ms Q hC hR hE H1 locs1 cells slots _ tys ls _ ⟨WR.set hW.1 hw hCR, hW.2.1.tr hE2, hP, hW.2.2.2.1, hD, hS1⟩ (LR.mono hE2 hL) (SR.mono hE2 hS) hc hs)
theorem ev_slen (h : iIns M pc .arraylength 1) (k : Ev scr l d M (pc + 1) L (.int (Int32.ofNat scr.1) :: st) S r) : Ev scr l d M pc L (.ref 1100 :: st) S r := by
  refine ⟨k.1, fun p e R s m args below meth c ρ dC dI A ws0 mc ms Q hC hR hE H locs cells slots ws tys ls st0 hW hL hS hc hs => ?_⟩
  obtain ⟨v1, r1, rfl, ⟨a', ea, rfl⟩, hS⟩ := hS
  have ea : some (ρ 100) = some a' := ea
  cases ea
  have hG := hC.2.2.2.2.2.2.2.2.2.1.2.2.2.2.2.2.1
  exact va_slen hC.1 hC.2.1 hG.1 hG.2.1 hG.2.2 hW.2.2.2.2.2 h (k.2 p e R s m args below meth c ρ dC dI A ws0 mc ms Q hC hR hE H locs cells slots ws tys ls _ hW hL ⟨_, _, rfl, rfl, hS⟩ hc hs)
theorem ev_sld {i : Int32} (h : iIns M pc .iaload 1) (hin : vp_in i scr.1) (k : Ev scr l d M (pc + 1) L (.int (scr.2 i.toNatClampNeg) :: st) S r) : Ev scr l d M pc L (.int i :: .ref 1100 :: st) S r := by
  refine ⟨k.1, fun p e R s m args below meth c ρ dC dI A ws0 mc ms Q hC hR hE H locs cells slots ws tys ls st0 hW hL hS hc hs => ?_⟩
  obtain ⟨v0, r0, rfl, hv0, hS⟩ := hS
  have hv0 : v0 = .int i := hv0
  subst hv0
  obtain ⟨v1, r1, rfl, ⟨a', ea, rfl⟩, hS⟩ := hS
  have ea : some (ρ 100) = some a' := ea
  cases ea
  have hG := hC.2.2.2.2.2.2.2.2.2.1.2.2.2.2.2.2.1
  exact va_sld hC.1 hC.2.1 hG.1 hG.2.1 hG.2.2 hW.2.2.2.2.2 hin h (k.2 p e R s m args below meth c ρ dC dI A ws0 mc ms Q hC hR hE H locs cells slots ws tys ls _ hW hL ⟨_, _, rfl, rfl, hS⟩ hc hs)
/-- a field's place, by the class's pool -/
def FL (own : String) (idx ci j : Nat) : Prop := ∃ (C : String) (T : u_T) (N : Nat), vwCl[ci]? = some (C, T, N) ∧ j < N ∧ (∀ w ∈ u_ws C T N, w ∈ lw_good) ∧ Cond.fieldLink own idx (T j).1 (T j).2.1 (T j).2.2.1 ∈ lw_good
def PL (own : String) (idx ci j : Nat) (ty : FieldType) (fin : Bool) : Prop := ∃ (C : String) (T : u_T) (N : Nat) (ty0 : Nat → FieldType), vwCl[ci]? = some (C, T, N) ∧ j < N ∧ (∀ w ∈ u_ws C T N, w ∈ lw_good) ∧ Cond.fieldLink own idx (T j).1 (T j).2.1 (T j).2.2.1 ∈ lw_good ∧
  (∀ k, k < N → parseFieldDescriptor (T k).2.2.1 = some (ty0 k)) ∧ (∀ a, a < N → ∀ b, b < N → a ≠ b → (T a).2.1 ≠ (T b).2.1) ∧ (T j).2.2.2 = fin ∧ parseFieldDescriptor (T j).2.2.1 = some ty ∧ (T j).1 = own
def iGet (M : Mth) (pc ci j : Nat) : Prop := ∃ ix : Nat, decode M.2.1 pc = .ok (.getfield ix, 3) ∧ FL M.1.cls ix ci j
def iPut (M : Mth) (pc ci j : Nat) (ty : FieldType) : Prop := ∃ ix : Nat, decode M.2.1 pc = .ok (.putfield ix, 3) ∧ (∃ own, PL own ix ci j ty false ∧ own = M.1.cls)
def iPutX (M : Mth) (pc ci j : Nat) (ty : FieldType) : Prop := ∃ ix : Nat, decode M.2.1 pc = .ok (.putfield ix, 3) ∧ ∃ (C : String) (T : u_T) (N : Nat) (ty0 : Nat → FieldType), vwCl[ci]? = some (C, T, N) ∧ j < N ∧ (∀ w ∈ u_ws C T N, w ∈ lw_good) ∧ Cond.fieldLink M.1.cls ix (T j).1 (T j).2.1 (T j).2.2.1 ∈ lw_good ∧
  (∀ k, k < N → parseFieldDescriptor (T k).2.2.1 = some (ty0 k)) ∧ (∀ a, a < N → ∀ b, b < N → a ≠ b → (T a).2.1 ≠ (T b).2.1) ∧ (T j).2.2.2 = false ∧ parseFieldDescriptor (T j).2.2.1 = some ty
def iPutF (M : Mth) (pc ci j : Nat) (ty : FieldType) : Prop := ∃ ix : Nat, decode M.2.1 pc = .ok (.putfield ix, 3) ∧ PL M.1.cls ix ci j ty true ∧ M.1.name = "<init>"
theorem ev_get {a ci j : Nat} {fs : List Value} {v : Value} (h : iGet M pc ci j) (hk : S.1[a]? = some (oB ci fs)) (hv : fs[j]? = some v) (k : Ev scr l d M (pc + 3) L (v :: st) S r) : Ev scr l d M pc L (.ref a :: st) S r := by
  obtain ⟨ix, h, C, T, N, hcl, hj, hin, hm⟩ := h
  refine ⟨k.1, fun p e R s m args below meth c ρ dC dI A ws0 mc ms Q hC hR hE H locs cells slots ws tys ls st0 hW hL hS hc hs => ?_⟩
  obtain ⟨v1, r1, rfl, ⟨a', ea, rfl⟩, hS⟩ := hS
  obtain ⟨e1, hw, fs', rfl, hfs⟩ := lkA.at hW.1 hk ea
  obtain ⟨v', g1, g2⟩ := SR.get hfs hv
  exact va_get hC.1 hC.2.1 hC.2.2.2.2.1 hin hC.2.2.2.2.2.1 hW.2.2.2.1 hW.2.2.1 a hw hcl j hj (hC.2.2.2.2.1 _ hm) (fun _ h9 => h9) g1 h (k.2 p e R s m args below meth c ρ dC dI A ws0 mc ms Q hC hR hE H locs cells slots ws tys ls _ hW hL ⟨_, _, rfl, g2, hS⟩ hc hs)
theorem VR.nar {ρ : Nat → Nat} {ws : va_W} {v v' : Value} {ty : FieldType} (h : VR ρ ws v v') (hn : narrow ty v = v) (hf : fits ty v = true) : narrow ty v' = v' ∧ fits ty v' = true := by
  cases v with
  | ref k =>
    obtain ⟨a, -, rfl⟩ := h
    cases ty <;> first | exact ⟨rfl, rfl⟩ | (simp [fits] at hf)
  | retAddr k => cases ty <;> (simp [fits] at hf)
  | _ =>
    have h : v' = _ := h
    subst h
    exact ⟨hn, hf⟩
theorem ev_put {a ci j : Nat} {ty : FieldType} {fs : List Value} {v : Value} (h : iPutX M pc ci j ty) (hk : S.1[a]? = some (oB ci fs)) (hj2 : j < fs.length) (hn : narrow ty v = v) (hf : fits ty v = true) (k : Ev scr l d M (pc + 3) L st (S.put a (oB ci (fs.set j v))) r) : Ev scr l d M pc L (v :: .ref a :: st) S r := by
  obtain ⟨ix, h, C, T, N, ty0, hcl, hj, hin, hm, hty, hnm, hfin, hd⟩ := h
  refine ⟨k.1, fun p e R s m args below meth c ρ dC dI A ws0 mc ms Q hC hR hE H locs cells slots ws tys ls st0 hW hL hS hc hs => ?_⟩
  obtain ⟨v', r0, rfl, hv, hS⟩ := hS
  obtain ⟨v1, r1, rfl, ⟨a', ea, rfl⟩, hS⟩ := hS
  obtain ⟨e1, hw, fs', rfl, hfs⟩ := lkA.at hW.1 hk ea
  obtain ⟨n1, n2⟩ := VR.nar hv hn hf
  have hE2 : Ext ws (ws.set a (a', .inr (ci, fs'.set j v'))) := Ext.set hw
  exact va_put hC.1 hC.2.1 hC.2.2.2.2.1 hin ty0 hty hnm hC.2.2.2.2.2.1 hW.2.2.2.1 hW.2.2.1 hW.2.2.2.2.1 hW.2.2.2.2.2 a hw hcl j hj (hC.2.2.2.2.1 _ hm) (fun _ h9 => h9) hfin hd n1 n2 (by rw [SR.len hfs]; exact hj2) h (fun H1 locs1 hP hD hS1 => k.2 p e R s m args below meth c ρ dC dI A ws0 mc ms Q hC hR hE H1 locs1 cells slots _ tys ls _ ⟨WR.set hW.1 hw ⟨_, rfl, SR.set hv j hfs⟩, hW.2.1.tr hE2, hP, hW.2.2.2.1, hD, hS1⟩ (LR.mono hE2 hL) (SR.mono hE2 hS) hc hs)
theorem ev_putF {a ci j : Nat} {ty : FieldType} {fs : List Value} {v : Value} (h : iPutF M pc ci j ty) (hk : S.1[a]? = some (oB ci fs)) (hj2 : j < fs.length) (hn : narrow ty v = v) (hf : fits ty v = true) (k : Ev scr l d M (pc + 3) L st (S.put a (oB ci (fs.set j v))) r) : Ev scr l d M pc L (v :: .ref a :: st) S r := by
  obtain ⟨ix, h, ⟨C, T, N, ty0, hcl, hj, hin, hm, hty, hnm, hfin, hd, hown⟩, hini⟩ := h
  refine ⟨k.1, fun p e R s m args below meth c ρ dC dI A ws0 mc ms Q hC hR hE H locs cells slots ws tys ls st0 hW hL hS hc hs => ?_⟩
  obtain ⟨v', r0, rfl, hv, hS⟩ := hS
  obtain ⟨v1, r1, rfl, ⟨a', ea, rfl⟩, hS⟩ := hS
  obtain ⟨e1, hw, fs', rfl, hfs⟩ := lkA.at hW.1 hk ea
  obtain ⟨n1, n2⟩ := VR.nar hv hn hf
  have hE2 : Ext ws (ws.set a (a', .inr (ci, fs'.set j v'))) := Ext.set hw
  exact va_putF hC.1 hC.2.1 hC.2.2.2.2.1 hin ty0 hty hnm hC.2.2.2.2.2.1 hW.2.2.2.1 hW.2.2.1 hW.2.2.2.2.1 hW.2.2.2.2.2 a hw hcl j hj (hC.2.2.2.2.1 _ hm) (fun _ h9 => h9) hfin (by rw [hC.2.2.2.2.2.2.2.1]; exact hini) hown hd n1 n2 (by rw [SR.len hfs]; exact hj2) h (fun H1 locs1 hP hD hS1 => k.2 p e R s m args below meth c ρ dC dI A ws0 mc ms Q hC hR hE H1 locs1 cells slots _ tys ls _ ⟨WR.set hW.1 hw ⟨_, rfl, SR.set hv j hfs⟩, hW.2.1.tr hE2, hP, hW.2.2.2.1, hD, hS1⟩ (LR.mono hE2 hL) (SR.mono hE2 hS) hc hs)
end RulesH

section RulesD
variable {scr : Scr} {l : Launch} {d : Nat} {M M' : Mth} {pc n ci : Nat} {L : List (Option Value)} {st as : List Value} {S S1 : Sto} {r : Res} {v0 : Option Value} {E0 : String}
theorem ev_callV {b : Nat} {fs : List Value} (h : iCallV M pc M' n ci) (hlen : L.length = M.2.2.1) (hb : S.1[b]? = some (oB ci fs)) (hn : as.length = n) (hcat : (st.map fun v => v.category).sum ≤ 8) (hM : MetA scr l d M' (.ref b :: as) S (.inl v0, S1)) (k : Ev scr l (d + 1) M (pc + 3) L (v0.toList ++ st) S1 r) : Ev scr l (d + 1) M pc L (as.reverse ++ .ref b :: st) S r := by
  refine ⟨⟨Nat.le_trans hM.1.1 k.1.1, Nat.le_trans hM.1.2 k.1.2⟩, fun p e R s m args below meth c ρ dC dI A ws0 mc ms Q hC hR hE H locs cells slots ws tys ls st0 hW hL hS hc hs => ?_⟩
  obtain ⟨ra, rb, rfl, hra, hrb⟩ := SR.split hS
  obtain ⟨v1, rest', rfl, ⟨b', eb, rfl⟩, hrest⟩ := hrb
  have has := SR.rev hra
  rw [List.reverse_reverse] at has
  have hm1 : S.2.1 ≤ S1.2.1 ∧ S.2.2 ≤ S1.2.2 := hM.1
  have hm2 : S1.2.1 ≤ r.2.2.1 ∧ S1.2.2 ≤ r.2.2.2 := k.1
  have hr := runV (e := e) (R := R) (below := below) (cells := cells) (slots := slots) (rest := rest') hC ⟨hR.1, hR.2.1⟩ hW (by rw [hL.1]; exact hlen) h hM hb eb has hn (by rw [SR.cat hrest]; exact hcat) ⟨by show cells + (S1.2.1 - S.2.1) ≤ R.cells; omega, by show slots + (S1.2.2 - S.2.2) ≤ R.slots; omega⟩
  rw [List.reverse_reverse] at hr
  exact ret_of hC hR hE hW hL hrest hc hs hm1 hr k
theorem ev_callS (h : iCallS M pc M' n) (hlen : L.length = M.2.2.1) (hn : as.length = n) (hcat : (st.map fun v => v.category).sum ≤ 8) (hM : MetA scr l d M' as S (.inl v0, S1)) (k : Ev scr l (d + 1) M (pc + 3) L (v0.toList ++ st) S1 r) : Ev scr l (d + 1) M pc L (as.reverse ++ st) S r := by
  refine ⟨⟨Nat.le_trans hM.1.1 k.1.1, Nat.le_trans hM.1.2 k.1.2⟩, fun p e R s m args below meth c ρ dC dI A ws0 mc ms Q hC hR hE H locs cells slots ws tys ls st0 hW hL hS hc hs => ?_⟩
  obtain ⟨ra, rest', rfl, hra, hrest⟩ := SR.split hS
  have has := SR.rev hra
  rw [List.reverse_reverse] at has
  have hm1 : S.2.1 ≤ S1.2.1 ∧ S.2.2 ≤ S1.2.2 := hM.1
  have hm2 : S1.2.1 ≤ r.2.2.1 ∧ S1.2.2 ≤ r.2.2.2 := k.1
  have hr := runS (e := e) (R := R) (below := below) (cells := cells) (slots := slots) (rest := rest') hC ⟨hR.1, hR.2.1⟩ hW (by rw [hL.1]; exact hlen) h hM has hn (by rw [SR.cat hrest]; exact hcat) ⟨by show cells + (S1.2.1 - S.2.1) ≤ R.cells; omega, by show slots + (S1.2.2 - S.2.2) ≤ R.slots; omega⟩
  rw [List.reverse_reverse] at hr
  exact ret_of hC hR hE hW hL hrest hc hs hm1 hr k
theorem ev_callI {b : Nat} (h : iCallI M pc M' n) (hlen : L.length = M.2.2.1) (hn : as.length = n) (hcat : (st.map fun v => v.category).sum ≤ 8) (hM : MetA scr l d M' (.ref b :: as) S (.inl v0, S1)) (k : Ev scr l (d + 1) M (pc + 3) L (v0.toList ++ st) S1 r) : Ev scr l (d + 1) M pc L (as.reverse ++ .ref b :: st) S r := by
  refine ⟨⟨Nat.le_trans hM.1.1 k.1.1, Nat.le_trans hM.1.2 k.1.2⟩, fun p e R s m args below meth c ρ dC dI A ws0 mc ms Q hC hR hE H locs cells slots ws tys ls st0 hW hL hS hc hs => ?_⟩
  obtain ⟨ra, rb, rfl, hra, hrb⟩ := SR.split hS
  obtain ⟨v1, rest', rfl, ⟨b', eb, rfl⟩, hrest⟩ := hrb
  have has := SR.rev hra
  rw [List.reverse_reverse] at has
  have hm1 : S.2.1 ≤ S1.2.1 ∧ S.2.2 ≤ S1.2.2 := hM.1
  have hm2 : S1.2.1 ≤ r.2.2.1 ∧ S1.2.2 ≤ r.2.2.2 := k.1
  have hr := runI (e := e) (R := R) (below := below) (cells := cells) (slots := slots) (rest := rest') hC ⟨hR.1, hR.2.1⟩ hW (by rw [hL.1]; exact hlen) h hM eb has hn (by rw [SR.cat hrest]; exact hcat) ⟨by show cells + (S1.2.1 - S.2.1) ≤ R.cells; omega, by show slots + (S1.2.2 - S.2.2) ≤ R.slots; omega⟩
  rw [List.reverse_reverse] at hr
  exact ret_of hC hR hE hW hL hrest hc hs hm1 hr k
/-- a callee throws, and so does the caller -/
theorem ev_callVx {b : Nat} {fs : List Value} (hh : M.2.2.2.2 = []) (h : iCallV M pc M' n ci) (hlen : L.length = M.2.2.1) (hb : S.1[b]? = some (oB ci fs)) (hn : as.length = n) (hcat : (st.map fun v => v.category).sum ≤ 8) (hM : MetA scr l d M' (.ref b :: as) S (.inr E0, S1)) : Ev scr l (d + 1) M pc L (as.reverse ++ .ref b :: st) S (.inr E0, S1) := by
  refine ⟨hM.1, fun p e R s m args below meth c ρ dC dI A ws0 mc ms Q hC hR hE H locs cells slots ws tys ls st0 hW hL hS hc hs => ?_⟩
  obtain ⟨ra, rb, rfl, hra, hrb⟩ := SR.split hS
  obtain ⟨v1, rest', rfl, ⟨b', eb, rfl⟩, hrest⟩ := hrb
  have has := SR.rev hra
  rw [List.reverse_reverse] at has
  have hm1 : S.2.1 ≤ S1.2.1 ∧ S.2.2 ≤ S1.2.2 := hM.1
  have hc : cells + S1.2.1 = mc + S.2.1 := hc
  have hs : slots + S1.2.2 = ms + S.2.2 := hs
  have hr := runV (e := e) (R := R) (below := below) (cells := cells) (slots := slots) (rest := rest') hC ⟨hR.1, hR.2.1⟩ hW (by rw [hL.1]; exact hlen) h hM hb eb has hn (by rw [SR.cat hrest]; exact hcat) ⟨by show cells + (S1.2.1 - S.2.1) ≤ R.cells; omega, by show slots + (S1.2.2 - S.2.2) ≤ R.slots; omega⟩
  rw [List.reverse_reverse] at hr
  exact thr_of hh hC hE hW hc hs hm1 hr
theorem ev_callSx (hh : M.2.2.2.2 = []) (h : iCallS M pc M' n) (hlen : L.length = M.2.2.1) (hn : as.length = n) (hcat : (st.map fun v => v.category).sum ≤ 8) (hM : MetA scr l d M' as S (.inr E0, S1)) : Ev scr l (d + 1) M pc L (as.reverse ++ st) S (.inr E0, S1) := by
  refine ⟨hM.1, fun p e R s m args below meth c ρ dC dI A ws0 mc ms Q hC hR hE H locs cells slots ws tys ls st0 hW hL hS hc hs => ?_⟩
  obtain ⟨ra, rest', rfl, hra, hrest⟩ := SR.split hS
  have has := SR.rev hra
  rw [List.reverse_reverse] at has
  have hm1 : S.2.1 ≤ S1.2.1 ∧ S.2.2 ≤ S1.2.2 := hM.1
  have hc : cells + S1.2.1 = mc + S.2.1 := hc
  have hs : slots + S1.2.2 = ms + S.2.2 := hs
  have hr := runS (e := e) (R := R) (below := below) (cells := cells) (slots := slots) (rest := rest') hC ⟨hR.1, hR.2.1⟩ hW (by rw [hL.1]; exact hlen) h hM has hn (by rw [SR.cat hrest]; exact hcat) ⟨by show cells + (S1.2.1 - S.2.1) ≤ R.cells; omega, by show slots + (S1.2.2 - S.2.2) ≤ R.slots; omega⟩
  rw [List.reverse_reverse] at hr
  exact thr_of hh hC hE hW hc hs hm1 hr
/-! ===== ends ===== -/
theorem RQ.mk {s : State} {ρ : Nat → Nat} {dC : Nat → ClassId} {dI : Nat → Nat → Nat} {A : Nat → Prop} {ws0 : va_W} {H : Heap} {locs : List Loc} {ws : va_W} {tys : List (ClassId × FieldType)} {args : Array Value} {v v' : Option Value} (hW : Wd s ρ dC dI A ws0 H locs ws tys S) (hv : OR ρ ws v v') : ∀ t : State, t.heap = H → s.WarmedH t.vm → RQ (.inl v, S) ρ dC dI A ws0 args s (.returned v') t := fun t ht hWm =>
  ⟨⟨v, v', ws, tys, rfl, rfl, hv, hW.1, hW.2.1, by rw [ht]; exact hW.2.2.1, va_K.moved hWm.alike hW.2.2.2.1, hW.2.2.2.2.1⟩, hW.2.2.2.2.2.F ht⟩
theorem ev_iret {x : Int32} {ty : FieldType} (h : iIns M pc .ireturn 1) (hr : M.2.2.2.1 = some ty) (hn : narrow ty (.int x) = .int x) : Ev scr l d M pc L [.int x] S (.inl (some (.int x)), S) := by
  refine ⟨⟨Nat.le_refl _, Nat.le_refl _⟩, fun p e R s m args below meth c ρ dC dI A ws0 mc ms Q hC hR hE H locs cells slots ws tys ls st0 hW hL hS hc hs => ?_⟩
  obtain ⟨v0, r0, rfl, hv0, hS⟩ := hS
  have hv0 : v0 = .int x := hv0
  have hS : r0 = [] := hS
  subst hv0
  subst hS
  have ec : cells = mc := Nat.add_right_cancel hc
  have es : slots = ms := Nat.add_right_cancel hs
  subst ec
  subst es
  rcases hE with rfl | ⟨v, hv, hE⟩
  · exact vx_ret (W.zret (ty := ty) hC.1 hC.2.1 (hC.2.2.2.1.trans hr) hn (RQ.mk (v := some (.int x)) hW ⟨_, rfl, rfl⟩) hW.2.2.2.2.2.2.2 h hC.2.2.2.2.2.2.1)
  · cases hv
    exact hE H locs ws tys ls pc hW h
theorem ev_lret {x : Int64} (h : iIns M pc .lreturn 1) (hr : M.2.2.2.1 = some .long) : Ev scr l d M pc L [.long x] S (.inl (some (.long x)), S) := by
  refine ⟨⟨Nat.le_refl _, Nat.le_refl _⟩, fun p e R s m args below meth c ρ dC dI A ws0 mc ms Q hC hR hE H locs cells slots ws tys ls st0 hW hL hS hc hs => ?_⟩
  obtain ⟨v0, r0, rfl, hv0, hS⟩ := hS
  have hv0 : v0 = .long x := hv0
  have hS : r0 = [] := hS
  subst hv0
  subst hS
  have ec : cells = mc := Nat.add_right_cancel hc
  have es : slots = ms := Nat.add_right_cancel hs
  subst ec
  subst es
  rcases hE with rfl | ⟨v, hv, hE⟩
  · exact vx_ret (W.lret (v := x) hC.1 hC.2.1 (hC.2.2.2.1.trans hr) (RQ.mk (v := some (.long x)) hW ⟨_, rfl, rfl⟩) hW.2.2.2.2.2.2.2 h hC.2.2.2.2.2.2.1)
  · cases hv
theorem ev_dret {x : UInt64} (h : iIns M pc .dreturn 1) (hr : M.2.2.2.1 = some .double) : Ev scr l d M pc L [.double x] S (.inl (some (.double x)), S) := by
  refine ⟨⟨Nat.le_refl _, Nat.le_refl _⟩, fun p e R s m args below meth c ρ dC dI A ws0 mc ms Q hC hR hE H locs cells slots ws tys ls st0 hW hL hS hc hs => ?_⟩
  obtain ⟨v0, r0, rfl, hv0, hS⟩ := hS
  have hv0 : v0 = .double x := hv0
  have hS : r0 = [] := hS
  subst hv0
  subst hS
  have ec : cells = mc := Nat.add_right_cancel hc
  have es : slots = ms := Nat.add_right_cancel hs
  subst ec
  subst es
  rcases hE with rfl | ⟨v, hv, hE⟩
  · exact vx_ret (W.dret (v := x) hC.1 hC.2.1 (hC.2.2.2.1.trans hr) (RQ.mk (v := some (.double x)) hW ⟨_, rfl, rfl⟩) hW.2.2.2.2.2.2.2 h hC.2.2.2.2.2.2.1)
  · cases hv
theorem ev_aret {x : Nat} {rt : FieldType} (h : iIns M pc .areturn 1) (hr : M.2.2.2.1 = some rt) (hrt : (∃ n, rt = .object n) ∨ ∃ t, rt = .array t) : Ev scr l d M pc L [.ref x] S (.inl (some (.ref x)), S) := by
  refine ⟨⟨Nat.le_refl _, Nat.le_refl _⟩, fun p e R s m args below meth c ρ dC dI A ws0 mc ms Q hC hR hE H locs cells slots ws tys ls st0 hW hL hS hc hs => ?_⟩
  obtain ⟨v0, r0, rfl, ⟨a, ea, rfl⟩, hS⟩ := hS
  have hS : r0 = [] := hS
  subst hS
  have ec : cells = mc := Nat.add_right_cancel hc
  have es : slots = ms := Nat.add_right_cancel hs
  subst ec
  subst es
  rcases hE with rfl | ⟨v, hv, hE⟩
  · exact vx_ret (W.aret hC.1 hC.2.1 (hC.2.2.2.1.trans hr) hrt (Or.inr ⟨a, rfl⟩) (RQ.mk (v := some (.ref x)) hW ⟨_, rfl, ⟨a, ea, rfl⟩⟩) hW.2.2.2.2.2.2.2 h hC.2.2.2.2.2.2.1)
  · cases hv
theorem ev_vret (h : iIns M pc .return_ 1) (hr : M.2.2.2.1 = none) : Ev scr l d M pc L [] S (.inl none, S) := by
  refine ⟨⟨Nat.le_refl _, Nat.le_refl _⟩, fun p e R s m args below meth c ρ dC dI A ws0 mc ms Q hC hR hE H locs cells slots ws tys ls st0 hW hL hS hc hs => ?_⟩
  have hS : st0 = [] := hS
  subst hS
  have ec : cells = mc := Nat.add_right_cancel hc
  have es : slots = ms := Nat.add_right_cancel hs
  subst ec
  subst es
  rcases hE with rfl | ⟨v, hv, hE⟩
  · exact vx_ret (W.vret hC.1 hC.2.1 (hC.2.2.2.1.trans hr) (RQ.mk (v := none) hW rfl) hW.2.2.2.2.2.2.2 h hC.2.2.2.2.2.2.1)
  · cases hv
end RulesD

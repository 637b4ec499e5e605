/-! methods with handlers: their contracts, calls of them, catches -/
theorem MetA.ofH {scr : Scr} {l : Launch} {d : Nat} {M : Mth} {as : List Value} {S : Sto} {r : Res} (hh : M.2.2.2.2 ≠ []) (hy : plainName M.1.cls = true) (hn : (entL as).length ≤ M.2.2.1) (k : Ev scr l d M 0 (entN as M.2.2.1) [] S r) : MetA scr l d M as S r := by
  refine ⟨k.1, fun ρ dC dI ws tys sz as' hWR hSR hl => ?_⟩
  have hw : Mws M = Cond.codeWith M.1 M.2.1 M.2.2.1 M.2.2.2.1 M.2.2.2.2 :: lw_good := by unfold Mws; rw [if_neg hh]
  refine vx_ofWH (cc := M.2.1) (maxL := M.2.2.1) (ret := M.2.2.2.1) hy hw ?_
  intro p e s m args below meth c s₁ B hml hv
  obtain ⟨rfl, hsz, hP, hK, hD0, hG⟩ := hv
  subst hsz
  have hts0 := atoms_spec (ws := Mws M) B.pre
  have hts : ∀ w ∈ lw_good, w.before as'.toArray s = true := fun w h => hts0 w (by rw [hw]; exact List.mem_cons_of_mem _ h)
  have hex : c.exceptionTable.toList = tableOf M.2.2.2.2 := vx_table (x := M.1) B (hts0 _ (by rw [hw]; exact List.mem_cons_self))
  have hlen : (lg_sl as').length ≤ M.2.2.1 := by rw [entL_len hSR]; exact hn
  have he := lv_entry as' (n := M.2.2.1) hlen
  rw [lg_entry_eq]
  refine k.2 p e (headSpec (Mws M) (Rm d (r.2.2.1 - S.2.1) (r.2.2.2 - S.2.2))).room s m as'.toArray below meth c ρ dC dI (va_A ws s.heap.size) ws (r.2.2.1 - S.2.1) (r.2.2.2 - S.2.2) _
    ⟨B.exec, B.bytes, hml, B.returns, hts, findClass_of_methodNamed B.named, B.notSynchronized, (name_of_methodNamed B.named B.method).1, hex, hG, fun q h => Or.inr h, hl⟩
    ⟨Nat.le_refl _, Nat.le_refl _, Nat.le_refl _, Nat.le_refl _⟩ (Or.inl rfl) s.heap [] 0 0 ws tys _ [] ⟨hWR, Ext.rf ws, hP, hK, hD0.self, va_S.rf⟩ ⟨?_, he.2.1, fun i v hi => ?_⟩ rfl (by have := k.1.1; omega) (by have := k.1.2; omega)
  · rw [he.1]
    unfold entN
    rw [List.length_append, List.length_replicate]
    omega
  · unfold entN at hi
    by_cases hlt : i < (entL as).length
    · rw [List.getElem?_append_left hlt] at hi
      obtain ⟨v', e1, e2⟩ := LR.entry hSR 0 i v hi
      rw [Nat.zero_add] at e2
      exact ⟨v', e1, he.2.2 _ e2⟩
    · rw [List.getElem?_append_right (by omega)] at hi
      have := List.mem_of_getElem? hi
      rw [List.mem_replicate] at this
      cases this.2
def iCallSH (M : Mth) (pc : Nat) (M' : Mth) (n : Nat) : Prop := (∃ ix : Nat, decode M.2.1 pc = .ok (.invokestatic ix, 3) ∧ Cond.methodLink M.1.cls ix M'.1 ∈ lw_good) ∧ Cond.static M'.1 ∈ lw_good ∧ iMeth M' n ∧ M'.2.2.2.2 ≠ [] ∧ Cond.codeWith M'.1 M'.2.1 M'.2.2.1 M'.2.2.2.1 M'.2.2.2.2 ∈ lw_good
def iCatch (M : Mth) (pc hpc : Nat) (E : String) : Prop := ∃ (pre : List (Nat × Nat × Nat × Nat)) (x : Nat × Nat × Nat × Nat) (suf : List (Nat × Nat × Nat × Nat)), M.2.2.2.2 = pre ++ x :: suf ∧ (∀ z ∈ pre, z.2.2.2 ≠ 0 ∧ ∃ nm, Cond.classLink M.1.cls z.2.2.2 nm ∈ lw_good ∧ (E, nm) ∈ ncTab) ∧ covers ⟨x.1, x.2.1, x.2.2.1, x.2.2.2⟩ pc = true ∧ x.2.2.2 ≠ 0 ∧ x.2.2.1 = hpc ∧ Cond.classLink M.1.cls x.2.2.2 E ∈ lw_good ∧ E ∈ exTab
section RulesH
variable {scr : Scr} {l : Launch} {d : Nat} {M M' : Mth} {pc hpc n ci : Nat} {L : List (Option Value)} {st as : List Value} {S S1 : Sto} {r r1 : Res} {v0 : Option Value} {E0 : String}
theorem runSH {p : Program} {e : Env} {R : Room} {s : State} {m : MethodId} {args : Array Value} {below : List Frame} {meth : Method} {c : Code} {ρ : Nat → Nat} {dC : Nat → ClassId} {dI : Nat → Nat → Nat} {A : Nat → Prop} {ws0 : va_W} {H : Heap} {locs : List Loc} {cells slots : Nat} {ws : va_W} {tys : List (ClassId × FieldType)} {ls : Array Slot} {rest as' : List Value} (hC : Cx l p s m args meth c M scr ρ A) (hR : d + 1 + 8 ≤ R.frames ∧ 200 + 100 * (d + 1) ≤ R.locals) (hW : Wd s ρ dC dI A ws0 H locs ws tys S) (hL : ls.size = M.2.2.1) (h : iCallSH M pc M' n)
    (hM : MetA scr l d M' as S r1) (has : SR ρ ws as as') (hn : as.length = n) (hcat : (rest.map fun v => v.category).sum ≤ 8) (hf : cells + (r1.2.2.1 - S.2.1) ≤ R.cells ∧ slots + (r1.2.2.2 - S.2.2) ≤ R.slots) :
    Run0 l p e R s m args below meth c ρ dC dI H locs cells slots ws S r1 pc ls (as'.reverse ++ rest) rest := by
  obtain ⟨⟨ix, hd, hlk⟩, hst, ⟨hini, hmh, hpar, hmx⟩, hpl, hcode⟩ := h
  have hg : ∀ w ∈ lw_good, w.before args s = true := hC.2.2.2.2.1
  have hws : Mws M' = Cond.codeWith M'.1 M'.2.1 M'.2.2.1 M'.2.2.2.1 M'.2.2.2.2 :: lw_good := by unfold Mws; rw [if_neg hpl]
  have hm := hM.2 ρ dC dI ws tys H.size as' hW.1 has hC.2.2.2.2.2.2.2.2.2.2.2
  have hgi : GoodIn lw_good (va_wsS M.1.cls ix M'.1 (Mws M')) := fun w hw => by
    have hm : w ∈ lw_good := by
      rcases List.mem_append.mp hw with q | q
      · simp only [List.mem_cons, List.not_mem_nil, or_false] at q
        rcases q with rfl | rfl | rfl
        · exact hlk
        · exact hst
        · exact hini
      · rw [hws] at q
        rcases List.mem_cons.mp q with q | q
        · rw [q]; exact hcode
        · exact q
    exact ⟨hm, good_of_word (List.mem_filter.mp hm).2⟩
  have cw : vx_CSW R s args M.1.cls ix M'.1 M'.2.1 M'.2.2.1 M'.2.2.2.1 M'.2.2.2.2 (Mws M') (Rm d (r1.2.2.1 - S.2.1) (r1.2.2.2 - S.2.2)) (r1.2.2.1 - S.2.1) (r1.2.2.2 - S.2.2) n :=
    vx_cwSW n hg hgi hws rfl rfl ⟨hmh.1, hmh.2, hpar⟩ ⟨by show d + 8 + 1 ≤ R.frames; omega, by show 8 + (M'.2.2.1 + 11) + (200 + 100 * d) ≤ R.locals; omega⟩
  exact vx_runSX (As := as') (cc := M.2.1) (nL := M.2.2.1) (Ts := lw_good) ⟨hC.1, hC.2.1, hC.2.2.1, hC.2.2.2.2.2.1, hg⟩ hm cw ⟨Pc0.blind _ _, Pc0.now hC hW _⟩ rfl ((SR.len has).trans hn) hL rfl (lv_room hcat) hd hf
theorem ev_callSH (h : iCallSH M pc M' n) (hlen : L.length = M.2.2.1) (hn : as.length = n) (hcat : (st.map fun v => v.category).sum ≤ 8) (hM : MetA scr l d M' as S (.inl v0, S1)) (k : Ev scr l (d + 1) M (pc + 3) L (v0.toList ++ st) S1 r) : Ev scr l (d + 1) M pc L (as.reverse ++ st) S r := by
  refine ⟨⟨Nat.le_trans hM.1.1 k.1.1, Nat.le_trans hM.1.2 k.1.2⟩, fun p e R s m args below meth c ρ dC dI A ws0 mc ms Q hC hR hE H locs cells slots ws tys ls st0 hW hL hS hc hs => ?_⟩
  obtain ⟨ra, rest', rfl, hra, hrest⟩ := SR.split hS
  have has := SR.rev hra
  rw [List.reverse_reverse] at has
  have hm1 : S.2.1 ≤ S1.2.1 ∧ S.2.2 ≤ S1.2.2 := hM.1
  have hm2 : S1.2.1 ≤ r.2.2.1 ∧ S1.2.2 ≤ r.2.2.2 := k.1
  have hr := runSH (e := e) (R := R) (below := below) (cells := cells) (slots := slots) (rest := rest') hC ⟨hR.1, hR.2.1⟩ hW (by rw [hL.1]; exact hlen) h hM has hn (by rw [SR.cat hrest]; exact hcat) ⟨by show cells + (S1.2.1 - S.2.1) ≤ R.cells; omega, by show slots + (S1.2.2 - S.2.2) ≤ R.slots; omega⟩
  rw [List.reverse_reverse] at hr
  exact ret_of hC hR hE hW hL hrest hc hs hm1 hr k
/-- behind a call that threw, caught here -/
theorem cat_of {p : Program} {e : Env} {R : Room} {s : State} {m : MethodId} {args : Array Value} {below : List Frame} {meth : Method} {c : Code} {ρ : Nat → Nat} {dC : Nat → ClassId} {dI : Nat → Nat → Nat} {A : Nat → Prop} {ws0 : va_W} {mc ms : Nat} {Q : State → Prop} {H : Heap} {locs : List Loc} {cells slots : Nat} {ws : va_W} {tys : List (ClassId × FieldType)} {ls : Array Slot} {st0 rest' : List Value} (hC : Cx l p s m args meth c M scr ρ A) (hR : d + 8 ≤ R.frames ∧ 200 + 100 * d ≤ R.locals ∧ mc ≤ R.cells ∧ ms ≤ R.slots) (hE : EndQ l p e R s m args below meth c M ρ dC dI A ws0 mc ms r Q) (hW : Wd s ρ dC dI A ws0 H locs ws tys S) (hL : LR ρ ws L ls) (hc : cells + r.2.2.1 = mc + S.2.1) (hs : slots + r.2.2.2 = ms + S.2.2)
    (hm1 : S.2.1 ≤ S1.2.1 ∧ S.2.2 ≤ S1.2.2) (hr : Run0 l p e R s m args below meth c ρ dC dI H locs cells slots ws S (.inr E0, S1) pc ls st0 rest') (hk : iCatch M pc hpc E0) (k : Ev scr l d M hpc L [.retAddr 0] S1 r) : W p l e R s m args below meth c H locs cells slots Q (F0 m pc ls st0) := by
  obtain ⟨pre, x, suf, htab, hpre, hcov, hx0, rfl, hlk, hxt⟩ := hk
  intro T hT X
  rcases hr T hT X with ⟨v, st₀, t, T', L1, h0, X', hL1, e1, e2, ⟨⟨v1, v', ws1, tys1, hr1, hoc, hOR, hWE⟩, hF⟩, stp⟩ | ⟨q, st₀, t, T', L1, E, ce, h0, X', hL1, e1, e2, ⟨⟨ws1, tys1, hr1, hWE⟩, hF⟩, hq, hcv, hcl, stp⟩
  · cases hr1
  · cases hr1
    have hg : ∀ w ∈ lw_good, w.before args s = true := hC.2.2.2.2.1
    have hG := hC.2.2.2.2.2.2.2.2.2.1
    have hAf := freeA hW.2.2.2.2.1 hW.2.2.2.2.2 hC.2.2.2.2.2.2.2.2.2.2.1
    obtain ⟨hz, hk, hS1⟩ := vx_keep h0 e1 hW.2.2.2.2.2 (fun q _ h => hAf q h) hAf hL1 hF
    have ha : s.vm.Alike t.vm := by rw [← e2]; exact X'.warmed.alike
    have hW1 := WdE.back hW hC.2.2.2.2.2.2.2.2.2.2.1 hWE e1 ha hS1
    have hcc : (cells + (S1.2.1 - S.2.1)) + r.2.2.1 = mc + S1.2.1 := by have := hm1.1; omega
    have hss : (slots + (S1.2.2 - S.2.2)) + r.2.2.2 = ms + S1.2.2 := by have := hm1.2; omega
    have hsplit : c.exceptionTable.toList = tableOf pre ++ ⟨x.1, x.2.1, x.2.2.1, x.2.2.2⟩ :: tableOf suf := by
      rw [hC.2.2.2.2.2.2.2.2.1, htab]
      unfold tableOf
      rw [List.map_append, List.map_cons]
    have kk := k.2 p e R s m args below meth c ρ dC dI A ws0 mc ms Q hC hR hE T'.heap (locs ++ L1) _ _ ws1 tys1 ls [.ref q] hW1 (LR.mono hWE.2.1 hL) ⟨_, [], rfl, Or.inr ⟨q, rfl⟩, rfl⟩ hcc hss
    obtain ⟨t2, a1, b1⟩ := vx_catch (rest := rest') hC.2.2.2.2.2.1 (tableOf pre) _ (tableOf suf) hsplit (fun z hz => by
      obtain ⟨y, hy, rfl⟩ := List.mem_map.mp hz
      obtain ⟨y0, nm, y1, y2⟩ := hpre y hy
      exact Or.inr ⟨y0, nm, hg _ y1, hG.2.2.2.2.2.1 _ y2⟩) hcov hx0 (hg _ hlk) (va_Nw.use rfl (hG.2.2.2.2.2.2.2.2.1 _ hxt)) (by rw [e1]; exact hq) hcv hcl kk T' rfl X'
    exact ⟨t2, stp.trans a1, b1⟩
theorem ev_callVc {b : Nat} {fs : List Value} (h : iCallV M pc M' n ci) (hlen : L.length = M.2.2.1) (hb : S.1[b]? = some (oB ci fs)) (hn : as.length = n) (hcat : (st.map fun v => v.category).sum ≤ 8) (hM : MetA scr l d M' (.ref b :: as) S (.inr E0, S1)) (hk : iCatch M pc hpc E0) (k : Ev scr l (d + 1) M hpc L [.retAddr 0] S1 r) : Ev scr l (d + 1) M pc L (as.reverse ++ .ref b :: st) S r := by
  refine ⟨⟨Nat.le_trans hM.1.1 k.1.1, Nat.le_trans hM.1.2 k.1.2⟩, fun p e R s m args below meth c ρ dC dI A ws0 mc ms Q hC hR hE H locs cells slots ws tys ls st0 hW hL hS hc hs => ?_⟩
  obtain ⟨ra, rb, rfl, hra, hrb⟩ := SR.split hS
  obtain ⟨v1, rest', rfl, ⟨b', eb, rfl⟩, hrest⟩ := hrb
  have has := SR.rev hra
  rw [List.reverse_reverse] at has
  have hm1 : S.2.1 ≤ S1.2.1 ∧ S.2.2 ≤ S1.2.2 := hM.1
  have hm2 : S1.2.1 ≤ r.2.2.1 ∧ S1.2.2 ≤ r.2.2.2 := k.1
  have hr := runV (e := e) (R := R) (below := below) (cells := cells) (slots := slots) (rest := rest') hC ⟨hR.1, hR.2.1⟩ hW (by rw [hL.1]; exact hlen) h hM hb eb has hn (by rw [SR.cat hrest]; exact hcat) ⟨by show cells + (S1.2.1 - S.2.1) ≤ R.cells; omega, by show slots + (S1.2.2 - S.2.2) ≤ R.slots; omega⟩
  rw [List.reverse_reverse] at hr
  exact cat_of hC hR hE hW hL hc hs hm1 hr hk k
theorem ev_astQ {i : Nat} {x : Nat} (h : iIns M pc (.astore i) 2) (hi : i < L.length) (k : Ev scr l d M (pc + 2) (stL i (.retAddr x) L) st S r) : Ev scr l d M pc L (.retAddr x :: st) S r := by
  refine ⟨k.1, fun p e R s m args below meth c ρ dC dI A ws0 mc ms Q hC hR hE H locs cells slots ws tys ls st0 hW hL hS hc hs => ?_⟩
  obtain ⟨v0, r0, rfl, hv0, hS⟩ := hS
  have hv0' : v0 = .null ∨ ∃ a, v0 = .ref a := hv0
  have hz : ls.size = L.length := hL.1
  rcases hv0' with rfl | ⟨a, rfl⟩
  · exact lv_astoreN hC.1 hC.2.1 h (lvAll_has hL.2.1) (by omega) rfl (fun ls2 h2 => k.2 p e R s m args below meth c ρ dC dI A ws0 mc ms Q hC hR hE H locs cells slots ws tys ls2 _ hW (LR.store hL (show VR ρ ws (.retAddr x) .null from Or.inl rfl) hz h2 (by omega)) hS hc hs)
  · exact lv_astore hC.1 hC.2.1 h (lvAll_has hL.2.1) (by omega) rfl (fun ls2 h2 => k.2 p e R s m args below meth c ρ dC dI A ws0 mc ms Q hC hR hE H locs cells slots ws tys ls2 _ hW (LR.store hL (show VR ρ ws (.retAddr x) (.ref a) from Or.inr ⟨a, rfl⟩) hz h2 (by omega)) hS hc hs)
theorem ev_astQ_n {j : Fin 4} {x : Nat} (h : iIns M pc (.astore_n j) 1) (hi : (j : Nat) < L.length) (k : Ev scr l d M (pc + 1) (stL (j : Nat) (.retAddr x) L) st S r) : Ev scr l d M pc L (.retAddr x :: st) S r := by
  refine ⟨k.1, fun p e R s m args below meth c ρ dC dI A ws0 mc ms Q hC hR hE H locs cells slots ws tys ls st0 hW hL hS hc hs => ?_⟩
  obtain ⟨v0, r0, rfl, hv0, hS⟩ := hS
  have hv0' : v0 = .null ∨ ∃ a, v0 = .ref a := hv0
  have hz : ls.size = L.length := hL.1
  rcases hv0' with rfl | ⟨a, rfl⟩
  · exact lv_astore_nN hC.1 hC.2.1 h rfl (lvAll_has hL.2.1) (by omega) rfl (fun ls2 h2 => k.2 p e R s m args below meth c ρ dC dI A ws0 mc ms Q hC hR hE H locs cells slots ws tys ls2 _ hW (LR.store hL (show VR ρ ws (.retAddr x) .null from Or.inl rfl) hz h2 (by omega)) hS hc hs)
  · exact lv_astore_n hC.1 hC.2.1 h rfl (lvAll_has hL.2.1) (by omega) rfl (fun ls2 h2 => k.2 p e R s m args below meth c ρ dC dI A ws0 mc ms Q hC hR hE H locs cells slots ws tys ls2 _ hW (LR.store hL (show VR ρ ws (.retAddr x) (.ref a) from Or.inr ⟨a, rfl⟩) hz h2 (by omega)) hS hc hs)
end RulesH

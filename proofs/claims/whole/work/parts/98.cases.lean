/-! the cases of the law -/
theorem ev_callSH1 {scr : Scr} {l : Launch} {d : Nat} {M M' : Mth} {pc : Nat} {L : List (Option Value)} {st : List Value} {S S1 : Sto} {r : Res} {v0 : Option Value} {x1 : Value} (h : iCallSH M pc M' 1) (hlen : L.length = M.2.2.1) (hcat : (st.map fun v => v.category).sum ≤ 8) (hM : MetA scr l d M' [x1] S (.inl v0, S1)) (k : Ev scr l (d + 1) M (pc + 3) L (v0.toList ++ st) S1 r) : Ev scr l (d + 1) M pc L (x1 :: st) S r := ev_callSH (as := [x1]) h hlen rfl hcat hM k
theorem ev_callSH2 {scr : Scr} {l : Launch} {d : Nat} {M M' : Mth} {pc : Nat} {L : List (Option Value)} {st : List Value} {S S1 : Sto} {r : Res} {v0 : Option Value} {x1 x2 : Value} (h : iCallSH M pc M' 2) (hlen : L.length = M.2.2.1) (hcat : (st.map fun v => v.category).sum ≤ 8) (hM : MetA scr l d M' [x1, x2] S (.inl v0, S1)) (k : Ev scr l (d + 1) M (pc + 3) L (v0.toList ++ st) S1 r) : Ev scr l (d + 1) M pc L (x2 :: x1 :: st) S r := ev_callSH (as := [x1, x2]) h hlen rfl hcat hM k
theorem ev_callSH3 {scr : Scr} {l : Launch} {d : Nat} {M M' : Mth} {pc : Nat} {L : List (Option Value)} {st : List Value} {S S1 : Sto} {r : Res} {v0 : Option Value} {x1 x2 x3 : Value} (h : iCallSH M pc M' 3) (hlen : L.length = M.2.2.1) (hcat : (st.map fun v => v.category).sum ≤ 8) (hM : MetA scr l d M' [x1, x2, x3] S (.inl v0, S1)) (k : Ev scr l (d + 1) M (pc + 3) L (v0.toList ++ st) S1 r) : Ev scr l (d + 1) M pc L (x3 :: x2 :: x1 :: st) S r := ev_callSH (as := [x1, x2, x3]) h hlen rfl hcat hM k
theorem ev_callSH4 {scr : Scr} {l : Launch} {d : Nat} {M M' : Mth} {pc : Nat} {L : List (Option Value)} {st : List Value} {S S1 : Sto} {r : Res} {v0 : Option Value} {x1 x2 x3 x4 : Value} (h : iCallSH M pc M' 4) (hlen : L.length = M.2.2.1) (hcat : (st.map fun v => v.category).sum ≤ 8) (hM : MetA scr l d M' [x1, x2, x3, x4] S (.inl v0, S1)) (k : Ev scr l (d + 1) M (pc + 3) L (v0.toList ++ st) S1 r) : Ev scr l (d + 1) M pc L (x4 :: x3 :: x2 :: x1 :: st) S r := ev_callSH (as := [x1, x2, x3, x4]) h hlen rfl hcat hM k
theorem ev_callSH5 {scr : Scr} {l : Launch} {d : Nat} {M M' : Mth} {pc : Nat} {L : List (Option Value)} {st : List Value} {S S1 : Sto} {r : Res} {v0 : Option Value} {x1 x2 x3 x4 x5 : Value} (h : iCallSH M pc M' 5) (hlen : L.length = M.2.2.1) (hcat : (st.map fun v => v.category).sum ≤ 8) (hM : MetA scr l d M' [x1, x2, x3, x4, x5] S (.inl v0, S1)) (k : Ev scr l (d + 1) M (pc + 3) L (v0.toList ++ st) S1 r) : Ev scr l (d + 1) M pc L (x5 :: x4 :: x3 :: x2 :: x1 :: st) S r := ev_callSH (as := [x1, x2, x3, x4, x5]) h hlen rfl hcat hM k
theorem ev_sldN {scr : Scr} {l : Launch} {d : Nat} {M : Mth} {pc i : Nat} {L : List (Option Value)} {st : List Value} {S : Sto} {r : Res} (h : iIns M pc .iaload 1) (hin : i < scr.1) (hb : scr.1 < 2 ^ 31) (k : Ev scr l d M (pc + 1) L (.int (scr.2 i) :: st) S r) : Ev scr l d M pc L (.int (nI i) :: .ref 1100 :: st) S r := ev_sld h (vp_in_nI hin hb) (by rw [nI_clamp (Nat.lt_trans hin hb)]; exact k)
abbrev LL (i : Nat) (u6 u7 u8 : Option Value) : List (Option Value) := [some (.ref 1100), some (.ref 0), some (.ref 105), some (.ref 134), some (.ref 135), some (.int (nI i)), u6, u7, u8]
/-- from the case at pc on, the law goes on behind the switch, in the joint state -/
def Sim (scr : Scr) (l : Launch) (pc i : Nat) (S : Sto) : Prop := ∃ σ' S2, Jn σ' S2 ∧ Cost S S2 ∧ ∀ d r u6 u7 u8, (∀ u6 u7 u8, Ev scr l (d + 13) M_Lw_law 2266 (LL i u6 u7 u8) [] S2 r) → Ev scr l (d + 13) M_Lw_law pc (LL i u6 u7 u8) [] S r
def DirR (scr : Scr) (l : Launch) (Mx Mm : Mth) (S : Sto) : Prop := ∃ (v : Option Value) (S1 S2 : Sto) (σ' : Sg), (∀ d, MetA scr l (d + 12) Mx [.ref 0] S (.inl v, S1)) ∧ (∃ fs, S.1[0]? = some (oB 13 fs)) ∧ (∃ fs, S1.1[105]? = some (oB 14 fs)) ∧ (∀ d, MetA scr l (d + 12) Mm [.ref 105] S1 (.inl v, S2)) ∧ Jn σ' S2 ∧ Cost S S2
theorem DirR.of {scr : Scr} {l : Launch} {Mx Mm : Mth} {S : Sto} {σ σ' : Sg} {K1 K2 : Nat} {v : Option Value} (h : Jn σ S) (hx : XR scr l K1 Mx [.ref 0] S v σ') (hK1 : K1 ≤ 12) (hK : K2 ≤ 12) (hm : ∀ S th, MInv th σ S → MRun scr l K2 Mm [.ref 105] S v 0 σ') (e : σ'.2.2.2.2.2 = σ.2.2.2.2.2) : ∃ (S1 S2 : Sto), (∀ d, MetA scr l (d + 12) Mx [.ref 0] S (.inl v, S1)) ∧ (∃ fs, S.1[0]? = some (oB 13 fs)) ∧ (∃ fs, S1.1[105]? = some (oB 14 fs)) ∧ (∀ d, MetA scr l (d + 12) Mm [.ref 105] S1 (.inl v, S2)) ∧ Jn σ' S2 ∧ Cost S S2 := by
  obtain ⟨S1, m1, x1, f1⟩ := hx
  obtain ⟨g, hg⟩ := h.2.2.2.2
  obtain ⟨g2, hg2⟩ := h.2.2.2.1
  obtain ⟨th, hmi⟩ := h.2.1
  have hg1 : S1.1[135]? = some (aD 1 g) := f1.at hg (fun q => by have := x_lt q; omega)
  have hg3 : S1.1[134]? = some (aJ 1 g2) := f1.at hg2 (fun q => by have := x_lt q; omega)
  have hF : ∀ j, 105 ≤ j → j < 134 → S1.1[j]? = S.1[j]? := fun j q1 q2 => f1.2.2 j (fun q => by have := x_lt q; omega)
  have mT := hmi.fr2 hF f1.1
  obtain ⟨S2, m2, i2, r2, f2⟩ := (hm S1 th mT).up (h.2.2.1.fr2 hF) e
  refine ⟨S1, S2, MetA.up m1 12 hK1, ⟨_, h.1.1⟩, mT.obj14, MetA.up m2 12 hK, ⟨x1.fr f2 (fun k q => (x_not_m q).1), ⟨0, i2⟩, r2, ⟨g2, f2.at hg3 (fun q => by have := x_not_m q; omega)⟩, ⟨g, f2.at hg1 (fun q => by have := x_not_m q; omega)⟩⟩, ⟨f2.1.trans f1.1, ?_, ?_⟩⟩
  · rw [f2.2.1, f1.2.1]; omega
  · rw [f2.2.1, f1.2.1]; omega
theorem sim_appendCharacter {scr : Scr} {l : Launch} {S : Sto} {i : Nat} (hs : scr.1 < 2 ^ 31) (hi : i + 3 < scr.1) (h : StepR scr l M_Lw_appendCharacter M_Md_appendCharacter [.int (scr.2 (i + 1))] [.ref 0, .int (scr.2 (i + 1)), .ref 134] S PI) : Sim scr l 208 i S := by
  obtain ⟨k, v, S1, S2, σ', hk, mw, ⟨fs, o1⟩, mm, hJ, hM, hc, x, rfl, hx⟩ := h
  obtain ⟨fs2, o2⟩ := hM.obj14
  refine ⟨σ', S2, hJ, hc, fun d r u6 u7 u8 kx => ?_⟩
  refine ev_aload_n i_Lw_law_208 rfl ?_
  refine ev_aload_n i_Lw_law_209 rfl ?_
  refine ev_iload i_Lw_law_210 rfl ?_
  refine ev_iconstN (v := 1) i_Lw_law_212 (by decide) ?_
  first | refine ev_iaddN i_Lw_law_213 ?_ | refine ev_iadd i_Lw_law_213 ?_
  refine ev_sldN i_Lw_law_214 (by omega) hs ?_
  refine ev_aload_n i_Lw_law_215 rfl ?_
  refine ev_callSH3 i_Lw_law_216 rfl (Nat.le_of_ble_eq_true rfl) (mw d) ?_
  refine ev_ist_6 i_Lw_law_219 rfl ?_
  refine ev_aload_n i_Lw_law_221 rfl ?_
  refine ev_aload_n i_Lw_law_222 rfl ?_
  refine ev_iload i_Lw_law_223 rfl ?_
  refine ev_iconstN (v := 1) i_Lw_law_225 (by decide) ?_
  first | refine ev_iaddN i_Lw_law_226 ?_ | refine ev_iadd i_Lw_law_226 ?_
  refine ev_sldN i_Lw_law_227 (by omega) hs ?_
  refine ev_callV1 i_Lw_law_228 rfl o1 (Nat.le_of_ble_eq_true rfl) (mm d) ?_
  refine ev_ist_7 i_Lw_law_231 rfl ?_
  refine ev_aload_n i_Lw_law_233 rfl ?_
  refine ev_callV0 i_Lw_law_234 rfl o2 (Nat.le_of_ble_eq_true rfl) (m_thrown hM) ?_
  refine ev_iload i_Lw_law_237 rfl ?_
  refine ev_icmp_eqN i_Lw_law_239 (by omega) (by omega) (fun hc_239 => ?_) (fun hc_239 => ?_)
  · skip
    refine ev_iload i_Lw_law_244 rfl ?_
    first | refine ev_if_neN i_Lw_law_246 (by omega) (fun hc_246 => ?_) (fun hc_246 => ?_) | refine ev_if_ne i_Lw_law_246 (fun hc_246 => ?_) (fun hc_246 => ?_)
    · skip
      refine ev_goto i_Lw_law_261 ?_
      exact kx _ _ _
    · skip
      refine ev_aload_n i_Lw_law_249 rfl ?_
      refine ev_iconstN (v := 0) i_Lw_law_250 (by decide) ?_
      obtain ⟨g, hg, eg⟩ := hx (by omega)
      refine ev_laldN i_Lw_law_251 hg (by decide) (by decide) ?_
      rw [eg]
      refine ev_iload i_Lw_law_252 rfl ?_
      refine ev_i2l i_Lw_law_254 ?_
      refine ev_lif_eq i_Lw_law_255 i_Lw_law_256 (fun hc_256 => ?_) (fun hc_256 => ?_)
      · skip
        refine ev_goto i_Lw_law_261 ?_
        exact kx _ _ _
      · skip
        exact absurd rfl hc_256
  · skip
    exfalso; omega
theorem sim_setProduction {scr : Scr} {l : Launch} {S : Sto} {i : Nat} (hs : scr.1 < 2 ^ 31) (hi : i + 3 < scr.1) (h : StepR scr l M_Lw_setProduction M_Md_setProduction [.int (scr.2 (i + 1)), .int (scr.2 (i + 2))] [.ref 0, .int (scr.2 (i + 1)), .int (scr.2 (i + 2)), .ref 134] S PI) : Sim scr l 277 i S := by
  obtain ⟨k, v, S1, S2, σ', hk, mw, ⟨fs, o1⟩, mm, hJ, hM, hc, x, rfl, hx⟩ := h
  obtain ⟨fs2, o2⟩ := hM.obj14
  refine ⟨σ', S2, hJ, hc, fun d r u6 u7 u8 kx => ?_⟩
  refine ev_aload_n i_Lw_law_277 rfl ?_
  refine ev_aload_n i_Lw_law_278 rfl ?_
  refine ev_iload i_Lw_law_279 rfl ?_
  refine ev_iconstN (v := 1) i_Lw_law_281 (by decide) ?_
  first | refine ev_iaddN i_Lw_law_282 ?_ | refine ev_iadd i_Lw_law_282 ?_
  refine ev_sldN i_Lw_law_283 (by omega) hs ?_
  refine ev_aload_n i_Lw_law_284 rfl ?_
  refine ev_iload i_Lw_law_285 rfl ?_
  refine ev_iconstN (v := 2) i_Lw_law_287 (by decide) ?_
  first | refine ev_iaddN i_Lw_law_288 ?_ | refine ev_iadd i_Lw_law_288 ?_
  refine ev_sldN i_Lw_law_289 (by omega) hs ?_
  refine ev_aload_n i_Lw_law_290 rfl ?_
  refine ev_callSH4 i_Lw_law_291 rfl (Nat.le_of_ble_eq_true rfl) (mw d) ?_
  refine ev_ist_6 i_Lw_law_294 rfl ?_
  refine ev_aload_n i_Lw_law_296 rfl ?_
  refine ev_aload_n i_Lw_law_297 rfl ?_
  refine ev_iload i_Lw_law_298 rfl ?_
  refine ev_iconstN (v := 1) i_Lw_law_300 (by decide) ?_
  first | refine ev_iaddN i_Lw_law_301 ?_ | refine ev_iadd i_Lw_law_301 ?_
  refine ev_sldN i_Lw_law_302 (by omega) hs ?_
  refine ev_aload_n i_Lw_law_303 rfl ?_
  refine ev_iload i_Lw_law_304 rfl ?_
  refine ev_iconstN (v := 2) i_Lw_law_306 (by decide) ?_
  first | refine ev_iaddN i_Lw_law_307 ?_ | refine ev_iadd i_Lw_law_307 ?_
  refine ev_sldN i_Lw_law_308 (by omega) hs ?_
  refine ev_callV2 i_Lw_law_309 rfl o1 (Nat.le_of_ble_eq_true rfl) (mm d) ?_
  refine ev_ist_7 i_Lw_law_312 rfl ?_
  refine ev_aload_n i_Lw_law_314 rfl ?_
  refine ev_callV0 i_Lw_law_315 rfl o2 (Nat.le_of_ble_eq_true rfl) (m_thrown hM) ?_
  refine ev_iload i_Lw_law_318 rfl ?_
  refine ev_icmp_eqN i_Lw_law_320 (by omega) (by omega) (fun hc_320 => ?_) (fun hc_320 => ?_)
  · skip
    refine ev_iload i_Lw_law_325 rfl ?_
    first | refine ev_if_neN i_Lw_law_327 (by omega) (fun hc_327 => ?_) (fun hc_327 => ?_) | refine ev_if_ne i_Lw_law_327 (fun hc_327 => ?_) (fun hc_327 => ?_)
    · skip
      refine ev_goto i_Lw_law_342 ?_
      exact kx _ _ _
    · skip
      refine ev_aload_n i_Lw_law_330 rfl ?_
      refine ev_iconstN (v := 0) i_Lw_law_331 (by decide) ?_
      obtain ⟨g, hg, eg⟩ := hx (by omega)
      refine ev_laldN i_Lw_law_332 hg (by decide) (by decide) ?_
      rw [eg]
      refine ev_iload i_Lw_law_333 rfl ?_
      refine ev_i2l i_Lw_law_335 ?_
      refine ev_lif_eq i_Lw_law_336 i_Lw_law_337 (fun hc_337 => ?_) (fun hc_337 => ?_)
      · skip
        refine ev_goto i_Lw_law_342 ?_
        exact kx _ _ _
      · skip
        exact absurd rfl hc_337
  · skip
    exfalso; omega
theorem sim_addProduction {scr : Scr} {l : Launch} {S : Sto} {i : Nat} (hs : scr.1 < 2 ^ 31) (hi : i + 3 < scr.1) (h : StepR scr l M_Lw_addProduction M_Md_addProduction [.int (scr.2 (i + 1)), .int (scr.2 (i + 2))] [.ref 0, .int (scr.2 (i + 1)), .int (scr.2 (i + 2)), .ref 134] S PI) : Sim scr l 345 i S := by
  obtain ⟨k, v, S1, S2, σ', hk, mw, ⟨fs, o1⟩, mm, hJ, hM, hc, x, rfl, hx⟩ := h
  obtain ⟨fs2, o2⟩ := hM.obj14
  refine ⟨σ', S2, hJ, hc, fun d r u6 u7 u8 kx => ?_⟩
  refine ev_aload_n i_Lw_law_345 rfl ?_
  refine ev_aload_n i_Lw_law_346 rfl ?_
  refine ev_iload i_Lw_law_347 rfl ?_
  refine ev_iconstN (v := 1) i_Lw_law_349 (by decide) ?_
  first | refine ev_iaddN i_Lw_law_350 ?_ | refine ev_iadd i_Lw_law_350 ?_
  refine ev_sldN i_Lw_law_351 (by omega) hs ?_
  refine ev_aload_n i_Lw_law_352 rfl ?_
  refine ev_iload i_Lw_law_353 rfl ?_
  refine ev_iconstN (v := 2) i_Lw_law_355 (by decide) ?_
  first | refine ev_iaddN i_Lw_law_356 ?_ | refine ev_iadd i_Lw_law_356 ?_
  refine ev_sldN i_Lw_law_357 (by omega) hs ?_
  refine ev_aload_n i_Lw_law_358 rfl ?_
  refine ev_callSH4 i_Lw_law_359 rfl (Nat.le_of_ble_eq_true rfl) (mw d) ?_
  refine ev_ist_6 i_Lw_law_362 rfl ?_
  refine ev_aload_n i_Lw_law_364 rfl ?_
  refine ev_aload_n i_Lw_law_365 rfl ?_
  refine ev_iload i_Lw_law_366 rfl ?_
  refine ev_iconstN (v := 1) i_Lw_law_368 (by decide) ?_
  first | refine ev_iaddN i_Lw_law_369 ?_ | refine ev_iadd i_Lw_law_369 ?_
  refine ev_sldN i_Lw_law_370 (by omega) hs ?_
  refine ev_aload_n i_Lw_law_371 rfl ?_
  refine ev_iload i_Lw_law_372 rfl ?_
  refine ev_iconstN (v := 2) i_Lw_law_374 (by decide) ?_
  first | refine ev_iaddN i_Lw_law_375 ?_ | refine ev_iadd i_Lw_law_375 ?_
  refine ev_sldN i_Lw_law_376 (by omega) hs ?_
  refine ev_callV2 i_Lw_law_377 rfl o1 (Nat.le_of_ble_eq_true rfl) (mm d) ?_
  refine ev_ist_7 i_Lw_law_380 rfl ?_
  refine ev_aload_n i_Lw_law_382 rfl ?_
  refine ev_callV0 i_Lw_law_383 rfl o2 (Nat.le_of_ble_eq_true rfl) (m_thrown hM) ?_
  refine ev_iload i_Lw_law_386 rfl ?_
  refine ev_icmp_eqN i_Lw_law_388 (by omega) (by omega) (fun hc_388 => ?_) (fun hc_388 => ?_)
  · skip
    refine ev_iload i_Lw_law_393 rfl ?_
    first | refine ev_if_neN i_Lw_law_395 (by omega) (fun hc_395 => ?_) (fun hc_395 => ?_) | refine ev_if_ne i_Lw_law_395 (fun hc_395 => ?_) (fun hc_395 => ?_)
    · skip
      refine ev_goto i_Lw_law_410 ?_
      exact kx _ _ _
    · skip
      refine ev_aload_n i_Lw_law_398 rfl ?_
      refine ev_iconstN (v := 0) i_Lw_law_399 (by decide) ?_
      obtain ⟨g, hg, eg⟩ := hx (by omega)
      refine ev_laldN i_Lw_law_400 hg (by decide) (by decide) ?_
      rw [eg]
      refine ev_iload i_Lw_law_401 rfl ?_
      refine ev_i2l i_Lw_law_403 ?_
      refine ev_lif_eq i_Lw_law_404 i_Lw_law_405 (fun hc_405 => ?_) (fun hc_405 => ?_)
      · skip
        refine ev_goto i_Lw_law_410 ?_
        exact kx _ _ _
      · skip
        exact absurd rfl hc_405
  · skip
    exfalso; omega
theorem sim_productionCount {scr : Scr} {l : Launch} {S : Sto} {i : Nat} (hs : scr.1 < 2 ^ 31) (hi : i + 3 < scr.1) (h : StepR scr l M_Lw_productionCount M_Md_productionCount [.int (scr.2 (i + 1)), .int (scr.2 (i + 2))] [.ref 0, .int (scr.2 (i + 1)), .int (scr.2 (i + 2)), .ref 134] S PI) : Sim scr l 413 i S := by
  obtain ⟨k, v, S1, S2, σ', hk, mw, ⟨fs, o1⟩, mm, hJ, hM, hc, x, rfl, hx⟩ := h
  obtain ⟨fs2, o2⟩ := hM.obj14
  refine ⟨σ', S2, hJ, hc, fun d r u6 u7 u8 kx => ?_⟩
  refine ev_aload_n i_Lw_law_413 rfl ?_
  refine ev_aload_n i_Lw_law_414 rfl ?_
  refine ev_iload i_Lw_law_415 rfl ?_
  refine ev_iconstN (v := 1) i_Lw_law_417 (by decide) ?_
  first | refine ev_iaddN i_Lw_law_418 ?_ | refine ev_iadd i_Lw_law_418 ?_
  refine ev_sldN i_Lw_law_419 (by omega) hs ?_
  refine ev_aload_n i_Lw_law_420 rfl ?_
  refine ev_iload i_Lw_law_421 rfl ?_
  refine ev_iconstN (v := 2) i_Lw_law_423 (by decide) ?_
  first | refine ev_iaddN i_Lw_law_424 ?_ | refine ev_iadd i_Lw_law_424 ?_
  refine ev_sldN i_Lw_law_425 (by omega) hs ?_
  refine ev_aload_n i_Lw_law_426 rfl ?_
  refine ev_callSH4 i_Lw_law_427 rfl (Nat.le_of_ble_eq_true rfl) (mw d) ?_
  refine ev_ist_6 i_Lw_law_430 rfl ?_
  refine ev_aload_n i_Lw_law_432 rfl ?_
  refine ev_aload_n i_Lw_law_433 rfl ?_
  refine ev_iload i_Lw_law_434 rfl ?_
  refine ev_iconstN (v := 1) i_Lw_law_436 (by decide) ?_
  first | refine ev_iaddN i_Lw_law_437 ?_ | refine ev_iadd i_Lw_law_437 ?_
  refine ev_sldN i_Lw_law_438 (by omega) hs ?_
  refine ev_aload_n i_Lw_law_439 rfl ?_
  refine ev_iload i_Lw_law_440 rfl ?_
  refine ev_iconstN (v := 2) i_Lw_law_442 (by decide) ?_
  first | refine ev_iaddN i_Lw_law_443 ?_ | refine ev_iadd i_Lw_law_443 ?_
  refine ev_sldN i_Lw_law_444 (by omega) hs ?_
  refine ev_callV2 i_Lw_law_445 rfl o1 (Nat.le_of_ble_eq_true rfl) (mm d) ?_
  refine ev_ist_7 i_Lw_law_448 rfl ?_
  refine ev_aload_n i_Lw_law_450 rfl ?_
  refine ev_callV0 i_Lw_law_451 rfl o2 (Nat.le_of_ble_eq_true rfl) (m_thrown hM) ?_
  refine ev_iload i_Lw_law_454 rfl ?_
  refine ev_icmp_eqN i_Lw_law_456 (by omega) (by omega) (fun hc_456 => ?_) (fun hc_456 => ?_)
  · skip
    refine ev_iload i_Lw_law_461 rfl ?_
    first | refine ev_if_neN i_Lw_law_463 (by omega) (fun hc_463 => ?_) (fun hc_463 => ?_) | refine ev_if_ne i_Lw_law_463 (fun hc_463 => ?_) (fun hc_463 => ?_)
    · skip
      refine ev_goto i_Lw_law_478 ?_
      exact kx _ _ _
    · skip
      refine ev_aload_n i_Lw_law_466 rfl ?_
      refine ev_iconstN (v := 0) i_Lw_law_467 (by decide) ?_
      obtain ⟨g, hg, eg⟩ := hx (by omega)
      refine ev_laldN i_Lw_law_468 hg (by decide) (by decide) ?_
      rw [eg]
      refine ev_iload i_Lw_law_469 rfl ?_
      refine ev_i2l i_Lw_law_471 ?_
      refine ev_lif_eq i_Lw_law_472 i_Lw_law_473 (fun hc_473 => ?_) (fun hc_473 => ?_)
      · skip
        refine ev_goto i_Lw_law_478 ?_
        exact kx _ _ _
      · skip
        exact absurd rfl hc_473
  · skip
    exfalso; omega
theorem sim_setContextRule {scr : Scr} {l : Launch} {S : Sto} {i : Nat} (hs : scr.1 < 2 ^ 31) (hi : i + 3 < scr.1) (h : StepR scr l M_Lw_setContextRule M_Md_setContextRule [.int (scr.2 (i + 1)), .int (scr.2 (i + 2)), .int (scr.2 (i + 3))] [.ref 0, .int (scr.2 (i + 1)), .int (scr.2 (i + 2)), .int (scr.2 (i + 3)), .ref 134] S PZ) : Sim scr l 481 i S := by
  obtain ⟨k, v, S1, S2, σ', hk, mw, ⟨fs, o1⟩, mm, hJ, hM, hc, z, rfl, hx⟩ := h
  obtain ⟨fs2, o2⟩ := hM.obj14
  refine ⟨σ', S2, hJ, hc, fun d r u6 u7 u8 kx => ?_⟩
  cases z with
  | true =>
    rw [show bI true = 1 from rfl] at mm
    refine ev_aload_n i_Lw_law_481 rfl ?_
    refine ev_aload_n i_Lw_law_482 rfl ?_
    refine ev_iload i_Lw_law_483 rfl ?_
    refine ev_iconstN (v := 1) i_Lw_law_485 (by decide) ?_
    first | refine ev_iaddN i_Lw_law_486 ?_ | refine ev_iadd i_Lw_law_486 ?_
    refine ev_sldN i_Lw_law_487 (by omega) hs ?_
    refine ev_aload_n i_Lw_law_488 rfl ?_
    refine ev_iload i_Lw_law_489 rfl ?_
    refine ev_iconstN (v := 2) i_Lw_law_491 (by decide) ?_
    first | refine ev_iaddN i_Lw_law_492 ?_ | refine ev_iadd i_Lw_law_492 ?_
    refine ev_sldN i_Lw_law_493 (by omega) hs ?_
    refine ev_aload_n i_Lw_law_494 rfl ?_
    refine ev_iload i_Lw_law_495 rfl ?_
    refine ev_iconstN (v := 3) i_Lw_law_497 (by decide) ?_
    first | refine ev_iaddN i_Lw_law_498 ?_ | refine ev_iadd i_Lw_law_498 ?_
    refine ev_sldN i_Lw_law_499 (by omega) hs ?_
    refine ev_aload_n i_Lw_law_500 rfl ?_
    refine ev_callSH5 i_Lw_law_501 rfl (Nat.le_of_ble_eq_true rfl) (mw d) ?_
    refine ev_ist_6 i_Lw_law_504 rfl ?_
    refine ev_aload_n i_Lw_law_506 rfl ?_
    refine ev_aload_n i_Lw_law_507 rfl ?_
    refine ev_iload i_Lw_law_508 rfl ?_
    refine ev_iconstN (v := 1) i_Lw_law_510 (by decide) ?_
    first | refine ev_iaddN i_Lw_law_511 ?_ | refine ev_iadd i_Lw_law_511 ?_
    refine ev_sldN i_Lw_law_512 (by omega) hs ?_
    refine ev_aload_n i_Lw_law_513 rfl ?_
    refine ev_iload i_Lw_law_514 rfl ?_
    refine ev_iconstN (v := 2) i_Lw_law_516 (by decide) ?_
    first | refine ev_iaddN i_Lw_law_517 ?_ | refine ev_iadd i_Lw_law_517 ?_
    refine ev_sldN i_Lw_law_518 (by omega) hs ?_
    refine ev_aload_n i_Lw_law_519 rfl ?_
    refine ev_iload i_Lw_law_520 rfl ?_
    refine ev_iconstN (v := 3) i_Lw_law_522 (by decide) ?_
    first | refine ev_iaddN i_Lw_law_523 ?_ | refine ev_iadd i_Lw_law_523 ?_
    refine ev_sldN i_Lw_law_524 (by omega) hs ?_
    refine ev_callV3 i_Lw_law_525 rfl o1 (Nat.le_of_ble_eq_true rfl) (mm d) ?_
    refine ev_ist_7 i_Lw_law_528 rfl ?_
    refine ev_aload_n i_Lw_law_530 rfl ?_
    refine ev_callV0 i_Lw_law_531 rfl o2 (Nat.le_of_ble_eq_true rfl) (m_thrown hM) ?_
    refine ev_iload i_Lw_law_534 rfl ?_
    refine ev_icmp_eqN i_Lw_law_536 (by omega) (by omega) (fun hc_536 => ?_) (fun hc_536 => ?_)
    · skip
      refine ev_iload i_Lw_law_541 rfl ?_
      first | refine ev_if_neN i_Lw_law_543 (by omega) (fun hc_543 => ?_) (fun hc_543 => ?_) | refine ev_if_ne i_Lw_law_543 (fun hc_543 => ?_) (fun hc_543 => ?_)
      · skip
        refine ev_goto i_Lw_law_565 ?_
        exact kx _ _ _
      · skip
        refine ev_aload_n i_Lw_law_546 rfl ?_
        refine ev_iconstN (v := 0) i_Lw_law_547 (by decide) ?_
        obtain ⟨g, hg, eg⟩ := hx (by omega)
        refine ev_laldN i_Lw_law_548 hg (by decide) (by decide) ?_
        rw [eg]
        refine ev_iload i_Lw_law_549 rfl ?_
        refine ev_if_eqN i_Lw_law_551 (by omega) (fun hc_551 => ?_) (fun hc_551 => ?_)
        · skip
          exfalso; omega
        · skip
          refine ev_lconst (v := 1) i_Lw_law_554 (by decide) ?_
          refine ev_goto i_Lw_law_555 ?_
          refine ev_lif_eq i_Lw_law_559 i_Lw_law_560 (fun hc_560 => ?_) (fun hc_560 => ?_)
          · skip
            refine ev_goto i_Lw_law_565 ?_
            exact kx _ _ _
          · skip
            exact absurd rfl hc_560
    · skip
      exfalso; omega
  | false =>
    rw [show bI false = 0 from rfl] at mm
    refine ev_aload_n i_Lw_law_481 rfl ?_
    refine ev_aload_n i_Lw_law_482 rfl ?_
    refine ev_iload i_Lw_law_483 rfl ?_
    refine ev_iconstN (v := 1) i_Lw_law_485 (by decide) ?_
    first | refine ev_iaddN i_Lw_law_486 ?_ | refine ev_iadd i_Lw_law_486 ?_
    refine ev_sldN i_Lw_law_487 (by omega) hs ?_
    refine ev_aload_n i_Lw_law_488 rfl ?_
    refine ev_iload i_Lw_law_489 rfl ?_
    refine ev_iconstN (v := 2) i_Lw_law_491 (by decide) ?_
    first | refine ev_iaddN i_Lw_law_492 ?_ | refine ev_iadd i_Lw_law_492 ?_
    refine ev_sldN i_Lw_law_493 (by omega) hs ?_
    refine ev_aload_n i_Lw_law_494 rfl ?_
    refine ev_iload i_Lw_law_495 rfl ?_
    refine ev_iconstN (v := 3) i_Lw_law_497 (by decide) ?_
    first | refine ev_iaddN i_Lw_law_498 ?_ | refine ev_iadd i_Lw_law_498 ?_
    refine ev_sldN i_Lw_law_499 (by omega) hs ?_
    refine ev_aload_n i_Lw_law_500 rfl ?_
    refine ev_callSH5 i_Lw_law_501 rfl (Nat.le_of_ble_eq_true rfl) (mw d) ?_
    refine ev_ist_6 i_Lw_law_504 rfl ?_
    refine ev_aload_n i_Lw_law_506 rfl ?_
    refine ev_aload_n i_Lw_law_507 rfl ?_
    refine ev_iload i_Lw_law_508 rfl ?_
    refine ev_iconstN (v := 1) i_Lw_law_510 (by decide) ?_
    first | refine ev_iaddN i_Lw_law_511 ?_ | refine ev_iadd i_Lw_law_511 ?_
    refine ev_sldN i_Lw_law_512 (by omega) hs ?_
    refine ev_aload_n i_Lw_law_513 rfl ?_
    refine ev_iload i_Lw_law_514 rfl ?_
    refine ev_iconstN (v := 2) i_Lw_law_516 (by decide) ?_
    first | refine ev_iaddN i_Lw_law_517 ?_ | refine ev_iadd i_Lw_law_517 ?_
    refine ev_sldN i_Lw_law_518 (by omega) hs ?_
    refine ev_aload_n i_Lw_law_519 rfl ?_
    refine ev_iload i_Lw_law_520 rfl ?_
    refine ev_iconstN (v := 3) i_Lw_law_522 (by decide) ?_
    first | refine ev_iaddN i_Lw_law_523 ?_ | refine ev_iadd i_Lw_law_523 ?_
    refine ev_sldN i_Lw_law_524 (by omega) hs ?_
    refine ev_callV3 i_Lw_law_525 rfl o1 (Nat.le_of_ble_eq_true rfl) (mm d) ?_
    refine ev_ist_7 i_Lw_law_528 rfl ?_
    refine ev_aload_n i_Lw_law_530 rfl ?_
    refine ev_callV0 i_Lw_law_531 rfl o2 (Nat.le_of_ble_eq_true rfl) (m_thrown hM) ?_
    refine ev_iload i_Lw_law_534 rfl ?_
    refine ev_icmp_eqN i_Lw_law_536 (by omega) (by omega) (fun hc_536 => ?_) (fun hc_536 => ?_)
    · skip
      refine ev_iload i_Lw_law_541 rfl ?_
      first | refine ev_if_neN i_Lw_law_543 (by omega) (fun hc_543 => ?_) (fun hc_543 => ?_) | refine ev_if_ne i_Lw_law_543 (fun hc_543 => ?_) (fun hc_543 => ?_)
      · skip
        refine ev_goto i_Lw_law_565 ?_
        exact kx _ _ _
      · skip
        refine ev_aload_n i_Lw_law_546 rfl ?_
        refine ev_iconstN (v := 0) i_Lw_law_547 (by decide) ?_
        obtain ⟨g, hg, eg⟩ := hx (by omega)
        refine ev_laldN i_Lw_law_548 hg (by decide) (by decide) ?_
        rw [eg]
        refine ev_iload i_Lw_law_549 rfl ?_
        refine ev_if_eqN i_Lw_law_551 (by omega) (fun hc_551 => ?_) (fun hc_551 => ?_)
        · skip
          refine ev_lconst (v := 0) i_Lw_law_558 (by decide) ?_
          refine ev_lif_eq i_Lw_law_559 i_Lw_law_560 (fun hc_560 => ?_) (fun hc_560 => ?_)
          · skip
            refine ev_goto i_Lw_law_565 ?_
            exact kx _ _ _
          · skip
            exact absurd rfl hc_560
        · skip
          exfalso; omega
    · skip
      exfalso; omega
theorem sim_removeContextRule {scr : Scr} {l : Launch} {S : Sto} {i : Nat} (hs : scr.1 < 2 ^ 31) (hi : i + 3 < scr.1) (h : StepR scr l M_Lw_removeContextRule M_Md_removeContextRule [.int (scr.2 (i + 1)), .int (scr.2 (i + 2)), .int (scr.2 (i + 3))] [.ref 0, .int (scr.2 (i + 1)), .int (scr.2 (i + 2)), .int (scr.2 (i + 3)), .ref 134] S PZ) : Sim scr l 568 i S := by
  obtain ⟨k, v, S1, S2, σ', hk, mw, ⟨fs, o1⟩, mm, hJ, hM, hc, z, rfl, hx⟩ := h
  obtain ⟨fs2, o2⟩ := hM.obj14
  refine ⟨σ', S2, hJ, hc, fun d r u6 u7 u8 kx => ?_⟩
  cases z with
  | true =>
    rw [show bI true = 1 from rfl] at mm
    refine ev_aload_n i_Lw_law_568 rfl ?_
    refine ev_aload_n i_Lw_law_569 rfl ?_
    refine ev_iload i_Lw_law_570 rfl ?_
    refine ev_iconstN (v := 1) i_Lw_law_572 (by decide) ?_
    first | refine ev_iaddN i_Lw_law_573 ?_ | refine ev_iadd i_Lw_law_573 ?_
    refine ev_sldN i_Lw_law_574 (by omega) hs ?_
    refine ev_aload_n i_Lw_law_575 rfl ?_
    refine ev_iload i_Lw_law_576 rfl ?_
    refine ev_iconstN (v := 2) i_Lw_law_578 (by decide) ?_
    first | refine ev_iaddN i_Lw_law_579 ?_ | refine ev_iadd i_Lw_law_579 ?_
    refine ev_sldN i_Lw_law_580 (by omega) hs ?_
    refine ev_aload_n i_Lw_law_581 rfl ?_
    refine ev_iload i_Lw_law_582 rfl ?_
    refine ev_iconstN (v := 3) i_Lw_law_584 (by decide) ?_
    first | refine ev_iaddN i_Lw_law_585 ?_ | refine ev_iadd i_Lw_law_585 ?_
    refine ev_sldN i_Lw_law_586 (by omega) hs ?_
    refine ev_aload_n i_Lw_law_587 rfl ?_
    refine ev_callSH5 i_Lw_law_588 rfl (Nat.le_of_ble_eq_true rfl) (mw d) ?_
    refine ev_ist_6 i_Lw_law_591 rfl ?_
    refine ev_aload_n i_Lw_law_593 rfl ?_
    refine ev_aload_n i_Lw_law_594 rfl ?_
    refine ev_iload i_Lw_law_595 rfl ?_
    refine ev_iconstN (v := 1) i_Lw_law_597 (by decide) ?_
    first | refine ev_iaddN i_Lw_law_598 ?_ | refine ev_iadd i_Lw_law_598 ?_
    refine ev_sldN i_Lw_law_599 (by omega) hs ?_
    refine ev_aload_n i_Lw_law_600 rfl ?_
    refine ev_iload i_Lw_law_601 rfl ?_
    refine ev_iconstN (v := 2) i_Lw_law_603 (by decide) ?_
    first | refine ev_iaddN i_Lw_law_604 ?_ | refine ev_iadd i_Lw_law_604 ?_
    refine ev_sldN i_Lw_law_605 (by omega) hs ?_
    refine ev_aload_n i_Lw_law_606 rfl ?_
    refine ev_iload i_Lw_law_607 rfl ?_
    refine ev_iconstN (v := 3) i_Lw_law_609 (by decide) ?_
    first | refine ev_iaddN i_Lw_law_610 ?_ | refine ev_iadd i_Lw_law_610 ?_
    refine ev_sldN i_Lw_law_611 (by omega) hs ?_
    refine ev_callV3 i_Lw_law_612 rfl o1 (Nat.le_of_ble_eq_true rfl) (mm d) ?_
    refine ev_ist_7 i_Lw_law_615 rfl ?_
    refine ev_aload_n i_Lw_law_617 rfl ?_
    refine ev_callV0 i_Lw_law_618 rfl o2 (Nat.le_of_ble_eq_true rfl) (m_thrown hM) ?_
    refine ev_iload i_Lw_law_621 rfl ?_
    refine ev_icmp_eqN i_Lw_law_623 (by omega) (by omega) (fun hc_623 => ?_) (fun hc_623 => ?_)
    · skip
      refine ev_iload i_Lw_law_628 rfl ?_
      first | refine ev_if_neN i_Lw_law_630 (by omega) (fun hc_630 => ?_) (fun hc_630 => ?_) | refine ev_if_ne i_Lw_law_630 (fun hc_630 => ?_) (fun hc_630 => ?_)
      · skip
        refine ev_goto i_Lw_law_652 ?_
        exact kx _ _ _
      · skip
        refine ev_aload_n i_Lw_law_633 rfl ?_
        refine ev_iconstN (v := 0) i_Lw_law_634 (by decide) ?_
        obtain ⟨g, hg, eg⟩ := hx (by omega)
        refine ev_laldN i_Lw_law_635 hg (by decide) (by decide) ?_
        rw [eg]
        refine ev_iload i_Lw_law_636 rfl ?_
        refine ev_if_eqN i_Lw_law_638 (by omega) (fun hc_638 => ?_) (fun hc_638 => ?_)
        · skip
          exfalso; omega
        · skip
          refine ev_lconst (v := 1) i_Lw_law_641 (by decide) ?_
          refine ev_goto i_Lw_law_642 ?_
          refine ev_lif_eq i_Lw_law_646 i_Lw_law_647 (fun hc_647 => ?_) (fun hc_647 => ?_)
          · skip
            refine ev_goto i_Lw_law_652 ?_
            exact kx _ _ _
          · skip
            exact absurd rfl hc_647
    · skip
      exfalso; omega
  | false =>
    rw [show bI false = 0 from rfl] at mm
    refine ev_aload_n i_Lw_law_568 rfl ?_
    refine ev_aload_n i_Lw_law_569 rfl ?_
    refine ev_iload i_Lw_law_570 rfl ?_
    refine ev_iconstN (v := 1) i_Lw_law_572 (by decide) ?_
    first | refine ev_iaddN i_Lw_law_573 ?_ | refine ev_iadd i_Lw_law_573 ?_
    refine ev_sldN i_Lw_law_574 (by omega) hs ?_
    refine ev_aload_n i_Lw_law_575 rfl ?_
    refine ev_iload i_Lw_law_576 rfl ?_
    refine ev_iconstN (v := 2) i_Lw_law_578 (by decide) ?_
    first | refine ev_iaddN i_Lw_law_579 ?_ | refine ev_iadd i_Lw_law_579 ?_
    refine ev_sldN i_Lw_law_580 (by omega) hs ?_
    refine ev_aload_n i_Lw_law_581 rfl ?_
    refine ev_iload i_Lw_law_582 rfl ?_
    refine ev_iconstN (v := 3) i_Lw_law_584 (by decide) ?_
    first | refine ev_iaddN i_Lw_law_585 ?_ | refine ev_iadd i_Lw_law_585 ?_
    refine ev_sldN i_Lw_law_586 (by omega) hs ?_
    refine ev_aload_n i_Lw_law_587 rfl ?_
    refine ev_callSH5 i_Lw_law_588 rfl (Nat.le_of_ble_eq_true rfl) (mw d) ?_
    refine ev_ist_6 i_Lw_law_591 rfl ?_
    refine ev_aload_n i_Lw_law_593 rfl ?_
    refine ev_aload_n i_Lw_law_594 rfl ?_
    refine ev_iload i_Lw_law_595 rfl ?_
    refine ev_iconstN (v := 1) i_Lw_law_597 (by decide) ?_
    first | refine ev_iaddN i_Lw_law_598 ?_ | refine ev_iadd i_Lw_law_598 ?_
    refine ev_sldN i_Lw_law_599 (by omega) hs ?_
    refine ev_aload_n i_Lw_law_600 rfl ?_
    refine ev_iload i_Lw_law_601 rfl ?_
    refine ev_iconstN (v := 2) i_Lw_law_603 (by decide) ?_
    first | refine ev_iaddN i_Lw_law_604 ?_ | refine ev_iadd i_Lw_law_604 ?_
    refine ev_sldN i_Lw_law_605 (by omega) hs ?_
    refine ev_aload_n i_Lw_law_606 rfl ?_
    refine ev_iload i_Lw_law_607 rfl ?_
    refine ev_iconstN (v := 3) i_Lw_law_609 (by decide) ?_
    first | refine ev_iaddN i_Lw_law_610 ?_ | refine ev_iadd i_Lw_law_610 ?_
    refine ev_sldN i_Lw_law_611 (by omega) hs ?_
    refine ev_callV3 i_Lw_law_612 rfl o1 (Nat.le_of_ble_eq_true rfl) (mm d) ?_
    refine ev_ist_7 i_Lw_law_615 rfl ?_
    refine ev_aload_n i_Lw_law_617 rfl ?_
    refine ev_callV0 i_Lw_law_618 rfl o2 (Nat.le_of_ble_eq_true rfl) (m_thrown hM) ?_
    refine ev_iload i_Lw_law_621 rfl ?_
    refine ev_icmp_eqN i_Lw_law_623 (by omega) (by omega) (fun hc_623 => ?_) (fun hc_623 => ?_)
    · skip
      refine ev_iload i_Lw_law_628 rfl ?_
      first | refine ev_if_neN i_Lw_law_630 (by omega) (fun hc_630 => ?_) (fun hc_630 => ?_) | refine ev_if_ne i_Lw_law_630 (fun hc_630 => ?_) (fun hc_630 => ?_)
      · skip
        refine ev_goto i_Lw_law_652 ?_
        exact kx _ _ _
      · skip
        refine ev_aload_n i_Lw_law_633 rfl ?_
        refine ev_iconstN (v := 0) i_Lw_law_634 (by decide) ?_
        obtain ⟨g, hg, eg⟩ := hx (by omega)
        refine ev_laldN i_Lw_law_635 hg (by decide) (by decide) ?_
        rw [eg]
        refine ev_iload i_Lw_law_636 rfl ?_
        refine ev_if_eqN i_Lw_law_638 (by omega) (fun hc_638 => ?_) (fun hc_638 => ?_)
        · skip
          refine ev_lconst (v := 0) i_Lw_law_645 (by decide) ?_
          refine ev_lif_eq i_Lw_law_646 i_Lw_law_647 (fun hc_647 => ?_) (fun hc_647 => ?_)
          · skip
            refine ev_goto i_Lw_law_652 ?_
            exact kx _ _ _
          · skip
            exact absurd rfl hc_647
        · skip
          exfalso; omega
    · skip
      exfalso; omega
theorem sim_isDeterministic {scr : Scr} {l : Launch} {S : Sto} {i : Nat} (hs : scr.1 < 2 ^ 31) (hi : i + 3 < scr.1) (h : StepR scr l M_Lw_isDeterministic M_Md_isDeterministic [.int (scr.2 (i + 1))] [.ref 0, .int (scr.2 (i + 1)), .ref 134] S PZ) : Sim scr l 655 i S := by
  obtain ⟨k, v, S1, S2, σ', hk, mw, ⟨fs, o1⟩, mm, hJ, hM, hc, z, rfl, hx⟩ := h
  obtain ⟨fs2, o2⟩ := hM.obj14
  refine ⟨σ', S2, hJ, hc, fun d r u6 u7 u8 kx => ?_⟩
  cases z with
  | true =>
    rw [show bI true = 1 from rfl] at mm
    refine ev_aload_n i_Lw_law_655 rfl ?_
    refine ev_aload_n i_Lw_law_656 rfl ?_
    refine ev_iload i_Lw_law_657 rfl ?_
    refine ev_iconstN (v := 1) i_Lw_law_659 (by decide) ?_
    first | refine ev_iaddN i_Lw_law_660 ?_ | refine ev_iadd i_Lw_law_660 ?_
    refine ev_sldN i_Lw_law_661 (by omega) hs ?_
    refine ev_aload_n i_Lw_law_662 rfl ?_
    refine ev_callSH3 i_Lw_law_663 rfl (Nat.le_of_ble_eq_true rfl) (mw d) ?_
    refine ev_ist_6 i_Lw_law_666 rfl ?_
    refine ev_aload_n i_Lw_law_668 rfl ?_
    refine ev_aload_n i_Lw_law_669 rfl ?_
    refine ev_iload i_Lw_law_670 rfl ?_
    refine ev_iconstN (v := 1) i_Lw_law_672 (by decide) ?_
    first | refine ev_iaddN i_Lw_law_673 ?_ | refine ev_iadd i_Lw_law_673 ?_
    refine ev_sldN i_Lw_law_674 (by omega) hs ?_
    refine ev_callV1 i_Lw_law_675 rfl o1 (Nat.le_of_ble_eq_true rfl) (mm d) ?_
    refine ev_ist_7 i_Lw_law_678 rfl ?_
    refine ev_aload_n i_Lw_law_680 rfl ?_
    refine ev_callV0 i_Lw_law_681 rfl o2 (Nat.le_of_ble_eq_true rfl) (m_thrown hM) ?_
    refine ev_iload i_Lw_law_684 rfl ?_
    refine ev_icmp_eqN i_Lw_law_686 (by omega) (by omega) (fun hc_686 => ?_) (fun hc_686 => ?_)
    · skip
      refine ev_iload i_Lw_law_691 rfl ?_
      first | refine ev_if_neN i_Lw_law_693 (by omega) (fun hc_693 => ?_) (fun hc_693 => ?_) | refine ev_if_ne i_Lw_law_693 (fun hc_693 => ?_) (fun hc_693 => ?_)
      · skip
        refine ev_goto i_Lw_law_715 ?_
        exact kx _ _ _
      · skip
        refine ev_aload_n i_Lw_law_696 rfl ?_
        refine ev_iconstN (v := 0) i_Lw_law_697 (by decide) ?_
        obtain ⟨g, hg, eg⟩ := hx (by omega)
        refine ev_laldN i_Lw_law_698 hg (by decide) (by decide) ?_
        rw [eg]
        refine ev_iload i_Lw_law_699 rfl ?_
        refine ev_if_eqN i_Lw_law_701 (by omega) (fun hc_701 => ?_) (fun hc_701 => ?_)
        · skip
          exfalso; omega
        · skip
          refine ev_lconst (v := 1) i_Lw_law_704 (by decide) ?_
          refine ev_goto i_Lw_law_705 ?_
          refine ev_lif_eq i_Lw_law_709 i_Lw_law_710 (fun hc_710 => ?_) (fun hc_710 => ?_)
          · skip
            refine ev_goto i_Lw_law_715 ?_
            exact kx _ _ _
          · skip
            exact absurd rfl hc_710
    · skip
      exfalso; omega
  | false =>
    rw [show bI false = 0 from rfl] at mm
    refine ev_aload_n i_Lw_law_655 rfl ?_
    refine ev_aload_n i_Lw_law_656 rfl ?_
    refine ev_iload i_Lw_law_657 rfl ?_
    refine ev_iconstN (v := 1) i_Lw_law_659 (by decide) ?_
    first | refine ev_iaddN i_Lw_law_660 ?_ | refine ev_iadd i_Lw_law_660 ?_
    refine ev_sldN i_Lw_law_661 (by omega) hs ?_
    refine ev_aload_n i_Lw_law_662 rfl ?_
    refine ev_callSH3 i_Lw_law_663 rfl (Nat.le_of_ble_eq_true rfl) (mw d) ?_
    refine ev_ist_6 i_Lw_law_666 rfl ?_
    refine ev_aload_n i_Lw_law_668 rfl ?_
    refine ev_aload_n i_Lw_law_669 rfl ?_
    refine ev_iload i_Lw_law_670 rfl ?_
    refine ev_iconstN (v := 1) i_Lw_law_672 (by decide) ?_
    first | refine ev_iaddN i_Lw_law_673 ?_ | refine ev_iadd i_Lw_law_673 ?_
    refine ev_sldN i_Lw_law_674 (by omega) hs ?_
    refine ev_callV1 i_Lw_law_675 rfl o1 (Nat.le_of_ble_eq_true rfl) (mm d) ?_
    refine ev_ist_7 i_Lw_law_678 rfl ?_
    refine ev_aload_n i_Lw_law_680 rfl ?_
    refine ev_callV0 i_Lw_law_681 rfl o2 (Nat.le_of_ble_eq_true rfl) (m_thrown hM) ?_
    refine ev_iload i_Lw_law_684 rfl ?_
    refine ev_icmp_eqN i_Lw_law_686 (by omega) (by omega) (fun hc_686 => ?_) (fun hc_686 => ?_)
    · skip
      refine ev_iload i_Lw_law_691 rfl ?_
      first | refine ev_if_neN i_Lw_law_693 (by omega) (fun hc_693 => ?_) (fun hc_693 => ?_) | refine ev_if_ne i_Lw_law_693 (fun hc_693 => ?_) (fun hc_693 => ?_)
      · skip
        refine ev_goto i_Lw_law_715 ?_
        exact kx _ _ _
      · skip
        refine ev_aload_n i_Lw_law_696 rfl ?_
        refine ev_iconstN (v := 0) i_Lw_law_697 (by decide) ?_
        obtain ⟨g, hg, eg⟩ := hx (by omega)
        refine ev_laldN i_Lw_law_698 hg (by decide) (by decide) ?_
        rw [eg]
        refine ev_iload i_Lw_law_699 rfl ?_
        refine ev_if_eqN i_Lw_law_701 (by omega) (fun hc_701 => ?_) (fun hc_701 => ?_)
        · skip
          refine ev_lconst (v := 0) i_Lw_law_708 (by decide) ?_
          refine ev_lif_eq i_Lw_law_709 i_Lw_law_710 (fun hc_710 => ?_) (fun hc_710 => ?_)
          · skip
            refine ev_goto i_Lw_law_715 ?_
            exact kx _ _ _
          · skip
            exact absurd rfl hc_710
        · skip
          exfalso; omega
    · skip
      exfalso; omega
theorem sim_isPlain {scr : Scr} {l : Launch} {S : Sto} {i : Nat} (hs : scr.1 < 2 ^ 31) (hi : i + 3 < scr.1) (h : StepR scr l M_Lw_isPlain M_Md_isPlain [.int (scr.2 (i + 1))] [.ref 0, .int (scr.2 (i + 1)), .ref 134] S PZ) : Sim scr l 718 i S := by
  obtain ⟨k, v, S1, S2, σ', hk, mw, ⟨fs, o1⟩, mm, hJ, hM, hc, z, rfl, hx⟩ := h
  obtain ⟨fs2, o2⟩ := hM.obj14
  refine ⟨σ', S2, hJ, hc, fun d r u6 u7 u8 kx => ?_⟩
  cases z with
  | true =>
    rw [show bI true = 1 from rfl] at mm
    refine ev_aload_n i_Lw_law_718 rfl ?_
    refine ev_aload_n i_Lw_law_719 rfl ?_
    refine ev_iload i_Lw_law_720 rfl ?_
    refine ev_iconstN (v := 1) i_Lw_law_722 (by decide) ?_
    first | refine ev_iaddN i_Lw_law_723 ?_ | refine ev_iadd i_Lw_law_723 ?_
    refine ev_sldN i_Lw_law_724 (by omega) hs ?_
    refine ev_aload_n i_Lw_law_725 rfl ?_
    refine ev_callSH3 i_Lw_law_726 rfl (Nat.le_of_ble_eq_true rfl) (mw d) ?_
    refine ev_ist_6 i_Lw_law_729 rfl ?_
    refine ev_aload_n i_Lw_law_731 rfl ?_
    refine ev_aload_n i_Lw_law_732 rfl ?_
    refine ev_iload i_Lw_law_733 rfl ?_
    refine ev_iconstN (v := 1) i_Lw_law_735 (by decide) ?_
    first | refine ev_iaddN i_Lw_law_736 ?_ | refine ev_iadd i_Lw_law_736 ?_
    refine ev_sldN i_Lw_law_737 (by omega) hs ?_
    refine ev_callV1 i_Lw_law_738 rfl o1 (Nat.le_of_ble_eq_true rfl) (mm d) ?_
    refine ev_ist_7 i_Lw_law_741 rfl ?_
    refine ev_aload_n i_Lw_law_743 rfl ?_
    refine ev_callV0 i_Lw_law_744 rfl o2 (Nat.le_of_ble_eq_true rfl) (m_thrown hM) ?_
    refine ev_iload i_Lw_law_747 rfl ?_
    refine ev_icmp_eqN i_Lw_law_749 (by omega) (by omega) (fun hc_749 => ?_) (fun hc_749 => ?_)
    · skip
      refine ev_iload i_Lw_law_754 rfl ?_
      first | refine ev_if_neN i_Lw_law_756 (by omega) (fun hc_756 => ?_) (fun hc_756 => ?_) | refine ev_if_ne i_Lw_law_756 (fun hc_756 => ?_) (fun hc_756 => ?_)
      · skip
        refine ev_goto i_Lw_law_778 ?_
        exact kx _ _ _
      · skip
        refine ev_aload_n i_Lw_law_759 rfl ?_
        refine ev_iconstN (v := 0) i_Lw_law_760 (by decide) ?_
        obtain ⟨g, hg, eg⟩ := hx (by omega)
        refine ev_laldN i_Lw_law_761 hg (by decide) (by decide) ?_
        rw [eg]
        refine ev_iload i_Lw_law_762 rfl ?_
        refine ev_if_eqN i_Lw_law_764 (by omega) (fun hc_764 => ?_) (fun hc_764 => ?_)
        · skip
          exfalso; omega
        · skip
          refine ev_lconst (v := 1) i_Lw_law_767 (by decide) ?_
          refine ev_goto i_Lw_law_768 ?_
          refine ev_lif_eq i_Lw_law_772 i_Lw_law_773 (fun hc_773 => ?_) (fun hc_773 => ?_)
          · skip
            refine ev_goto i_Lw_law_778 ?_
            exact kx _ _ _
          · skip
            exact absurd rfl hc_773
    · skip
      exfalso; omega
  | false =>
    rw [show bI false = 0 from rfl] at mm
    refine ev_aload_n i_Lw_law_718 rfl ?_
    refine ev_aload_n i_Lw_law_719 rfl ?_
    refine ev_iload i_Lw_law_720 rfl ?_
    refine ev_iconstN (v := 1) i_Lw_law_722 (by decide) ?_
    first | refine ev_iaddN i_Lw_law_723 ?_ | refine ev_iadd i_Lw_law_723 ?_
    refine ev_sldN i_Lw_law_724 (by omega) hs ?_
    refine ev_aload_n i_Lw_law_725 rfl ?_
    refine ev_callSH3 i_Lw_law_726 rfl (Nat.le_of_ble_eq_true rfl) (mw d) ?_
    refine ev_ist_6 i_Lw_law_729 rfl ?_
    refine ev_aload_n i_Lw_law_731 rfl ?_
    refine ev_aload_n i_Lw_law_732 rfl ?_
    refine ev_iload i_Lw_law_733 rfl ?_
    refine ev_iconstN (v := 1) i_Lw_law_735 (by decide) ?_
    first | refine ev_iaddN i_Lw_law_736 ?_ | refine ev_iadd i_Lw_law_736 ?_
    refine ev_sldN i_Lw_law_737 (by omega) hs ?_
    refine ev_callV1 i_Lw_law_738 rfl o1 (Nat.le_of_ble_eq_true rfl) (mm d) ?_
    refine ev_ist_7 i_Lw_law_741 rfl ?_
    refine ev_aload_n i_Lw_law_743 rfl ?_
    refine ev_callV0 i_Lw_law_744 rfl o2 (Nat.le_of_ble_eq_true rfl) (m_thrown hM) ?_
    refine ev_iload i_Lw_law_747 rfl ?_
    refine ev_icmp_eqN i_Lw_law_749 (by omega) (by omega) (fun hc_749 => ?_) (fun hc_749 => ?_)
    · skip
      refine ev_iload i_Lw_law_754 rfl ?_
      first | refine ev_if_neN i_Lw_law_756 (by omega) (fun hc_756 => ?_) (fun hc_756 => ?_) | refine ev_if_ne i_Lw_law_756 (fun hc_756 => ?_) (fun hc_756 => ?_)
      · skip
        refine ev_goto i_Lw_law_778 ?_
        exact kx _ _ _
      · skip
        refine ev_aload_n i_Lw_law_759 rfl ?_
        refine ev_iconstN (v := 0) i_Lw_law_760 (by decide) ?_
        obtain ⟨g, hg, eg⟩ := hx (by omega)
        refine ev_laldN i_Lw_law_761 hg (by decide) (by decide) ?_
        rw [eg]
        refine ev_iload i_Lw_law_762 rfl ?_
        refine ev_if_eqN i_Lw_law_764 (by omega) (fun hc_764 => ?_) (fun hc_764 => ?_)
        · skip
          refine ev_lconst (v := 0) i_Lw_law_771 (by decide) ?_
          refine ev_lif_eq i_Lw_law_772 i_Lw_law_773 (fun hc_773 => ?_) (fun hc_773 => ?_)
          · skip
            refine ev_goto i_Lw_law_778 ?_
            exact kx _ _ _
          · skip
            exact absurd rfl hc_773
        · skip
          exfalso; omega
    · skip
      exfalso; omega
theorem sim_setWord {scr : Scr} {l : Launch} {S : Sto} {i : Nat} (hs : scr.1 < 2 ^ 31) (hi : i + 3 < scr.1) (h : StepR scr l M_Lw_setWord M_Md_setWord [] [.ref 0, .ref 134] S PI) : Sim scr l 781 i S := by
  obtain ⟨k, v, S1, S2, σ', hk, mw, ⟨fs, o1⟩, mm, hJ, hM, hc, x, rfl, hx⟩ := h
  obtain ⟨fs2, o2⟩ := hM.obj14
  refine ⟨σ', S2, hJ, hc, fun d r u6 u7 u8 kx => ?_⟩
  refine ev_aload_n i_Lw_law_781 rfl ?_
  refine ev_aload_n i_Lw_law_782 rfl ?_
  refine ev_callSH2 i_Lw_law_783 rfl (Nat.le_of_ble_eq_true rfl) (mw d) ?_
  refine ev_ist_6 i_Lw_law_786 rfl ?_
  refine ev_aload_n i_Lw_law_788 rfl ?_
  refine ev_callV0 i_Lw_law_789 rfl o1 (Nat.le_of_ble_eq_true rfl) (mm d) ?_
  refine ev_ist_7 i_Lw_law_792 rfl ?_
  refine ev_aload_n i_Lw_law_794 rfl ?_
  refine ev_callV0 i_Lw_law_795 rfl o2 (Nat.le_of_ble_eq_true rfl) (m_thrown hM) ?_
  refine ev_iload i_Lw_law_798 rfl ?_
  refine ev_icmp_eqN i_Lw_law_800 (by omega) (by omega) (fun hc_800 => ?_) (fun hc_800 => ?_)
  · skip
    refine ev_iload i_Lw_law_805 rfl ?_
    first | refine ev_if_neN i_Lw_law_807 (by omega) (fun hc_807 => ?_) (fun hc_807 => ?_) | refine ev_if_ne i_Lw_law_807 (fun hc_807 => ?_) (fun hc_807 => ?_)
    · skip
      refine ev_goto i_Lw_law_822 ?_
      exact kx _ _ _
    · skip
      refine ev_aload_n i_Lw_law_810 rfl ?_
      refine ev_iconstN (v := 0) i_Lw_law_811 (by decide) ?_
      obtain ⟨g, hg, eg⟩ := hx (by omega)
      refine ev_laldN i_Lw_law_812 hg (by decide) (by decide) ?_
      rw [eg]
      refine ev_iload i_Lw_law_813 rfl ?_
      refine ev_i2l i_Lw_law_815 ?_
      refine ev_lif_eq i_Lw_law_816 i_Lw_law_817 (fun hc_817 => ?_) (fun hc_817 => ?_)
      · skip
        refine ev_goto i_Lw_law_822 ?_
        exact kx _ _ _
      · skip
        exact absurd rfl hc_817
  · skip
    exfalso; omega
theorem sim_setTarget {scr : Scr} {l : Launch} {S : Sto} {i : Nat} (hs : scr.1 < 2 ^ 31) (hi : i + 3 < scr.1) (h : StepR scr l M_Lw_setTarget M_Md_setTarget [] [.ref 0, .ref 134] S PI) : Sim scr l 825 i S := by
  obtain ⟨k, v, S1, S2, σ', hk, mw, ⟨fs, o1⟩, mm, hJ, hM, hc, x, rfl, hx⟩ := h
  obtain ⟨fs2, o2⟩ := hM.obj14
  refine ⟨σ', S2, hJ, hc, fun d r u6 u7 u8 kx => ?_⟩
  refine ev_aload_n i_Lw_law_825 rfl ?_
  refine ev_aload_n i_Lw_law_826 rfl ?_
  refine ev_callSH2 i_Lw_law_827 rfl (Nat.le_of_ble_eq_true rfl) (mw d) ?_
  refine ev_ist_6 i_Lw_law_830 rfl ?_
  refine ev_aload_n i_Lw_law_832 rfl ?_
  refine ev_callV0 i_Lw_law_833 rfl o1 (Nat.le_of_ble_eq_true rfl) (mm d) ?_
  refine ev_ist_7 i_Lw_law_836 rfl ?_
  refine ev_aload_n i_Lw_law_838 rfl ?_
  refine ev_callV0 i_Lw_law_839 rfl o2 (Nat.le_of_ble_eq_true rfl) (m_thrown hM) ?_
  refine ev_iload i_Lw_law_842 rfl ?_
  refine ev_icmp_eqN i_Lw_law_844 (by omega) (by omega) (fun hc_844 => ?_) (fun hc_844 => ?_)
  · skip
    refine ev_iload i_Lw_law_849 rfl ?_
    first | refine ev_if_neN i_Lw_law_851 (by omega) (fun hc_851 => ?_) (fun hc_851 => ?_) | refine ev_if_ne i_Lw_law_851 (fun hc_851 => ?_) (fun hc_851 => ?_)
    · skip
      refine ev_goto i_Lw_law_866 ?_
      exact kx _ _ _
    · skip
      refine ev_aload_n i_Lw_law_854 rfl ?_
      refine ev_iconstN (v := 0) i_Lw_law_855 (by decide) ?_
      obtain ⟨g, hg, eg⟩ := hx (by omega)
      refine ev_laldN i_Lw_law_856 hg (by decide) (by decide) ?_
      rw [eg]
      refine ev_iload i_Lw_law_857 rfl ?_
      refine ev_i2l i_Lw_law_859 ?_
      refine ev_lif_eq i_Lw_law_860 i_Lw_law_861 (fun hc_861 => ?_) (fun hc_861 => ?_)
      · skip
        refine ev_goto i_Lw_law_866 ?_
        exact kx _ _ _
      · skip
        exact absurd rfl hc_861
  · skip
    exfalso; omega
theorem sim_wordLetter {scr : Scr} {l : Launch} {S : Sto} {i : Nat} (hs : scr.1 < 2 ^ 31) (hi : i + 3 < scr.1) (h : StepR scr l M_Lw_wordLetter M_Md_wordLetter [.int (scr.2 (i + 1))] [.ref 0, .int (scr.2 (i + 1)), .ref 134] S PI) : Sim scr l 882 i S := by
  obtain ⟨k, v, S1, S2, σ', hk, mw, ⟨fs, o1⟩, mm, hJ, hM, hc, x, rfl, hx⟩ := h
  obtain ⟨fs2, o2⟩ := hM.obj14
  refine ⟨σ', S2, hJ, hc, fun d r u6 u7 u8 kx => ?_⟩
  refine ev_aload_n i_Lw_law_882 rfl ?_
  refine ev_aload_n i_Lw_law_883 rfl ?_
  refine ev_iload i_Lw_law_884 rfl ?_
  refine ev_iconstN (v := 1) i_Lw_law_886 (by decide) ?_
  first | refine ev_iaddN i_Lw_law_887 ?_ | refine ev_iadd i_Lw_law_887 ?_
  refine ev_sldN i_Lw_law_888 (by omega) hs ?_
  refine ev_aload_n i_Lw_law_889 rfl ?_
  refine ev_callSH3 i_Lw_law_890 rfl (Nat.le_of_ble_eq_true rfl) (mw d) ?_
  refine ev_ist_6 i_Lw_law_893 rfl ?_
  refine ev_aload_n i_Lw_law_895 rfl ?_
  refine ev_aload_n i_Lw_law_896 rfl ?_
  refine ev_iload i_Lw_law_897 rfl ?_
  refine ev_iconstN (v := 1) i_Lw_law_899 (by decide) ?_
  first | refine ev_iaddN i_Lw_law_900 ?_ | refine ev_iadd i_Lw_law_900 ?_
  refine ev_sldN i_Lw_law_901 (by omega) hs ?_
  refine ev_callV1 i_Lw_law_902 rfl o1 (Nat.le_of_ble_eq_true rfl) (mm d) ?_
  refine ev_ist_7 i_Lw_law_905 rfl ?_
  refine ev_aload_n i_Lw_law_907 rfl ?_
  refine ev_callV0 i_Lw_law_908 rfl o2 (Nat.le_of_ble_eq_true rfl) (m_thrown hM) ?_
  refine ev_iload i_Lw_law_911 rfl ?_
  refine ev_icmp_eqN i_Lw_law_913 (by omega) (by omega) (fun hc_913 => ?_) (fun hc_913 => ?_)
  · skip
    refine ev_iload i_Lw_law_918 rfl ?_
    first | refine ev_if_neN i_Lw_law_920 (by omega) (fun hc_920 => ?_) (fun hc_920 => ?_) | refine ev_if_ne i_Lw_law_920 (fun hc_920 => ?_) (fun hc_920 => ?_)
    · skip
      refine ev_goto i_Lw_law_935 ?_
      exact kx _ _ _
    · skip
      refine ev_aload_n i_Lw_law_923 rfl ?_
      refine ev_iconstN (v := 0) i_Lw_law_924 (by decide) ?_
      obtain ⟨g, hg, eg⟩ := hx (by omega)
      refine ev_laldN i_Lw_law_925 hg (by decide) (by decide) ?_
      rw [eg]
      refine ev_iload i_Lw_law_926 rfl ?_
      refine ev_i2l i_Lw_law_928 ?_
      refine ev_lif_eq i_Lw_law_929 i_Lw_law_930 (fun hc_930 => ?_) (fun hc_930 => ?_)
      · skip
        refine ev_goto i_Lw_law_935 ?_
        exact kx _ _ _
      · skip
        exact absurd rfl hc_930
  · skip
    exfalso; omega
theorem sim_step {scr : Scr} {l : Launch} {S : Sto} {i : Nat} (hs : scr.1 < 2 ^ 31) (hi : i + 3 < scr.1) (h : StepR scr l M_Lw_step M_Md_step [.int (scr.2 (i + 1)), .int (scr.2 (i + 2))] [.ref 0, .int (scr.2 (i + 1)), .int (scr.2 (i + 2)), .ref 134] S PI) : Sim scr l 951 i S := by
  obtain ⟨k, v, S1, S2, σ', hk, mw, ⟨fs, o1⟩, mm, hJ, hM, hc, x, rfl, hx⟩ := h
  obtain ⟨fs2, o2⟩ := hM.obj14
  refine ⟨σ', S2, hJ, hc, fun d r u6 u7 u8 kx => ?_⟩
  refine ev_aload_n i_Lw_law_951 rfl ?_
  refine ev_aload_n i_Lw_law_952 rfl ?_
  refine ev_iload i_Lw_law_953 rfl ?_
  refine ev_iconstN (v := 1) i_Lw_law_955 (by decide) ?_
  first | refine ev_iaddN i_Lw_law_956 ?_ | refine ev_iadd i_Lw_law_956 ?_
  refine ev_sldN i_Lw_law_957 (by omega) hs ?_
  refine ev_aload_n i_Lw_law_958 rfl ?_
  refine ev_iload i_Lw_law_959 rfl ?_
  refine ev_iconstN (v := 2) i_Lw_law_961 (by decide) ?_
  first | refine ev_iaddN i_Lw_law_962 ?_ | refine ev_iadd i_Lw_law_962 ?_
  refine ev_sldN i_Lw_law_963 (by omega) hs ?_
  refine ev_aload_n i_Lw_law_964 rfl ?_
  refine ev_callSH4 i_Lw_law_965 rfl (Nat.le_of_ble_eq_true rfl) (mw d) ?_
  refine ev_ist_6 i_Lw_law_968 rfl ?_
  refine ev_aload_n i_Lw_law_970 rfl ?_
  refine ev_aload_n i_Lw_law_971 rfl ?_
  refine ev_iload i_Lw_law_972 rfl ?_
  refine ev_iconstN (v := 1) i_Lw_law_974 (by decide) ?_
  first | refine ev_iaddN i_Lw_law_975 ?_ | refine ev_iadd i_Lw_law_975 ?_
  refine ev_sldN i_Lw_law_976 (by omega) hs ?_
  refine ev_aload_n i_Lw_law_977 rfl ?_
  refine ev_iload i_Lw_law_978 rfl ?_
  refine ev_iconstN (v := 2) i_Lw_law_980 (by decide) ?_
  first | refine ev_iaddN i_Lw_law_981 ?_ | refine ev_iadd i_Lw_law_981 ?_
  refine ev_sldN i_Lw_law_982 (by omega) hs ?_
  refine ev_callV2 i_Lw_law_983 rfl o1 (Nat.le_of_ble_eq_true rfl) (mm d) ?_
  refine ev_ist_7 i_Lw_law_986 rfl ?_
  refine ev_aload_n i_Lw_law_988 rfl ?_
  refine ev_callV0 i_Lw_law_989 rfl o2 (Nat.le_of_ble_eq_true rfl) (m_thrown hM) ?_
  refine ev_iload i_Lw_law_992 rfl ?_
  refine ev_icmp_eqN i_Lw_law_994 (by omega) (by omega) (fun hc_994 => ?_) (fun hc_994 => ?_)
  · skip
    refine ev_iload i_Lw_law_999 rfl ?_
    first | refine ev_if_neN i_Lw_law_1001 (by omega) (fun hc_1001 => ?_) (fun hc_1001 => ?_) | refine ev_if_ne i_Lw_law_1001 (fun hc_1001 => ?_) (fun hc_1001 => ?_)
    · skip
      refine ev_goto i_Lw_law_1016 ?_
      exact kx _ _ _
    · skip
      refine ev_aload_n i_Lw_law_1004 rfl ?_
      refine ev_iconstN (v := 0) i_Lw_law_1005 (by decide) ?_
      obtain ⟨g, hg, eg⟩ := hx (by omega)
      refine ev_laldN i_Lw_law_1006 hg (by decide) (by decide) ?_
      rw [eg]
      refine ev_iload i_Lw_law_1007 rfl ?_
      refine ev_i2l i_Lw_law_1009 ?_
      refine ev_lif_eq i_Lw_law_1010 i_Lw_law_1011 (fun hc_1011 => ?_) (fun hc_1011 => ?_)
      · skip
        refine ev_goto i_Lw_law_1016 ?_
        exact kx _ _ _
      · skip
        exact absurd rfl hc_1011
  · skip
    exfalso; omega
theorem sim_lengthAfter {scr : Scr} {l : Launch} {S : Sto} {i : Nat} (hs : scr.1 < 2 ^ 31) (hi : i + 3 < scr.1) (h : StepR scr l M_Lw_lengthAfter M_Md_lengthAfter [.int (scr.2 (i + 1)), .int (scr.2 (i + 2))] [.ref 0, .int (scr.2 (i + 1)), .int (scr.2 (i + 2)), .ref 134] S PJ) : Sim scr l 1032 i S := by
  obtain ⟨k, v, S1, S2, σ', hk, mw, ⟨fs, o1⟩, mm, hJ, hM, hc, x, rfl, hx⟩ := h
  obtain ⟨fs2, o2⟩ := hM.obj14
  refine ⟨σ', S2, hJ, hc, fun d r u6 u7 u8 kx => ?_⟩
  refine ev_aload_n i_Lw_law_1032 rfl ?_
  refine ev_aload_n i_Lw_law_1033 rfl ?_
  refine ev_iload i_Lw_law_1034 rfl ?_
  refine ev_iconstN (v := 1) i_Lw_law_1036 (by decide) ?_
  first | refine ev_iaddN i_Lw_law_1037 ?_ | refine ev_iadd i_Lw_law_1037 ?_
  refine ev_sldN i_Lw_law_1038 (by omega) hs ?_
  refine ev_aload_n i_Lw_law_1039 rfl ?_
  refine ev_iload i_Lw_law_1040 rfl ?_
  refine ev_iconstN (v := 2) i_Lw_law_1042 (by decide) ?_
  first | refine ev_iaddN i_Lw_law_1043 ?_ | refine ev_iadd i_Lw_law_1043 ?_
  refine ev_sldN i_Lw_law_1044 (by omega) hs ?_
  refine ev_aload_n i_Lw_law_1045 rfl ?_
  refine ev_callSH4 i_Lw_law_1046 rfl (Nat.le_of_ble_eq_true rfl) (mw d) ?_
  refine ev_ist_6 i_Lw_law_1049 rfl ?_
  refine ev_aload_n i_Lw_law_1051 rfl ?_
  refine ev_aload_n i_Lw_law_1052 rfl ?_
  refine ev_iload i_Lw_law_1053 rfl ?_
  refine ev_iconstN (v := 1) i_Lw_law_1055 (by decide) ?_
  first | refine ev_iaddN i_Lw_law_1056 ?_ | refine ev_iadd i_Lw_law_1056 ?_
  refine ev_sldN i_Lw_law_1057 (by omega) hs ?_
  refine ev_aload_n i_Lw_law_1058 rfl ?_
  refine ev_iload i_Lw_law_1059 rfl ?_
  refine ev_iconstN (v := 2) i_Lw_law_1061 (by decide) ?_
  first | refine ev_iaddN i_Lw_law_1062 ?_ | refine ev_iadd i_Lw_law_1062 ?_
  refine ev_sldN i_Lw_law_1063 (by omega) hs ?_
  refine ev_callV2 i_Lw_law_1064 rfl o1 (Nat.le_of_ble_eq_true rfl) (mm d) ?_
  refine ev_lst_7 i_Lw_law_1067 rfl ?_
  refine ev_aload_n i_Lw_law_1069 rfl ?_
  refine ev_callV0 i_Lw_law_1070 rfl o2 (Nat.le_of_ble_eq_true rfl) (m_thrown hM) ?_
  refine ev_iload i_Lw_law_1073 rfl ?_
  refine ev_icmp_eqN i_Lw_law_1075 (by omega) (by omega) (fun hc_1075 => ?_) (fun hc_1075 => ?_)
  · skip
    refine ev_iload i_Lw_law_1080 rfl ?_
    first | refine ev_if_neN i_Lw_law_1082 (by omega) (fun hc_1082 => ?_) (fun hc_1082 => ?_) | refine ev_if_ne i_Lw_law_1082 (fun hc_1082 => ?_) (fun hc_1082 => ?_)
    · skip
      refine ev_goto i_Lw_law_1096 ?_
      exact kx _ _ _
    · skip
      refine ev_aload_n i_Lw_law_1085 rfl ?_
      refine ev_iconstN (v := 0) i_Lw_law_1086 (by decide) ?_
      obtain ⟨g, hg, eg⟩ := hx (by omega)
      refine ev_laldN i_Lw_law_1087 hg (by decide) (by decide) ?_
      rw [eg]
      refine ev_lload i_Lw_law_1088 rfl ?_
      refine ev_lif_eq i_Lw_law_1090 i_Lw_law_1091 (fun hc_1091 => ?_) (fun hc_1091 => ?_)
      · skip
        refine ev_goto i_Lw_law_1096 ?_
        exact kx _ _ _
      · skip
        exact absurd rfl hc_1091
  · skip
    exfalso; omega
theorem sim_countAfter {scr : Scr} {l : Launch} {S : Sto} {i : Nat} (hs : scr.1 < 2 ^ 31) (hi : i + 3 < scr.1) (h : StepR scr l M_Lw_countAfter M_Md_countAfter [.int (scr.2 (i + 1)), .int (scr.2 (i + 2)), .int (scr.2 (i + 3))] [.ref 0, .int (scr.2 (i + 1)), .int (scr.2 (i + 2)), .int (scr.2 (i + 3)), .ref 134] S PJ) : Sim scr l 1099 i S := by
  obtain ⟨k, v, S1, S2, σ', hk, mw, ⟨fs, o1⟩, mm, hJ, hM, hc, x, rfl, hx⟩ := h
  obtain ⟨fs2, o2⟩ := hM.obj14
  refine ⟨σ', S2, hJ, hc, fun d r u6 u7 u8 kx => ?_⟩
  refine ev_aload_n i_Lw_law_1099 rfl ?_
  refine ev_aload_n i_Lw_law_1100 rfl ?_
  refine ev_iload i_Lw_law_1101 rfl ?_
  refine ev_iconstN (v := 1) i_Lw_law_1103 (by decide) ?_
  first | refine ev_iaddN i_Lw_law_1104 ?_ | refine ev_iadd i_Lw_law_1104 ?_
  refine ev_sldN i_Lw_law_1105 (by omega) hs ?_
  refine ev_aload_n i_Lw_law_1106 rfl ?_
  refine ev_iload i_Lw_law_1107 rfl ?_
  refine ev_iconstN (v := 2) i_Lw_law_1109 (by decide) ?_
  first | refine ev_iaddN i_Lw_law_1110 ?_ | refine ev_iadd i_Lw_law_1110 ?_
  refine ev_sldN i_Lw_law_1111 (by omega) hs ?_
  refine ev_aload_n i_Lw_law_1112 rfl ?_
  refine ev_iload i_Lw_law_1113 rfl ?_
  refine ev_iconstN (v := 3) i_Lw_law_1115 (by decide) ?_
  first | refine ev_iaddN i_Lw_law_1116 ?_ | refine ev_iadd i_Lw_law_1116 ?_
  refine ev_sldN i_Lw_law_1117 (by omega) hs ?_
  refine ev_aload_n i_Lw_law_1118 rfl ?_
  refine ev_callSH5 i_Lw_law_1119 rfl (Nat.le_of_ble_eq_true rfl) (mw d) ?_
  refine ev_ist_6 i_Lw_law_1122 rfl ?_
  refine ev_aload_n i_Lw_law_1124 rfl ?_
  refine ev_aload_n i_Lw_law_1125 rfl ?_
  refine ev_iload i_Lw_law_1126 rfl ?_
  refine ev_iconstN (v := 1) i_Lw_law_1128 (by decide) ?_
  first | refine ev_iaddN i_Lw_law_1129 ?_ | refine ev_iadd i_Lw_law_1129 ?_
  refine ev_sldN i_Lw_law_1130 (by omega) hs ?_
  refine ev_aload_n i_Lw_law_1131 rfl ?_
  refine ev_iload i_Lw_law_1132 rfl ?_
  refine ev_iconstN (v := 2) i_Lw_law_1134 (by decide) ?_
  first | refine ev_iaddN i_Lw_law_1135 ?_ | refine ev_iadd i_Lw_law_1135 ?_
  refine ev_sldN i_Lw_law_1136 (by omega) hs ?_
  refine ev_aload_n i_Lw_law_1137 rfl ?_
  refine ev_iload i_Lw_law_1138 rfl ?_
  refine ev_iconstN (v := 3) i_Lw_law_1140 (by decide) ?_
  first | refine ev_iaddN i_Lw_law_1141 ?_ | refine ev_iadd i_Lw_law_1141 ?_
  refine ev_sldN i_Lw_law_1142 (by omega) hs ?_
  refine ev_callV3 i_Lw_law_1143 rfl o1 (Nat.le_of_ble_eq_true rfl) (mm d) ?_
  refine ev_lst_7 i_Lw_law_1146 rfl ?_
  refine ev_aload_n i_Lw_law_1148 rfl ?_
  refine ev_callV0 i_Lw_law_1149 rfl o2 (Nat.le_of_ble_eq_true rfl) (m_thrown hM) ?_
  refine ev_iload i_Lw_law_1152 rfl ?_
  refine ev_icmp_eqN i_Lw_law_1154 (by omega) (by omega) (fun hc_1154 => ?_) (fun hc_1154 => ?_)
  · skip
    refine ev_iload i_Lw_law_1159 rfl ?_
    first | refine ev_if_neN i_Lw_law_1161 (by omega) (fun hc_1161 => ?_) (fun hc_1161 => ?_) | refine ev_if_ne i_Lw_law_1161 (fun hc_1161 => ?_) (fun hc_1161 => ?_)
    · skip
      refine ev_goto i_Lw_law_1175 ?_
      exact kx _ _ _
    · skip
      refine ev_aload_n i_Lw_law_1164 rfl ?_
      refine ev_iconstN (v := 0) i_Lw_law_1165 (by decide) ?_
      obtain ⟨g, hg, eg⟩ := hx (by omega)
      refine ev_laldN i_Lw_law_1166 hg (by decide) (by decide) ?_
      rw [eg]
      refine ev_lload i_Lw_law_1167 rfl ?_
      refine ev_lif_eq i_Lw_law_1169 i_Lw_law_1170 (fun hc_1170 => ?_) (fun hc_1170 => ?_)
      · skip
        refine ev_goto i_Lw_law_1175 ?_
        exact kx _ _ _
      · skip
        exact absurd rfl hc_1170
  · skip
    exfalso; omega
theorem sim_growthKind {scr : Scr} {l : Launch} {S : Sto} {i : Nat} (hs : scr.1 < 2 ^ 31) (hi : i + 3 < scr.1) (h : StepR scr l M_Lw_growthKind M_Md_growthKind [.int (scr.2 (i + 1))] [.ref 0, .int (scr.2 (i + 1)), .ref 134] S PI) : Sim scr l 1178 i S := by
  obtain ⟨k, v, S1, S2, σ', hk, mw, ⟨fs, o1⟩, mm, hJ, hM, hc, x, rfl, hx⟩ := h
  obtain ⟨fs2, o2⟩ := hM.obj14
  refine ⟨σ', S2, hJ, hc, fun d r u6 u7 u8 kx => ?_⟩
  refine ev_aload_n i_Lw_law_1178 rfl ?_
  refine ev_aload_n i_Lw_law_1179 rfl ?_
  refine ev_iload i_Lw_law_1180 rfl ?_
  refine ev_iconstN (v := 1) i_Lw_law_1182 (by decide) ?_
  first | refine ev_iaddN i_Lw_law_1183 ?_ | refine ev_iadd i_Lw_law_1183 ?_
  refine ev_sldN i_Lw_law_1184 (by omega) hs ?_
  refine ev_aload_n i_Lw_law_1185 rfl ?_
  refine ev_callSH3 i_Lw_law_1186 rfl (Nat.le_of_ble_eq_true rfl) (mw d) ?_
  refine ev_ist_6 i_Lw_law_1189 rfl ?_
  refine ev_aload_n i_Lw_law_1191 rfl ?_
  refine ev_aload_n i_Lw_law_1192 rfl ?_
  refine ev_iload i_Lw_law_1193 rfl ?_
  refine ev_iconstN (v := 1) i_Lw_law_1195 (by decide) ?_
  first | refine ev_iaddN i_Lw_law_1196 ?_ | refine ev_iadd i_Lw_law_1196 ?_
  refine ev_sldN i_Lw_law_1197 (by omega) hs ?_
  refine ev_callV1 i_Lw_law_1198 rfl o1 (Nat.le_of_ble_eq_true rfl) (mm d) ?_
  refine ev_ist_7 i_Lw_law_1201 rfl ?_
  refine ev_aload_n i_Lw_law_1203 rfl ?_
  refine ev_callV0 i_Lw_law_1204 rfl o2 (Nat.le_of_ble_eq_true rfl) (m_thrown hM) ?_
  refine ev_iload i_Lw_law_1207 rfl ?_
  refine ev_icmp_eqN i_Lw_law_1209 (by omega) (by omega) (fun hc_1209 => ?_) (fun hc_1209 => ?_)
  · skip
    refine ev_iload i_Lw_law_1214 rfl ?_
    first | refine ev_if_neN i_Lw_law_1216 (by omega) (fun hc_1216 => ?_) (fun hc_1216 => ?_) | refine ev_if_ne i_Lw_law_1216 (fun hc_1216 => ?_) (fun hc_1216 => ?_)
    · skip
      refine ev_goto i_Lw_law_1231 ?_
      exact kx _ _ _
    · skip
      refine ev_aload_n i_Lw_law_1219 rfl ?_
      refine ev_iconstN (v := 0) i_Lw_law_1220 (by decide) ?_
      obtain ⟨g, hg, eg⟩ := hx (by omega)
      refine ev_laldN i_Lw_law_1221 hg (by decide) (by decide) ?_
      rw [eg]
      refine ev_iload i_Lw_law_1222 rfl ?_
      refine ev_i2l i_Lw_law_1224 ?_
      refine ev_lif_eq i_Lw_law_1225 i_Lw_law_1226 (fun hc_1226 => ?_) (fun hc_1226 => ?_)
      · skip
        refine ev_goto i_Lw_law_1231 ?_
        exact kx _ _ _
      · skip
        exact absurd rfl hc_1226
  · skip
    exfalso; omega
theorem sim_growthDegree {scr : Scr} {l : Launch} {S : Sto} {i : Nat} (hs : scr.1 < 2 ^ 31) (hi : i + 3 < scr.1) (h : StepR scr l M_Lw_growthDegree M_Md_growthDegree [.int (scr.2 (i + 1))] [.ref 0, .int (scr.2 (i + 1)), .ref 134] S PI) : Sim scr l 1234 i S := by
  obtain ⟨k, v, S1, S2, σ', hk, mw, ⟨fs, o1⟩, mm, hJ, hM, hc, x, rfl, hx⟩ := h
  obtain ⟨fs2, o2⟩ := hM.obj14
  refine ⟨σ', S2, hJ, hc, fun d r u6 u7 u8 kx => ?_⟩
  refine ev_aload_n i_Lw_law_1234 rfl ?_
  refine ev_aload_n i_Lw_law_1235 rfl ?_
  refine ev_iload i_Lw_law_1236 rfl ?_
  refine ev_iconstN (v := 1) i_Lw_law_1238 (by decide) ?_
  first | refine ev_iaddN i_Lw_law_1239 ?_ | refine ev_iadd i_Lw_law_1239 ?_
  refine ev_sldN i_Lw_law_1240 (by omega) hs ?_
  refine ev_aload_n i_Lw_law_1241 rfl ?_
  refine ev_callSH3 i_Lw_law_1242 rfl (Nat.le_of_ble_eq_true rfl) (mw d) ?_
  refine ev_ist_6 i_Lw_law_1245 rfl ?_
  refine ev_aload_n i_Lw_law_1247 rfl ?_
  refine ev_aload_n i_Lw_law_1248 rfl ?_
  refine ev_iload i_Lw_law_1249 rfl ?_
  refine ev_iconstN (v := 1) i_Lw_law_1251 (by decide) ?_
  first | refine ev_iaddN i_Lw_law_1252 ?_ | refine ev_iadd i_Lw_law_1252 ?_
  refine ev_sldN i_Lw_law_1253 (by omega) hs ?_
  refine ev_callV1 i_Lw_law_1254 rfl o1 (Nat.le_of_ble_eq_true rfl) (mm d) ?_
  refine ev_ist_7 i_Lw_law_1257 rfl ?_
  refine ev_aload_n i_Lw_law_1259 rfl ?_
  refine ev_callV0 i_Lw_law_1260 rfl o2 (Nat.le_of_ble_eq_true rfl) (m_thrown hM) ?_
  refine ev_iload i_Lw_law_1263 rfl ?_
  refine ev_icmp_eqN i_Lw_law_1265 (by omega) (by omega) (fun hc_1265 => ?_) (fun hc_1265 => ?_)
  · skip
    refine ev_iload i_Lw_law_1270 rfl ?_
    first | refine ev_if_neN i_Lw_law_1272 (by omega) (fun hc_1272 => ?_) (fun hc_1272 => ?_) | refine ev_if_ne i_Lw_law_1272 (fun hc_1272 => ?_) (fun hc_1272 => ?_)
    · skip
      refine ev_goto i_Lw_law_1287 ?_
      exact kx _ _ _
    · skip
      refine ev_aload_n i_Lw_law_1275 rfl ?_
      refine ev_iconstN (v := 0) i_Lw_law_1276 (by decide) ?_
      obtain ⟨g, hg, eg⟩ := hx (by omega)
      refine ev_laldN i_Lw_law_1277 hg (by decide) (by decide) ?_
      rw [eg]
      refine ev_iload i_Lw_law_1278 rfl ?_
      refine ev_i2l i_Lw_law_1280 ?_
      refine ev_lif_eq i_Lw_law_1281 i_Lw_law_1282 (fun hc_1282 => ?_) (fun hc_1282 => ?_)
      · skip
        refine ev_goto i_Lw_law_1287 ?_
        exact kx _ _ _
      · skip
        exact absurd rfl hc_1282
  · skip
    exfalso; omega
theorem sim_recurrenceOrder {scr : Scr} {l : Launch} {S : Sto} {i : Nat} (hs : scr.1 < 2 ^ 31) (hi : i + 3 < scr.1) (h : StepR scr l M_Lw_recurrenceOrder M_Md_recurrenceOrder [.int (scr.2 (i + 1))] [.ref 0, .int (scr.2 (i + 1)), .ref 134] S PI) : Sim scr l 1290 i S := by
  obtain ⟨k, v, S1, S2, σ', hk, mw, ⟨fs, o1⟩, mm, hJ, hM, hc, x, rfl, hx⟩ := h
  obtain ⟨fs2, o2⟩ := hM.obj14
  refine ⟨σ', S2, hJ, hc, fun d r u6 u7 u8 kx => ?_⟩
  refine ev_aload_n i_Lw_law_1290 rfl ?_
  refine ev_aload_n i_Lw_law_1291 rfl ?_
  refine ev_iload i_Lw_law_1292 rfl ?_
  refine ev_iconstN (v := 1) i_Lw_law_1294 (by decide) ?_
  first | refine ev_iaddN i_Lw_law_1295 ?_ | refine ev_iadd i_Lw_law_1295 ?_
  refine ev_sldN i_Lw_law_1296 (by omega) hs ?_
  refine ev_aload_n i_Lw_law_1297 rfl ?_
  refine ev_callSH3 i_Lw_law_1298 rfl (Nat.le_of_ble_eq_true rfl) (mw d) ?_
  refine ev_ist_6 i_Lw_law_1301 rfl ?_
  refine ev_aload_n i_Lw_law_1303 rfl ?_
  refine ev_aload_n i_Lw_law_1304 rfl ?_
  refine ev_iload i_Lw_law_1305 rfl ?_
  refine ev_iconstN (v := 1) i_Lw_law_1307 (by decide) ?_
  first | refine ev_iaddN i_Lw_law_1308 ?_ | refine ev_iadd i_Lw_law_1308 ?_
  refine ev_sldN i_Lw_law_1309 (by omega) hs ?_
  refine ev_callV1 i_Lw_law_1310 rfl o1 (Nat.le_of_ble_eq_true rfl) (mm d) ?_
  refine ev_ist_7 i_Lw_law_1313 rfl ?_
  refine ev_aload_n i_Lw_law_1315 rfl ?_
  refine ev_callV0 i_Lw_law_1316 rfl o2 (Nat.le_of_ble_eq_true rfl) (m_thrown hM) ?_
  refine ev_iload i_Lw_law_1319 rfl ?_
  refine ev_icmp_eqN i_Lw_law_1321 (by omega) (by omega) (fun hc_1321 => ?_) (fun hc_1321 => ?_)
  · skip
    refine ev_iload i_Lw_law_1326 rfl ?_
    first | refine ev_if_neN i_Lw_law_1328 (by omega) (fun hc_1328 => ?_) (fun hc_1328 => ?_) | refine ev_if_ne i_Lw_law_1328 (fun hc_1328 => ?_) (fun hc_1328 => ?_)
    · skip
      refine ev_goto i_Lw_law_1343 ?_
      exact kx _ _ _
    · skip
      refine ev_aload_n i_Lw_law_1331 rfl ?_
      refine ev_iconstN (v := 0) i_Lw_law_1332 (by decide) ?_
      obtain ⟨g, hg, eg⟩ := hx (by omega)
      refine ev_laldN i_Lw_law_1333 hg (by decide) (by decide) ?_
      rw [eg]
      refine ev_iload i_Lw_law_1334 rfl ?_
      refine ev_i2l i_Lw_law_1336 ?_
      refine ev_lif_eq i_Lw_law_1337 i_Lw_law_1338 (fun hc_1338 => ?_) (fun hc_1338 => ?_)
      · skip
        refine ev_goto i_Lw_law_1343 ?_
        exact kx _ _ _
      · skip
        exact absurd rfl hc_1338
  · skip
    exfalso; omega
theorem sim_recurrenceCoefficient {scr : Scr} {l : Launch} {S : Sto} {i : Nat} (hs : scr.1 < 2 ^ 31) (hi : i + 3 < scr.1) (h : StepR scr l M_Lw_recurrenceCoefficient M_Md_recurrenceCoefficient [.int (scr.2 (i + 1)), .int (scr.2 (i + 2))] [.ref 0, .int (scr.2 (i + 1)), .int (scr.2 (i + 2)), .ref 134] S PI) : Sim scr l 1346 i S := by
  obtain ⟨k, v, S1, S2, σ', hk, mw, ⟨fs, o1⟩, mm, hJ, hM, hc, x, rfl, hx⟩ := h
  obtain ⟨fs2, o2⟩ := hM.obj14
  refine ⟨σ', S2, hJ, hc, fun d r u6 u7 u8 kx => ?_⟩
  refine ev_aload_n i_Lw_law_1346 rfl ?_
  refine ev_aload_n i_Lw_law_1347 rfl ?_
  refine ev_iload i_Lw_law_1348 rfl ?_
  refine ev_iconstN (v := 1) i_Lw_law_1350 (by decide) ?_
  first | refine ev_iaddN i_Lw_law_1351 ?_ | refine ev_iadd i_Lw_law_1351 ?_
  refine ev_sldN i_Lw_law_1352 (by omega) hs ?_
  refine ev_aload_n i_Lw_law_1353 rfl ?_
  refine ev_iload i_Lw_law_1354 rfl ?_
  refine ev_iconstN (v := 2) i_Lw_law_1356 (by decide) ?_
  first | refine ev_iaddN i_Lw_law_1357 ?_ | refine ev_iadd i_Lw_law_1357 ?_
  refine ev_sldN i_Lw_law_1358 (by omega) hs ?_
  refine ev_aload_n i_Lw_law_1359 rfl ?_
  refine ev_callSH4 i_Lw_law_1360 rfl (Nat.le_of_ble_eq_true rfl) (mw d) ?_
  refine ev_ist_6 i_Lw_law_1363 rfl ?_
  refine ev_aload_n i_Lw_law_1365 rfl ?_
  refine ev_aload_n i_Lw_law_1366 rfl ?_
  refine ev_iload i_Lw_law_1367 rfl ?_
  refine ev_iconstN (v := 1) i_Lw_law_1369 (by decide) ?_
  first | refine ev_iaddN i_Lw_law_1370 ?_ | refine ev_iadd i_Lw_law_1370 ?_
  refine ev_sldN i_Lw_law_1371 (by omega) hs ?_
  refine ev_aload_n i_Lw_law_1372 rfl ?_
  refine ev_iload i_Lw_law_1373 rfl ?_
  refine ev_iconstN (v := 2) i_Lw_law_1375 (by decide) ?_
  first | refine ev_iaddN i_Lw_law_1376 ?_ | refine ev_iadd i_Lw_law_1376 ?_
  refine ev_sldN i_Lw_law_1377 (by omega) hs ?_
  refine ev_callV2 i_Lw_law_1378 rfl o1 (Nat.le_of_ble_eq_true rfl) (mm d) ?_
  refine ev_ist_7 i_Lw_law_1381 rfl ?_
  refine ev_aload_n i_Lw_law_1383 rfl ?_
  refine ev_callV0 i_Lw_law_1384 rfl o2 (Nat.le_of_ble_eq_true rfl) (m_thrown hM) ?_
  refine ev_iload i_Lw_law_1387 rfl ?_
  refine ev_icmp_eqN i_Lw_law_1389 (by omega) (by omega) (fun hc_1389 => ?_) (fun hc_1389 => ?_)
  · skip
    refine ev_iload i_Lw_law_1394 rfl ?_
    first | refine ev_if_neN i_Lw_law_1396 (by omega) (fun hc_1396 => ?_) (fun hc_1396 => ?_) | refine ev_if_ne i_Lw_law_1396 (fun hc_1396 => ?_) (fun hc_1396 => ?_)
    · skip
      refine ev_goto i_Lw_law_1411 ?_
      exact kx _ _ _
    · skip
      refine ev_aload_n i_Lw_law_1399 rfl ?_
      refine ev_iconstN (v := 0) i_Lw_law_1400 (by decide) ?_
      obtain ⟨g, hg, eg⟩ := hx (by omega)
      refine ev_laldN i_Lw_law_1401 hg (by decide) (by decide) ?_
      rw [eg]
      refine ev_iload i_Lw_law_1402 rfl ?_
      refine ev_i2l i_Lw_law_1404 ?_
      refine ev_lif_eq i_Lw_law_1405 i_Lw_law_1406 (fun hc_1406 => ?_) (fun hc_1406 => ?_)
      · skip
        refine ev_goto i_Lw_law_1411 ?_
        exact kx _ _ _
      · skip
        exact absurd rfl hc_1406
  · skip
    exfalso; omega
theorem sim_isAdult {scr : Scr} {l : Launch} {S : Sto} {i : Nat} (hs : scr.1 < 2 ^ 31) (hi : i + 3 < scr.1) (h : StepR scr l M_Lw_isAdult M_Md_isAdult [.int (scr.2 (i + 1))] [.ref 0, .int (scr.2 (i + 1)), .ref 134] S PZ) : Sim scr l 1414 i S := by
  obtain ⟨k, v, S1, S2, σ', hk, mw, ⟨fs, o1⟩, mm, hJ, hM, hc, z, rfl, hx⟩ := h
  obtain ⟨fs2, o2⟩ := hM.obj14
  refine ⟨σ', S2, hJ, hc, fun d r u6 u7 u8 kx => ?_⟩
  cases z with
  | true =>
    rw [show bI true = 1 from rfl] at mm
    refine ev_aload_n i_Lw_law_1414 rfl ?_
    refine ev_aload_n i_Lw_law_1415 rfl ?_
    refine ev_iload i_Lw_law_1416 rfl ?_
    refine ev_iconstN (v := 1) i_Lw_law_1418 (by decide) ?_
    first | refine ev_iaddN i_Lw_law_1419 ?_ | refine ev_iadd i_Lw_law_1419 ?_
    refine ev_sldN i_Lw_law_1420 (by omega) hs ?_
    refine ev_aload_n i_Lw_law_1421 rfl ?_
    refine ev_callSH3 i_Lw_law_1422 rfl (Nat.le_of_ble_eq_true rfl) (mw d) ?_
    refine ev_ist_6 i_Lw_law_1425 rfl ?_
    refine ev_aload_n i_Lw_law_1427 rfl ?_
    refine ev_aload_n i_Lw_law_1428 rfl ?_
    refine ev_iload i_Lw_law_1429 rfl ?_
    refine ev_iconstN (v := 1) i_Lw_law_1431 (by decide) ?_
    first | refine ev_iaddN i_Lw_law_1432 ?_ | refine ev_iadd i_Lw_law_1432 ?_
    refine ev_sldN i_Lw_law_1433 (by omega) hs ?_
    refine ev_callV1 i_Lw_law_1434 rfl o1 (Nat.le_of_ble_eq_true rfl) (mm d) ?_
    refine ev_ist_7 i_Lw_law_1437 rfl ?_
    refine ev_aload_n i_Lw_law_1439 rfl ?_
    refine ev_callV0 i_Lw_law_1440 rfl o2 (Nat.le_of_ble_eq_true rfl) (m_thrown hM) ?_
    refine ev_iload i_Lw_law_1443 rfl ?_
    refine ev_icmp_eqN i_Lw_law_1445 (by omega) (by omega) (fun hc_1445 => ?_) (fun hc_1445 => ?_)
    · skip
      refine ev_iload i_Lw_law_1450 rfl ?_
      first | refine ev_if_neN i_Lw_law_1452 (by omega) (fun hc_1452 => ?_) (fun hc_1452 => ?_) | refine ev_if_ne i_Lw_law_1452 (fun hc_1452 => ?_) (fun hc_1452 => ?_)
      · skip
        refine ev_goto i_Lw_law_1474 ?_
        exact kx _ _ _
      · skip
        refine ev_aload_n i_Lw_law_1455 rfl ?_
        refine ev_iconstN (v := 0) i_Lw_law_1456 (by decide) ?_
        obtain ⟨g, hg, eg⟩ := hx (by omega)
        refine ev_laldN i_Lw_law_1457 hg (by decide) (by decide) ?_
        rw [eg]
        refine ev_iload i_Lw_law_1458 rfl ?_
        refine ev_if_eqN i_Lw_law_1460 (by omega) (fun hc_1460 => ?_) (fun hc_1460 => ?_)
        · skip
          exfalso; omega
        · skip
          refine ev_lconst (v := 1) i_Lw_law_1463 (by decide) ?_
          refine ev_goto i_Lw_law_1464 ?_
          refine ev_lif_eq i_Lw_law_1468 i_Lw_law_1469 (fun hc_1469 => ?_) (fun hc_1469 => ?_)
          · skip
            refine ev_goto i_Lw_law_1474 ?_
            exact kx _ _ _
          · skip
            exact absurd rfl hc_1469
    · skip
      exfalso; omega
  | false =>
    rw [show bI false = 0 from rfl] at mm
    refine ev_aload_n i_Lw_law_1414 rfl ?_
    refine ev_aload_n i_Lw_law_1415 rfl ?_
    refine ev_iload i_Lw_law_1416 rfl ?_
    refine ev_iconstN (v := 1) i_Lw_law_1418 (by decide) ?_
    first | refine ev_iaddN i_Lw_law_1419 ?_ | refine ev_iadd i_Lw_law_1419 ?_
    refine ev_sldN i_Lw_law_1420 (by omega) hs ?_
    refine ev_aload_n i_Lw_law_1421 rfl ?_
    refine ev_callSH3 i_Lw_law_1422 rfl (Nat.le_of_ble_eq_true rfl) (mw d) ?_
    refine ev_ist_6 i_Lw_law_1425 rfl ?_
    refine ev_aload_n i_Lw_law_1427 rfl ?_
    refine ev_aload_n i_Lw_law_1428 rfl ?_
    refine ev_iload i_Lw_law_1429 rfl ?_
    refine ev_iconstN (v := 1) i_Lw_law_1431 (by decide) ?_
    first | refine ev_iaddN i_Lw_law_1432 ?_ | refine ev_iadd i_Lw_law_1432 ?_
    refine ev_sldN i_Lw_law_1433 (by omega) hs ?_
    refine ev_callV1 i_Lw_law_1434 rfl o1 (Nat.le_of_ble_eq_true rfl) (mm d) ?_
    refine ev_ist_7 i_Lw_law_1437 rfl ?_
    refine ev_aload_n i_Lw_law_1439 rfl ?_
    refine ev_callV0 i_Lw_law_1440 rfl o2 (Nat.le_of_ble_eq_true rfl) (m_thrown hM) ?_
    refine ev_iload i_Lw_law_1443 rfl ?_
    refine ev_icmp_eqN i_Lw_law_1445 (by omega) (by omega) (fun hc_1445 => ?_) (fun hc_1445 => ?_)
    · skip
      refine ev_iload i_Lw_law_1450 rfl ?_
      first | refine ev_if_neN i_Lw_law_1452 (by omega) (fun hc_1452 => ?_) (fun hc_1452 => ?_) | refine ev_if_ne i_Lw_law_1452 (fun hc_1452 => ?_) (fun hc_1452 => ?_)
      · skip
        refine ev_goto i_Lw_law_1474 ?_
        exact kx _ _ _
      · skip
        refine ev_aload_n i_Lw_law_1455 rfl ?_
        refine ev_iconstN (v := 0) i_Lw_law_1456 (by decide) ?_
        obtain ⟨g, hg, eg⟩ := hx (by omega)
        refine ev_laldN i_Lw_law_1457 hg (by decide) (by decide) ?_
        rw [eg]
        refine ev_iload i_Lw_law_1458 rfl ?_
        refine ev_if_eqN i_Lw_law_1460 (by omega) (fun hc_1460 => ?_) (fun hc_1460 => ?_)
        · skip
          refine ev_lconst (v := 0) i_Lw_law_1467 (by decide) ?_
          refine ev_lif_eq i_Lw_law_1468 i_Lw_law_1469 (fun hc_1469 => ?_) (fun hc_1469 => ?_)
          · skip
            refine ev_goto i_Lw_law_1474 ?_
            exact kx _ _ _
          · skip
            exact absurd rfl hc_1469
        · skip
          exfalso; omega
    · skip
      exfalso; omega
theorem sim_stepsToAdult {scr : Scr} {l : Launch} {S : Sto} {i : Nat} (hs : scr.1 < 2 ^ 31) (hi : i + 3 < scr.1) (h : StepR scr l M_Lw_stepsToAdult M_Md_stepsToAdult [.int (scr.2 (i + 1)), .int (scr.2 (i + 2))] [.ref 0, .int (scr.2 (i + 1)), .int (scr.2 (i + 2)), .ref 134] S PI) : Sim scr l 1477 i S := by
  obtain ⟨k, v, S1, S2, σ', hk, mw, ⟨fs, o1⟩, mm, hJ, hM, hc, x, rfl, hx⟩ := h
  obtain ⟨fs2, o2⟩ := hM.obj14
  refine ⟨σ', S2, hJ, hc, fun d r u6 u7 u8 kx => ?_⟩
  refine ev_aload_n i_Lw_law_1477 rfl ?_
  refine ev_aload_n i_Lw_law_1478 rfl ?_
  refine ev_iload i_Lw_law_1479 rfl ?_
  refine ev_iconstN (v := 1) i_Lw_law_1481 (by decide) ?_
  first | refine ev_iaddN i_Lw_law_1482 ?_ | refine ev_iadd i_Lw_law_1482 ?_
  refine ev_sldN i_Lw_law_1483 (by omega) hs ?_
  refine ev_aload_n i_Lw_law_1484 rfl ?_
  refine ev_iload i_Lw_law_1485 rfl ?_
  refine ev_iconstN (v := 2) i_Lw_law_1487 (by decide) ?_
  first | refine ev_iaddN i_Lw_law_1488 ?_ | refine ev_iadd i_Lw_law_1488 ?_
  refine ev_sldN i_Lw_law_1489 (by omega) hs ?_
  refine ev_aload_n i_Lw_law_1490 rfl ?_
  refine ev_callSH4 i_Lw_law_1491 rfl (Nat.le_of_ble_eq_true rfl) (mw d) ?_
  refine ev_ist_6 i_Lw_law_1494 rfl ?_
  refine ev_aload_n i_Lw_law_1496 rfl ?_
  refine ev_aload_n i_Lw_law_1497 rfl ?_
  refine ev_iload i_Lw_law_1498 rfl ?_
  refine ev_iconstN (v := 1) i_Lw_law_1500 (by decide) ?_
  first | refine ev_iaddN i_Lw_law_1501 ?_ | refine ev_iadd i_Lw_law_1501 ?_
  refine ev_sldN i_Lw_law_1502 (by omega) hs ?_
  refine ev_aload_n i_Lw_law_1503 rfl ?_
  refine ev_iload i_Lw_law_1504 rfl ?_
  refine ev_iconstN (v := 2) i_Lw_law_1506 (by decide) ?_
  first | refine ev_iaddN i_Lw_law_1507 ?_ | refine ev_iadd i_Lw_law_1507 ?_
  refine ev_sldN i_Lw_law_1508 (by omega) hs ?_
  refine ev_callV2 i_Lw_law_1509 rfl o1 (Nat.le_of_ble_eq_true rfl) (mm d) ?_
  refine ev_ist_7 i_Lw_law_1512 rfl ?_
  refine ev_aload_n i_Lw_law_1514 rfl ?_
  refine ev_callV0 i_Lw_law_1515 rfl o2 (Nat.le_of_ble_eq_true rfl) (m_thrown hM) ?_
  refine ev_iload i_Lw_law_1518 rfl ?_
  refine ev_icmp_eqN i_Lw_law_1520 (by omega) (by omega) (fun hc_1520 => ?_) (fun hc_1520 => ?_)
  · skip
    refine ev_iload i_Lw_law_1525 rfl ?_
    first | refine ev_if_neN i_Lw_law_1527 (by omega) (fun hc_1527 => ?_) (fun hc_1527 => ?_) | refine ev_if_ne i_Lw_law_1527 (fun hc_1527 => ?_) (fun hc_1527 => ?_)
    · skip
      refine ev_goto i_Lw_law_1542 ?_
      exact kx _ _ _
    · skip
      refine ev_aload_n i_Lw_law_1530 rfl ?_
      refine ev_iconstN (v := 0) i_Lw_law_1531 (by decide) ?_
      obtain ⟨g, hg, eg⟩ := hx (by omega)
      refine ev_laldN i_Lw_law_1532 hg (by decide) (by decide) ?_
      rw [eg]
      refine ev_iload i_Lw_law_1533 rfl ?_
      refine ev_i2l i_Lw_law_1535 ?_
      refine ev_lif_eq i_Lw_law_1536 i_Lw_law_1537 (fun hc_1537 => ?_) (fun hc_1537 => ?_)
      · skip
        refine ev_goto i_Lw_law_1542 ?_
        exact kx _ _ _
      · skip
        exact absurd rfl hc_1537
  · skip
    exfalso; omega
theorem sim_adultWords {scr : Scr} {l : Launch} {S : Sto} {i : Nat} (hs : scr.1 < 2 ^ 31) (hi : i + 3 < scr.1) (h : StepR scr l M_Lw_adultWords M_Md_adultWords [.int (scr.2 (i + 1)), .int (scr.2 (i + 2))] [.ref 0, .int (scr.2 (i + 1)), .int (scr.2 (i + 2)), .ref 134] S PI) : Sim scr l 1545 i S := by
  obtain ⟨k, v, S1, S2, σ', hk, mw, ⟨fs, o1⟩, mm, hJ, hM, hc, x, rfl, hx⟩ := h
  obtain ⟨fs2, o2⟩ := hM.obj14
  refine ⟨σ', S2, hJ, hc, fun d r u6 u7 u8 kx => ?_⟩
  refine ev_aload_n i_Lw_law_1545 rfl ?_
  refine ev_aload_n i_Lw_law_1546 rfl ?_
  refine ev_iload i_Lw_law_1547 rfl ?_
  refine ev_iconstN (v := 1) i_Lw_law_1549 (by decide) ?_
  first | refine ev_iaddN i_Lw_law_1550 ?_ | refine ev_iadd i_Lw_law_1550 ?_
  refine ev_sldN i_Lw_law_1551 (by omega) hs ?_
  refine ev_aload_n i_Lw_law_1552 rfl ?_
  refine ev_iload i_Lw_law_1553 rfl ?_
  refine ev_iconstN (v := 2) i_Lw_law_1555 (by decide) ?_
  first | refine ev_iaddN i_Lw_law_1556 ?_ | refine ev_iadd i_Lw_law_1556 ?_
  refine ev_sldN i_Lw_law_1557 (by omega) hs ?_
  refine ev_aload_n i_Lw_law_1558 rfl ?_
  refine ev_callSH4 i_Lw_law_1559 rfl (Nat.le_of_ble_eq_true rfl) (mw d) ?_
  refine ev_ist_6 i_Lw_law_1562 rfl ?_
  refine ev_aload_n i_Lw_law_1564 rfl ?_
  refine ev_aload_n i_Lw_law_1565 rfl ?_
  refine ev_iload i_Lw_law_1566 rfl ?_
  refine ev_iconstN (v := 1) i_Lw_law_1568 (by decide) ?_
  first | refine ev_iaddN i_Lw_law_1569 ?_ | refine ev_iadd i_Lw_law_1569 ?_
  refine ev_sldN i_Lw_law_1570 (by omega) hs ?_
  refine ev_aload_n i_Lw_law_1571 rfl ?_
  refine ev_iload i_Lw_law_1572 rfl ?_
  refine ev_iconstN (v := 2) i_Lw_law_1574 (by decide) ?_
  first | refine ev_iaddN i_Lw_law_1575 ?_ | refine ev_iadd i_Lw_law_1575 ?_
  refine ev_sldN i_Lw_law_1576 (by omega) hs ?_
  refine ev_callV2 i_Lw_law_1577 rfl o1 (Nat.le_of_ble_eq_true rfl) (mm d) ?_
  refine ev_ist_7 i_Lw_law_1580 rfl ?_
  refine ev_aload_n i_Lw_law_1582 rfl ?_
  refine ev_callV0 i_Lw_law_1583 rfl o2 (Nat.le_of_ble_eq_true rfl) (m_thrown hM) ?_
  refine ev_iload i_Lw_law_1586 rfl ?_
  refine ev_icmp_eqN i_Lw_law_1588 (by omega) (by omega) (fun hc_1588 => ?_) (fun hc_1588 => ?_)
  · skip
    refine ev_iload i_Lw_law_1593 rfl ?_
    first | refine ev_if_neN i_Lw_law_1595 (by omega) (fun hc_1595 => ?_) (fun hc_1595 => ?_) | refine ev_if_ne i_Lw_law_1595 (fun hc_1595 => ?_) (fun hc_1595 => ?_)
    · skip
      refine ev_goto i_Lw_law_1610 ?_
      exact kx _ _ _
    · skip
      refine ev_aload_n i_Lw_law_1598 rfl ?_
      refine ev_iconstN (v := 0) i_Lw_law_1599 (by decide) ?_
      obtain ⟨g, hg, eg⟩ := hx (by omega)
      refine ev_laldN i_Lw_law_1600 hg (by decide) (by decide) ?_
      rw [eg]
      refine ev_iload i_Lw_law_1601 rfl ?_
      refine ev_i2l i_Lw_law_1603 ?_
      refine ev_lif_eq i_Lw_law_1604 i_Lw_law_1605 (fun hc_1605 => ?_) (fun hc_1605 => ?_)
      · skip
        refine ev_goto i_Lw_law_1610 ?_
        exact kx _ _ _
      · skip
        exact absurd rfl hc_1605
  · skip
    exfalso; omega
theorem sim_ways {scr : Scr} {l : Launch} {S : Sto} {i : Nat} (hs : scr.1 < 2 ^ 31) (hi : i + 3 < scr.1) (h : StepR scr l M_Lw_ways M_Md_ways [.int (scr.2 (i + 1))] [.ref 0, .int (scr.2 (i + 1)), .ref 134] S PJ) : Sim scr l 1613 i S := by
  obtain ⟨k, v, S1, S2, σ', hk, mw, ⟨fs, o1⟩, mm, hJ, hM, hc, x, rfl, hx⟩ := h
  obtain ⟨fs2, o2⟩ := hM.obj14
  refine ⟨σ', S2, hJ, hc, fun d r u6 u7 u8 kx => ?_⟩
  refine ev_aload_n i_Lw_law_1613 rfl ?_
  refine ev_aload_n i_Lw_law_1614 rfl ?_
  refine ev_iload i_Lw_law_1615 rfl ?_
  refine ev_iconstN (v := 1) i_Lw_law_1617 (by decide) ?_
  first | refine ev_iaddN i_Lw_law_1618 ?_ | refine ev_iadd i_Lw_law_1618 ?_
  refine ev_sldN i_Lw_law_1619 (by omega) hs ?_
  refine ev_aload_n i_Lw_law_1620 rfl ?_
  refine ev_callSH3 i_Lw_law_1621 rfl (Nat.le_of_ble_eq_true rfl) (mw d) ?_
  refine ev_ist_6 i_Lw_law_1624 rfl ?_
  refine ev_aload_n i_Lw_law_1626 rfl ?_
  refine ev_aload_n i_Lw_law_1627 rfl ?_
  refine ev_iload i_Lw_law_1628 rfl ?_
  refine ev_iconstN (v := 1) i_Lw_law_1630 (by decide) ?_
  first | refine ev_iaddN i_Lw_law_1631 ?_ | refine ev_iadd i_Lw_law_1631 ?_
  refine ev_sldN i_Lw_law_1632 (by omega) hs ?_
  refine ev_callV1 i_Lw_law_1633 rfl o1 (Nat.le_of_ble_eq_true rfl) (mm d) ?_
  refine ev_lst_7 i_Lw_law_1636 rfl ?_
  refine ev_aload_n i_Lw_law_1638 rfl ?_
  refine ev_callV0 i_Lw_law_1639 rfl o2 (Nat.le_of_ble_eq_true rfl) (m_thrown hM) ?_
  refine ev_iload i_Lw_law_1642 rfl ?_
  refine ev_icmp_eqN i_Lw_law_1644 (by omega) (by omega) (fun hc_1644 => ?_) (fun hc_1644 => ?_)
  · skip
    refine ev_iload i_Lw_law_1649 rfl ?_
    first | refine ev_if_neN i_Lw_law_1651 (by omega) (fun hc_1651 => ?_) (fun hc_1651 => ?_) | refine ev_if_ne i_Lw_law_1651 (fun hc_1651 => ?_) (fun hc_1651 => ?_)
    · skip
      refine ev_goto i_Lw_law_1665 ?_
      exact kx _ _ _
    · skip
      refine ev_aload_n i_Lw_law_1654 rfl ?_
      refine ev_iconstN (v := 0) i_Lw_law_1655 (by decide) ?_
      obtain ⟨g, hg, eg⟩ := hx (by omega)
      refine ev_laldN i_Lw_law_1656 hg (by decide) (by decide) ?_
      rw [eg]
      refine ev_lload i_Lw_law_1657 rfl ?_
      refine ev_lif_eq i_Lw_law_1659 i_Lw_law_1660 (fun hc_1660 => ?_) (fun hc_1660 => ?_)
      · skip
        refine ev_goto i_Lw_law_1665 ?_
        exact kx _ _ _
      · skip
        exact absurd rfl hc_1660
  · skip
    exfalso; omega
theorem sim_sequenceCount {scr : Scr} {l : Launch} {S : Sto} {i : Nat} (hs : scr.1 < 2 ^ 31) (hi : i + 3 < scr.1) (h : StepR scr l M_Lw_sequenceCount M_Md_sequenceCount [.int (scr.2 (i + 1))] [.ref 0, .int (scr.2 (i + 1)), .ref 134] S PI) : Sim scr l 1668 i S := by
  obtain ⟨k, v, S1, S2, σ', hk, mw, ⟨fs, o1⟩, mm, hJ, hM, hc, x, rfl, hx⟩ := h
  obtain ⟨fs2, o2⟩ := hM.obj14
  refine ⟨σ', S2, hJ, hc, fun d r u6 u7 u8 kx => ?_⟩
  refine ev_aload_n i_Lw_law_1668 rfl ?_
  refine ev_aload_n i_Lw_law_1669 rfl ?_
  refine ev_iload i_Lw_law_1670 rfl ?_
  refine ev_iconstN (v := 1) i_Lw_law_1672 (by decide) ?_
  first | refine ev_iaddN i_Lw_law_1673 ?_ | refine ev_iadd i_Lw_law_1673 ?_
  refine ev_sldN i_Lw_law_1674 (by omega) hs ?_
  refine ev_aload_n i_Lw_law_1675 rfl ?_
  refine ev_callSH3 i_Lw_law_1676 rfl (Nat.le_of_ble_eq_true rfl) (mw d) ?_
  refine ev_ist_6 i_Lw_law_1679 rfl ?_
  refine ev_aload_n i_Lw_law_1681 rfl ?_
  refine ev_aload_n i_Lw_law_1682 rfl ?_
  refine ev_iload i_Lw_law_1683 rfl ?_
  refine ev_iconstN (v := 1) i_Lw_law_1685 (by decide) ?_
  first | refine ev_iaddN i_Lw_law_1686 ?_ | refine ev_iadd i_Lw_law_1686 ?_
  refine ev_sldN i_Lw_law_1687 (by omega) hs ?_
  refine ev_callV1 i_Lw_law_1688 rfl o1 (Nat.le_of_ble_eq_true rfl) (mm d) ?_
  refine ev_ist_7 i_Lw_law_1691 rfl ?_
  refine ev_aload_n i_Lw_law_1693 rfl ?_
  refine ev_callV0 i_Lw_law_1694 rfl o2 (Nat.le_of_ble_eq_true rfl) (m_thrown hM) ?_
  refine ev_iload i_Lw_law_1697 rfl ?_
  refine ev_icmp_eqN i_Lw_law_1699 (by omega) (by omega) (fun hc_1699 => ?_) (fun hc_1699 => ?_)
  · skip
    refine ev_iload i_Lw_law_1704 rfl ?_
    first | refine ev_if_neN i_Lw_law_1706 (by omega) (fun hc_1706 => ?_) (fun hc_1706 => ?_) | refine ev_if_ne i_Lw_law_1706 (fun hc_1706 => ?_) (fun hc_1706 => ?_)
    · skip
      refine ev_goto i_Lw_law_1721 ?_
      exact kx _ _ _
    · skip
      refine ev_aload_n i_Lw_law_1709 rfl ?_
      refine ev_iconstN (v := 0) i_Lw_law_1710 (by decide) ?_
      obtain ⟨g, hg, eg⟩ := hx (by omega)
      refine ev_laldN i_Lw_law_1711 hg (by decide) (by decide) ?_
      rw [eg]
      refine ev_iload i_Lw_law_1712 rfl ?_
      refine ev_i2l i_Lw_law_1714 ?_
      refine ev_lif_eq i_Lw_law_1715 i_Lw_law_1716 (fun hc_1716 => ?_) (fun hc_1716 => ?_)
      · skip
        refine ev_goto i_Lw_law_1721 ?_
        exact kx _ _ _
      · skip
        exact absurd rfl hc_1716
  · skip
    exfalso; omega
theorem sim_firstSequence {scr : Scr} {l : Launch} {S : Sto} {i : Nat} (hs : scr.1 < 2 ^ 31) (hi : i + 3 < scr.1) (h : StepR scr l M_Lw_firstSequence M_Md_firstSequence [.int (scr.2 (i + 1))] [.ref 0, .int (scr.2 (i + 1)), .ref 134] S PI) : Sim scr l 1724 i S := by
  obtain ⟨k, v, S1, S2, σ', hk, mw, ⟨fs, o1⟩, mm, hJ, hM, hc, x, rfl, hx⟩ := h
  obtain ⟨fs2, o2⟩ := hM.obj14
  refine ⟨σ', S2, hJ, hc, fun d r u6 u7 u8 kx => ?_⟩
  refine ev_aload_n i_Lw_law_1724 rfl ?_
  refine ev_aload_n i_Lw_law_1725 rfl ?_
  refine ev_iload i_Lw_law_1726 rfl ?_
  refine ev_iconstN (v := 1) i_Lw_law_1728 (by decide) ?_
  first | refine ev_iaddN i_Lw_law_1729 ?_ | refine ev_iadd i_Lw_law_1729 ?_
  refine ev_sldN i_Lw_law_1730 (by omega) hs ?_
  refine ev_aload_n i_Lw_law_1731 rfl ?_
  refine ev_callSH3 i_Lw_law_1732 rfl (Nat.le_of_ble_eq_true rfl) (mw d) ?_
  refine ev_ist_6 i_Lw_law_1735 rfl ?_
  refine ev_aload_n i_Lw_law_1737 rfl ?_
  refine ev_aload_n i_Lw_law_1738 rfl ?_
  refine ev_iload i_Lw_law_1739 rfl ?_
  refine ev_iconstN (v := 1) i_Lw_law_1741 (by decide) ?_
  first | refine ev_iaddN i_Lw_law_1742 ?_ | refine ev_iadd i_Lw_law_1742 ?_
  refine ev_sldN i_Lw_law_1743 (by omega) hs ?_
  refine ev_callV1 i_Lw_law_1744 rfl o1 (Nat.le_of_ble_eq_true rfl) (mm d) ?_
  refine ev_ist_7 i_Lw_law_1747 rfl ?_
  refine ev_aload_n i_Lw_law_1749 rfl ?_
  refine ev_callV0 i_Lw_law_1750 rfl o2 (Nat.le_of_ble_eq_true rfl) (m_thrown hM) ?_
  refine ev_iload i_Lw_law_1753 rfl ?_
  refine ev_icmp_eqN i_Lw_law_1755 (by omega) (by omega) (fun hc_1755 => ?_) (fun hc_1755 => ?_)
  · skip
    refine ev_iload i_Lw_law_1760 rfl ?_
    first | refine ev_if_neN i_Lw_law_1762 (by omega) (fun hc_1762 => ?_) (fun hc_1762 => ?_) | refine ev_if_ne i_Lw_law_1762 (fun hc_1762 => ?_) (fun hc_1762 => ?_)
    · skip
      refine ev_goto i_Lw_law_1777 ?_
      exact kx _ _ _
    · skip
      refine ev_aload_n i_Lw_law_1765 rfl ?_
      refine ev_iconstN (v := 0) i_Lw_law_1766 (by decide) ?_
      obtain ⟨g, hg, eg⟩ := hx (by omega)
      refine ev_laldN i_Lw_law_1767 hg (by decide) (by decide) ?_
      rw [eg]
      refine ev_iload i_Lw_law_1768 rfl ?_
      refine ev_i2l i_Lw_law_1770 ?_
      refine ev_lif_eq i_Lw_law_1771 i_Lw_law_1772 (fun hc_1772 => ?_) (fun hc_1772 => ?_)
      · skip
        refine ev_goto i_Lw_law_1777 ?_
        exact kx _ _ _
      · skip
        exact absurd rfl hc_1772
  · skip
    exfalso; omega
theorem sim_setCommand {scr : Scr} {l : Launch} {S : Sto} {i : Nat} (hs : scr.1 < 2 ^ 31) (hi : i + 3 < scr.1) (h : StepR scr l M_Lw_setCommand M_Md_setCommand [.int (scr.2 (i + 1))] [.ref 0, .int (scr.2 (i + 1))] S PV) : Sim scr l 1780 i S := by
  obtain ⟨k, v, S1, S2, σ', hk, mw, ⟨fs, o1⟩, mm, hJ, hM, hc, hv⟩ := h
  have hv : v = none := hv
  subst hv
  obtain ⟨fs2, o2⟩ := hM.obj14
  refine ⟨σ', S2, hJ, hc, fun d r u6 u7 u8 kx => ?_⟩
  refine ev_aload_n i_Lw_law_1780 rfl ?_
  refine ev_aload_n i_Lw_law_1781 rfl ?_
  refine ev_iload i_Lw_law_1782 rfl ?_
  refine ev_iconstN (v := 1) i_Lw_law_1784 (by decide) ?_
  first | refine ev_iaddN i_Lw_law_1785 ?_ | refine ev_iadd i_Lw_law_1785 ?_
  refine ev_sldN i_Lw_law_1786 (by omega) hs ?_
  refine ev_callSH2 i_Lw_law_1787 rfl (Nat.le_of_ble_eq_true rfl) (mw d) ?_
  refine ev_ist_6 i_Lw_law_1790 rfl ?_
  refine ev_aload_n i_Lw_law_1792 rfl ?_
  refine ev_aload_n i_Lw_law_1793 rfl ?_
  refine ev_iload i_Lw_law_1794 rfl ?_
  refine ev_iconstN (v := 1) i_Lw_law_1796 (by decide) ?_
  first | refine ev_iaddN i_Lw_law_1797 ?_ | refine ev_iadd i_Lw_law_1797 ?_
  refine ev_sldN i_Lw_law_1798 (by omega) hs ?_
  refine ev_callV1 i_Lw_law_1799 rfl o1 (Nat.le_of_ble_eq_true rfl) (mm d) ?_
  refine ev_aload_n i_Lw_law_1802 rfl ?_
  refine ev_callV0 i_Lw_law_1803 rfl o2 (Nat.le_of_ble_eq_true rfl) (m_thrown hM) ?_
  refine ev_iload i_Lw_law_1806 rfl ?_
  refine ev_icmp_eqN i_Lw_law_1808 (by omega) (by omega) (fun hc_1808 => ?_) (fun hc_1808 => ?_)
  · skip
    refine ev_goto i_Lw_law_1813 ?_
    exact kx _ _ _
  · skip
    exfalso; omega
theorem sim_segmentCount {scr : Scr} {l : Launch} {S : Sto} {i : Nat} (hs : scr.1 < 2 ^ 31) (hi : i + 3 < scr.1) (h : StepR scr l M_Lw_segmentCount M_Md_segmentCount [] [.ref 0, .ref 134] S PI) : Sim scr l 1816 i S := by
  obtain ⟨k, v, S1, S2, σ', hk, mw, ⟨fs, o1⟩, mm, hJ, hM, hc, x, rfl, hx⟩ := h
  obtain ⟨fs2, o2⟩ := hM.obj14
  refine ⟨σ', S2, hJ, hc, fun d r u6 u7 u8 kx => ?_⟩
  refine ev_aload_n i_Lw_law_1816 rfl ?_
  refine ev_aload_n i_Lw_law_1817 rfl ?_
  refine ev_callSH2 i_Lw_law_1818 rfl (Nat.le_of_ble_eq_true rfl) (mw d) ?_
  refine ev_ist_6 i_Lw_law_1821 rfl ?_
  refine ev_aload_n i_Lw_law_1823 rfl ?_
  refine ev_callV0 i_Lw_law_1824 rfl o1 (Nat.le_of_ble_eq_true rfl) (mm d) ?_
  refine ev_ist_7 i_Lw_law_1827 rfl ?_
  refine ev_aload_n i_Lw_law_1829 rfl ?_
  refine ev_callV0 i_Lw_law_1830 rfl o2 (Nat.le_of_ble_eq_true rfl) (m_thrown hM) ?_
  refine ev_iload i_Lw_law_1833 rfl ?_
  refine ev_icmp_eqN i_Lw_law_1835 (by omega) (by omega) (fun hc_1835 => ?_) (fun hc_1835 => ?_)
  · skip
    refine ev_iload i_Lw_law_1840 rfl ?_
    first | refine ev_if_neN i_Lw_law_1842 (by omega) (fun hc_1842 => ?_) (fun hc_1842 => ?_) | refine ev_if_ne i_Lw_law_1842 (fun hc_1842 => ?_) (fun hc_1842 => ?_)
    · skip
      refine ev_goto i_Lw_law_1857 ?_
      exact kx _ _ _
    · skip
      refine ev_aload_n i_Lw_law_1845 rfl ?_
      refine ev_iconstN (v := 0) i_Lw_law_1846 (by decide) ?_
      obtain ⟨g, hg, eg⟩ := hx (by omega)
      refine ev_laldN i_Lw_law_1847 hg (by decide) (by decide) ?_
      rw [eg]
      refine ev_iload i_Lw_law_1848 rfl ?_
      refine ev_i2l i_Lw_law_1850 ?_
      refine ev_lif_eq i_Lw_law_1851 i_Lw_law_1852 (fun hc_1852 => ?_) (fun hc_1852 => ?_)
      · skip
        refine ev_goto i_Lw_law_1857 ?_
        exact kx _ _ _
      · skip
        exact absurd rfl hc_1852
  · skip
    exfalso; omega
theorem sim_inkLength {scr : Scr} {l : Launch} {S : Sto} {i : Nat} (hs : scr.1 < 2 ^ 31) (hi : i + 3 < scr.1) (h : StepR scr l M_Lw_inkLength M_Md_inkLength [] [.ref 0, .ref 135] S PD) : Sim scr l 1860 i S := by
  obtain ⟨k, v, S1, S2, σ', hk, mw, ⟨fs, o1⟩, mm, hJ, hM, hc, x, rfl, g, hg, hx⟩ := h
  obtain ⟨fs2, o2⟩ := hM.obj14
  refine ⟨σ', S2, hJ, hc, fun d r u6 u7 u8 kx => ?_⟩
  refine ev_aload_n i_Lw_law_1860 rfl ?_
  refine ev_aload i_Lw_law_1861 rfl ?_
  refine ev_callSH2 i_Lw_law_1863 rfl (Nat.le_of_ble_eq_true rfl) (mw d) ?_
  refine ev_ist_6 i_Lw_law_1866 rfl ?_
  refine ev_aload_n i_Lw_law_1868 rfl ?_
  refine ev_callV0 i_Lw_law_1869 rfl o1 (Nat.le_of_ble_eq_true rfl) (mm d) ?_
  refine ev_dst_7 i_Lw_law_1872 rfl ?_
  refine ev_aload_n i_Lw_law_1874 rfl ?_
  refine ev_callV0 i_Lw_law_1875 rfl o2 (Nat.le_of_ble_eq_true rfl) (m_thrown hM) ?_
  refine ev_iload i_Lw_law_1878 rfl ?_
  refine ev_icmp_eqN i_Lw_law_1880 (by omega) (by omega) (fun hc_1880 => ?_) (fun hc_1880 => ?_)
  · skip
    refine ev_iload i_Lw_law_1885 rfl ?_
    first | refine ev_if_neN i_Lw_law_1887 (by omega) (fun hc_1887 => ?_) (fun hc_1887 => ?_) | refine ev_if_ne i_Lw_law_1887 (fun hc_1887 => ?_) (fun hc_1887 => ?_)
    · skip
      refine ev_goto i_Lw_law_1922 ?_
      exact kx _ _ _
    · skip
      refine ev_aload i_Lw_law_1890 rfl ?_
      refine ev_iconstN (v := 0) i_Lw_law_1892 (by decide) ?_
      obtain ⟨n, dg, dx⟩ := hx (by omega)
      refine ev_daldN i_Lw_law_1893 hg (by decide) (by decide) ?_
      refine ev_dload i_Lw_law_1894 rfl ?_
      refine ev_deqr i_Lw_law_1896 i_Lw_law_1897 (fun q => ?_) (fun q => absurd ((deq_iff dg dx).mpr rfl) (by rw [q]; decide))
      refine ev_goto i_Lw_law_1922 ?_
      exact kx _ _ _
  · skip
    exfalso; omega
theorem sim_extent {scr : Scr} {l : Launch} {S : Sto} {i : Nat} (hs : scr.1 < 2 ^ 31) (hi : i + 3 < scr.1) (h : StepR scr l M_Lw_extent M_Md_extent [.int (scr.2 (i + 1))] [.ref 0, .int (scr.2 (i + 1)), .ref 135] S PD) : Sim scr l 1925 i S := by
  obtain ⟨k, v, S1, S2, σ', hk, mw, ⟨fs, o1⟩, mm, hJ, hM, hc, x, rfl, g, hg, hx⟩ := h
  obtain ⟨fs2, o2⟩ := hM.obj14
  refine ⟨σ', S2, hJ, hc, fun d r u6 u7 u8 kx => ?_⟩
  refine ev_aload_n i_Lw_law_1925 rfl ?_
  refine ev_aload_n i_Lw_law_1926 rfl ?_
  refine ev_iload i_Lw_law_1927 rfl ?_
  refine ev_iconstN (v := 1) i_Lw_law_1929 (by decide) ?_
  first | refine ev_iaddN i_Lw_law_1930 ?_ | refine ev_iadd i_Lw_law_1930 ?_
  refine ev_sldN i_Lw_law_1931 (by omega) hs ?_
  refine ev_aload i_Lw_law_1932 rfl ?_
  refine ev_callSH3 i_Lw_law_1934 rfl (Nat.le_of_ble_eq_true rfl) (mw d) ?_
  refine ev_ist_6 i_Lw_law_1937 rfl ?_
  refine ev_aload_n i_Lw_law_1939 rfl ?_
  refine ev_aload_n i_Lw_law_1940 rfl ?_
  refine ev_iload i_Lw_law_1941 rfl ?_
  refine ev_iconstN (v := 1) i_Lw_law_1943 (by decide) ?_
  first | refine ev_iaddN i_Lw_law_1944 ?_ | refine ev_iadd i_Lw_law_1944 ?_
  refine ev_sldN i_Lw_law_1945 (by omega) hs ?_
  refine ev_callV1 i_Lw_law_1946 rfl o1 (Nat.le_of_ble_eq_true rfl) (mm d) ?_
  refine ev_dst_7 i_Lw_law_1949 rfl ?_
  refine ev_aload_n i_Lw_law_1951 rfl ?_
  refine ev_callV0 i_Lw_law_1952 rfl o2 (Nat.le_of_ble_eq_true rfl) (m_thrown hM) ?_
  refine ev_iload i_Lw_law_1955 rfl ?_
  refine ev_icmp_eqN i_Lw_law_1957 (by omega) (by omega) (fun hc_1957 => ?_) (fun hc_1957 => ?_)
  · skip
    refine ev_iload i_Lw_law_1962 rfl ?_
    first | refine ev_if_neN i_Lw_law_1964 (by omega) (fun hc_1964 => ?_) (fun hc_1964 => ?_) | refine ev_if_ne i_Lw_law_1964 (fun hc_1964 => ?_) (fun hc_1964 => ?_)
    · skip
      refine ev_goto i_Lw_law_1999 ?_
      exact kx _ _ _
    · skip
      refine ev_aload i_Lw_law_1967 rfl ?_
      refine ev_iconstN (v := 0) i_Lw_law_1969 (by decide) ?_
      obtain ⟨n, dg, dx⟩ := hx (by omega)
      refine ev_daldN i_Lw_law_1970 hg (by decide) (by decide) ?_
      refine ev_dload i_Lw_law_1971 rfl ?_
      refine ev_deqr i_Lw_law_1973 i_Lw_law_1974 (fun q => ?_) (fun q => absurd ((deq_iff dg dx).mpr rfl) (by rw [q]; decide))
      refine ev_goto i_Lw_law_1999 ?_
      exact kx _ _ _
  · skip
    exfalso; omega
theorem sim_openDepth {scr : Scr} {l : Launch} {S : Sto} {i : Nat} (hs : scr.1 < 2 ^ 31) (hi : i + 3 < scr.1) (h : StepR scr l M_Lw_openDepth M_Md_openDepth [] [.ref 0, .ref 134] S PI) : Sim scr l 2002 i S := by
  obtain ⟨k, v, S1, S2, σ', hk, mw, ⟨fs, o1⟩, mm, hJ, hM, hc, x, rfl, hx⟩ := h
  obtain ⟨fs2, o2⟩ := hM.obj14
  refine ⟨σ', S2, hJ, hc, fun d r u6 u7 u8 kx => ?_⟩
  refine ev_aload_n i_Lw_law_2002 rfl ?_
  refine ev_aload_n i_Lw_law_2003 rfl ?_
  refine ev_callSH2 i_Lw_law_2004 rfl (Nat.le_of_ble_eq_true rfl) (mw d) ?_
  refine ev_ist_6 i_Lw_law_2007 rfl ?_
  refine ev_aload_n i_Lw_law_2009 rfl ?_
  refine ev_callV0 i_Lw_law_2010 rfl o1 (Nat.le_of_ble_eq_true rfl) (mm d) ?_
  refine ev_ist_7 i_Lw_law_2013 rfl ?_
  refine ev_aload_n i_Lw_law_2015 rfl ?_
  refine ev_callV0 i_Lw_law_2016 rfl o2 (Nat.le_of_ble_eq_true rfl) (m_thrown hM) ?_
  refine ev_iload i_Lw_law_2019 rfl ?_
  refine ev_icmp_eqN i_Lw_law_2021 (by omega) (by omega) (fun hc_2021 => ?_) (fun hc_2021 => ?_)
  · skip
    refine ev_iload i_Lw_law_2026 rfl ?_
    first | refine ev_if_neN i_Lw_law_2028 (by omega) (fun hc_2028 => ?_) (fun hc_2028 => ?_) | refine ev_if_ne i_Lw_law_2028 (fun hc_2028 => ?_) (fun hc_2028 => ?_)
    · skip
      refine ev_goto i_Lw_law_2043 ?_
      exact kx _ _ _
    · skip
      refine ev_aload_n i_Lw_law_2031 rfl ?_
      refine ev_iconstN (v := 0) i_Lw_law_2032 (by decide) ?_
      obtain ⟨g, hg, eg⟩ := hx (by omega)
      refine ev_laldN i_Lw_law_2033 hg (by decide) (by decide) ?_
      rw [eg]
      refine ev_iload i_Lw_law_2034 rfl ?_
      refine ev_i2l i_Lw_law_2036 ?_
      refine ev_lif_eq i_Lw_law_2037 i_Lw_law_2038 (fun hc_2038 => ?_) (fun hc_2038 => ?_)
      · skip
        refine ev_goto i_Lw_law_2043 ?_
        exact kx _ _ _
      · skip
        exact absurd rfl hc_2038
  · skip
    exfalso; omega
theorem sim_keepPoints {scr : Scr} {l : Launch} {S : Sto} {i : Nat} (hs : scr.1 < 2 ^ 31) (hi : i + 3 < scr.1) {z : Bool} (hzz : z = decide (scr.2 (i + 2) ≠ 0)) (h : StepR scr l M_Lw_keepPoints M_Md_keepPoints [.int (scr.2 (i + 1)), .int (nI (bI z))] [.ref 0, .int (scr.2 (i + 1)), .int (nI (bI z)), .ref 134] S PI) : Sim scr l 2046 i S := by
  obtain ⟨k, v, S1, S2, σ', hk, mw, ⟨fs, o1⟩, mm, hJ, hM, hc, x, rfl, hx⟩ := h
  obtain ⟨fs2, o2⟩ := hM.obj14
  refine ⟨σ', S2, hJ, hc, fun d r u6 u7 u8 kx => ?_⟩
  by_cases hz : scr.2 (i + 2) = 0
  · have hz0 : z = false := by rw [hzz]; exact decide_eq_false (fun q => q hz)
    subst hz0
    rw [show bI false = 0 from rfl] at mw mm
    refine ev_aload_n i_Lw_law_2046 rfl ?_
    refine ev_aload_n i_Lw_law_2047 rfl ?_
    refine ev_iload i_Lw_law_2048 rfl ?_
    refine ev_iconstN (v := 1) i_Lw_law_2050 (by decide) ?_
    first | refine ev_iaddN i_Lw_law_2051 ?_ | refine ev_iadd i_Lw_law_2051 ?_
    refine ev_sldN i_Lw_law_2052 (by omega) hs ?_
    refine ev_aload_n i_Lw_law_2053 rfl ?_
    refine ev_iload i_Lw_law_2054 rfl ?_
    refine ev_iconstN (v := 2) i_Lw_law_2056 (by decide) ?_
    first | refine ev_iaddN i_Lw_law_2057 ?_ | refine ev_iadd i_Lw_law_2057 ?_
    refine ev_sldN i_Lw_law_2058 (by omega) hs ?_
    refine ev_if_eq i_Lw_law_2059 (fun hc_2059 => ?_) (fun hc_2059 => ?_)
    · skip
      refine ev_iconstN (v := 0) i_Lw_law_2066 (by decide) ?_
      refine ev_aload_n i_Lw_law_2067 rfl ?_
      refine ev_callSH4 i_Lw_law_2068 rfl (Nat.le_of_ble_eq_true rfl) (mw d) ?_
      refine ev_ist_6 i_Lw_law_2071 rfl ?_
      refine ev_aload_n i_Lw_law_2073 rfl ?_
      refine ev_aload_n i_Lw_law_2074 rfl ?_
      refine ev_iload i_Lw_law_2075 rfl ?_
      refine ev_iconstN (v := 1) i_Lw_law_2077 (by decide) ?_
      first | refine ev_iaddN i_Lw_law_2078 ?_ | refine ev_iadd i_Lw_law_2078 ?_
      refine ev_sldN i_Lw_law_2079 (by omega) hs ?_
      refine ev_aload_n i_Lw_law_2080 rfl ?_
      refine ev_iload i_Lw_law_2081 rfl ?_
      refine ev_iconstN (v := 2) i_Lw_law_2083 (by decide) ?_
      first | refine ev_iaddN i_Lw_law_2084 ?_ | refine ev_iadd i_Lw_law_2084 ?_
      refine ev_sldN i_Lw_law_2085 (by omega) hs ?_
      refine ev_if_eq i_Lw_law_2086 (fun hc_2086 => ?_) (fun hc_2086 => ?_)
      · skip
        refine ev_iconstN (v := 0) i_Lw_law_2093 (by decide) ?_
        refine ev_callV2 i_Lw_law_2094 rfl o1 (Nat.le_of_ble_eq_true rfl) (mm d) ?_
        refine ev_ist_7 i_Lw_law_2097 rfl ?_
        refine ev_aload_n i_Lw_law_2099 rfl ?_
        refine ev_callV0 i_Lw_law_2100 rfl o2 (Nat.le_of_ble_eq_true rfl) (m_thrown hM) ?_
        refine ev_iload i_Lw_law_2103 rfl ?_
        refine ev_icmp_eqN i_Lw_law_2105 (by omega) (by omega) (fun hc_2105 => ?_) (fun hc_2105 => ?_)
        · skip
          refine ev_iload i_Lw_law_2110 rfl ?_
          first | refine ev_if_neN i_Lw_law_2112 (by omega) (fun hc_2112 => ?_) (fun hc_2112 => ?_) | refine ev_if_ne i_Lw_law_2112 (fun hc_2112 => ?_) (fun hc_2112 => ?_)
          · skip
            refine ev_goto i_Lw_law_2127 ?_
            exact kx _ _ _
          · skip
            refine ev_aload_n i_Lw_law_2115 rfl ?_
            refine ev_iconstN (v := 0) i_Lw_law_2116 (by decide) ?_
            obtain ⟨g, hg, eg⟩ := hx (by omega)
            refine ev_laldN i_Lw_law_2117 hg (by decide) (by decide) ?_
            rw [eg]
            refine ev_iload i_Lw_law_2118 rfl ?_
            refine ev_i2l i_Lw_law_2120 ?_
            refine ev_lif_eq i_Lw_law_2121 i_Lw_law_2122 (fun hc_2122 => ?_) (fun hc_2122 => ?_)
            · skip
              refine ev_goto i_Lw_law_2127 ?_
              exact kx _ _ _
            · skip
              exact absurd rfl hc_2122
        · skip
          exfalso; omega
      · skip
        exact absurd hz hc_2086
    · skip
      exact absurd hz hc_2059
  · have hz0 : z = true := by rw [hzz]; exact decide_eq_true hz
    subst hz0
    rw [show bI true = 1 from rfl] at mw mm
    refine ev_aload_n i_Lw_law_2046 rfl ?_
    refine ev_aload_n i_Lw_law_2047 rfl ?_
    refine ev_iload i_Lw_law_2048 rfl ?_
    refine ev_iconstN (v := 1) i_Lw_law_2050 (by decide) ?_
    first | refine ev_iaddN i_Lw_law_2051 ?_ | refine ev_iadd i_Lw_law_2051 ?_
    refine ev_sldN i_Lw_law_2052 (by omega) hs ?_
    refine ev_aload_n i_Lw_law_2053 rfl ?_
    refine ev_iload i_Lw_law_2054 rfl ?_
    refine ev_iconstN (v := 2) i_Lw_law_2056 (by decide) ?_
    first | refine ev_iaddN i_Lw_law_2057 ?_ | refine ev_iadd i_Lw_law_2057 ?_
    refine ev_sldN i_Lw_law_2058 (by omega) hs ?_
    refine ev_if_eq i_Lw_law_2059 (fun hc_2059 => ?_) (fun hc_2059 => ?_)
    · skip
      exact absurd hc_2059 hz
    · skip
      refine ev_iconstN (v := 1) i_Lw_law_2062 (by decide) ?_
      refine ev_goto i_Lw_law_2063 ?_
      refine ev_aload_n i_Lw_law_2067 rfl ?_
      refine ev_callSH4 i_Lw_law_2068 rfl (Nat.le_of_ble_eq_true rfl) (mw d) ?_
      refine ev_ist_6 i_Lw_law_2071 rfl ?_
      refine ev_aload_n i_Lw_law_2073 rfl ?_
      refine ev_aload_n i_Lw_law_2074 rfl ?_
      refine ev_iload i_Lw_law_2075 rfl ?_
      refine ev_iconstN (v := 1) i_Lw_law_2077 (by decide) ?_
      first | refine ev_iaddN i_Lw_law_2078 ?_ | refine ev_iadd i_Lw_law_2078 ?_
      refine ev_sldN i_Lw_law_2079 (by omega) hs ?_
      refine ev_aload_n i_Lw_law_2080 rfl ?_
      refine ev_iload i_Lw_law_2081 rfl ?_
      refine ev_iconstN (v := 2) i_Lw_law_2083 (by decide) ?_
      first | refine ev_iaddN i_Lw_law_2084 ?_ | refine ev_iadd i_Lw_law_2084 ?_
      refine ev_sldN i_Lw_law_2085 (by omega) hs ?_
      refine ev_if_eq i_Lw_law_2086 (fun hc_2086 => ?_) (fun hc_2086 => ?_)
      · skip
        exact absurd hc_2086 hz
      · skip
        refine ev_iconstN (v := 1) i_Lw_law_2089 (by decide) ?_
        refine ev_goto i_Lw_law_2090 ?_
        refine ev_callV2 i_Lw_law_2094 rfl o1 (Nat.le_of_ble_eq_true rfl) (mm d) ?_
        refine ev_ist_7 i_Lw_law_2097 rfl ?_
        refine ev_aload_n i_Lw_law_2099 rfl ?_
        refine ev_callV0 i_Lw_law_2100 rfl o2 (Nat.le_of_ble_eq_true rfl) (m_thrown hM) ?_
        refine ev_iload i_Lw_law_2103 rfl ?_
        refine ev_icmp_eqN i_Lw_law_2105 (by omega) (by omega) (fun hc_2105 => ?_) (fun hc_2105 => ?_)
        · skip
          refine ev_iload i_Lw_law_2110 rfl ?_
          first | refine ev_if_neN i_Lw_law_2112 (by omega) (fun hc_2112 => ?_) (fun hc_2112 => ?_) | refine ev_if_ne i_Lw_law_2112 (fun hc_2112 => ?_) (fun hc_2112 => ?_)
          · skip
            refine ev_goto i_Lw_law_2127 ?_
            exact kx _ _ _
          · skip
            refine ev_aload_n i_Lw_law_2115 rfl ?_
            refine ev_iconstN (v := 0) i_Lw_law_2116 (by decide) ?_
            obtain ⟨g, hg, eg⟩ := hx (by omega)
            refine ev_laldN i_Lw_law_2117 hg (by decide) (by decide) ?_
            rw [eg]
            refine ev_iload i_Lw_law_2118 rfl ?_
            refine ev_i2l i_Lw_law_2120 ?_
            refine ev_lif_eq i_Lw_law_2121 i_Lw_law_2122 (fun hc_2122 => ?_) (fun hc_2122 => ?_)
            · skip
              refine ev_goto i_Lw_law_2127 ?_
              exact kx _ _ _
            · skip
              exact absurd rfl hc_2122
        · skip
          exfalso; omega
theorem sim_remainder {scr : Scr} {l : Launch} {S : Sto} {i : Nat} (hs : scr.1 < 2 ^ 31) (hi : i + 3 < scr.1) (h : StepR scr l M_Lw_remainder M_Md_remainder [.int (scr.2 (i + 1)), .int (scr.2 (i + 2)), .int (scr.2 (i + 3))] [.ref 0, .int (scr.2 (i + 1)), .int (scr.2 (i + 2)), .int (scr.2 (i + 3)), .ref 135] S PD) : Sim scr l 2130 i S := by
  obtain ⟨k, v, S1, S2, σ', hk, mw, ⟨fs, o1⟩, mm, hJ, hM, hc, x, rfl, g, hg, hx⟩ := h
  obtain ⟨fs2, o2⟩ := hM.obj14
  refine ⟨σ', S2, hJ, hc, fun d r u6 u7 u8 kx => ?_⟩
  refine ev_aload_n i_Lw_law_2130 rfl ?_
  refine ev_aload_n i_Lw_law_2131 rfl ?_
  refine ev_iload i_Lw_law_2132 rfl ?_
  refine ev_iconstN (v := 1) i_Lw_law_2134 (by decide) ?_
  first | refine ev_iaddN i_Lw_law_2135 ?_ | refine ev_iadd i_Lw_law_2135 ?_
  refine ev_sldN i_Lw_law_2136 (by omega) hs ?_
  refine ev_aload_n i_Lw_law_2137 rfl ?_
  refine ev_iload i_Lw_law_2138 rfl ?_
  refine ev_iconstN (v := 2) i_Lw_law_2140 (by decide) ?_
  first | refine ev_iaddN i_Lw_law_2141 ?_ | refine ev_iadd i_Lw_law_2141 ?_
  refine ev_sldN i_Lw_law_2142 (by omega) hs ?_
  refine ev_aload_n i_Lw_law_2143 rfl ?_
  refine ev_iload i_Lw_law_2144 rfl ?_
  refine ev_iconstN (v := 3) i_Lw_law_2146 (by decide) ?_
  first | refine ev_iaddN i_Lw_law_2147 ?_ | refine ev_iadd i_Lw_law_2147 ?_
  refine ev_sldN i_Lw_law_2148 (by omega) hs ?_
  refine ev_aload i_Lw_law_2149 rfl ?_
  refine ev_callSH5 i_Lw_law_2151 rfl (Nat.le_of_ble_eq_true rfl) (mw d) ?_
  refine ev_ist_6 i_Lw_law_2154 rfl ?_
  refine ev_aload_n i_Lw_law_2156 rfl ?_
  refine ev_aload_n i_Lw_law_2157 rfl ?_
  refine ev_iload i_Lw_law_2158 rfl ?_
  refine ev_iconstN (v := 1) i_Lw_law_2160 (by decide) ?_
  first | refine ev_iaddN i_Lw_law_2161 ?_ | refine ev_iadd i_Lw_law_2161 ?_
  refine ev_sldN i_Lw_law_2162 (by omega) hs ?_
  refine ev_aload_n i_Lw_law_2163 rfl ?_
  refine ev_iload i_Lw_law_2164 rfl ?_
  refine ev_iconstN (v := 2) i_Lw_law_2166 (by decide) ?_
  first | refine ev_iaddN i_Lw_law_2167 ?_ | refine ev_iadd i_Lw_law_2167 ?_
  refine ev_sldN i_Lw_law_2168 (by omega) hs ?_
  refine ev_aload_n i_Lw_law_2169 rfl ?_
  refine ev_iload i_Lw_law_2170 rfl ?_
  refine ev_iconstN (v := 3) i_Lw_law_2172 (by decide) ?_
  first | refine ev_iaddN i_Lw_law_2173 ?_ | refine ev_iadd i_Lw_law_2173 ?_
  refine ev_sldN i_Lw_law_2174 (by omega) hs ?_
  refine ev_callV3 i_Lw_law_2175 rfl o1 (Nat.le_of_ble_eq_true rfl) (mm d) ?_
  refine ev_dst_7 i_Lw_law_2178 rfl ?_
  refine ev_aload_n i_Lw_law_2180 rfl ?_
  refine ev_callV0 i_Lw_law_2181 rfl o2 (Nat.le_of_ble_eq_true rfl) (m_thrown hM) ?_
  refine ev_iload i_Lw_law_2184 rfl ?_
  refine ev_icmp_eqN i_Lw_law_2186 (by omega) (by omega) (fun hc_2186 => ?_) (fun hc_2186 => ?_)
  · skip
    refine ev_iload i_Lw_law_2191 rfl ?_
    first | refine ev_if_neN i_Lw_law_2193 (by omega) (fun hc_2193 => ?_) (fun hc_2193 => ?_) | refine ev_if_ne i_Lw_law_2193 (fun hc_2193 => ?_) (fun hc_2193 => ?_)
    · skip
      refine ev_goto i_Lw_law_2228 ?_
      exact kx _ _ _
    · skip
      refine ev_aload i_Lw_law_2196 rfl ?_
      refine ev_iconstN (v := 0) i_Lw_law_2198 (by decide) ?_
      obtain ⟨n, dg, dx⟩ := hx (by omega)
      refine ev_daldN i_Lw_law_2199 hg (by decide) (by decide) ?_
      refine ev_dload i_Lw_law_2200 rfl ?_
      refine ev_deqr i_Lw_law_2202 i_Lw_law_2203 (fun q => ?_) (fun q => absurd ((deq_iff dg dx).mpr rfl) (by rw [q]; decide))
      refine ev_goto i_Lw_law_2228 ?_
      exact kx _ _ _
  · skip
    exfalso; omega
theorem sim_restore {scr : Scr} {l : Launch} {S : Sto} {i : Nat} (hs : scr.1 < 2 ^ 31) (hi : i + 3 < scr.1) (h : StepR scr l M_Lw_restore M_Md_restore [] [.ref 0] S PV) : Sim scr l 2242 i S := by
  obtain ⟨k, v, S1, S2, σ', hk, mw, ⟨fs, o1⟩, mm, hJ, hM, hc, hv⟩ := h
  have hv : v = none := hv
  subst hv
  obtain ⟨fs2, o2⟩ := hM.obj14
  refine ⟨σ', S2, hJ, hc, fun d r u6 u7 u8 kx => ?_⟩
  refine ev_aload_n i_Lw_law_2242 rfl ?_
  refine ev_callSH1 i_Lw_law_2243 rfl (Nat.le_of_ble_eq_true rfl) (mw d) ?_
  refine ev_ist_6 i_Lw_law_2246 rfl ?_
  refine ev_aload_n i_Lw_law_2248 rfl ?_
  refine ev_callV0 i_Lw_law_2249 rfl o1 (Nat.le_of_ble_eq_true rfl) (mm d) ?_
  refine ev_aload_n i_Lw_law_2252 rfl ?_
  refine ev_callV0 i_Lw_law_2253 rfl o2 (Nat.le_of_ble_eq_true rfl) (m_thrown hM) ?_
  refine ev_iload i_Lw_law_2256 rfl ?_
  refine ev_icmp_eqN i_Lw_law_2258 (by omega) (by omega) (fun hc_2258 => ?_) (fun hc_2258 => ?_)
  · skip
    refine ev_goto i_Lw_law_2263 ?_
    exact kx _ _ _
  · skip
    exfalso; omega
theorem sim_clearText {scr : Scr} {l : Launch} {S : Sto} {i : Nat} {σ : Sg} (h : Jn σ S) : Sim scr l 264 i S := by
  obtain ⟨S1, S2, mx, ⟨fs0, o0⟩, ⟨fs1, o1⟩, mm, hJ, hc⟩ := DirR.of (scr := scr) (l := l) h (by obtain ⟨S1, a, b, c⟩ := x_clear (scr := scr) (l := l) h.1; exact ⟨S1, fun d => a (d + 0), b, c⟩) (by decide) (by decide) (fun S th hm => m_clear hm) rfl
  refine ⟨_, S2, hJ, hc, fun d r u6 u7 u8 kx => ?_⟩
  refine ev_aload_n i_Lw_law_264 rfl ?_
  refine ev_callV0 i_Lw_law_265 rfl o0 (Nat.le_of_ble_eq_true rfl) (mx d) ?_
  refine ev_aload_n i_Lw_law_268 rfl ?_
  refine ev_callV0 i_Lw_law_269 rfl o1 (Nat.le_of_ble_eq_true rfl) (mm d) ?_
  refine ev_icmp_eq i_Lw_law_272 (fun hc_272 => ?_) (fun hc_272 => ?_)
  · skip
    exact kx _ _ _
  · skip
    exact absurd rfl hc_272
theorem sim_wordLength {scr : Scr} {l : Launch} {S : Sto} {i : Nat} {σ : Sg} (h : Jn σ S) : Sim scr l 869 i S := by
  obtain ⟨S1, S2, mx, ⟨fs0, o0⟩, ⟨fs1, o1⟩, mm, hJ, hc⟩ := DirR.of (scr := scr) (l := l) h (⟨S, fun d => x_wordLength (d := d + 0) h.1, h.1, Fr.rf _ _⟩) (by decide) (by decide) (fun S th hm => m_wordLength hm) rfl
  refine ⟨_, S2, hJ, hc, fun d r u6 u7 u8 kx => ?_⟩
  refine ev_aload_n i_Lw_law_869 rfl ?_
  refine ev_callV0 i_Lw_law_870 rfl o0 (Nat.le_of_ble_eq_true rfl) (mx d) ?_
  refine ev_aload_n i_Lw_law_873 rfl ?_
  refine ev_callV0 i_Lw_law_874 rfl o1 (Nat.le_of_ble_eq_true rfl) (mm d) ?_
  refine ev_icmp_eq i_Lw_law_877 (fun hc_877 => ?_) (fun hc_877 => ?_)
  · skip
    exact kx _ _ _
  · skip
    exact absurd rfl hc_877
theorem sim_isTarget {scr : Scr} {l : Launch} {S : Sto} {i : Nat} {σ : Sg} (h : Jn σ S) : Sim scr l 938 i S := by
  obtain ⟨S1, S2, mx, ⟨fs0, o0⟩, ⟨fs1, o1⟩, mm, hJ, hc⟩ := DirR.of (scr := scr) (l := l) h (⟨S, fun d => x_isTarget h.1, h.1, Fr.rf _ _⟩) (by decide) (by decide) (fun S th hm => m_isTarget hm) rfl
  refine ⟨_, S2, hJ, hc, fun d r u6 u7 u8 kx => ?_⟩
  refine ev_aload_n i_Lw_law_938 rfl ?_
  refine ev_callV0 i_Lw_law_939 rfl o0 (Nat.le_of_ble_eq_true rfl) (mx d) ?_
  refine ev_aload_n i_Lw_law_942 rfl ?_
  refine ev_callV0 i_Lw_law_943 rfl o1 (Nat.le_of_ble_eq_true rfl) (mm d) ?_
  refine ev_icmp_eq i_Lw_law_946 (fun hc_946 => ?_) (fun hc_946 => ?_)
  · skip
    exact kx _ _ _
  · skip
    exact absurd rfl hc_946
theorem sim_undo {scr : Scr} {l : Launch} {S : Sto} {i : Nat} {σ : Sg} (h : Jn σ S) : Sim scr l 1019 i S := by
  by_cases hne : σ.2.2.2.2.1 = []
  · skip
    obtain ⟨S1, S2, mx, ⟨fs0, o0⟩, ⟨fs1, o1⟩, mm, hJ, hc⟩ := DirR.of (scr := scr) (l := l) h (⟨S, fun d => x_undo_no h.1 hne, h.1, Fr.rf _ _⟩) (by decide) (by decide) (fun S th hm => m_undo_no hm hne) rfl
    refine ⟨_, S2, hJ, hc, fun d r u6 u7 u8 kx => ?_⟩
    refine ev_aload_n i_Lw_law_1019 rfl ?_
    refine ev_callV0 i_Lw_law_1020 rfl o0 (Nat.le_of_ble_eq_true rfl) (mx d) ?_
    refine ev_aload_n i_Lw_law_1023 rfl ?_
    refine ev_callV0 i_Lw_law_1024 rfl o1 (Nat.le_of_ble_eq_true rfl) (mm d) ?_
    refine ev_icmp_eq i_Lw_law_1027 (fun hc_1027 => ?_) (fun hc_1027 => ?_)
    · skip
      exact kx _ _ _
    · skip
      exact absurd rfl hc_1027
  · skip
    obtain ⟨S1, S2, mx, ⟨fs0, o0⟩, ⟨fs1, o1⟩, mm, hJ, hc⟩ := DirR.of (scr := scr) (l := l) h (x_undo h.1 hne) (by decide) (by decide) (fun S th hm => m_undo hm hne) rfl
    refine ⟨_, S2, hJ, hc, fun d r u6 u7 u8 kx => ?_⟩
    refine ev_aload_n i_Lw_law_1019 rfl ?_
    refine ev_callV0 i_Lw_law_1020 rfl o0 (Nat.le_of_ble_eq_true rfl) (mx d) ?_
    refine ev_aload_n i_Lw_law_1023 rfl ?_
    refine ev_callV0 i_Lw_law_1024 rfl o1 (Nat.le_of_ble_eq_true rfl) (mm d) ?_
    refine ev_icmp_eq i_Lw_law_1027 (fun hc_1027 => ?_) (fun hc_1027 => ?_)
    · skip
      exact kx _ _ _
    · skip
      exact absurd rfl hc_1027
theorem sim_save {scr : Scr} {l : Launch} {S : Sto} {i : Nat} {σ : Sg} (h : Jn σ S) : Sim scr l 2231 i S := by
  obtain ⟨S1, S2, mx, ⟨fs0, o0⟩, ⟨fs1, o1⟩, mm, hJ, hc⟩ := DirR.of (scr := scr) (l := l) h (x_save h.1) (by decide) (by decide) (fun S th hm => m_save hm) rfl
  refine ⟨_, S2, hJ, hc, fun d r u6 u7 u8 kx => ?_⟩
  refine ev_aload_n i_Lw_law_2231 rfl ?_
  refine ev_callV0 i_Lw_law_2232 rfl o0 (Nat.le_of_ble_eq_true rfl) (mx d) ?_
  refine ev_aload_n i_Lw_law_2235 rfl ?_
  refine ev_callV0 i_Lw_law_2236 rfl o1 (Nat.le_of_ble_eq_true rfl) (mm d) ?_
  refine ev_goto i_Lw_law_2239 ?_
  exact kx _ _ _

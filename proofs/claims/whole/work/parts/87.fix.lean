/-! the class Figure -/
abbrev fiR (x1 x2 : Int32) (ink : UInt64) (x3 x4 : Int32) (x y st : UInt64) (x5 : Int32) : ACell := oB 3 [.ref 96, .ref 97, .int x1, .ref 98, .int x2, .double ink, .ref 99, .ref 100, .int x3, .int x4, .double x, .double y, .double st, .int x5]
abbrev fiO (pts sg : Nat) (ink : UInt64) (dp de : Nat) (x y st : UInt64) (h : Nat) : ACell := fiR (nI pts) (nI sg) ink (nI dp) (nI de) x y st (nI h)
abbrev fiF (pts : Nat) (F : Fig) : ACell := fiO pts F.2.2.1.length F.2.2.2.1 F.2.1.length F.2.2.2.2 F.1.1 F.1.2.1 F.1.2.2.1 F.1.2.2.2
def ArP (S : Sto) (a pts : Nat) (p : Nat → UInt64) : Prop := ∃ f, S.1[a]? = some (aD 61 f) ∧ ∀ j, j < pts → f j = p j
def ArS (S : Sto) (a : Nat) (L : List SegV) : Prop := ∃ f, S.1[a]? = some (aD 240 f) ∧ ∀ j, j < L.length → f (4 * j) = (L.getD j sg0).1 ∧ f (4 * j + 1) = (L.getD j sg0).2.1 ∧ f (4 * j + 2) = (L.getD j sg0).2.2.1 ∧ f (4 * j + 3) = (L.getD j sg0).2.2.2
def ArK (S : Sto) (K : List Pen) : Prop := ∃ f g, S.1[99]? = some (aD 60 f) ∧ S.1[100]? = some (aI 20 g) ∧ ∀ j, j < K.length → f (3 * j) = (K.getD j pen0).1 ∧ f (3 * j + 1) = (K.getD j pen0).2.1 ∧ f (3 * j + 2) = (K.getD j pen0).2.2.1 ∧ g j = nI (K.getD j pen0).2.2.2
def FiS (S : Sto) (pts : Nat) (F : Fig) (p : Nat → UInt64 × UInt64) : Prop := S.1[95]? = some (fiF pts F) ∧ ArP S 96 pts (fun j => (p j).1) ∧ ArP S 97 pts (fun j => (p j).2) ∧ ArS S 98 F.2.2.1 ∧ ArK S F.2.1
abbrev fiK : List Nat := [95, 96, 97, 98, 99, 100]
theorem ArP.fr {S S1 : Sto} {K : List Nat} {a pts : Nat} {p : Nat → UInt64} (h : ArP S a pts p) (hF : Fr K S S1) (hk : a ∉ K) : ArP S1 a pts p := by
  obtain ⟨f, h1, h2⟩ := h
  exact ⟨f, hF.at h1 hk, h2⟩
theorem ArS.fr {S S1 : Sto} {K : List Nat} {a : Nat} {L : List SegV} (h : ArS S a L) (hF : Fr K S S1) (hk : a ∉ K) : ArS S1 a L := by
  obtain ⟨f, h1, h2⟩ := h
  exact ⟨f, hF.at h1 hk, h2⟩
theorem ArK.fr {S S1 : Sto} {K : List Nat} {L : List Pen} (h : ArK S L) (hF : Fr K S S1) (hk : 99 ∉ K ∧ 100 ∉ K) : ArK S1 L := by
  obtain ⟨f, g, h1, h2, h3⟩ := h
  exact ⟨f, g, hF.at h1 hk.1, hF.at h2 hk.2, h3⟩
theorem FiS.ok {S : Sto} {pts : Nat} {F : Fig} {p : Nat → UInt64 × UInt64} (h : FiS S pts F p) : FiOK S := by
  obtain ⟨h0, ⟨f1, h1, -⟩, ⟨f2, h2, -⟩, ⟨f3, h3, -⟩, f4, g, h4, h5, -⟩ := h
  exact ⟨_, _, _, _, _, _, _, _, _, f1, f2, f3, f4, g, h0, h1, h2, h3, h4, h5⟩
theorem updD_at (f : Nat → UInt64) (i : Nat) (x : UInt64) : vf_upd f i x i = x := by unfold vf_upd; exact if_pos rfl
theorem updD_ne {f : Nat → UInt64} {i j : Nat} {x : UInt64} (h : j ≠ i) : vf_upd f i x j = f j := by unfold vf_upd; exact if_neg h
theorem cmp0 {x y : UInt64} {op : CmpOp} : (Op.cmpValue (FP.dcmp x y) op = 0) ↔ deq x y = true := by
  unfold deq Op.cmpValue
  cases hq : FP.dcmp x y with
  | none => cases op <;> simp <;> decide
  | some o => cases o <;> simp <;> decide
section RulesDc
variable {scr : Scr} {l : Launch} {d : Nat} {M : Mth} {pc tgt : Nat} {L : List (Option Value)} {st : List Value} {S : Sto} {r : Res} {x y : UInt64} {op : CmpOp}
theorem ev_dne (h1 : iIns M pc (.dcmp op) 1) (h2 : iIf M (pc + 1) .ne tgt) (kt : deq x y = false → Ev scr l d M tgt L st S r) (kf : deq x y = true → Ev scr l d M (pc + 1 + 3) L st S r) : Ev scr l d M pc L (.double y :: .double x :: st) S r := by
  refine ev_dcmp h1 ?_
  refine ev_if_ne h2 (fun q => kt ?_) (fun q => kf (cmp0.mp q))
  cases hb : deq x y with
  | false => rfl
  | true => exact absurd (cmp0.mpr hb) q
theorem ev_deqr (h1 : iIns M pc (.dcmp op) 1) (h2 : iIf M (pc + 1) .eq tgt) (kt : deq x y = true → Ev scr l d M tgt L st S r) (kf : deq x y = false → Ev scr l d M (pc + 1 + 3) L st S r) : Ev scr l d M pc L (.double y :: .double x :: st) S r := by
  refine ev_dcmp h1 ?_
  refine ev_if_eq h2 (fun q => kt (cmp0.mp q)) (fun q => kf ?_)
  cases hb : deq x y with
  | false => rfl
  | true => exact absurd (cmp0.mpr hb) q
end RulesDc
theorem g_begin {scr : Scr} {l : Launch} {S : Sto} {d : Nat} {x1 x2 x3 x4 x5 : Int32} {ink x y st : UInt64} (ho : S.1[95]? = some (fiR x1 x2 ink x3 x4 x y st x5)) : MetA scr l d M_Fi_begin [.ref 95] S (.inl none, S.put 95 (fiF 0 fig0)) := by
  refine MetA.of rfl (by decide +kernel) (Nat.le_of_ble_eq_true rfl) ?_
  refine ev_aload_n i_Fi_begin_0 rfl ?_
  refine ev_iconstN (v := 0) i_Fi_begin_1 (by decide) ?_
  refine ev_put i_Fi_begin_2 ho (Nat.le_of_ble_eq_true rfl) rfl rfl ?_
  refine ev_eqS (S1 := S.put 95 (fiR (nI 0) x2 ink x3 x4 x y st x5)) (by first | rfl | (rw [put_put]; rfl)) ?_
  refine ev_aload_n i_Fi_begin_5 rfl ?_
  refine ev_iconstN (v := 0) i_Fi_begin_6 (by decide) ?_
  refine ev_put i_Fi_begin_7 (put_self ho) (Nat.le_of_ble_eq_true rfl) rfl rfl ?_
  refine ev_eqS (S1 := S.put 95 (fiR (nI 0) (nI 0) ink x3 x4 x y st x5)) (by first | rfl | (rw [put_put]; rfl)) ?_
  refine ev_aload_n i_Fi_begin_10 rfl ?_
  refine ev_dconst0 i_Fi_begin_11 ?_
  refine ev_put i_Fi_begin_12 (put_self ho) (Nat.le_of_ble_eq_true rfl) rfl rfl ?_
  refine ev_eqS (S1 := S.put 95 (fiR (nI 0) (nI 0) FP.dconst0 x3 x4 x y st x5)) (by first | rfl | (rw [put_put]; rfl)) ?_
  refine ev_aload_n i_Fi_begin_15 rfl ?_
  refine ev_iconstN (v := 0) i_Fi_begin_16 (by decide) ?_
  refine ev_put i_Fi_begin_17 (put_self ho) (Nat.le_of_ble_eq_true rfl) rfl rfl ?_
  refine ev_eqS (S1 := S.put 95 (fiR (nI 0) (nI 0) FP.dconst0 (nI 0) x4 x y st x5)) (by first | rfl | (rw [put_put]; rfl)) ?_
  refine ev_aload_n i_Fi_begin_20 rfl ?_
  refine ev_iconstN (v := 0) i_Fi_begin_21 (by decide) ?_
  refine ev_put i_Fi_begin_22 (put_self ho) (Nat.le_of_ble_eq_true rfl) rfl rfl ?_
  refine ev_eqS (S1 := S.put 95 (fiR (nI 0) (nI 0) FP.dconst0 (nI 0) (nI 0) x y st x5)) (by first | rfl | (rw [put_put]; rfl)) ?_
  refine ev_aload_n i_Fi_begin_25 rfl ?_
  refine ev_dconst0 i_Fi_begin_26 ?_
  refine ev_put i_Fi_begin_27 (put_self ho) (Nat.le_of_ble_eq_true rfl) rfl rfl ?_
  refine ev_eqS (S1 := S.put 95 (fiR (nI 0) (nI 0) FP.dconst0 (nI 0) (nI 0) FP.dconst0 y st x5)) (by first | rfl | (rw [put_put]; rfl)) ?_
  refine ev_aload_n i_Fi_begin_30 rfl ?_
  refine ev_dconst0 i_Fi_begin_31 ?_
  refine ev_put i_Fi_begin_32 (put_self ho) (Nat.le_of_ble_eq_true rfl) rfl rfl ?_
  refine ev_eqS (S1 := S.put 95 (fiR (nI 0) (nI 0) FP.dconst0 (nI 0) (nI 0) FP.dconst0 FP.dconst0 st x5)) (by first | rfl | (rw [put_put]; rfl)) ?_
  refine ev_aload_n i_Fi_begin_35 rfl ?_
  refine ev_dconst1 i_Fi_begin_36 ?_
  refine ev_put i_Fi_begin_37 (put_self ho) (Nat.le_of_ble_eq_true rfl) rfl rfl ?_
  refine ev_eqS (S1 := S.put 95 (fiR (nI 0) (nI 0) FP.dconst0 (nI 0) (nI 0) FP.dconst0 FP.dconst0 FP.dconst1 x5)) (by first | rfl | (rw [put_put]; rfl)) ?_
  refine ev_aload_n i_Fi_begin_40 rfl ?_
  refine ev_iconstN (v := 0) i_Fi_begin_41 (by decide) ?_
  refine ev_put i_Fi_begin_42 (put_self ho) (Nat.le_of_ble_eq_true rfl) rfl rfl ?_
  refine ev_eqS (S1 := S.put 95 (fiR (nI 0) (nI 0) FP.dconst0 (nI 0) (nI 0) FP.dconst0 FP.dconst0 FP.dconst1 (nI 0))) (by first | rfl | (rw [put_put]; rfl)) ?_
  exact ev_vret i_Fi_begin_45 rfl
theorem g_keep {scr : Scr} {l : Launch} {S : Sto} {d : Nat} {pts sg dp de h : Nat} {ink x y st : UInt64} {f1 f2 : Nat → UInt64} (ho : S.1[95]? = some (fiO pts sg ink dp de x y st h)) (h1 : S.1[96]? = some (aD 61 f1)) (h2 : S.1[97]? = some (aD 61 f2)) (hp : pts < 61) : MetA scr l d M_Fi_keepPoint [.ref 95] S (.inl none, ((S.put 96 (aD 61 (vf_upd f1 pts x))).put 97 (aD 61 (vf_upd f2 pts y))).put 95 (fiO (pts + 1) sg ink dp de x y st h)) := by
  have o1 : (S.put 96 (aD 61 (vf_upd f1 pts x))).1[95]? = _ := put_at ho (by decide)
  have h21 : (S.put 96 (aD 61 (vf_upd f1 pts x))).1[97]? = _ := put_at h2 (by decide)
  have o2 : ((S.put 96 (aD 61 (vf_upd f1 pts x))).put 97 (aD 61 (vf_upd f2 pts y))).1[95]? = _ := put_at o1 (by decide)
  refine MetA.of rfl (by decide +kernel) (Nat.le_of_ble_eq_true rfl) ?_
  refine ev_aload_n i_Fi_keepPoint_0 rfl ?_
  refine ev_get i_Fi_keepPoint_1 ho rfl ?_
  refine ev_aload_n i_Fi_keepPoint_4 rfl ?_
  refine ev_get i_Fi_keepPoint_5 ho rfl ?_
  refine ev_alenN i_Fi_keepPoint_8 h1 ?_
  refine ev_icmp_geN i_Fi_keepPoint_9 (by omega) (by omega) (fun hc_9 => ?_) (fun hc_9 => ?_)
  · skip
    exfalso; omega
  · skip
    refine ev_aload_n i_Fi_keepPoint_12 rfl ?_
    refine ev_get i_Fi_keepPoint_13 ho rfl ?_
    refine ev_aload_n i_Fi_keepPoint_16 rfl ?_
    refine ev_get i_Fi_keepPoint_17 ho rfl ?_
    refine ev_aload_n i_Fi_keepPoint_20 rfl ?_
    refine ev_get i_Fi_keepPoint_21 ho rfl ?_
    refine ev_dastN i_Fi_keepPoint_24 h1 (by omega) (by decide) ?_
    refine ev_aload_n i_Fi_keepPoint_25 rfl ?_
    refine ev_get i_Fi_keepPoint_26 o1 rfl ?_
    refine ev_aload_n i_Fi_keepPoint_29 rfl ?_
    refine ev_get i_Fi_keepPoint_30 o1 rfl ?_
    refine ev_aload_n i_Fi_keepPoint_33 rfl ?_
    refine ev_get i_Fi_keepPoint_34 o1 rfl ?_
    refine ev_dastN i_Fi_keepPoint_37 h21 (by omega) (by decide) ?_
    refine ev_aload_n i_Fi_keepPoint_38 rfl ?_
    refine ev_dup i_Fi_keepPoint_39 rfl ?_
    refine ev_get i_Fi_keepPoint_40 o2 rfl ?_
    refine ev_iconstN (v := 1) i_Fi_keepPoint_43 (by decide) ?_
    first | refine ev_iaddN i_Fi_keepPoint_44 ?_ | refine ev_iadd i_Fi_keepPoint_44 ?_
    refine ev_put i_Fi_keepPoint_45 o2 (Nat.le_of_ble_eq_true rfl) rfl rfl ?_
    refine ev_eqS (S1 := ((S.put 96 (aD 61 (vf_upd f1 pts x))).put 97 (aD 61 (vf_upd f2 pts y))).put 95 (fiO (pts + 1) sg ink dp de x y st h)) (by first | rfl | (rw [put_put]; rfl)) ?_
    exact ev_vret i_Fi_keepPoint_48 rfl
theorem g_go {scr : Scr} {l : Launch} {S : Sto} {d : Nat} {pts sg dp de h : Nat} {ink x y st : UInt64} (ho : S.1[95]? = some (fiO pts sg ink dp de x y st h)) (hh : h < 4) (hx : vf_n64 (aheadX (x, y, st, h))) (hy : vf_n64 (aheadY (x, y, st, h))) : MetA scr l d M_Fi_goAhead [.ref 95] S (.inl none, S.put 95 (fiO pts sg ink dp de (aheadX (x, y, st, h)) (aheadY (x, y, st, h)) st h)) := by
  rcases (show h = 0 ∨ h = 1 ∨ h = 2 ∨ h = 3 by omega) with rfl | rfl | rfl | rfl
  · have hn : vf_n64 (FP.dadd x st) := hx
    refine MetA.of rfl (by decide +kernel) (Nat.le_of_ble_eq_true rfl) ?_
    refine ev_aload_n i_Fi_goAhead_0 rfl ?_
    refine ev_get i_Fi_goAhead_1 ho rfl ?_
    refine ev_switch (tgt := 32) ⟨_, _, _, _, _, i_Fi_goAhead_4, Or.inl ⟨by decide, by decide, _, rfl, rfl⟩⟩ ?_
    refine ev_aload_n i_Fi_goAhead_32 rfl ?_
    refine ev_dup i_Fi_goAhead_33 rfl ?_
    refine ev_get i_Fi_goAhead_34 ho rfl ?_
    refine ev_aload_n i_Fi_goAhead_37 rfl ?_
    refine ev_get i_Fi_goAhead_38 ho rfl ?_
    refine ev_dadd i_Fi_goAhead_41 hn ?_
    refine ev_put i_Fi_goAhead_42 ho (Nat.le_of_ble_eq_true rfl) rfl rfl ?_
    refine ev_eqS (S1 := S.put 95 (fiO pts sg ink dp de (FP.dadd x st) y st 0)) (by first | rfl | (rw [put_put]; rfl)) ?_
    refine ev_goto i_Fi_goAhead_45 ?_
    exact ev_vret i_Fi_goAhead_93 rfl
  · have hn : vf_n64 (FP.dadd y st) := hy
    refine MetA.of rfl (by decide +kernel) (Nat.le_of_ble_eq_true rfl) ?_
    refine ev_aload_n i_Fi_goAhead_0 rfl ?_
    refine ev_get i_Fi_goAhead_1 ho rfl ?_
    refine ev_switch (tgt := 48) ⟨_, _, _, _, _, i_Fi_goAhead_4, Or.inl ⟨by decide, by decide, _, rfl, rfl⟩⟩ ?_
    refine ev_aload_n i_Fi_goAhead_48 rfl ?_
    refine ev_dup i_Fi_goAhead_49 rfl ?_
    refine ev_get i_Fi_goAhead_50 ho rfl ?_
    refine ev_aload_n i_Fi_goAhead_53 rfl ?_
    refine ev_get i_Fi_goAhead_54 ho rfl ?_
    refine ev_dadd i_Fi_goAhead_57 hn ?_
    refine ev_put i_Fi_goAhead_58 ho (Nat.le_of_ble_eq_true rfl) rfl rfl ?_
    refine ev_eqS (S1 := S.put 95 (fiO pts sg ink dp de x (FP.dadd y st) st 1)) (by first | rfl | (rw [put_put]; rfl)) ?_
    refine ev_goto i_Fi_goAhead_61 ?_
    exact ev_vret i_Fi_goAhead_93 rfl
  · have hn : vf_n64 (FP.dsub x st) := hx
    refine MetA.of rfl (by decide +kernel) (Nat.le_of_ble_eq_true rfl) ?_
    refine ev_aload_n i_Fi_goAhead_0 rfl ?_
    refine ev_get i_Fi_goAhead_1 ho rfl ?_
    refine ev_switch (tgt := 64) ⟨_, _, _, _, _, i_Fi_goAhead_4, Or.inl ⟨by decide, by decide, _, rfl, rfl⟩⟩ ?_
    refine ev_aload_n i_Fi_goAhead_64 rfl ?_
    refine ev_dup i_Fi_goAhead_65 rfl ?_
    refine ev_get i_Fi_goAhead_66 ho rfl ?_
    refine ev_aload_n i_Fi_goAhead_69 rfl ?_
    refine ev_get i_Fi_goAhead_70 ho rfl ?_
    refine ev_dsub i_Fi_goAhead_73 hn ?_
    refine ev_put i_Fi_goAhead_74 ho (Nat.le_of_ble_eq_true rfl) rfl rfl ?_
    refine ev_eqS (S1 := S.put 95 (fiO pts sg ink dp de (FP.dsub x st) y st 2)) (by first | rfl | (rw [put_put]; rfl)) ?_
    refine ev_goto i_Fi_goAhead_77 ?_
    exact ev_vret i_Fi_goAhead_93 rfl
  · have hn : vf_n64 (FP.dsub y st) := hy
    refine MetA.of rfl (by decide +kernel) (Nat.le_of_ble_eq_true rfl) ?_
    refine ev_aload_n i_Fi_goAhead_0 rfl ?_
    refine ev_get i_Fi_goAhead_1 ho rfl ?_
    refine ev_switch (tgt := 80) ⟨_, _, _, _, _, i_Fi_goAhead_4, Or.inr ⟨Or.inr (by decide), rfl⟩⟩ ?_
    refine ev_aload_n i_Fi_goAhead_80 rfl ?_
    refine ev_dup i_Fi_goAhead_81 rfl ?_
    refine ev_get i_Fi_goAhead_82 ho rfl ?_
    refine ev_aload_n i_Fi_goAhead_85 rfl ?_
    refine ev_get i_Fi_goAhead_86 ho rfl ?_
    refine ev_dsub i_Fi_goAhead_89 hn ?_
    refine ev_put i_Fi_goAhead_90 ho (Nat.le_of_ble_eq_true rfl) rfl rfl ?_
    refine ev_eqS (S1 := S.put 95 (fiO pts sg ink dp de x (FP.dsub y st) st 3)) (by first | rfl | (rw [put_put]; rfl)) ?_
    exact ev_vret i_Fi_goAhead_93 rfl
theorem g_isEnd {scr : Scr} {l : Launch} {S : Sto} {d e : Nat} {pts sg dp de h : Nat} {ink x y st : UInt64} {f : Nat → UInt64} {a b : UInt64} (ho : S.1[95]? = some (fiO pts sg ink dp de x y st h)) (hf : S.1[98]? = some (aD 240 f)) (he : 2 * e + 1 < 240) : MetA scr l d M_Fi_isEnd [.ref 95, .int (nI e), .double a, .double b] S (.inl (some (.int (nI (bI (deq (f (2 * e)) a && deq (f (2 * e + 1)) b))))), S) := by
  refine MetA.of rfl (by decide +kernel) (Nat.le_of_ble_eq_true rfl) ?_
  refine ev_aload_n i_Fi_isEnd_0 rfl ?_
  refine ev_get i_Fi_isEnd_1 ho rfl ?_
  refine ev_iconstN (v := 2) i_Fi_isEnd_4 (by decide) ?_
  refine ev_iload_n i_Fi_isEnd_5 rfl ?_
  first | refine ev_imulN i_Fi_isEnd_6 ?_ | refine ev_imul i_Fi_isEnd_6 ?_
  refine ev_daldN i_Fi_isEnd_7 hf (by omega) (by decide) ?_
  refine ev_dload_n i_Fi_isEnd_8 rfl ?_
  refine ev_dne i_Fi_isEnd_9 i_Fi_isEnd_10 (fun hq9 => ?_) (fun hq9 => ?_)
  · rw [hq9, Bool.false_and]
    refine ev_iconstN (v := 0) i_Fi_isEnd_33 (by decide) ?_
    exact ev_iret i_Fi_isEnd_34 rfl (by first | rfl | decide)
  · rw [hq9, Bool.true_and]
    refine ev_aload_n i_Fi_isEnd_13 rfl ?_
    refine ev_get i_Fi_isEnd_14 ho rfl ?_
    refine ev_iconstN (v := 2) i_Fi_isEnd_17 (by decide) ?_
    refine ev_iload_n i_Fi_isEnd_18 rfl ?_
    first | refine ev_imulN i_Fi_isEnd_19 ?_ | refine ev_imul i_Fi_isEnd_19 ?_
    refine ev_iconstN (v := 1) i_Fi_isEnd_20 (by decide) ?_
    first | refine ev_iaddN i_Fi_isEnd_21 ?_ | refine ev_iadd i_Fi_isEnd_21 ?_
    refine ev_daldN i_Fi_isEnd_22 hf (by omega) (by decide) ?_
    refine ev_dload i_Fi_isEnd_23 rfl ?_
    refine ev_dne i_Fi_isEnd_25 i_Fi_isEnd_26 (fun hq25 => ?_) (fun hq25 => ?_)
    · rw [hq25]
      refine ev_iconstN (v := 0) i_Fi_isEnd_33 (by decide) ?_
      exact ev_iret i_Fi_isEnd_34 rfl (by first | rfl | decide)
    · rw [hq25]
      refine ev_iconstN (v := 1) i_Fi_isEnd_29 (by decide) ?_
      refine ev_goto i_Fi_isEnd_30 ?_
      exact ev_iret i_Fi_isEnd_34 rfl (by first | rfl | decide)
theorem ie_0 {scr : Scr} {l : Launch} {S : Sto} {d i : Nat} {pts sg dp de h : Nat} {ink x y st : UInt64} {f : Nat → UInt64} {a b : UInt64} (ho : S.1[95]? = some (fiO pts sg ink dp de x y st h)) (hf : S.1[98]? = some (aD 240 f)) (hi : i < 60) : MetA scr l d M_Fi_isEnd [.ref 95, .int (nI (2 * i)), .double a, .double b] S (.inl (some (.int (nI (bI (deq (f (4 * i)) a && deq (f (4 * i + 1)) b))))), S) := by
  have := g_isEnd (scr := scr) (l := l) (d := d) (e := 2 * i) (a := a) (b := b) ho hf (by omega)
  rw [show 2 * (2 * i) = 4 * i by omega] at this
  exact this
theorem ie_1 {scr : Scr} {l : Launch} {S : Sto} {d i : Nat} {pts sg dp de h : Nat} {ink x y st : UInt64} {f : Nat → UInt64} {a b : UInt64} (ho : S.1[95]? = some (fiO pts sg ink dp de x y st h)) (hf : S.1[98]? = some (aD 240 f)) (hi : i < 60) : MetA scr l d M_Fi_isEnd [.ref 95, .int (nI (2 * i + 1)), .double a, .double b] S (.inl (some (.int (nI (bI (deq (f (4 * i + 2)) a && deq (f (4 * i + 3)) b))))), S) := by
  have := g_isEnd (scr := scr) (l := l) (d := d) (e := 2 * i + 1) (a := a) (b := b) ho hf (by omega)
  rw [show 2 * (2 * i + 1) = 4 * i + 2 by omega] at this
  exact this
theorem lp_fw {scr : Scr} {l : Launch} {S : Sto} {d i : Nat} {pts sg dp de h : Nat} {ink x y st : UInt64} {f : Nat → UInt64} {a b : UInt64} {r : Res} (ho : S.1[95]? = some (fiO pts sg ink dp de x y st h)) (hf : S.1[98]? = some (aD 240 f)) (hi : i < 60) {u6 u7 : Option Value} (k : Ev scr l (d + 1) M_Fi_isDrawn 53 [some (.ref 95), some (.double a), none, some (.double b), none, some (.int (nI i)), some (.int (nI (bI ((deq (f (4 * i)) a && deq (f (4 * i + 1)) b) && (deq (f (4 * i + 2)) x && deq (f (4 * i + 3)) y))))), u7] [] S r) : Ev scr l (d + 1) M_Fi_isDrawn 12 [some (.ref 95), some (.double a), none, some (.double b), none, some (.int (nI i)), u6, u7] [] S r := by
  cases hq1 : (deq (f (4 * i)) a && deq (f (4 * i + 1)) b) with
  | false =>
    rw [hq1, Bool.false_and, show bI false = 0 from rfl] at k
    refine ev_aload_n i_Fi_isDrawn_12 rfl ?_
    refine ev_iconstN (v := 2) i_Fi_isDrawn_13 (by decide) ?_
    refine ev_iload i_Fi_isDrawn_14 rfl ?_
    first | refine ev_imulN i_Fi_isDrawn_16 ?_ | refine ev_imul i_Fi_isDrawn_16 ?_
    refine ev_dload_n i_Fi_isDrawn_17 rfl ?_
    refine ev_dload_n i_Fi_isDrawn_18 rfl ?_
    refine ev_callV3 i_Fi_isDrawn_19 rfl ho (Nat.le_of_ble_eq_true rfl) (ie_0 (a := a) (b := b) ho hf hi) ?_
    rw [hq1, show bI false = 0 from rfl]
    refine ev_if_eqN i_Fi_isDrawn_22 (by omega) (fun hc_22 => ?_) (fun hc_22 => ?_)
    · skip
      refine ev_iconstN (v := 0) i_Fi_isDrawn_50 (by decide) ?_
      refine ev_ist_6 i_Fi_isDrawn_51 rfl ?_
      exact k
    · skip
      exfalso; omega
  | true =>
    rw [hq1, Bool.true_and] at k
    cases hq2 : (deq (f (4 * i + 2)) x && deq (f (4 * i + 3)) y) with
    | false =>
      rw [hq2, show bI false = 0 from rfl] at k
      refine ev_aload_n i_Fi_isDrawn_12 rfl ?_
      refine ev_iconstN (v := 2) i_Fi_isDrawn_13 (by decide) ?_
      refine ev_iload i_Fi_isDrawn_14 rfl ?_
      first | refine ev_imulN i_Fi_isDrawn_16 ?_ | refine ev_imul i_Fi_isDrawn_16 ?_
      refine ev_dload_n i_Fi_isDrawn_17 rfl ?_
      refine ev_dload_n i_Fi_isDrawn_18 rfl ?_
      refine ev_callV3 i_Fi_isDrawn_19 rfl ho (Nat.le_of_ble_eq_true rfl) (ie_0 (a := a) (b := b) ho hf hi) ?_
      rw [hq1, show bI true = 1 from rfl]
      refine ev_if_eqN i_Fi_isDrawn_22 (by omega) (fun hc_22 => ?_) (fun hc_22 => ?_)
      · skip
        exfalso; omega
      · skip
        refine ev_aload_n i_Fi_isDrawn_25 rfl ?_
        refine ev_iconstN (v := 2) i_Fi_isDrawn_26 (by decide) ?_
        refine ev_iload i_Fi_isDrawn_27 rfl ?_
        first | refine ev_imulN i_Fi_isDrawn_29 ?_ | refine ev_imul i_Fi_isDrawn_29 ?_
        refine ev_iconstN (v := 1) i_Fi_isDrawn_30 (by decide) ?_
        first | refine ev_iaddN i_Fi_isDrawn_31 ?_ | refine ev_iadd i_Fi_isDrawn_31 ?_
        refine ev_aload_n i_Fi_isDrawn_32 rfl ?_
        refine ev_get i_Fi_isDrawn_33 ho rfl ?_
        refine ev_aload_n i_Fi_isDrawn_36 rfl ?_
        refine ev_get i_Fi_isDrawn_37 ho rfl ?_
        refine ev_callV3 i_Fi_isDrawn_40 rfl ho (Nat.le_of_ble_eq_true rfl) (ie_1 (a := x) (b := y) ho hf hi) ?_
        rw [hq2, show bI false = 0 from rfl]
        refine ev_if_eqN i_Fi_isDrawn_43 (by omega) (fun hc_43 => ?_) (fun hc_43 => ?_)
        · skip
          refine ev_iconstN (v := 0) i_Fi_isDrawn_50 (by decide) ?_
          refine ev_ist_6 i_Fi_isDrawn_51 rfl ?_
          exact k
        · skip
          exfalso; omega
    | true =>
      rw [hq2, show bI true = 1 from rfl] at k
      refine ev_aload_n i_Fi_isDrawn_12 rfl ?_
      refine ev_iconstN (v := 2) i_Fi_isDrawn_13 (by decide) ?_
      refine ev_iload i_Fi_isDrawn_14 rfl ?_
      first | refine ev_imulN i_Fi_isDrawn_16 ?_ | refine ev_imul i_Fi_isDrawn_16 ?_
      refine ev_dload_n i_Fi_isDrawn_17 rfl ?_
      refine ev_dload_n i_Fi_isDrawn_18 rfl ?_
      refine ev_callV3 i_Fi_isDrawn_19 rfl ho (Nat.le_of_ble_eq_true rfl) (ie_0 (a := a) (b := b) ho hf hi) ?_
      rw [hq1, show bI true = 1 from rfl]
      refine ev_if_eqN i_Fi_isDrawn_22 (by omega) (fun hc_22 => ?_) (fun hc_22 => ?_)
      · skip
        exfalso; omega
      · skip
        refine ev_aload_n i_Fi_isDrawn_25 rfl ?_
        refine ev_iconstN (v := 2) i_Fi_isDrawn_26 (by decide) ?_
        refine ev_iload i_Fi_isDrawn_27 rfl ?_
        first | refine ev_imulN i_Fi_isDrawn_29 ?_ | refine ev_imul i_Fi_isDrawn_29 ?_
        refine ev_iconstN (v := 1) i_Fi_isDrawn_30 (by decide) ?_
        first | refine ev_iaddN i_Fi_isDrawn_31 ?_ | refine ev_iadd i_Fi_isDrawn_31 ?_
        refine ev_aload_n i_Fi_isDrawn_32 rfl ?_
        refine ev_get i_Fi_isDrawn_33 ho rfl ?_
        refine ev_aload_n i_Fi_isDrawn_36 rfl ?_
        refine ev_get i_Fi_isDrawn_37 ho rfl ?_
        refine ev_callV3 i_Fi_isDrawn_40 rfl ho (Nat.le_of_ble_eq_true rfl) (ie_1 (a := x) (b := y) ho hf hi) ?_
        rw [hq2, show bI true = 1 from rfl]
        refine ev_if_eqN i_Fi_isDrawn_43 (by omega) (fun hc_43 => ?_) (fun hc_43 => ?_)
        · skip
          exfalso; omega
        · skip
          refine ev_iconstN (v := 1) i_Fi_isDrawn_46 (by decide) ?_
          refine ev_goto i_Fi_isDrawn_47 ?_
          refine ev_ist_6 i_Fi_isDrawn_51 rfl ?_
          exact k
theorem lp_bw {scr : Scr} {l : Launch} {S : Sto} {d i : Nat} {pts sg dp de h : Nat} {ink x y st : UInt64} {f : Nat → UInt64} {a b : UInt64} {r : Res} (ho : S.1[95]? = some (fiO pts sg ink dp de x y st h)) (hf : S.1[98]? = some (aD 240 f)) (hi : i < 60) {u6 u7 : Option Value} (k : Ev scr l (d + 1) M_Fi_isDrawn 94 [some (.ref 95), some (.double a), none, some (.double b), none, some (.int (nI i)), some (.int (nI (bI ((deq (f (4 * i)) a && deq (f (4 * i + 1)) b) && (deq (f (4 * i + 2)) x && deq (f (4 * i + 3)) y))))), some (.int (nI (bI ((deq (f (4 * i)) x && deq (f (4 * i + 1)) y) && (deq (f (4 * i + 2)) a && deq (f (4 * i + 3)) b)))))] [] S r) : Ev scr l (d + 1) M_Fi_isDrawn 53 [some (.ref 95), some (.double a), none, some (.double b), none, some (.int (nI i)), some (.int (nI (bI ((deq (f (4 * i)) a && deq (f (4 * i + 1)) b) && (deq (f (4 * i + 2)) x && deq (f (4 * i + 3)) y))))), u7] [] S r := by
  cases hq1 : (deq (f (4 * i)) x && deq (f (4 * i + 1)) y) with
  | false =>
    rw [hq1, Bool.false_and, show bI false = 0 from rfl] at k
    refine ev_aload_n i_Fi_isDrawn_53 rfl ?_
    refine ev_iconstN (v := 2) i_Fi_isDrawn_54 (by decide) ?_
    refine ev_iload i_Fi_isDrawn_55 rfl ?_
    first | refine ev_imulN i_Fi_isDrawn_57 ?_ | refine ev_imul i_Fi_isDrawn_57 ?_
    refine ev_aload_n i_Fi_isDrawn_58 rfl ?_
    refine ev_get i_Fi_isDrawn_59 ho rfl ?_
    refine ev_aload_n i_Fi_isDrawn_62 rfl ?_
    refine ev_get i_Fi_isDrawn_63 ho rfl ?_
    refine ev_callV3 i_Fi_isDrawn_66 rfl ho (Nat.le_of_ble_eq_true rfl) (ie_0 (a := x) (b := y) ho hf hi) ?_
    rw [hq1, show bI false = 0 from rfl]
    refine ev_if_eqN i_Fi_isDrawn_69 (by omega) (fun hc_69 => ?_) (fun hc_69 => ?_)
    · skip
      refine ev_iconstN (v := 0) i_Fi_isDrawn_91 (by decide) ?_
      refine ev_ist_7 i_Fi_isDrawn_92 rfl ?_
      exact k
    · skip
      exfalso; omega
  | true =>
    rw [hq1, Bool.true_and] at k
    cases hq2 : (deq (f (4 * i + 2)) a && deq (f (4 * i + 3)) b) with
    | false =>
      rw [hq2, show bI false = 0 from rfl] at k
      refine ev_aload_n i_Fi_isDrawn_53 rfl ?_
      refine ev_iconstN (v := 2) i_Fi_isDrawn_54 (by decide) ?_
      refine ev_iload i_Fi_isDrawn_55 rfl ?_
      first | refine ev_imulN i_Fi_isDrawn_57 ?_ | refine ev_imul i_Fi_isDrawn_57 ?_
      refine ev_aload_n i_Fi_isDrawn_58 rfl ?_
      refine ev_get i_Fi_isDrawn_59 ho rfl ?_
      refine ev_aload_n i_Fi_isDrawn_62 rfl ?_
      refine ev_get i_Fi_isDrawn_63 ho rfl ?_
      refine ev_callV3 i_Fi_isDrawn_66 rfl ho (Nat.le_of_ble_eq_true rfl) (ie_0 (a := x) (b := y) ho hf hi) ?_
      rw [hq1, show bI true = 1 from rfl]
      refine ev_if_eqN i_Fi_isDrawn_69 (by omega) (fun hc_69 => ?_) (fun hc_69 => ?_)
      · skip
        exfalso; omega
      · skip
        refine ev_aload_n i_Fi_isDrawn_72 rfl ?_
        refine ev_iconstN (v := 2) i_Fi_isDrawn_73 (by decide) ?_
        refine ev_iload i_Fi_isDrawn_74 rfl ?_
        first | refine ev_imulN i_Fi_isDrawn_76 ?_ | refine ev_imul i_Fi_isDrawn_76 ?_
        refine ev_iconstN (v := 1) i_Fi_isDrawn_77 (by decide) ?_
        first | refine ev_iaddN i_Fi_isDrawn_78 ?_ | refine ev_iadd i_Fi_isDrawn_78 ?_
        refine ev_dload_n i_Fi_isDrawn_79 rfl ?_
        refine ev_dload_n i_Fi_isDrawn_80 rfl ?_
        refine ev_callV3 i_Fi_isDrawn_81 rfl ho (Nat.le_of_ble_eq_true rfl) (ie_1 (a := a) (b := b) ho hf hi) ?_
        rw [hq2, show bI false = 0 from rfl]
        refine ev_if_eqN i_Fi_isDrawn_84 (by omega) (fun hc_84 => ?_) (fun hc_84 => ?_)
        · skip
          refine ev_iconstN (v := 0) i_Fi_isDrawn_91 (by decide) ?_
          refine ev_ist_7 i_Fi_isDrawn_92 rfl ?_
          exact k
        · skip
          exfalso; omega
    | true =>
      rw [hq2, show bI true = 1 from rfl] at k
      refine ev_aload_n i_Fi_isDrawn_53 rfl ?_
      refine ev_iconstN (v := 2) i_Fi_isDrawn_54 (by decide) ?_
      refine ev_iload i_Fi_isDrawn_55 rfl ?_
      first | refine ev_imulN i_Fi_isDrawn_57 ?_ | refine ev_imul i_Fi_isDrawn_57 ?_
      refine ev_aload_n i_Fi_isDrawn_58 rfl ?_
      refine ev_get i_Fi_isDrawn_59 ho rfl ?_
      refine ev_aload_n i_Fi_isDrawn_62 rfl ?_
      refine ev_get i_Fi_isDrawn_63 ho rfl ?_
      refine ev_callV3 i_Fi_isDrawn_66 rfl ho (Nat.le_of_ble_eq_true rfl) (ie_0 (a := x) (b := y) ho hf hi) ?_
      rw [hq1, show bI true = 1 from rfl]
      refine ev_if_eqN i_Fi_isDrawn_69 (by omega) (fun hc_69 => ?_) (fun hc_69 => ?_)
      · skip
        exfalso; omega
      · skip
        refine ev_aload_n i_Fi_isDrawn_72 rfl ?_
        refine ev_iconstN (v := 2) i_Fi_isDrawn_73 (by decide) ?_
        refine ev_iload i_Fi_isDrawn_74 rfl ?_
        first | refine ev_imulN i_Fi_isDrawn_76 ?_ | refine ev_imul i_Fi_isDrawn_76 ?_
        refine ev_iconstN (v := 1) i_Fi_isDrawn_77 (by decide) ?_
        first | refine ev_iaddN i_Fi_isDrawn_78 ?_ | refine ev_iadd i_Fi_isDrawn_78 ?_
        refine ev_dload_n i_Fi_isDrawn_79 rfl ?_
        refine ev_dload_n i_Fi_isDrawn_80 rfl ?_
        refine ev_callV3 i_Fi_isDrawn_81 rfl ho (Nat.le_of_ble_eq_true rfl) (ie_1 (a := a) (b := b) ho hf hi) ?_
        rw [hq2, show bI true = 1 from rfl]
        refine ev_if_eqN i_Fi_isDrawn_84 (by omega) (fun hc_84 => ?_) (fun hc_84 => ?_)
        · skip
          exfalso; omega
        · skip
          refine ev_iconstN (v := 1) i_Fi_isDrawn_87 (by decide) ?_
          refine ev_goto i_Fi_isDrawn_88 ?_
          refine ev_ist_7 i_Fi_isDrawn_92 rfl ?_
          exact k
theorem lp_dr_n {scr : Scr} {l : Launch} {S : Sto} {d i : Nat} {pts sg dp de h : Nat} {ink x y st : UInt64} {f : Nat → UInt64} {a b : UInt64} {r : Res} (ho : S.1[95]? = some (fiO pts sg ink dp de x y st h)) (hf : S.1[98]? = some (aD 240 f)) (hi : i < 60) (hsg : sg ≤ 60) (his : i < sg) (he : ((deq (f (4 * i)) a && deq (f (4 * i + 1)) b) && (deq (f (4 * i + 2)) x && deq (f (4 * i + 3)) y) || (deq (f (4 * i)) x && deq (f (4 * i + 1)) y) && (deq (f (4 * i + 2)) a && deq (f (4 * i + 3)) b)) = false) (k : ∀ u6 u7, Ev scr l (d + 1) M_Fi_isDrawn 3 [some (.ref 95), some (.double a), none, some (.double b), none, some (.int (nI (i + 1))), u6, u7] [] S r) (u6 u7 : Option Value) : Ev scr l (d + 1) M_Fi_isDrawn 3 [some (.ref 95), some (.double a), none, some (.double b), none, some (.int (nI i)), u6, u7] [] S r := by
  rw [Bool.or_eq_false_iff] at he
  have k := k (some (.int (nI 0))) (some (.int (nI 0)))
  refine ev_iload i_Fi_isDrawn_3 rfl ?_
  refine ev_aload_n i_Fi_isDrawn_5 rfl ?_
  refine ev_get i_Fi_isDrawn_6 ho rfl ?_
  refine ev_icmp_geN i_Fi_isDrawn_9 (by omega) (by omega) (fun hc_9 => absurd hc_9 (by omega)) (fun hc_9 => ?_)
  refine lp_fw ho hf hi ?_
  refine lp_bw (u6 := none) ho hf hi ?_
  rw [he.1, he.2, show bI false = 0 from rfl]
  refine ev_iload i_Fi_isDrawn_94 rfl ?_
  refine ev_if_neN i_Fi_isDrawn_96 (by omega) (fun hc_96 => ?_) (fun hc_96 => ?_)
  · skip
    exfalso; omega
  · skip
    refine ev_iload i_Fi_isDrawn_99 rfl ?_
    refine ev_if_eqN i_Fi_isDrawn_101 (by omega) (fun hc_101 => ?_) (fun hc_101 => ?_)
    · skip
      refine ev_iincN_5 (c := 1) i_Fi_isDrawn_106 (by decide) rfl ?_
      refine ev_goto i_Fi_isDrawn_109 ?_
      exact k
    · skip
      exfalso; omega
theorem lp_dr_y {scr : Scr} {l : Launch} {S : Sto} {d i : Nat} {pts sg dp de h : Nat} {ink x y st : UInt64} {f : Nat → UInt64} {a b : UInt64} (ho : S.1[95]? = some (fiO pts sg ink dp de x y st h)) (hf : S.1[98]? = some (aD 240 f)) (hi : i < 60) (hsg : sg ≤ 60) (his : i < sg) (he : ((deq (f (4 * i)) a && deq (f (4 * i + 1)) b) && (deq (f (4 * i + 2)) x && deq (f (4 * i + 3)) y) || (deq (f (4 * i)) x && deq (f (4 * i + 1)) y) && (deq (f (4 * i + 2)) a && deq (f (4 * i + 3)) b)) = true) (u6 u7 : Option Value) : Ev scr l (d + 1) M_Fi_isDrawn 3 [some (.ref 95), some (.double a), none, some (.double b), none, some (.int (nI i)), u6, u7] [] S (.inl (some (.int (nI 1))), S) := by
  refine ev_iload i_Fi_isDrawn_3 rfl ?_
  refine ev_aload_n i_Fi_isDrawn_5 rfl ?_
  refine ev_get i_Fi_isDrawn_6 ho rfl ?_
  refine ev_icmp_geN i_Fi_isDrawn_9 (by omega) (by omega) (fun hc_9 => absurd hc_9 (by omega)) (fun hc_9 => ?_)
  refine lp_fw ho hf hi ?_
  refine lp_bw (u6 := none) ho hf hi ?_
  cases hA : ((deq (f (4 * i)) a && deq (f (4 * i + 1)) b) && (deq (f (4 * i + 2)) x && deq (f (4 * i + 3)) y)) with
  | true =>
    rw [show bI true = 1 from rfl]
    refine ev_iload i_Fi_isDrawn_94 rfl ?_
    refine ev_if_neN i_Fi_isDrawn_96 (by omega) (fun hc_96 => ?_) (fun hc_96 => ?_)
    · skip
      refine ev_iconstN (v := 1) i_Fi_isDrawn_104 (by decide) ?_
      exact ev_iret i_Fi_isDrawn_105 rfl (by first | rfl | decide)
    · skip
      exfalso; omega
  | false =>
    rw [hA, Bool.false_or] at he
    rw [he, show bI false = 0 from rfl, show bI true = 1 from rfl]
    refine ev_iload i_Fi_isDrawn_94 rfl ?_
    refine ev_if_neN i_Fi_isDrawn_96 (by omega) (fun hc_96 => ?_) (fun hc_96 => ?_)
    · skip
      exfalso; omega
    · skip
      refine ev_iload i_Fi_isDrawn_99 rfl ?_
      refine ev_if_eqN i_Fi_isDrawn_101 (by omega) (fun hc_101 => ?_) (fun hc_101 => ?_)
      · skip
        exfalso; omega
      · skip
        refine ev_iconstN (v := 1) i_Fi_isDrawn_104 (by decide) ?_
        exact ev_iret i_Fi_isDrawn_105 rfl (by first | rfl | decide)
theorem g_isDrawn {scr : Scr} {l : Launch} {S : Sto} {d : Nat} {pts dp de h : Nat} {ink x y st : UInt64} {L : List SegV} {a b : UInt64} (ho : S.1[95]? = some (fiO pts L.length ink dp de x y st h)) (hs : ArS S 98 L) (hL : L.length ≤ 60) : MetA scr l (d + 1) M_Fi_isDrawn [.ref 95, .double a, .double b] S (.inl (some (.int (nI (bI (isSg L a b x y))))), S) := by
  obtain ⟨f, hf, hv⟩ := hs
  have hse : ∀ i, i < L.length → segEq (L.getD i sg0) a b x y = ((deq (f (4 * i)) a && deq (f (4 * i + 1)) b) && (deq (f (4 * i + 2)) x && deq (f (4 * i + 3)) y) || (deq (f (4 * i)) x && deq (f (4 * i + 1)) y) && (deq (f (4 * i + 2)) a && deq (f (4 * i + 3)) b)) := fun i hi => by
    obtain ⟨e1, e2, e3, e4⟩ := hv i hi
    unfold segEq
    rw [e1, e2, e3, e4]
  have key : ∀ (k i : Nat), i + k = L.length → (∀ j, j < i → segEq (L.getD j sg0) a b x y = false) → ∀ u6 u7, Ev scr l (d + 1) M_Fi_isDrawn 3 [some (.ref 95), some (.double a), none, some (.double b), none, some (.int (nI i)), u6, u7] [] S (.inl (some (.int (nI (bI (isSg L a b x y))))), S) := by
    intro k
    induction k with
    | zero =>
      intro i hik hno u6 u7
      have z : i = L.length := by omega
      subst z
      have h0 : isSg L a b x y = false := by
        cases hb : isSg L a b x y with
        | false => rfl
        | true =>
          obtain ⟨j, hj, hj2⟩ := anyB_iff.mp hb
          rw [hno j hj] at hj2
          cases hj2
      rw [h0, show bI false = 0 from rfl]
      refine ev_iload i_Fi_isDrawn_3 rfl ?_
      refine ev_aload_n i_Fi_isDrawn_5 rfl ?_
      refine ev_get i_Fi_isDrawn_6 ho rfl ?_
      refine ev_icmp_geN i_Fi_isDrawn_9 (by omega) (by omega) (fun hc_9 => ?_) (fun hc_9 => ?_)
      · skip
        refine ev_iconstN (v := 0) i_Fi_isDrawn_112 (by decide) ?_
        exact ev_iret i_Fi_isDrawn_113 rfl (by first | rfl | decide)
      · skip
        exfalso; omega
    | succ k ih =>
      intro i hik hno u6 u7
      cases hq : segEq (L.getD i sg0) a b x y with
      | true =>
        have h1 : isSg L a b x y = true := anyB_iff.mpr ⟨i, by omega, hq⟩
        rw [h1, show bI true = 1 from rfl]
        rw [hse i (by omega)] at hq
        exact lp_dr_y ho hf (by omega) hL (by omega) hq u6 u7
      | false =>
        have hq2 := hq
        rw [hse i (by omega)] at hq2
        exact lp_dr_n ho hf (by omega) hL (by omega) hq2 (fun u6 u7 => ih (i + 1) (by omega) (fun j hj => by
          by_cases z : j = i
          · rw [z]; exact hq
          · exact hno j (by omega)) u6 u7) u6 u7
  refine MetA.of rfl (by decide +kernel) (Nat.le_of_ble_eq_true rfl) ?_
  refine ev_iconstN (v := 0) i_Fi_isDrawn_0 (by decide) ?_
  refine ev_ist_5 i_Fi_isDrawn_1 rfl ?_
  exact key L.length 0 (by omega) (fun j hj => by omega) _ _

/-! the model m: its state, its helpers -/
abbrev mObj (th len st hs dr mo sc : Int32) : ACell := oB 14 [.int th, .ref 106, .ref 107, .ref 108, .ref 109, .ref 110, .int len, .ref 111, .int st, .int hs, .ref 112, .ref 113, .ref 114, .ref 115, .int dr, .ref 116, .ref 117, .ref 118, .ref 119, .ref 120, .ref 121, .ref 122, .ref 123, .ref 124, .ref 125, .ref 126, .ref 127, .ref 128, .ref 129, .int mo, .ref 130, .int sc, .ref 131, .ref 132, .ref 133]
/-- a word in a row: its length at o, its letters behind it -/
def RowW (g : Nat → Int32) (o : Nat) (xs : List Nat) : Prop := g o = nI xs.length ∧ xs.length ≤ 60 ∧ ∀ j, j < xs.length → g (o + 1 + j) = nI (xs.getD j 0) ∧ xs.getD j 0 < 6
def MProd (g : Nat → Int32) (o : Nat) (p : List Nat) : Prop := g o = nI p.length ∧ ∀ i, i < p.length → g (o + 1 + i) = nI (p.getD i 0)
abbrev RuleV : Type := Nat × Nat × List Nat
/-- one rule: left letter, letter, production -/
def MRule (g : Nat → Int32) (o : Nat) (e : RuleV) : Prop := g o = nI e.1 ∧ g (o + 1) = nI e.2.1 ∧ MProd g (o + 2) e.2.2 ∧ PrOK e.2.2 ∧ e.1 < 6 ∧ e.2.1 < 6
def MRules (g : Nat → Int32) (t m : Nat) (r : Nat → RuleV) : Prop := g (139 * t + 96) = nI m ∧ m ≤ 6 ∧ (∀ k, k < m → MRule g (139 * t + 97 + 7 * k) (r k)) ∧ ∀ i j, i < m → j < m → (r i).1 = (r j).1 → (r i).2.1 = (r j).2.1 → i = j
def MList (g : Nat → Int32) (o : Nat) (ps : List (List Nat)) : Prop := g o = nI ps.length ∧ 1 ≤ ps.length ∧ ps.length ≤ 3 ∧ ∀ k, k < ps.length → MProd g (o + 1 + 5 * k) (ps.getD k []) ∧ PrOK (ps.getD k [])
def MTab (g : Nat → Int32) (t : Nat) (T : TabV) : Prop := (∀ a, a < 6 → MList g (139 * t + 16 * a) (T.1 a)) ∧ ∃ m r, MRules g t m r ∧ (∀ a b p, a < 6 → b < 6 → (T.2 a b = some p ↔ ∃ k, k < m ∧ r k = (a, b, p))) ∧ rcount T = m
/-- tables, word, target, commands in four rows -/
def CoreM (S : Sto) (pt pw pg pc : Nat) (C : Core) : Prop := (∃ g, S.1[pt]? = some (aI 417 g) ∧ ∀ t, t < 3 → MTab g t (C.1 t)) ∧ (∃ g, S.1[pw]? = some (aI 61 g) ∧ RowW g 0 C.2.1) ∧ (∃ g, S.1[pg]? = some (aI 61 g) ∧ RowW g 0 C.2.2.1) ∧ ∃ g, S.1[pc]? = some (aI 6 g) ∧ ∀ j, j < 6 → g j = nI (C.2.2.2 j) ∧ C.2.2.2 j < 7
def TextM (S : Sto) (cs : List Nat) : Prop := cs.length ≤ 60 ∧ ∃ g, S.1[110]? = some (aI 60 g) ∧ ∀ j, j < cs.length → g j = nI (cs.getD j 0) ∧ 32 ≤ cs.getD j 0 ∧ cs.getD j 0 ≤ 126
def HistM (S : Sto) (ws : List (List Nat)) : Prop := ws.length ≤ 8 ∧ ∃ g, S.1[111]? = some (aI 488 g) ∧ ∀ k, k < ws.length → RowW g (61 * k) (ws.getD k [])
/-- the rows that calls use again -/
def ScrM (S : Sto) : Prop := ∃ (f1 f5 f6 f7 f8 f9 : Nat → Int32) (f3 f4 : Nat → Int32) (l1 l2 l3 : Nat → Int64) (e1 e2 e3 e4 : Nat → UInt64), S.1[116]? = some (aI 61 f1) ∧ S.1[117]? = some (aJ 6 l1) ∧ S.1[118]? = some (aJ 6 l2) ∧ S.1[119]? = some (aZ 6 f3) ∧ S.1[120]? = some (aZ 36 f4) ∧ S.1[121]? = some (aI 6 f5) ∧ S.1[122]? = some (aI 18 f6) ∧ S.1[123]? = some (aI 84 f7) ∧ S.1[124]? = some (aI 7 f8) ∧ S.1[125]? = some (aI 61 f9) ∧ S.1[126]? = some (aJ 3721 l3) ∧ S.1[127]? = some (aD 61 e1) ∧ S.1[128]? = some (aD 61 e2) ∧ S.1[129]? = some (aD 80 e3) ∧ S.1[130]? = some (aD 240 e4)
def MObj (th : Nat) (σ : Sg) (S : Sto) : Prop := ∃ dr mo sc, S.1[105]? = some (mObj (nI th) (nI σ.1.length) (nI σ.2.2.2.2.1.length) (nI (bI σ.2.2.2.1)) dr mo sc)
/-- the saved state: rows of their sizes; what they hold counts once something was saved -/
def SavM (S : Sto) (b : Bool) (C : Core) : Prop := ((∃ g, S.1[112]? = some (aI 417 g)) ∧ (∃ g, S.1[113]? = some (aI 61 g)) ∧ (∃ g, S.1[114]? = some (aI 61 g)) ∧ ∃ g, S.1[115]? = some (aI 6 g)) ∧ (b = true → CoreM S 112 113 114 115 C)
theorem SavM.of {S : Sto} {b : Bool} {C : Core} (h : CoreM S 112 113 114 115 C) : SavM S b C := by
  obtain ⟨⟨g1, h1, -⟩, ⟨g2, h2, -⟩, ⟨g3, h3, -⟩, g4, h4, -⟩ := id h
  exact ⟨⟨⟨g1, h1⟩, ⟨g2, h2⟩, ⟨g3, h3⟩, g4, h4⟩, fun _ => h⟩
def MInv (th : Nat) (σ : Sg) (S : Sto) : Prop := MObj th σ S ∧ TextM S σ.1 ∧ CoreM S 106 107 108 109 σ.2.1 ∧ SavM S σ.2.2.2.1 σ.2.2.1 ∧ HistM S σ.2.2.2.2.1 ∧ ScrM S
theorem ev_mput_thrown {scr : Scr} {l : Launch} {d : Nat} {M : Mth} {pc : Nat} {L : List (Option Value)} {st0 : List Value} {S : Sto} {r : Res} {x th len st hs dr mo sc : Int32} (h : iPutX M pc 14 0 .int) (hk : S.1[105]? = some (mObj th len st hs dr mo sc)) (k : Ev scr l d M (pc + 3) L st0 (S.put 105 (mObj x len st hs dr mo sc)) r) : Ev scr l d M pc L (.int x :: .ref 105 :: st0) S r := ev_put h hk (Nat.le_of_ble_eq_true rfl) rfl rfl k
theorem ev_mput_length {scr : Scr} {l : Launch} {d : Nat} {M : Mth} {pc : Nat} {L : List (Option Value)} {st0 : List Value} {S : Sto} {r : Res} {x th len st hs dr mo sc : Int32} (h : iPutX M pc 14 6 .int) (hk : S.1[105]? = some (mObj th len st hs dr mo sc)) (k : Ev scr l d M (pc + 3) L st0 (S.put 105 (mObj th x st hs dr mo sc)) r) : Ev scr l d M pc L (.int x :: .ref 105 :: st0) S r := ev_put h hk (Nat.le_of_ble_eq_true rfl) rfl rfl k
theorem ev_mput_steps {scr : Scr} {l : Launch} {d : Nat} {M : Mth} {pc : Nat} {L : List (Option Value)} {st0 : List Value} {S : Sto} {r : Res} {x th len st hs dr mo sc : Int32} (h : iPutX M pc 14 8 .int) (hk : S.1[105]? = some (mObj th len st hs dr mo sc)) (k : Ev scr l d M (pc + 3) L st0 (S.put 105 (mObj th len x hs dr mo sc)) r) : Ev scr l d M pc L (.int x :: .ref 105 :: st0) S r := ev_put h hk (Nat.le_of_ble_eq_true rfl) rfl rfl k
theorem ev_mput_hasSaved {scr : Scr} {l : Launch} {d : Nat} {M : Mth} {pc : Nat} {L : List (Option Value)} {st0 : List Value} {S : Sto} {r : Res} {x th len st hs dr mo sc : Int32} (h : iPutX M pc 14 9 .boolean) (hk : S.1[105]? = some (mObj th len st hs dr mo sc)) (hn : narrow .boolean (.int x) = .int x) (hf : fits .boolean (.int x) = true) (k : Ev scr l d M (pc + 3) L st0 (S.put 105 (mObj th len st x dr mo sc)) r) : Ev scr l d M pc L (.int x :: .ref 105 :: st0) S r := ev_put h hk (Nat.le_of_ble_eq_true rfl) hn hf k
theorem ev_mput_drawn {scr : Scr} {l : Launch} {d : Nat} {M : Mth} {pc : Nat} {L : List (Option Value)} {st0 : List Value} {S : Sto} {r : Res} {x th len st hs dr mo sc : Int32} (h : iPutX M pc 14 14 .int) (hk : S.1[105]? = some (mObj th len st hs dr mo sc)) (k : Ev scr l d M (pc + 3) L st0 (S.put 105 (mObj th len st hs x mo sc)) r) : Ev scr l d M pc L (.int x :: .ref 105 :: st0) S r := ev_put h hk (Nat.le_of_ble_eq_true rfl) rfl rfl k
theorem ev_mput_most {scr : Scr} {l : Launch} {d : Nat} {M : Mth} {pc : Nat} {L : List (Option Value)} {st0 : List Value} {S : Sto} {r : Res} {x th len st hs dr mo sc : Int32} (h : iPutX M pc 14 29 .int) (hk : S.1[105]? = some (mObj th len st hs dr mo sc)) (k : Ev scr l d M (pc + 3) L st0 (S.put 105 (mObj th len st hs dr x sc)) r) : Ev scr l d M pc L (.int x :: .ref 105 :: st0) S r := ev_put h hk (Nat.le_of_ble_eq_true rfl) rfl rfl k
theorem ev_mput_segmentCount {scr : Scr} {l : Launch} {d : Nat} {M : Mth} {pc : Nat} {L : List (Option Value)} {st0 : List Value} {S : Sto} {r : Res} {x th len st hs dr mo sc : Int32} (h : iPutX M pc 14 31 .int) (hk : S.1[105]? = some (mObj th len st hs dr mo sc)) (k : Ev scr l d M (pc + 3) L st0 (S.put 105 (mObj th len st hs dr mo x)) r) : Ev scr l d M pc L (.int x :: .ref 105 :: st0) S r := ev_put h hk (Nat.le_of_ble_eq_true rfl) rfl rfl k
/-- whether a value lies from a to b -/
def inB (x lo hi : Int32) : Prop := ¬ x < lo ∧ ¬ hi < x
theorem m_in {scr : Scr} {l : Launch} {S : Sto} {d : Nat} {x lo hi : Int32} : (inB x lo hi → MetA scr l d M_Md_in [.int x, .int lo, .int hi] S (.inl (some (.int (nI 1))), S)) ∧ (¬ inB x lo hi → MetA scr l d M_Md_in [.int x, .int lo, .int hi] S (.inl (some (.int (nI 0))), S)) := by
  refine ⟨fun hq => ?_, fun hq => ?_⟩
  · refine MetA.of rfl (by decide +kernel) (Nat.le_of_ble_eq_true rfl) ?_
    refine ev_iload_n i_Md_in_0 rfl ?_
    refine ev_iload_n i_Md_in_1 rfl ?_
    refine ev_icmp_lt i_Md_in_2 (fun hc_2 => ?_) (fun hc_2 => ?_)
    · skip
      exact absurd hc_2 hq.1
    · skip
      refine ev_iload_n i_Md_in_5 rfl ?_
      refine ev_iload_n i_Md_in_6 rfl ?_
      refine ev_icmp_gt i_Md_in_7 (fun hc_7 => ?_) (fun hc_7 => ?_)
      · skip
        exact absurd hc_7 hq.2
      · skip
        refine ev_iconstN (v := 1) i_Md_in_10 (by decide) ?_
        refine ev_goto i_Md_in_11 ?_
        exact ev_iret i_Md_in_15 rfl (by first | rfl | decide)
  · refine MetA.of rfl (by decide +kernel) (Nat.le_of_ble_eq_true rfl) ?_
    refine ev_iload_n i_Md_in_0 rfl ?_
    refine ev_iload_n i_Md_in_1 rfl ?_
    refine ev_icmp_lt i_Md_in_2 (fun hc_2 => ?_) (fun hc_2 => ?_)
    · skip
      refine ev_iconstN (v := 0) i_Md_in_14 (by decide) ?_
      exact ev_iret i_Md_in_15 rfl (by first | rfl | decide)
    · skip
      refine ev_iload_n i_Md_in_5 rfl ?_
      refine ev_iload_n i_Md_in_6 rfl ?_
      refine ev_icmp_gt i_Md_in_7 (fun hc_7 => ?_) (fun hc_7 => ?_)
      · skip
        refine ev_iconstN (v := 0) i_Md_in_14 (by decide) ?_
        exact ev_iret i_Md_in_15 rfl (by first | rfl | decide)
      · skip
        exact absurd ⟨hc_2, hc_7⟩ hq
theorem inR_inB {x : Int32} {n : Nat} (h0 : 0 < n) (hn : n < 2 ^ 31) : inR n x ↔ inB x (nI 0) (nI (n - 1)) := by
  unfold inR inB
  rw [nI_0]
  have h2 : (x < nI n) ↔ ¬ nI (n - 1) < x := by
    rw [Int32.lt_iff_toInt_lt, Int32.lt_iff_toInt_lt, nI_toInt hn, nI_toInt (by omega)]
    omega
  rw [h2]
theorem inC_inB {x : Int32} : inC x ↔ inB x (nI 32) (nI 126) := by
  unfold inC inB
  have h2 : (x ≤ nI 126) ↔ ¬ nI 126 < x := by
    rw [Int32.lt_iff_toInt_lt, Int32.le_iff_toInt_le]
    omega
  rw [h2]
theorem m_isTable {scr : Scr} {l : Launch} {S : Sto} {d : Nat} {x : Int32} : (inR 3 x → MetA scr l (d + 1) M_Md_isTable [.int x] S (.inl (some (.int (nI 1))), S)) ∧ (¬ inR 3 x → MetA scr l (d + 1) M_Md_isTable [.int x] S (.inl (some (.int (nI 0))), S)) := by
  refine ⟨fun hq => ?_, fun hq => ?_⟩
  · refine MetA.of rfl (by decide +kernel) (Nat.le_of_ble_eq_true rfl) ?_
    refine ev_iload_n i_Md_isTable_0 rfl ?_
    refine ev_iconstN (v := 0) i_Md_isTable_1 (by decide) ?_
    refine ev_iconstN (v := 2) i_Md_isTable_2 (by decide) ?_
    refine ev_callS3 i_Md_isTable_3 rfl (Nat.le_of_ble_eq_true rfl) (m_in.1 ((inR_inB (by decide) (by decide)).mp hq)) ?_
    exact ev_iret i_Md_isTable_6 rfl (by first | rfl | decide)
  · refine MetA.of rfl (by decide +kernel) (Nat.le_of_ble_eq_true rfl) ?_
    refine ev_iload_n i_Md_isTable_0 rfl ?_
    refine ev_iconstN (v := 0) i_Md_isTable_1 (by decide) ?_
    refine ev_iconstN (v := 2) i_Md_isTable_2 (by decide) ?_
    refine ev_callS3 i_Md_isTable_3 rfl (Nat.le_of_ble_eq_true rfl) (m_in.2 (fun z => hq ((inR_inB (by decide) (by decide)).mpr z))) ?_
    exact ev_iret i_Md_isTable_6 rfl (by first | rfl | decide)
theorem m_isLetter {scr : Scr} {l : Launch} {S : Sto} {d : Nat} {x : Int32} : (inR 6 x → MetA scr l (d + 1) M_Md_isLetter [.int x] S (.inl (some (.int (nI 1))), S)) ∧ (¬ inR 6 x → MetA scr l (d + 1) M_Md_isLetter [.int x] S (.inl (some (.int (nI 0))), S)) := by
  refine ⟨fun hq => ?_, fun hq => ?_⟩
  · refine MetA.of rfl (by decide +kernel) (Nat.le_of_ble_eq_true rfl) ?_
    refine ev_iload_n i_Md_isLetter_0 rfl ?_
    refine ev_iconstN (v := 0) i_Md_isLetter_1 (by decide) ?_
    refine ev_iconstN (v := 5) i_Md_isLetter_2 (by decide) ?_
    refine ev_callS3 i_Md_isLetter_3 rfl (Nat.le_of_ble_eq_true rfl) (m_in.1 ((inR_inB (by decide) (by decide)).mp hq)) ?_
    exact ev_iret i_Md_isLetter_6 rfl (by first | rfl | decide)
  · refine MetA.of rfl (by decide +kernel) (Nat.le_of_ble_eq_true rfl) ?_
    refine ev_iload_n i_Md_isLetter_0 rfl ?_
    refine ev_iconstN (v := 0) i_Md_isLetter_1 (by decide) ?_
    refine ev_iconstN (v := 5) i_Md_isLetter_2 (by decide) ?_
    refine ev_callS3 i_Md_isLetter_3 rfl (Nat.le_of_ble_eq_true rfl) (m_in.2 (fun z => hq ((inR_inB (by decide) (by decide)).mpr z))) ?_
    exact ev_iret i_Md_isLetter_6 rfl (by first | rfl | decide)
theorem m_listAt {scr : Scr} {l : Launch} {S : Sto} {d : Nat} {x y : Nat} : MetA scr l d M_Md_listAt [.int (nI x), .int (nI y)] S (.inl (some (.int (nI (139 * x + 16 * y)))), S) := by
  refine MetA.of rfl (by decide +kernel) (Nat.le_of_ble_eq_true rfl) ?_
  refine ev_sipushN (v := 139) i_Md_listAt_0 (by decide) ?_
  refine ev_iload_n i_Md_listAt_3 rfl ?_
  first | refine ev_imulN i_Md_listAt_4 ?_ | refine ev_imul i_Md_listAt_4 ?_
  refine ev_bipushN (v := 16) i_Md_listAt_5 (by decide) ?_
  refine ev_iload_n i_Md_listAt_7 rfl ?_
  first | refine ev_imulN i_Md_listAt_8 ?_ | refine ev_imul i_Md_listAt_8 ?_
  first | refine ev_iaddN i_Md_listAt_9 ?_ | refine ev_iadd i_Md_listAt_9 ?_
  exact ev_iret i_Md_listAt_10 rfl (by first | rfl | decide)
theorem m_productionAt {scr : Scr} {l : Launch} {S : Sto} {d : Nat} {x y : Nat} : MetA scr l d M_Md_productionAt [.int (nI x), .int (nI y)] S (.inl (some (.int (nI (x + 1 + 5 * y)))), S) := by
  refine MetA.of rfl (by decide +kernel) (Nat.le_of_ble_eq_true rfl) ?_
  refine ev_iload_n i_Md_productionAt_0 rfl ?_
  refine ev_iconstN (v := 1) i_Md_productionAt_1 (by decide) ?_
  first | refine ev_iaddN i_Md_productionAt_2 ?_ | refine ev_iadd i_Md_productionAt_2 ?_
  refine ev_iconstN (v := 5) i_Md_productionAt_3 (by decide) ?_
  refine ev_iload_n i_Md_productionAt_4 rfl ?_
  first | refine ev_imulN i_Md_productionAt_5 ?_ | refine ev_imul i_Md_productionAt_5 ?_
  first | refine ev_iaddN i_Md_productionAt_6 ?_ | refine ev_iadd i_Md_productionAt_6 ?_
  exact ev_iret i_Md_productionAt_7 rfl (by first | rfl | decide)
theorem m_rulesAt {scr : Scr} {l : Launch} {S : Sto} {d : Nat} {x : Nat} : MetA scr l d M_Md_rulesAt [.int (nI x)] S (.inl (some (.int (nI (139 * x + 96)))), S) := by
  refine MetA.of rfl (by decide +kernel) (Nat.le_of_ble_eq_true rfl) ?_
  refine ev_sipushN (v := 139) i_Md_rulesAt_0 (by decide) ?_
  refine ev_iload_n i_Md_rulesAt_3 rfl ?_
  first | refine ev_imulN i_Md_rulesAt_4 ?_ | refine ev_imul i_Md_rulesAt_4 ?_
  refine ev_bipushN (v := 96) i_Md_rulesAt_5 (by decide) ?_
  first | refine ev_iaddN i_Md_rulesAt_7 ?_ | refine ev_iadd i_Md_rulesAt_7 ?_
  exact ev_iret i_Md_rulesAt_8 rfl (by first | rfl | decide)
theorem m_ruleAt {scr : Scr} {l : Launch} {S : Sto} {d : Nat} {x y : Nat} : MetA scr l (d + 1) M_Md_ruleAt [.int (nI x), .int (nI y)] S (.inl (some (.int (nI (139 * x + 96 + 1 + 7 * y)))), S) := by
  refine MetA.of rfl (by decide +kernel) (Nat.le_of_ble_eq_true rfl) ?_
  refine ev_iload_n i_Md_ruleAt_0 rfl ?_
  refine ev_callS1 i_Md_ruleAt_1 rfl (Nat.le_of_ble_eq_true rfl) m_rulesAt ?_
  refine ev_iconstN (v := 1) i_Md_ruleAt_4 (by decide) ?_
  first | refine ev_iaddN i_Md_ruleAt_5 ?_ | refine ev_iadd i_Md_ruleAt_5 ?_
  refine ev_bipushN (v := 7) i_Md_ruleAt_6 (by decide) ?_
  refine ev_iload_n i_Md_ruleAt_8 rfl ?_
  first | refine ev_imulN i_Md_ruleAt_9 ?_ | refine ev_imul i_Md_ruleAt_9 ?_
  first | refine ev_iaddN i_Md_ruleAt_10 ?_ | refine ev_iadd i_Md_ruleAt_10 ?_
  exact ev_iret i_Md_ruleAt_11 rfl (by first | rfl | decide)
theorem m_thrown {scr : Scr} {l : Launch} {S : Sto} {σ : Sg} {th d : Nat} (h : MInv th σ S) : MetA scr l d M_Md_thrown [.ref 105] S (.inl (some (.int (nI th))), S) := by
  obtain ⟨⟨dr, mo, sc, h0⟩, -⟩ := h
  refine MetA.of rfl (by decide +kernel) (Nat.le_of_ble_eq_true rfl) ?_
  refine ev_aload_n i_Md_thrown_0 rfl ?_
  refine ev_get i_Md_thrown_1 h0 rfl ?_
  exact ev_iret i_Md_thrown_4 rfl (by first | rfl | decide)
section MFr
variable {K : List Nat} {S S1 : Sto}
theorem CoreM.fr {pt pw pg pc : Nat} {C : Core} (h : CoreM S pt pw pg pc C) (hF : Fr K S S1) (hk : pt ∉ K ∧ pw ∉ K ∧ pg ∉ K ∧ pc ∉ K) : CoreM S1 pt pw pg pc C := by
  obtain ⟨⟨g1, a1, a2⟩, ⟨g2, b1, b2⟩, ⟨g3, c1, c2⟩, g4, d1, d2⟩ := h
  exact ⟨⟨g1, hF.at a1 hk.1, a2⟩, ⟨g2, hF.at b1 hk.2.1, b2⟩, ⟨g3, hF.at c1 hk.2.2.1, c2⟩, g4, hF.at d1 hk.2.2.2, d2⟩
theorem SavM.fr {b : Bool} {C : Core} (h : SavM S b C) (hF : Fr K S S1) (hk : 112 ∉ K ∧ 113 ∉ K ∧ 114 ∉ K ∧ 115 ∉ K) : SavM S1 b C := by
  obtain ⟨⟨⟨g1, h1⟩, ⟨g2, h2⟩, ⟨g3, h3⟩, g4, h4⟩, h5⟩ := h
  exact ⟨⟨⟨g1, hF.at h1 hk.1⟩, ⟨g2, hF.at h2 hk.2.1⟩, ⟨g3, hF.at h3 hk.2.2.1⟩, g4, hF.at h4 hk.2.2.2⟩, fun q => (h5 q).fr hF hk⟩
theorem TextM.fr {cs : List Nat} (h : TextM S cs) (hF : Fr K S S1) (hk : 110 ∉ K) : TextM S1 cs := by
  obtain ⟨h1, g, h2, h3⟩ := h
  exact ⟨h1, g, hF.at h2 hk, h3⟩
theorem HistM.fr {ws : List (List Nat)} (h : HistM S ws) (hF : Fr K S S1) (hk : 111 ∉ K) : HistM S1 ws := by
  obtain ⟨h1, g, h2, h3⟩ := h
  exact ⟨h1, g, hF.at h2 hk, h3⟩
theorem ScrM.fr (h : ScrM S) (hF : Fr K S S1) (hk : ∀ k, 116 ≤ k → k < 131 → k ∉ K) : ScrM S1 := by
  obtain ⟨f1, f5, f6, f7, f8, f9, f3, f4, l1, l2, l3, e1, e2, e3, e4, h1, h2, h3, h4, h5, h6, h7, h8, h9, h10, h11, h12, h13, h14, h15⟩ := h
  exact ⟨f1, f5, f6, f7, f8, f9, f3, f4, l1, l2, l3, e1, e2, e3, e4, hF.at h1 (hk _ (by omega) (by omega)), hF.at h2 (hk _ (by omega) (by omega)), hF.at h3 (hk _ (by omega) (by omega)), hF.at h4 (hk _ (by omega) (by omega)), hF.at h5 (hk _ (by omega) (by omega)), hF.at h6 (hk _ (by omega) (by omega)), hF.at h7 (hk _ (by omega) (by omega)), hF.at h8 (hk _ (by omega) (by omega)), hF.at h9 (hk _ (by omega) (by omega)), hF.at h10 (hk _ (by omega) (by omega)), hF.at h11 (hk _ (by omega) (by omega)), hF.at h12 (hk _ (by omega) (by omega)), hF.at h13 (hk _ (by omega) (by omega)), hF.at h14 (hk _ (by omega) (by omega)), hF.at h15 (hk _ (by omega) (by omega))⟩
/-- only the object has changed -/
theorem MInv.obj {th th' : Nat} {σ σ' : Sg} (h : MInv th σ S) (hF : Fr [105] S S1) (hT : TextM S σ'.1) (hC : σ'.2.1 = σ.2.1) (hD : σ'.2.2.1 = σ.2.2.1) (hH : HistM S σ'.2.2.2.2.1) (h0 : MObj th' σ' S1) (hB : σ'.2.2.2.1 = σ.2.2.2.1 := by rfl) : MInv th' σ' S1 := by
  obtain ⟨h0', h1, h2, h3, h4, h5⟩ := h
  exact ⟨h0, hT.fr hF (by decide), by rw [hC]; exact h2.fr hF ⟨by decide, by decide, by decide, by decide⟩, by rw [hD, hB]; exact h3.fr hF ⟨by decide, by decide, by decide, by decide⟩, hH.fr hF (by decide), h5.fr hF (fun k h1 h2 => by simp; omega)⟩
theorem MInv.fr {th : Nat} {σ : Sg} (h : MInv th σ S) (hF : Fr K S S1) (hk : ∀ k, k ∈ K → k < 105) : MInv th σ S1 := by
  obtain ⟨⟨dr, mo, sc, h0⟩, h1, h2, h3, h4, h5⟩ := h
  have hn : ∀ k, 105 ≤ k → k ∉ K := fun k q z => by have := hk k z; omega
  exact ⟨⟨dr, mo, sc, hF.at h0 (hn _ (by omega))⟩, h1.fr hF (hn _ (by omega)), h2.fr hF ⟨hn _ (by omega), hn _ (by omega), hn _ (by omega), hn _ (by omega)⟩, h3.fr hF ⟨hn _ (by omega), hn _ (by omega), hn _ (by omega), hn _ (by omega)⟩, h4.fr hF (hn _ (by omega)), h5.fr hF (fun k a b => hn k (by omega))⟩
end MFr
theorem m_fails {scr : Scr} {l : Launch} {S : Sto} {σ : Sg} {th k : Nat} (h : MInv th σ S) : ∃ S1, (∀ d, MetA scr l d M_Md_fails [.ref 105, .int (nI k)] S (.inl (some (.int (nI 0))), S1)) ∧ MInv k σ S1 ∧ Fr [105] S S1 := by
  obtain ⟨dr, mo, sc, h0⟩ := h.1
  have hF : Fr [105] S (S.put 105 (mObj (nI k) (nI σ.1.length) (nI σ.2.2.2.2.1.length) (nI (bI σ.2.2.2.1)) dr mo sc)) := Fr.put _ _ (by simp)
  refine ⟨_, fun d => ?_, h.obj hF h.2.1 rfl rfl h.2.2.2.2.1 ⟨dr, mo, sc, put_self h0⟩, hF⟩
  refine MetA.of rfl (by decide +kernel) (Nat.le_of_ble_eq_true rfl) ?_
  refine ev_aload_n i_Md_fails_0 rfl ?_
  refine ev_iload_n i_Md_fails_1 rfl ?_
  refine ev_mput_thrown i_Md_fails_2 h0 ?_
  refine ev_iconstN (v := 0) i_Md_fails_5 (by decide) ?_
  exact ev_iret i_Md_fails_6 rfl (by first | rfl | decide)
theorem lp_isWord {scr : Scr} {l : Launch} {S : Sto} {σ : Sg} {th n d v : Nat} (h : MInv th σ S) (hv1 : isW σ.1 ∧ σ.1.length ≤ n → v = 1) (hv0 : ¬ (isW σ.1 ∧ σ.1.length ≤ n) → v = 0) : ∀ (k i : Nat), i + k = σ.1.length → ∀ b : Nat, (b = 1 → (σ.1.length ≤ n ∧ ∀ j, j < i → 97 ≤ σ.1.getD j 0 ∧ σ.1.getD j 0 < 103)) → (b = 0 → ¬ (isW σ.1 ∧ σ.1.length ≤ n)) → b ≤ 1 → Ev scr l (d + 1) M_Md_isWord 16 [some (.ref 105), some (.int (nI n)), some (.int (nI b)), some (.int (nI i))] [] S (.inl (some (.int (nI v))), S) := by
  obtain ⟨dr, mo, sc, h0⟩ := h.1
  obtain ⟨h60, g, g1, g2⟩ := h.2.1
  intro k
  induction k with
  | zero =>
    intro i hi b hall hno hb
    have hi : i = σ.1.length := by omega
    subst hi
    have e : v = b := by
      by_cases q : b = 0
      · rw [hv0 (hno q), q]
      · have q1 : b = 1 := by omega
        rw [hv1 ⟨(hall q1).2, (hall q1).1⟩, q1]
    rw [e]
    refine ev_iload_n i_Md_isWord_16 rfl ?_
    refine ev_aload_n i_Md_isWord_17 rfl ?_
    refine ev_get i_Md_isWord_18 h0 rfl ?_
    refine ev_icmp_geN i_Md_isWord_21 (by omega) (by omega) (fun hc_21 => ?_) (fun hc_21 => ?_)
    · skip
      refine ev_iload_n i_Md_isWord_56 rfl ?_
      by_cases q : b = 0
      · subst q
        exact ev_iret i_Md_isWord_57 rfl (by decide)
      · have q1 : b = 1 := by omega
        subst q1
        exact ev_iret i_Md_isWord_57 rfl (by decide)
    · skip
      exfalso; omega
  | succ k ih =>
    intro i hi b hall hno hb
    by_cases q : b = 0
    · subst q
      refine ev_iload_n i_Md_isWord_16 rfl ?_
      refine ev_aload_n i_Md_isWord_17 rfl ?_
      refine ev_get i_Md_isWord_18 h0 rfl ?_
      refine ev_icmp_geN i_Md_isWord_21 (by omega) (by omega) (fun hc_21 => ?_) (fun hc_21 => ?_)
      · skip
        exfalso; omega
      · skip
        refine ev_iload_n i_Md_isWord_24 rfl ?_
        refine ev_if_eqN i_Md_isWord_25 (by omega) (fun hc_25 => ?_) (fun hc_25 => ?_)
        · skip
          refine ev_iconstN (v := 0) i_Md_isWord_48 (by decide) ?_
          refine ev_istore_n i_Md_isWord_49 (Nat.le_of_ble_eq_true rfl) ?_
          refine ev_iincN (c := 1) i_Md_isWord_50 (by decide) rfl ?_
          refine ev_goto i_Md_isWord_53 ?_
          exact ih (i + 1) (by omega) 0 (fun q => absurd q (by omega)) (fun _ => hno rfl) (by omega)
        · skip
          exfalso; omega
    · have q1 : b = 1 := by omega
      subst q1
      by_cases hin : inB (nI (σ.1.getD i 0)) (nI 97) (nI 102)
      · have hi2 : 97 ≤ σ.1.getD i 0 ∧ σ.1.getD i 0 < 103 := by
          have := (g2 i (by omega)).2
          obtain ⟨z1, z2⟩ := hin
          rw [nI_lt_iff (by omega) (by omega)] at z1 z2
          omega
        have hall2 : σ.1.length ≤ n ∧ ∀ j, j < i + 1 → 97 ≤ σ.1.getD j 0 ∧ σ.1.getD j 0 < 103 := ⟨(hall rfl).1, fun j hj => by
          by_cases z : j = i
          · subst z; exact hi2
          · exact (hall rfl).2 j (by omega)⟩
        refine ev_iload_n i_Md_isWord_16 rfl ?_
        refine ev_aload_n i_Md_isWord_17 rfl ?_
        refine ev_get i_Md_isWord_18 h0 rfl ?_
        refine ev_icmp_geN i_Md_isWord_21 (by omega) (by omega) (fun hc_21 => ?_) (fun hc_21 => ?_)
        · skip
          exfalso; omega
        · skip
          refine ev_iload_n i_Md_isWord_24 rfl ?_
          refine ev_if_eqN i_Md_isWord_25 (by omega) (fun hc_25 => ?_) (fun hc_25 => ?_)
          · skip
            exfalso; omega
          · skip
            refine ev_aload_n i_Md_isWord_28 rfl ?_
            refine ev_get i_Md_isWord_29 h0 rfl ?_
            refine ev_iload_n i_Md_isWord_32 rfl ?_
            refine ev_ialdN i_Md_isWord_33 g1 (by omega) (by decide) ?_
            rw [(g2 i (by omega)).1]
            refine ev_bipushN (v := 97) i_Md_isWord_34 (by decide) ?_
            refine ev_bipushN (v := 102) i_Md_isWord_36 (by decide) ?_
            refine ev_callS3 i_Md_isWord_38 rfl (Nat.le_of_ble_eq_true rfl) (m_in.1 hin) ?_
            refine ev_if_eqN i_Md_isWord_41 (by omega) (fun hc_41 => ?_) (fun hc_41 => ?_)
            · skip
              exfalso; omega
            · skip
              refine ev_iconstN (v := 1) i_Md_isWord_44 (by decide) ?_
              refine ev_goto i_Md_isWord_45 ?_
              refine ev_istore_n i_Md_isWord_49 (Nat.le_of_ble_eq_true rfl) ?_
              refine ev_iincN (c := 1) i_Md_isWord_50 (by decide) rfl ?_
              refine ev_goto i_Md_isWord_53 ?_
              exact ih (i + 1) (by omega) 1 (fun _ => hall2) (fun q => absurd q (by omega)) (by omega)
      · have hno2 : ¬ (isW σ.1 ∧ σ.1.length ≤ n) := fun z => hin (by
          have z2 := z.1 i (by omega)
          have := (g2 i (by omega)).2
          refine ⟨?_, ?_⟩
          · rw [nI_lt_iff (by omega) (by omega)]; omega
          · rw [nI_lt_iff (by omega) (by omega)]; omega)
        refine ev_iload_n i_Md_isWord_16 rfl ?_
        refine ev_aload_n i_Md_isWord_17 rfl ?_
        refine ev_get i_Md_isWord_18 h0 rfl ?_
        refine ev_icmp_geN i_Md_isWord_21 (by omega) (by omega) (fun hc_21 => ?_) (fun hc_21 => ?_)
        · skip
          exfalso; omega
        · skip
          refine ev_iload_n i_Md_isWord_24 rfl ?_
          refine ev_if_eqN i_Md_isWord_25 (by omega) (fun hc_25 => ?_) (fun hc_25 => ?_)
          · skip
            exfalso; omega
          · skip
            refine ev_aload_n i_Md_isWord_28 rfl ?_
            refine ev_get i_Md_isWord_29 h0 rfl ?_
            refine ev_iload_n i_Md_isWord_32 rfl ?_
            refine ev_ialdN i_Md_isWord_33 g1 (by omega) (by decide) ?_
            rw [(g2 i (by omega)).1]
            refine ev_bipushN (v := 97) i_Md_isWord_34 (by decide) ?_
            refine ev_bipushN (v := 102) i_Md_isWord_36 (by decide) ?_
            refine ev_callS3 i_Md_isWord_38 rfl (Nat.le_of_ble_eq_true rfl) (m_in.2 hin) ?_
            refine ev_if_eqN i_Md_isWord_41 (by omega) (fun hc_41 => ?_) (fun hc_41 => ?_)
            · skip
              refine ev_iconstN (v := 0) i_Md_isWord_48 (by decide) ?_
              refine ev_istore_n i_Md_isWord_49 (Nat.le_of_ble_eq_true rfl) ?_
              refine ev_iincN (c := 1) i_Md_isWord_50 (by decide) rfl ?_
              refine ev_goto i_Md_isWord_53 ?_
              exact ih (i + 1) (by omega) 0 (fun q => absurd q (by omega)) (fun _ => hno2) (by omega)
            · skip
              exfalso; omega
theorem m_isWordv {scr : Scr} {l : Launch} {S : Sto} {σ : Sg} {th n d v : Nat} (h : MInv th σ S) (hn : n ≤ 60) (hv1 : isW σ.1 ∧ σ.1.length ≤ n → v = 1) (hv0 : ¬ (isW σ.1 ∧ σ.1.length ≤ n) → v = 0) : MetA scr l (d + 1) M_Md_isWord [.ref 105, .int (nI n)] S (.inl (some (.int (nI v))), S) := by
  obtain ⟨dr, mo, sc, h0⟩ := h.1
  have h60 := h.2.1.1
  refine MetA.of rfl (by decide +kernel) (Nat.le_of_ble_eq_true rfl) ?_
  refine ev_aload_n i_Md_isWord_0 rfl ?_
  refine ev_get i_Md_isWord_1 h0 rfl ?_
  refine ev_iload_n i_Md_isWord_4 rfl ?_
  refine ev_icmp_gtN i_Md_isWord_5 (by omega) (by omega) (fun hc_5 => ?_) (fun hc_5 => ?_)
  · skip
    refine ev_iconstN (v := 0) i_Md_isWord_12 (by decide) ?_
    refine ev_istore_n i_Md_isWord_13 (Nat.le_of_ble_eq_true rfl) ?_
    refine ev_iconstN (v := 0) i_Md_isWord_14 (by decide) ?_
    refine ev_istore_n i_Md_isWord_15 (Nat.le_of_ble_eq_true rfl) ?_
    exact lp_isWord h hv1 hv0 σ.1.length 0 (by omega) 0 (fun q => absurd q (by omega)) (fun _ z => by omega) (by omega)
  · skip
    refine ev_iconstN (v := 1) i_Md_isWord_8 (by decide) ?_
    refine ev_goto i_Md_isWord_9 ?_
    refine ev_istore_n i_Md_isWord_13 (Nat.le_of_ble_eq_true rfl) ?_
    refine ev_iconstN (v := 0) i_Md_isWord_14 (by decide) ?_
    refine ev_istore_n i_Md_isWord_15 (Nat.le_of_ble_eq_true rfl) ?_
    exact lp_isWord h hv1 hv0 σ.1.length 0 (by omega) 1 (fun _ => ⟨by omega, fun j hj => absurd hj (by omega)⟩) (fun q => absurd q (by omega)) (by omega)
theorem m_isWord {scr : Scr} {l : Launch} {S : Sto} {σ : Sg} {th n d : Nat} (h : MInv th σ S) (hn : n ≤ 60) : (isW σ.1 ∧ σ.1.length ≤ n → MetA scr l (d + 1) M_Md_isWord [.ref 105, .int (nI n)] S (.inl (some (.int (nI 1))), S)) ∧ (¬ (isW σ.1 ∧ σ.1.length ≤ n) → MetA scr l (d + 1) M_Md_isWord [.ref 105, .int (nI n)] S (.inl (some (.int (nI 0))), S)) :=
  ⟨fun q => m_isWordv h hn (fun _ => rfl) (fun z => absurd q z), fun q => m_isWordv h hn (fun z => absurd z q) (fun _ => rfl)⟩

/-! the model: figures -/
theorem lp_so {scr : Scr} {l : Launch} {S : Sto} {d i sc : Nat} {q1 q2 q3 q4 q5 : Int32} {mo : Int32} {f : Nat → UInt64} {x y u v : UInt64} {r : Res} (h0 : S.1[105]? = some (mObj q1 q2 q3 q4 q5 mo (nI sc))) (hf : S.1[130]? = some (aD 240 f)) (hi : i < 60) {w10 w11 : Option Value} (k : Ev scr l d M_Md_isSegment 75 [some (.ref 105), some (.double x), none, some (.double y), none, some (.double u), none, some (.double v), none, some (.int (nI (4 * i))), w10, w11] [.int (nI (bI (deq (f (4 * i)) x && deq (f (4 * i + 1)) y && (deq (f (4 * i + 2)) u && deq (f (4 * i + 3)) v))))] S r) : Ev scr l d M_Md_isSegment 14 [some (.ref 105), some (.double x), none, some (.double y), none, some (.double u), none, some (.double v), none, some (.int (nI (4 * i))), w10, w11] [] S r := by
  refine ev_aload_n i_Md_isSegment_14 rfl ?_
  refine ev_get i_Md_isSegment_15 h0 rfl ?_
  refine ev_iload i_Md_isSegment_18 rfl ?_
  refine ev_daldN i_Md_isSegment_20 hf (by omega) (by decide) ?_
  refine ev_dload_n i_Md_isSegment_21 rfl ?_
  refine ev_dne i_Md_isSegment_22 i_Md_isSegment_23 (fun hq0 => ?_) (fun hq0 => ?_)
  · rw [show (deq (f (4 * i)) x && deq (f (4 * i + 1)) y && (deq (f (4 * i + 2)) u && deq (f (4 * i + 3)) v)) = false from by simp [hq0], show bI false = 0 from rfl] at k
    refine ev_iconstN (v := 0) i_Md_isSegment_74 (by decide) ?_
    exact k
  · skip
    refine ev_aload_n i_Md_isSegment_26 rfl ?_
    refine ev_get i_Md_isSegment_27 h0 rfl ?_
    refine ev_iload i_Md_isSegment_30 rfl ?_
    refine ev_iconstN (v := 1) i_Md_isSegment_32 (by decide) ?_
    first | refine ev_iaddN i_Md_isSegment_33 ?_ | refine ev_iadd i_Md_isSegment_33 ?_
    refine ev_daldN i_Md_isSegment_34 hf (by omega) (by decide) ?_
    refine ev_dload_n i_Md_isSegment_35 rfl ?_
    refine ev_dne i_Md_isSegment_36 i_Md_isSegment_37 (fun hq1 => ?_) (fun hq1 => ?_)
    · rw [show (deq (f (4 * i)) x && deq (f (4 * i + 1)) y && (deq (f (4 * i + 2)) u && deq (f (4 * i + 3)) v)) = false from by simp [hq0, hq1], show bI false = 0 from rfl] at k
      refine ev_iconstN (v := 0) i_Md_isSegment_74 (by decide) ?_
      exact k
    · skip
      refine ev_aload_n i_Md_isSegment_40 rfl ?_
      refine ev_get i_Md_isSegment_41 h0 rfl ?_
      refine ev_iload i_Md_isSegment_44 rfl ?_
      refine ev_iconstN (v := 2) i_Md_isSegment_46 (by decide) ?_
      first | refine ev_iaddN i_Md_isSegment_47 ?_ | refine ev_iadd i_Md_isSegment_47 ?_
      refine ev_daldN i_Md_isSegment_48 hf (by omega) (by decide) ?_
      refine ev_dload i_Md_isSegment_49 rfl ?_
      refine ev_dne i_Md_isSegment_51 i_Md_isSegment_52 (fun hq2 => ?_) (fun hq2 => ?_)
      · rw [show (deq (f (4 * i)) x && deq (f (4 * i + 1)) y && (deq (f (4 * i + 2)) u && deq (f (4 * i + 3)) v)) = false from by simp [hq0, hq1, hq2], show bI false = 0 from rfl] at k
        refine ev_iconstN (v := 0) i_Md_isSegment_74 (by decide) ?_
        exact k
      · skip
        refine ev_aload_n i_Md_isSegment_55 rfl ?_
        refine ev_get i_Md_isSegment_56 h0 rfl ?_
        refine ev_iload i_Md_isSegment_59 rfl ?_
        refine ev_iconstN (v := 3) i_Md_isSegment_61 (by decide) ?_
        first | refine ev_iaddN i_Md_isSegment_62 ?_ | refine ev_iadd i_Md_isSegment_62 ?_
        refine ev_daldN i_Md_isSegment_63 hf (by omega) (by decide) ?_
        refine ev_dload i_Md_isSegment_64 rfl ?_
        refine ev_dne i_Md_isSegment_66 i_Md_isSegment_67 (fun hq3 => ?_) (fun hq3 => ?_)
        · rw [show (deq (f (4 * i)) x && deq (f (4 * i + 1)) y && (deq (f (4 * i + 2)) u && deq (f (4 * i + 3)) v)) = false from by simp [hq0, hq1, hq2, hq3], show bI false = 0 from rfl] at k
          refine ev_iconstN (v := 0) i_Md_isSegment_74 (by decide) ?_
          exact k
        · rw [show (deq (f (4 * i)) x && deq (f (4 * i + 1)) y && (deq (f (4 * i + 2)) u && deq (f (4 * i + 3)) v)) = true from by simp [hq0, hq1, hq2, hq3], show bI true = 1 from rfl] at k
          refine ev_iconstN (v := 1) i_Md_isSegment_70 (by decide) ?_
          refine ev_goto i_Md_isSegment_71 ?_
          exact k
theorem lp_ba {scr : Scr} {l : Launch} {S : Sto} {d i sc : Nat} {q1 q2 q3 q4 q5 : Int32} {mo : Int32} {f : Nat → UInt64} {x y u v : UInt64} {r : Res} (h0 : S.1[105]? = some (mObj q1 q2 q3 q4 q5 mo (nI sc))) (hf : S.1[130]? = some (aD 240 f)) (hi : i < 60) {w10 w11 : Option Value} (k : Ev scr l d M_Md_isSegment 138 [some (.ref 105), some (.double x), none, some (.double y), none, some (.double u), none, some (.double v), none, some (.int (nI (4 * i))), w10, w11] [.int (nI (bI (deq (f (4 * i)) u && deq (f (4 * i + 1)) v && (deq (f (4 * i + 2)) x && deq (f (4 * i + 3)) y))))] S r) : Ev scr l d M_Md_isSegment 77 [some (.ref 105), some (.double x), none, some (.double y), none, some (.double u), none, some (.double v), none, some (.int (nI (4 * i))), w10, w11] [] S r := by
  refine ev_aload_n i_Md_isSegment_77 rfl ?_
  refine ev_get i_Md_isSegment_78 h0 rfl ?_
  refine ev_iload i_Md_isSegment_81 rfl ?_
  refine ev_daldN i_Md_isSegment_83 hf (by omega) (by decide) ?_
  refine ev_dload i_Md_isSegment_84 rfl ?_
  refine ev_dne i_Md_isSegment_86 i_Md_isSegment_87 (fun hq0 => ?_) (fun hq0 => ?_)
  · rw [show (deq (f (4 * i)) u && deq (f (4 * i + 1)) v && (deq (f (4 * i + 2)) x && deq (f (4 * i + 3)) y)) = false from by simp [hq0], show bI false = 0 from rfl] at k
    refine ev_iconstN (v := 0) i_Md_isSegment_137 (by decide) ?_
    exact k
  · skip
    refine ev_aload_n i_Md_isSegment_90 rfl ?_
    refine ev_get i_Md_isSegment_91 h0 rfl ?_
    refine ev_iload i_Md_isSegment_94 rfl ?_
    refine ev_iconstN (v := 1) i_Md_isSegment_96 (by decide) ?_
    first | refine ev_iaddN i_Md_isSegment_97 ?_ | refine ev_iadd i_Md_isSegment_97 ?_
    refine ev_daldN i_Md_isSegment_98 hf (by omega) (by decide) ?_
    refine ev_dload i_Md_isSegment_99 rfl ?_
    refine ev_dne i_Md_isSegment_101 i_Md_isSegment_102 (fun hq1 => ?_) (fun hq1 => ?_)
    · rw [show (deq (f (4 * i)) u && deq (f (4 * i + 1)) v && (deq (f (4 * i + 2)) x && deq (f (4 * i + 3)) y)) = false from by simp [hq0, hq1], show bI false = 0 from rfl] at k
      refine ev_iconstN (v := 0) i_Md_isSegment_137 (by decide) ?_
      exact k
    · skip
      refine ev_aload_n i_Md_isSegment_105 rfl ?_
      refine ev_get i_Md_isSegment_106 h0 rfl ?_
      refine ev_iload i_Md_isSegment_109 rfl ?_
      refine ev_iconstN (v := 2) i_Md_isSegment_111 (by decide) ?_
      first | refine ev_iaddN i_Md_isSegment_112 ?_ | refine ev_iadd i_Md_isSegment_112 ?_
      refine ev_daldN i_Md_isSegment_113 hf (by omega) (by decide) ?_
      refine ev_dload_n i_Md_isSegment_114 rfl ?_
      refine ev_dne i_Md_isSegment_115 i_Md_isSegment_116 (fun hq2 => ?_) (fun hq2 => ?_)
      · rw [show (deq (f (4 * i)) u && deq (f (4 * i + 1)) v && (deq (f (4 * i + 2)) x && deq (f (4 * i + 3)) y)) = false from by simp [hq0, hq1, hq2], show bI false = 0 from rfl] at k
        refine ev_iconstN (v := 0) i_Md_isSegment_137 (by decide) ?_
        exact k
      · skip
        refine ev_aload_n i_Md_isSegment_119 rfl ?_
        refine ev_get i_Md_isSegment_120 h0 rfl ?_
        refine ev_iload i_Md_isSegment_123 rfl ?_
        refine ev_iconstN (v := 3) i_Md_isSegment_125 (by decide) ?_
        first | refine ev_iaddN i_Md_isSegment_126 ?_ | refine ev_iadd i_Md_isSegment_126 ?_
        refine ev_daldN i_Md_isSegment_127 hf (by omega) (by decide) ?_
        refine ev_dload_n i_Md_isSegment_128 rfl ?_
        refine ev_dne i_Md_isSegment_129 i_Md_isSegment_130 (fun hq3 => ?_) (fun hq3 => ?_)
        · rw [show (deq (f (4 * i)) u && deq (f (4 * i + 1)) v && (deq (f (4 * i + 2)) x && deq (f (4 * i + 3)) y)) = false from by simp [hq0, hq1, hq2, hq3], show bI false = 0 from rfl] at k
          refine ev_iconstN (v := 0) i_Md_isSegment_137 (by decide) ?_
          exact k
        · rw [show (deq (f (4 * i)) u && deq (f (4 * i + 1)) v && (deq (f (4 * i + 2)) x && deq (f (4 * i + 3)) y)) = true from by simp [hq0, hq1, hq2, hq3], show bI true = 1 from rfl] at k
          refine ev_iconstN (v := 1) i_Md_isSegment_133 (by decide) ?_
          refine ev_goto i_Md_isSegment_134 ?_
          exact k
theorem lp_sg_n {scr : Scr} {l : Launch} {S : Sto} {d i sc : Nat} {q1 q2 q3 q4 q5 : Int32} {mo : Int32} {f : Nat → UInt64} {x y u v : UInt64} {r : Res} (h0 : S.1[105]? = some (mObj q1 q2 q3 q4 q5 mo (nI sc))) (hf : S.1[130]? = some (aD 240 f)) (hi : i < 60) (hsg : sc ≤ 60) (his : i < sc) (he : ((deq (f (4 * i)) x && deq (f (4 * i + 1)) y && (deq (f (4 * i + 2)) u && deq (f (4 * i + 3)) v)) || (deq (f (4 * i)) u && deq (f (4 * i + 1)) v && (deq (f (4 * i + 2)) x && deq (f (4 * i + 3)) y))) = false) (k : ∀ u10 u11, Ev scr l d M_Md_isSegment 3 [some (.ref 105), some (.double x), none, some (.double y), none, some (.double u), none, some (.double v), none, some (.int (nI (4 * (i + 1)))), u10, u11] [] S r) (u10 u11 : Option Value) : Ev scr l d M_Md_isSegment 3 [some (.ref 105), some (.double x), none, some (.double y), none, some (.double u), none, some (.double v), none, some (.int (nI (4 * i))), u10, u11] [] S r := by
  rw [Bool.or_eq_false_iff] at he
  have k := k (some (.int (nI 0))) (some (.int (nI 0)))
  rw [show 4 * (i + 1) = 4 * i + 4 by omega] at k
  refine ev_iload i_Md_isSegment_3 rfl ?_
  refine ev_iconstN (v := 4) i_Md_isSegment_5 (by decide) ?_
  refine ev_aload_n i_Md_isSegment_6 rfl ?_
  refine ev_get i_Md_isSegment_7 h0 rfl ?_
  refine ev_imulN i_Md_isSegment_10 ?_
  refine ev_icmp_geN i_Md_isSegment_11 (by omega) (by omega) (fun hc_11 => absurd hc_11 (by omega)) (fun hc_11 => ?_)
  refine lp_so h0 hf hi ?_
  refine ev_ist_10 i_Md_isSegment_75 rfl ?_
  refine lp_ba h0 hf hi ?_
  refine ev_ist_11 i_Md_isSegment_138 rfl ?_
  rw [he.1, he.2, show bI false = 0 from rfl]
  refine ev_iload i_Md_isSegment_140 rfl ?_
  refine ev_if_neN i_Md_isSegment_142 (by omega) (fun hc_142 => ?_) (fun hc_142 => ?_)
  · skip
    exfalso; omega
  · skip
    refine ev_iload i_Md_isSegment_145 rfl ?_
    refine ev_if_eqN i_Md_isSegment_147 (by omega) (fun hc_147 => ?_) (fun hc_147 => ?_)
    · skip
      refine ev_iincN_9 (c := 4) i_Md_isSegment_152 (by decide) rfl ?_
      refine ev_goto i_Md_isSegment_155 ?_
      exact k
    · skip
      exfalso; omega
theorem lp_sg_y {scr : Scr} {l : Launch} {S : Sto} {d i sc : Nat} {q1 q2 q3 q4 q5 : Int32} {mo : Int32} {f : Nat → UInt64} {x y u v : UInt64} (h0 : S.1[105]? = some (mObj q1 q2 q3 q4 q5 mo (nI sc))) (hf : S.1[130]? = some (aD 240 f)) (hi : i < 60) (hsg : sc ≤ 60) (his : i < sc) (he : ((deq (f (4 * i)) x && deq (f (4 * i + 1)) y && (deq (f (4 * i + 2)) u && deq (f (4 * i + 3)) v)) || (deq (f (4 * i)) u && deq (f (4 * i + 1)) v && (deq (f (4 * i + 2)) x && deq (f (4 * i + 3)) y))) = true) (u10 u11 : Option Value) : Ev scr l d M_Md_isSegment 3 [some (.ref 105), some (.double x), none, some (.double y), none, some (.double u), none, some (.double v), none, some (.int (nI (4 * i))), u10, u11] [] S (.inl (some (.int (nI 1))), S) := by
  refine ev_iload i_Md_isSegment_3 rfl ?_
  refine ev_iconstN (v := 4) i_Md_isSegment_5 (by decide) ?_
  refine ev_aload_n i_Md_isSegment_6 rfl ?_
  refine ev_get i_Md_isSegment_7 h0 rfl ?_
  refine ev_imulN i_Md_isSegment_10 ?_
  refine ev_icmp_geN i_Md_isSegment_11 (by omega) (by omega) (fun hc_11 => absurd hc_11 (by omega)) (fun hc_11 => ?_)
  refine lp_so h0 hf hi ?_
  refine ev_ist_10 i_Md_isSegment_75 rfl ?_
  refine lp_ba h0 hf hi ?_
  refine ev_ist_11 i_Md_isSegment_138 rfl ?_
  cases hA : (deq (f (4 * i)) x && deq (f (4 * i + 1)) y && (deq (f (4 * i + 2)) u && deq (f (4 * i + 3)) v)) with
  | true =>
    rw [show bI true = 1 from rfl]
    refine ev_iload i_Md_isSegment_140 rfl ?_
    refine ev_if_neN i_Md_isSegment_142 (by omega) (fun hc_142 => ?_) (fun hc_142 => ?_)
    · skip
      refine ev_iconstN (v := 1) i_Md_isSegment_150 (by decide) ?_
      exact ev_iret i_Md_isSegment_151 rfl (by first | rfl | decide)
    · skip
      exfalso; omega
  | false =>
    rw [hA, Bool.false_or] at he
    rw [he, show bI false = 0 from rfl, show bI true = 1 from rfl]
    refine ev_iload i_Md_isSegment_140 rfl ?_
    refine ev_if_neN i_Md_isSegment_142 (by omega) (fun hc_142 => ?_) (fun hc_142 => ?_)
    · skip
      exfalso; omega
    · skip
      refine ev_iload i_Md_isSegment_145 rfl ?_
      refine ev_if_eqN i_Md_isSegment_147 (by omega) (fun hc_147 => ?_) (fun hc_147 => ?_)
      · skip
        exfalso; omega
      · skip
        refine ev_iconstN (v := 1) i_Md_isSegment_150 (by decide) ?_
        exact ev_iret i_Md_isSegment_151 rfl (by first | rfl | decide)
theorem m_isSeg {scr : Scr} {l : Launch} {S : Sto} {d : Nat} {q1 q2 q3 q4 q5 : Int32} {mo : Int32} {x y u v : UInt64} {L : List SegV} (h0 : S.1[105]? = some (mObj q1 q2 q3 q4 q5 mo (nI L.length))) (hs : ArS S 130 L) (hL : L.length ≤ 60) : MetA scr l d M_Md_isSegment [.ref 105, .double x, .double y, .double u, .double v] S (.inl (some (.int (nI (bI (isSg L x y u v))))), S) := by
  obtain ⟨f, hf, hv⟩ := hs
  have hse : ∀ i, i < L.length → segEq (L.getD i sg0) x y u v = ((deq (f (4 * i)) x && deq (f (4 * i + 1)) y && (deq (f (4 * i + 2)) u && deq (f (4 * i + 3)) v)) || (deq (f (4 * i)) u && deq (f (4 * i + 1)) v && (deq (f (4 * i + 2)) x && deq (f (4 * i + 3)) y))) := fun i hi => by
    obtain ⟨e1, e2, e3, e4⟩ := hv i hi
    unfold segEq
    rw [e1, e2, e3, e4]
  have key : ∀ (k i : Nat), i + k = L.length → (∀ j, j < i → segEq (L.getD j sg0) x y u v = false) → ∀ u10 u11, Ev scr l d M_Md_isSegment 3 [some (.ref 105), some (.double x), none, some (.double y), none, some (.double u), none, some (.double v), none, some (.int (nI (4 * i))), u10, u11] [] S (.inl (some (.int (nI (bI (isSg L x y u v))))), S) := by
    intro k
    induction k with
    | zero =>
      intro i hik hno u10 u11
      have z : i = L.length := by omega
      subst z
      have hz : isSg L x y u v = false := by
        cases hb : isSg L x y u v with
        | false => rfl
        | true =>
          obtain ⟨j, hj, hj2⟩ := anyB_iff.mp hb
          rw [hno j hj] at hj2
          cases hj2
      rw [hz, show bI false = 0 from rfl]
      refine ev_iload i_Md_isSegment_3 rfl ?_
      refine ev_iconstN (v := 4) i_Md_isSegment_5 (by decide) ?_
      refine ev_aload_n i_Md_isSegment_6 rfl ?_
      refine ev_get i_Md_isSegment_7 h0 rfl ?_
      first | refine ev_imulN i_Md_isSegment_10 ?_ | refine ev_imul i_Md_isSegment_10 ?_
      refine ev_icmp_geN i_Md_isSegment_11 (by omega) (by omega) (fun hc_11 => ?_) (fun hc_11 => ?_)
      · skip
        refine ev_iconstN (v := 0) i_Md_isSegment_158 (by decide) ?_
        exact ev_iret i_Md_isSegment_159 rfl (by first | rfl | decide)
      · skip
        exfalso; omega
    | succ k ih =>
      intro i hik hno u10 u11
      cases hq : segEq (L.getD i sg0) x y u v with
      | true =>
        have h1 : isSg L x y u v = true := anyB_iff.mpr ⟨i, by omega, hq⟩
        rw [h1, show bI true = 1 from rfl]
        rw [hse i (by omega)] at hq
        exact lp_sg_y h0 hf (by omega) hL (by omega) hq u10 u11
      | false =>
        have hq2 := hq
        rw [hse i (by omega)] at hq2
        exact lp_sg_n h0 hf (by omega) hL (by omega) hq2 (fun u10 u11 => ih (i + 1) (by omega) (fun j hj => by
          by_cases z : j = i
          · rw [z]; exact hq
          · exact hno j (by omega)) u10 u11) u10 u11
  refine MetA.of rfl (by decide +kernel) (Nat.le_of_ble_eq_true rfl) ?_
  refine ev_iconstN (v := 0) i_Md_isSegment_0 (by decide) ?_
  refine ev_ist_9 i_Md_isSegment_1 rfl ?_
  exact key L.length 0 (by omega) (fun j hj => by omega) _ _
theorem m_addSeg {scr : Scr} {l : Launch} {S : Sto} {q1 q2 q3 q4 q5 : Int32} {mo : Int32} {x y u v : UInt64} {L : List SegV} (h0 : S.1[105]? = some (mObj q1 q2 q3 q4 q5 mo (nI L.length))) (hs : ArS S 130 L) (hL : L.length ≤ 59) : ∃ S1, (∀ d, MetA scr l (d + 1) M_Md_addSegment [.ref 105, .double x, .double y, .double u, .double v] S (.inl none, S1)) ∧ (S1.1[105]? = some (mObj q1 q2 q3 q4 q5 mo (nI (if isSg L x y u v = true then L else L ++ [(x, y, u, v)]).length)) ∧ ArS S1 130 (if isSg L x y u v = true then L else L ++ [(x, y, u, v)])) ∧ Fr [105, 130] S S1 := by
  have hL : L.length ≤ 60 := by omega
  cases hq : isSg L x y u v with
  | true =>
    rw [if_pos rfl]
    refine ⟨S, fun d => ?_, ⟨h0, hs⟩, Fr.rf _ _⟩
    refine MetA.of rfl (by decide +kernel) (Nat.le_of_ble_eq_true rfl) ?_
    refine ev_aload_n i_Md_addSegment_0 rfl ?_
    refine ev_dload_n i_Md_addSegment_1 rfl ?_
    refine ev_dload_n i_Md_addSegment_2 rfl ?_
    refine ev_dload i_Md_addSegment_3 rfl ?_
    refine ev_dload i_Md_addSegment_5 rfl ?_
    refine ev_callV4 i_Md_addSegment_7 rfl h0 (Nat.le_of_ble_eq_true rfl) (m_isSeg h0 hs hL) ?_
    rw [hq, show bI true = 1 from rfl]
    refine ev_if_neN i_Md_addSegment_10 (by omega) (fun hc_10 => ?_) (fun hc_10 => ?_)
    · skip
      exact ev_vret i_Md_addSegment_79 rfl
    · skip
      exfalso; omega
  | false =>
    rw [if_neg (by decide)]
    obtain ⟨f, hf, hv⟩ := id hs
    have o1 : (S.put 130 (aD 240 (vf_upd f (4 * L.length) x))).1[105]? = _ := put_at h0 (by decide)
    have h1 : (S.put 130 (aD 240 (vf_upd f (4 * L.length) x))).1[130]? = _ := put_self hf
    have o2 : (S.put 130 (aD 240 (vf_upd (vf_upd f (4 * L.length) x) (4 * L.length + 1) y))).1[105]? = _ := put_at h0 (by decide)
    have h2 : (S.put 130 (aD 240 (vf_upd (vf_upd f (4 * L.length) x) (4 * L.length + 1) y))).1[130]? = _ := put_self hf
    have o3 : (S.put 130 (aD 240 (vf_upd (vf_upd (vf_upd f (4 * L.length) x) (4 * L.length + 1) y) (4 * L.length + 2) u))).1[105]? = _ := put_at h0 (by decide)
    have h3 : (S.put 130 (aD 240 (vf_upd (vf_upd (vf_upd f (4 * L.length) x) (4 * L.length + 1) y) (4 * L.length + 2) u))).1[130]? = _ := put_self hf
    have o4 : (S.put 130 (aD 240 (vf_upd (vf_upd (vf_upd (vf_upd f (4 * L.length) x) (4 * L.length + 1) y) (4 * L.length + 2) u) (4 * L.length + 3) v))).1[105]? = _ := put_at h0 (by decide)
    have hl : (L ++ [(x, y, u, v)]).length = L.length + 1 := by rw [List.length_append]; rfl
    refine ⟨((S.put 130 (aD 240 (vf_upd (vf_upd (vf_upd (vf_upd f (4 * L.length) x) (4 * L.length + 1) y) (4 * L.length + 2) u) (4 * L.length + 3) v))).put 105 (mObj q1 q2 q3 q4 q5 mo (nI (L.length + 1)))), fun d => ?_, ⟨by rw [hl]; exact put_self o4, ⟨_, put_at (put_self hf) (by decide), fun j hj => ?_⟩⟩, (Fr.put _ _ (by simp)).tr (Fr.put _ _ (by simp))⟩
    · refine MetA.of rfl (by decide +kernel) (Nat.le_of_ble_eq_true rfl) ?_
      refine ev_aload_n i_Md_addSegment_0 rfl ?_
      refine ev_dload_n i_Md_addSegment_1 rfl ?_
      refine ev_dload_n i_Md_addSegment_2 rfl ?_
      refine ev_dload i_Md_addSegment_3 rfl ?_
      refine ev_dload i_Md_addSegment_5 rfl ?_
      refine ev_callV4 i_Md_addSegment_7 rfl h0 (Nat.le_of_ble_eq_true rfl) (m_isSeg h0 hs hL) ?_
      rw [hq, show bI false = 0 from rfl]
      refine ev_if_neN i_Md_addSegment_10 (by omega) (fun hc_10 => ?_) (fun hc_10 => ?_)
      · skip
        exfalso; omega
      · skip
        refine ev_aload_n i_Md_addSegment_13 rfl ?_
        refine ev_get i_Md_addSegment_14 h0 rfl ?_
        refine ev_iconstN (v := 4) i_Md_addSegment_17 (by decide) ?_
        refine ev_aload_n i_Md_addSegment_18 rfl ?_
        refine ev_get i_Md_addSegment_19 h0 rfl ?_
        first | refine ev_imulN i_Md_addSegment_22 ?_ | refine ev_imul i_Md_addSegment_22 ?_
        refine ev_dload_n i_Md_addSegment_23 rfl ?_
        refine ev_dastN i_Md_addSegment_24 hf (by omega) (by decide) ?_
        refine ev_eqS (S1 := (S.put 130 (aD 240 (vf_upd f (4 * L.length) x)))) (by first | rfl | rw [put_put]) ?_
        refine ev_aload_n i_Md_addSegment_25 rfl ?_
        refine ev_get i_Md_addSegment_26 o1 rfl ?_
        refine ev_iconstN (v := 4) i_Md_addSegment_29 (by decide) ?_
        refine ev_aload_n i_Md_addSegment_30 rfl ?_
        refine ev_get i_Md_addSegment_31 o1 rfl ?_
        first | refine ev_imulN i_Md_addSegment_34 ?_ | refine ev_imul i_Md_addSegment_34 ?_
        refine ev_iconstN (v := 1) i_Md_addSegment_35 (by decide) ?_
        first | refine ev_iaddN i_Md_addSegment_36 ?_ | refine ev_iadd i_Md_addSegment_36 ?_
        refine ev_dload_n i_Md_addSegment_37 rfl ?_
        refine ev_dastN i_Md_addSegment_38 h1 (by omega) (by decide) ?_
        refine ev_eqS (S1 := (S.put 130 (aD 240 (vf_upd (vf_upd f (4 * L.length) x) (4 * L.length + 1) y)))) (by first | rfl | rw [put_put]) ?_
        refine ev_aload_n i_Md_addSegment_39 rfl ?_
        refine ev_get i_Md_addSegment_40 o2 rfl ?_
        refine ev_iconstN (v := 4) i_Md_addSegment_43 (by decide) ?_
        refine ev_aload_n i_Md_addSegment_44 rfl ?_
        refine ev_get i_Md_addSegment_45 o2 rfl ?_
        first | refine ev_imulN i_Md_addSegment_48 ?_ | refine ev_imul i_Md_addSegment_48 ?_
        refine ev_iconstN (v := 2) i_Md_addSegment_49 (by decide) ?_
        first | refine ev_iaddN i_Md_addSegment_50 ?_ | refine ev_iadd i_Md_addSegment_50 ?_
        refine ev_dload i_Md_addSegment_51 rfl ?_
        refine ev_dastN i_Md_addSegment_53 h2 (by omega) (by decide) ?_
        refine ev_eqS (S1 := (S.put 130 (aD 240 (vf_upd (vf_upd (vf_upd f (4 * L.length) x) (4 * L.length + 1) y) (4 * L.length + 2) u)))) (by first | rfl | rw [put_put]) ?_
        refine ev_aload_n i_Md_addSegment_54 rfl ?_
        refine ev_get i_Md_addSegment_55 o3 rfl ?_
        refine ev_iconstN (v := 4) i_Md_addSegment_58 (by decide) ?_
        refine ev_aload_n i_Md_addSegment_59 rfl ?_
        refine ev_get i_Md_addSegment_60 o3 rfl ?_
        first | refine ev_imulN i_Md_addSegment_63 ?_ | refine ev_imul i_Md_addSegment_63 ?_
        refine ev_iconstN (v := 3) i_Md_addSegment_64 (by decide) ?_
        first | refine ev_iaddN i_Md_addSegment_65 ?_ | refine ev_iadd i_Md_addSegment_65 ?_
        refine ev_dload i_Md_addSegment_66 rfl ?_
        refine ev_dastN i_Md_addSegment_68 h3 (by omega) (by decide) ?_
        refine ev_eqS (S1 := (S.put 130 (aD 240 (vf_upd (vf_upd (vf_upd (vf_upd f (4 * L.length) x) (4 * L.length + 1) y) (4 * L.length + 2) u) (4 * L.length + 3) v)))) (by first | rfl | rw [put_put]) ?_
        refine ev_aload_n i_Md_addSegment_69 rfl ?_
        refine ev_dup i_Md_addSegment_70 rfl ?_
        refine ev_get i_Md_addSegment_71 o4 rfl ?_
        refine ev_iconstN (v := 1) i_Md_addSegment_74 (by decide) ?_
        first | refine ev_iaddN i_Md_addSegment_75 ?_ | refine ev_iadd i_Md_addSegment_75 ?_
        refine ev_mput_segmentCount i_Md_addSegment_76 o4 ?_
        exact ev_vret i_Md_addSegment_79 rfl
    · rw [hl] at hj
      rw [getD_ap]
      by_cases z : j < L.length
      · rw [if_pos z]
        have e : ∀ k, k < 4 * L.length → (vf_upd (vf_upd (vf_upd (vf_upd f (4 * L.length) x) (4 * L.length + 1) y) (4 * L.length + 2) u) (4 * L.length + 3) v) k = f k := fun k hk => by rw [updD_ne (by omega), updD_ne (by omega), updD_ne (by omega), updD_ne (by omega)]
        rw [e _ (by omega), e _ (by omega), e _ (by omega), e _ (by omega)]
        exact hv j z
      · have zj : j = L.length := by omega
        subst zj
        rw [if_neg (by omega), if_pos rfl]
        refine ⟨?_, ?_, ?_, updD_at _ _ _⟩
        · rw [updD_ne (by omega), updD_ne (by omega), updD_ne (by omega), updD_at]
        · rw [updD_ne (by omega), updD_ne (by omega), updD_at]
        · rw [updD_ne (by omega), updD_at]

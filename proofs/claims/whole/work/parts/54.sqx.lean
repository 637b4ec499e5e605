/-! sequences of tables: what they are, the class SequenceSearch -/
def brs (f : Nat → List Nat) : Nat → List Nat
  | 0 => []
  | t + 1 => brs f t ++ f t
/-- the sequences of k more tables that lead from w to the target; s: the sequence so far -/
def sqL (Ts : Nat → TabV) (tgt : List Nat) : Nat → List Nat → Nat → List Nat
  | 0, w, s => if w = tgt then [s] else []
  | k + 1, w, s => brs (fun t => if (stepW (Ts t) w (nI 0)).length ≤ 60 then sqL Ts tgt k (stepW (Ts t) w (nI 0)) (s * 3 + t) else []) 3
theorem brs_len {f : Nat → List Nat} {b n : Nat} (h : ∀ t, t < n → (f t).length ≤ b) : (brs f n).length ≤ n * b := by
  induction n with
  | zero => exact Nat.zero_le _
  | succ n ih =>
    have h1 := ih (fun t ht => h t (by omega))
    have h2 := h n (by omega)
    show (brs f n ++ f n).length ≤ _
    rw [List.length_append, Nat.succ_mul]
    omega
theorem sqL_len {Ts : Nat → TabV} {tgt : List Nat} : ∀ (k : Nat) (w : List Nat) (s : Nat), (sqL Ts tgt k w s).length ≤ 3 ^ k := by
  intro k
  induction k with
  | zero =>
    intro w s
    unfold sqL
    split
    · exact Nat.le_refl _
    · exact Nat.zero_le _
  | succ k ih =>
    intro w s
    have := brs_len (f := fun t => if (stepW (Ts t) w (nI 0)).length ≤ 60 then sqL Ts tgt k (stepW (Ts t) w (nI 0)) (s * 3 + t) else []) (b := 3 ^ k) (n := 3) (fun t _ => by
      try dsimp only
      split
      · exact ih _ _
      · exact Nat.zero_le _)
    show (brs _ 3).length ≤ _
    rw [Nat.pow_succ]
    omega
/-- what is found, and the first: behind more of them -/
def fstR (fo : Nat) (fi : Int32) (L : List Nat) : Int32 := if fo = 0 then (match L with | [] => fi | a :: _ => nI a) else fi
theorem fstR_nil (fo : Nat) (fi : Int32) : fstR fo fi [] = fi := by unfold fstR; split <;> rfl
theorem fstR_app (fo : Nat) (fi : Int32) (L M : List Nat) : fstR (fo + L.length) (fstR fo fi L) M = fstR fo fi (L ++ M) := by
  unfold fstR
  by_cases z : fo = 0
  · rw [if_pos z, if_pos z]
    cases L with
    | nil => rw [if_pos (by rw [z]; rfl)]; rfl
    | cons a L => rw [if_neg (by rw [z]; show ¬ (0 + (L.length + 1) = 0); omega)]; rfl
  · rw [if_neg z, if_neg z, if_neg (by omega)]
abbrev sqO (fo : Nat) (fi : Int32) : ACell := oB 7 [.ref 82, .int (nI fo), .int fi]
abbrev sqA : List Nat := 81 :: List.range' 83 12
abbrev sqK (dp : Nat) : List Nat := 81 :: List.range' (85 + 2 * dp) (10 - 2 * dp)
theorem sqK_mem {dp k : Nat} : k ∈ sqK dp ↔ k = 81 ∨ (85 + 2 * dp ≤ k ∧ k < 85 + 2 * dp + (10 - 2 * dp)) := by
  rw [List.mem_cons, List.mem_range'_1]
theorem sqA_mem {k : Nat} : k ∈ sqA ↔ k = 81 ∨ (83 ≤ k ∧ k < 95) := by
  rw [List.mem_cons, List.mem_range'_1]
/-- what the search finds around it -/
def SqB (S : Sto) (C : Core) : Prop := StAt S 3 C ∧ ∃ f : Nat → Option Nat, S.1[82]? = some (aQ "ParallelRewriting$Word" 6 f) ∧ ∀ j, j < 6 → f j = some (83 + 2 * j)
theorem SqB.fr {S S1 : Sto} {C : Core} (h : SqB S C) (hF : Fr sqA S S1) : SqB S1 C := by
  obtain ⟨h1, f, h2, h3⟩ := h
  exact ⟨h1.fr hF (fun i hi => by rw [sqA_mem]; omega), f, hF.at h2 (by rw [sqA_mem]; omega), h3⟩
theorem q_follow {scr : Scr} {l : Launch} {C : Core} {steps : Nat} (hst : steps ≤ 5) : ∀ (k dp : Nat) (w : List Nat) (s fo : Nat) (fi : Int32) (S2 : Sto), dp + k = steps → fo + 3 ^ k ≤ 243 → SqB S2 C → S2.1[81]? = some (sqO fo fi) → WordAt S2 (83 + 2 * dp) (84 + 2 * dp) w → (∀ j, dp < j → j < 6 → ∃ zs, WordAt S2 (83 + 2 * j) (84 + 2 * j) zs) → ∃ S3, (∀ d, MetA scr l (d + k + 3) M_Sq_follow [.ref 81, .ref 3, .int (nI dp), .int (nI steps), .int (nI s)] S2 (.inl none, S3)) ∧ S3.1[81]? = some (sqO (fo + (sqL C.1 C.2.2.1 k w s).length) (fstR fo fi (sqL C.1 C.2.2.1 k w s))) ∧ (∀ j, dp < j → j < 6 → ∃ zs, WordAt S3 (83 + 2 * j) (84 + 2 * j) zs) ∧ Fr (sqK dp) S2 S3 := by
  intro k
  induction k with
  | zero =>
    intro dp w s fo fi S2 hk hfo hB ho hw hz
    obtain ⟨-, f, f1, f2⟩ := id hB
    unfold sqL
    by_cases he : w = C.2.2.1
    · rw [if_pos he]
      have op : (S2.put 81 (oB 7 [.ref 82, .int (nI fo), .int (fstR fo fi [s])])).1[81]? = _ := put_self ho
      have hF : Fr (sqK dp) S2 ((S2.put 81 (oB 7 [.ref 82, .int (nI fo), .int (fstR fo fi [s])])).put 81 (sqO (fo + 1) (fstR fo fi [s]))) := (Fr.put _ _ (by simp)).tr (Fr.put _ _ (by simp))
      refine ⟨_, fun d => ?_, put_self op, fun j h1 h2 => ?_, hF⟩
      · by_cases z : fo = 0
        · have e : fstR fo fi [s] = nI s := by unfold fstR; rw [if_pos z]
          rw [e] at op ⊢
          refine MetA.of rfl (by decide +kernel) (Nat.le_of_ble_eq_true rfl) ?_
          refine ev_iload_n i_Sq_follow_0 rfl ?_
          refine ev_iload_n i_Sq_follow_1 rfl ?_
          refine ev_icmp_ltN i_Sq_follow_2 (by omega) (by omega) (fun hc_2 => ?_) (fun hc_2 => ?_)
          · skip
            exfalso; omega
          · skip
            refine ev_aload_n i_Sq_follow_5 rfl ?_
            refine ev_get i_Sq_follow_6 ho rfl ?_
            refine ev_iload_n i_Sq_follow_9 rfl ?_
            refine ev_qaldN i_Sq_follow_10 f1 (by omega) (by decide) (f2 _ (by omega)) ?_
            refine ev_aload_n i_Sq_follow_11 rfl ?_
            refine ev_get i_Sq_follow_12 hB.1.1 rfl ?_
            refine ev_callV1 i_Sq_follow_15 rfl hw.1 (Nat.le_of_ble_eq_true rfl) (w_same hw hB.1.2.2.2.2.1) ?_
            rw [if_pos he]
            refine ev_if_eqN i_Sq_follow_18 (by omega) (fun hc_18 => ?_) (fun hc_18 => ?_)
            · skip
              exfalso; omega
            · skip
              refine ev_aload_n i_Sq_follow_21 rfl ?_
              refine ev_aload_n i_Sq_follow_22 rfl ?_
              refine ev_get i_Sq_follow_23 ho rfl ?_
              refine ev_if_neN i_Sq_follow_26 (by omega) (fun hc_26 => ?_) (fun hc_26 => ?_)
              · skip
                exfalso; omega
              · skip
                refine ev_iload i_Sq_follow_29 rfl ?_
                refine ev_goto i_Sq_follow_31 ?_
                refine ev_put i_Sq_follow_38 ho (Nat.le_of_ble_eq_true rfl) rfl rfl ?_
                refine ev_aload_n i_Sq_follow_41 rfl ?_
                refine ev_dup i_Sq_follow_42 rfl ?_
                refine ev_get i_Sq_follow_43 op rfl ?_
                refine ev_iconstN (v := 1) i_Sq_follow_46 (by decide) ?_
                first | refine ev_iaddN i_Sq_follow_47 ?_ | refine ev_iadd i_Sq_follow_47 ?_
                refine ev_put i_Sq_follow_48 op (Nat.le_of_ble_eq_true rfl) rfl rfl ?_
                exact ev_vret i_Sq_follow_51 rfl
        · have e : fstR fo fi [s] = fi := by unfold fstR; rw [if_neg z]
          rw [e] at op ⊢
          refine MetA.of rfl (by decide +kernel) (Nat.le_of_ble_eq_true rfl) ?_
          refine ev_iload_n i_Sq_follow_0 rfl ?_
          refine ev_iload_n i_Sq_follow_1 rfl ?_
          refine ev_icmp_ltN i_Sq_follow_2 (by omega) (by omega) (fun hc_2 => ?_) (fun hc_2 => ?_)
          · skip
            exfalso; omega
          · skip
            refine ev_aload_n i_Sq_follow_5 rfl ?_
            refine ev_get i_Sq_follow_6 ho rfl ?_
            refine ev_iload_n i_Sq_follow_9 rfl ?_
            refine ev_qaldN i_Sq_follow_10 f1 (by omega) (by decide) (f2 _ (by omega)) ?_
            refine ev_aload_n i_Sq_follow_11 rfl ?_
            refine ev_get i_Sq_follow_12 hB.1.1 rfl ?_
            refine ev_callV1 i_Sq_follow_15 rfl hw.1 (Nat.le_of_ble_eq_true rfl) (w_same hw hB.1.2.2.2.2.1) ?_
            rw [if_pos he]
            refine ev_if_eqN i_Sq_follow_18 (by omega) (fun hc_18 => ?_) (fun hc_18 => ?_)
            · skip
              exfalso; omega
            · skip
              refine ev_aload_n i_Sq_follow_21 rfl ?_
              refine ev_aload_n i_Sq_follow_22 rfl ?_
              refine ev_get i_Sq_follow_23 ho rfl ?_
              refine ev_if_neN i_Sq_follow_26 (by omega) (fun hc_26 => ?_) (fun hc_26 => ?_)
              · skip
                refine ev_aload_n i_Sq_follow_34 rfl ?_
                refine ev_get i_Sq_follow_35 ho rfl ?_
                refine ev_put i_Sq_follow_38 ho (Nat.le_of_ble_eq_true rfl) rfl rfl ?_
                refine ev_aload_n i_Sq_follow_41 rfl ?_
                refine ev_dup i_Sq_follow_42 rfl ?_
                refine ev_get i_Sq_follow_43 op rfl ?_
                refine ev_iconstN (v := 1) i_Sq_follow_46 (by decide) ?_
                first | refine ev_iaddN i_Sq_follow_47 ?_ | refine ev_iadd i_Sq_follow_47 ?_
                refine ev_put i_Sq_follow_48 op (Nat.le_of_ble_eq_true rfl) rfl rfl ?_
                exact ev_vret i_Sq_follow_51 rfl
              · skip
                exfalso; omega
      · obtain ⟨zs, q⟩ := hz j h1 h2
        exact ⟨zs, q.fr (K := [81]) ((Fr.put _ _ (by simp)).tr (Fr.put _ _ (by simp))) ⟨by simp; omega, by simp; omega⟩⟩
    · rw [if_neg he, fstR_nil]
      refine ⟨S2, fun d => ?_, ho, hz, Fr.rf _ _⟩
      refine MetA.of rfl (by decide +kernel) (Nat.le_of_ble_eq_true rfl) ?_
      refine ev_iload_n i_Sq_follow_0 rfl ?_
      refine ev_iload_n i_Sq_follow_1 rfl ?_
      refine ev_icmp_ltN i_Sq_follow_2 (by omega) (by omega) (fun hc_2 => ?_) (fun hc_2 => ?_)
      · skip
        exfalso; omega
      · skip
        refine ev_aload_n i_Sq_follow_5 rfl ?_
        refine ev_get i_Sq_follow_6 ho rfl ?_
        refine ev_iload_n i_Sq_follow_9 rfl ?_
        refine ev_qaldN i_Sq_follow_10 f1 (by omega) (by decide) (f2 _ (by omega)) ?_
        refine ev_aload_n i_Sq_follow_11 rfl ?_
        refine ev_get i_Sq_follow_12 hB.1.1 rfl ?_
        refine ev_callV1 i_Sq_follow_15 rfl hw.1 (Nat.le_of_ble_eq_true rfl) (w_same hw hB.1.2.2.2.2.1) ?_
        rw [if_neg he]
        refine ev_if_eqN i_Sq_follow_18 (by omega) (fun hc_18 => ?_) (fun hc_18 => ?_)
        · skip
          exact ev_vret i_Sq_follow_51 rfl
        · skip
          exfalso; omega
  | succ k ih =>
    intro dp w s fo fi S2 hk hfo hB ho hw hz
    have h3k : 3 ^ (k + 1) = 3 ^ k * 3 := Nat.pow_succ ..
    have key : ∀ (j t : Nat), t + j = 3 → ∀ S4, S4.1[81]? = some (sqO (fo + (brs (fun t => if (stepW (C.1 t) w (nI 0)).length ≤ 60 then sqL C.1 C.2.2.1 k (stepW (C.1 t) w (nI 0)) (s * 3 + t) else []) t).length) (fstR fo fi (brs (fun t => if (stepW (C.1 t) w (nI 0)).length ≤ 60 then sqL C.1 C.2.2.1 k (stepW (C.1 t) w (nI 0)) (s * 3 + t) else []) t))) → (∀ j, dp < j → j < 6 → ∃ zs, WordAt S4 (83 + 2 * j) (84 + 2 * j) zs) → Fr (sqK dp) S2 S4 → ∃ S5, (∀ d, Ev scr l (d + (k + 1) + 3) M_Sq_follow 55 [some (.ref 81), some (.ref 3), some (.int (nI dp)), some (.int (nI steps)), some (.int (nI s)), some (.int (nI t))] [] S4 (.inl none, S5)) ∧ S5.1[81]? = some (sqO (fo + (sqL C.1 C.2.2.1 (k + 1) w s).length) (fstR fo fi (sqL C.1 C.2.2.1 (k + 1) w s))) ∧ (∀ j, dp < j → j < 6 → ∃ zs, WordAt S5 (83 + 2 * j) (84 + 2 * j) zs) ∧ Fr (sqK dp) S2 S5 := by
      intro j
      induction j with
      | zero =>
        intro t ht S4 o4 z4 F4
        have z : t = 3 := by omega
        subst z
        refine ⟨S4, fun d => ?_, o4, z4, F4⟩
        refine ev_iload i_Sq_follow_55 rfl ?_
        refine ev_iconstN (v := 3) i_Sq_follow_57 (by decide) ?_
        refine ev_icmp_geN i_Sq_follow_58 (by omega) (by omega) (fun hc_58 => ?_) (fun hc_58 => ?_)
        · skip
          exact ev_vret i_Sq_follow_111 rfl
        · skip
          exfalso; omega
      | succ j ih2 =>
        intro t ht S4 o4 z4 F4
        have hA : ∀ k, k ∈ sqK dp → k ∈ sqA := fun k hk => by rw [sqK_mem] at hk; rw [sqA_mem]; omega
        have B4 := hB.fr (F4.mono hA)
        obtain ⟨⟨l1, ⟨lf, l2, l3⟩, l4, -⟩, f, f1, f2⟩ := id B4
        have hw4 := hw.fr F4 ⟨by rw [sqK_mem]; omega, by rw [sqK_mem]; omega⟩
        obtain ⟨zs, hv⟩ := z4 (dp + 1) (by omega) (by omega)
        have tT := l4 t (by omega)
        obtain ⟨rc, tb, -⟩ := tab_obj tT
        have hoff : tabOff (3 + 2 + 4 * t) [83 + 2 * (dp + 1), 84 + 2 * (dp + 1)] := ⟨by simp; omega, by simp; omega, by simp; omega, by simp; omega⟩
        have hbl : (brs (fun t => if (stepW (C.1 t) w (nI 0)).length ≤ 60 then sqL C.1 C.2.2.1 k (stepW (C.1 t) w (nI 0)) (s * 3 + t) else []) t).length ≤ t * 3 ^ k := brs_len (fun u _ => by
          split
          · exact sqL_len _ _ _
          · exact Nat.zero_le _)
        have hb3 : t * 3 ^ k ≤ 2 * 3 ^ k := Nat.mul_le_mul_right _ (by omega)
        by_cases hl : (stepW (C.1 t) w (nI 0)).length ≤ 60
        · obtain ⟨S5, m5, w5, f5⟩ := (t_rewrite (scr := scr) (l := l) (seed := nI 0) tT hw4 hoff ⟨by simp; omega, by simp; omega⟩ hv).1 hl
          have hs5 : ∀ k, k ∈ [83 + 2 * (dp + 1), 84 + 2 * (dp + 1)] → k ∈ sqK dp := fun k hk => by simp at hk; rw [sqK_mem]; omega
          have F5 := F4.tr (f5.mono hs5)
          have o5 := f5.at o4 (by simp; omega)
          obtain ⟨S6, m6, o6, z6, f6⟩ := ih (dp + 1) _ (s * 3 + t) _ _ S5 (by omega) (by omega) (hB.fr (F5.mono hA)) o5 w5 (fun j h1 h2 => by
            obtain ⟨zs, q⟩ := z4 j (by omega) h2
            exact ⟨zs, q.fr f5 ⟨by simp; omega, by simp; omega⟩⟩)
          have hs6 : ∀ k, k ∈ sqK (dp + 1) → k ∈ sqK dp := fun k hk => by rw [sqK_mem] at hk ⊢; omega
          have e6 : brs (fun t => if (stepW (C.1 t) w (nI 0)).length ≤ 60 then sqL C.1 C.2.2.1 k (stepW (C.1 t) w (nI 0)) (s * 3 + t) else []) (t + 1) = brs (fun t => if (stepW (C.1 t) w (nI 0)).length ≤ 60 then sqL C.1 C.2.2.1 k (stepW (C.1 t) w (nI 0)) (s * 3 + t) else []) t ++ sqL C.1 C.2.2.1 k (stepW (C.1 t) w (nI 0)) (s * 3 + t) := by
            show brs (fun t => if (stepW (C.1 t) w (nI 0)).length ≤ 60 then sqL C.1 C.2.2.1 k (stepW (C.1 t) w (nI 0)) (s * 3 + t) else []) t ++ (fun t => if (stepW (C.1 t) w (nI 0)).length ≤ 60 then sqL C.1 C.2.2.1 k (stepW (C.1 t) w (nI 0)) (s * 3 + t) else []) t = _
            try dsimp only
            rw [if_pos hl]
          rw [fstR_app, Nat.add_assoc, ← List.length_append, ← e6] at o6
          obtain ⟨S7, m7, r7⟩ := ih2 (t + 1) (by omega) S6 o6 (fun j h1 h2 => by
            by_cases zj : j = dp + 1
            · subst zj
              exact ⟨_, w5.fr f6 ⟨by rw [sqK_mem]; omega, by rw [sqK_mem]; omega⟩⟩
            · exact z6 j (by omega) h2) (F5.tr (f6.mono hs6))
          refine ⟨S7, fun d => ?_, r7⟩
          refine ev_iload i_Sq_follow_55 rfl ?_
          refine ev_iconstN (v := 3) i_Sq_follow_57 (by decide) ?_
          refine ev_icmp_geN i_Sq_follow_58 (by omega) (by omega) (fun hc_58 => ?_) (fun hc_58 => ?_)
          · skip
            exfalso; omega
          · skip
            refine ev_aload_n i_Sq_follow_61 rfl ?_
            refine ev_get i_Sq_follow_62 l1 rfl ?_
            refine ev_iload i_Sq_follow_65 rfl ?_
            refine ev_qaldN i_Sq_follow_67 l2 (by omega) (by decide) (l3 _ (by omega)) ?_
            refine ev_aload_n i_Sq_follow_68 rfl ?_
            refine ev_get i_Sq_follow_69 o4 rfl ?_
            refine ev_iload_n i_Sq_follow_72 rfl ?_
            refine ev_qaldN i_Sq_follow_73 f1 (by omega) (by decide) (f2 _ (by omega)) ?_
            refine ev_iconstN (v := 0) i_Sq_follow_74 (by decide) ?_
            refine ev_aload_n i_Sq_follow_75 rfl ?_
            refine ev_get i_Sq_follow_76 o4 rfl ?_
            refine ev_iload_n i_Sq_follow_79 rfl ?_
            refine ev_iconstN (v := 1) i_Sq_follow_80 (by decide) ?_
            first | refine ev_iaddN i_Sq_follow_81 ?_ | refine ev_iadd i_Sq_follow_81 ?_
            refine ev_qaldN i_Sq_follow_82 f1 (by omega) (by decide) (f2 _ (by omega)) ?_
            refine ev_callV3 i_Sq_follow_83 rfl tb (Nat.le_of_ble_eq_true rfl) (m5 _) ?_
            refine ev_if_eqN i_Sq_follow_86 (by omega) (fun hc_86 => ?_) (fun hc_86 => ?_)
            · skip
              exfalso; omega
            · skip
              refine ev_aload_n i_Sq_follow_89 rfl ?_
              refine ev_aload_n i_Sq_follow_90 rfl ?_
              refine ev_iload_n i_Sq_follow_91 rfl ?_
              refine ev_iconstN (v := 1) i_Sq_follow_92 (by decide) ?_
              first | refine ev_iaddN i_Sq_follow_93 ?_ | refine ev_iadd i_Sq_follow_93 ?_
              refine ev_iload_n i_Sq_follow_94 rfl ?_
              refine ev_iload i_Sq_follow_95 rfl ?_
              refine ev_iconstN (v := 3) i_Sq_follow_97 (by decide) ?_
              first | refine ev_imulN i_Sq_follow_98 ?_ | refine ev_imul i_Sq_follow_98 ?_
              refine ev_iload i_Sq_follow_99 rfl ?_
              first | refine ev_iaddN i_Sq_follow_101 ?_ | refine ev_iadd i_Sq_follow_101 ?_
              refine ev_callV4 i_Sq_follow_102 rfl o5 (Nat.le_of_ble_eq_true rfl) (m6 d) ?_
              refine ev_iincN_5 (c := 1) i_Sq_follow_105 (by decide) rfl ?_
              refine ev_goto i_Sq_follow_108 ?_
              exact m7 d
        · obtain ⟨S5, m5, w5, f5⟩ := (t_rewrite (scr := scr) (l := l) (seed := nI 0) tT hw4 hoff ⟨by simp; omega, by simp; omega⟩ hv).2 (by omega)
          have hs5 : ∀ k, k ∈ [83 + 2 * (dp + 1), 84 + 2 * (dp + 1)] → k ∈ sqK dp := fun k hk => by simp at hk; rw [sqK_mem]; omega
          have F5 := F4.tr (f5.mono hs5)
          have o5 := f5.at o4 (by simp; omega)
          have e6 : brs (fun t => if (stepW (C.1 t) w (nI 0)).length ≤ 60 then sqL C.1 C.2.2.1 k (stepW (C.1 t) w (nI 0)) (s * 3 + t) else []) (t + 1) = brs (fun t => if (stepW (C.1 t) w (nI 0)).length ≤ 60 then sqL C.1 C.2.2.1 k (stepW (C.1 t) w (nI 0)) (s * 3 + t) else []) t := by
            show brs (fun t => if (stepW (C.1 t) w (nI 0)).length ≤ 60 then sqL C.1 C.2.2.1 k (stepW (C.1 t) w (nI 0)) (s * 3 + t) else []) t ++ (fun t => if (stepW (C.1 t) w (nI 0)).length ≤ 60 then sqL C.1 C.2.2.1 k (stepW (C.1 t) w (nI 0)) (s * 3 + t) else []) t = _
            try dsimp only
            rw [if_neg hl, List.append_nil]
          rw [← e6] at o5
          obtain ⟨S6, m6, r6⟩ := ih2 (t + 1) (by omega) S5 o5 (fun j h1 h2 => by
            by_cases zj : j = dp + 1
            · subst zj; exact w5
            · obtain ⟨zs, q⟩ := z4 j h1 h2
              exact ⟨zs, q.fr f5 ⟨by simp; omega, by simp; omega⟩⟩) F5
          refine ⟨S6, fun d => ?_, r6⟩
          refine ev_iload i_Sq_follow_55 rfl ?_
          refine ev_iconstN (v := 3) i_Sq_follow_57 (by decide) ?_
          refine ev_icmp_geN i_Sq_follow_58 (by omega) (by omega) (fun hc_58 => ?_) (fun hc_58 => ?_)
          · skip
            exfalso; omega
          · skip
            refine ev_aload_n i_Sq_follow_61 rfl ?_
            refine ev_get i_Sq_follow_62 l1 rfl ?_
            refine ev_iload i_Sq_follow_65 rfl ?_
            refine ev_qaldN i_Sq_follow_67 l2 (by omega) (by decide) (l3 _ (by omega)) ?_
            refine ev_aload_n i_Sq_follow_68 rfl ?_
            refine ev_get i_Sq_follow_69 o4 rfl ?_
            refine ev_iload_n i_Sq_follow_72 rfl ?_
            refine ev_qaldN i_Sq_follow_73 f1 (by omega) (by decide) (f2 _ (by omega)) ?_
            refine ev_iconstN (v := 0) i_Sq_follow_74 (by decide) ?_
            refine ev_aload_n i_Sq_follow_75 rfl ?_
            refine ev_get i_Sq_follow_76 o4 rfl ?_
            refine ev_iload_n i_Sq_follow_79 rfl ?_
            refine ev_iconstN (v := 1) i_Sq_follow_80 (by decide) ?_
            first | refine ev_iaddN i_Sq_follow_81 ?_ | refine ev_iadd i_Sq_follow_81 ?_
            refine ev_qaldN i_Sq_follow_82 f1 (by omega) (by decide) (f2 _ (by omega)) ?_
            refine ev_callV3 i_Sq_follow_83 rfl tb (Nat.le_of_ble_eq_true rfl) (m5 _) ?_
            refine ev_if_eqN i_Sq_follow_86 (by omega) (fun hc_86 => ?_) (fun hc_86 => ?_)
            · skip
              refine ev_iincN_5 (c := 1) i_Sq_follow_105 (by decide) rfl ?_
              refine ev_goto i_Sq_follow_108 ?_
              exact m6 d
            · skip
              exfalso; omega
    obtain ⟨S4, m4, r4⟩ := key 3 0 (by omega) S2 (by rw [show brs (fun t => if (stepW (C.1 t) w (nI 0)).length ≤ 60 then sqL C.1 C.2.2.1 k (stepW (C.1 t) w (nI 0)) (s * 3 + t) else []) 0 = [] from rfl, fstR_nil]; exact ho) hz (Fr.rf _ _)
    refine ⟨S4, fun d => ?_, r4⟩
    refine MetA.of rfl (by decide +kernel) (Nat.le_of_ble_eq_true rfl) ?_
    refine ev_iload_n i_Sq_follow_0 rfl ?_
    refine ev_iload_n i_Sq_follow_1 rfl ?_
    refine ev_icmp_ltN i_Sq_follow_2 (by omega) (by omega) (fun hc_2 => ?_) (fun hc_2 => ?_)
    · skip
      refine ev_iconstN (v := 0) i_Sq_follow_52 (by decide) ?_
      refine ev_ist_5 i_Sq_follow_53 rfl ?_
      exact m4 d
    · skip
      exfalso; omega
theorem q_run {scr : Scr} {l : Launch} {S : Sto} {C : Core} {steps : Nat} (h : SqOK S) (hC : StAt S 3 C) (hst : steps ≤ 5) : ∃ S1, (∀ d, MetA scr l (d + steps + 4) M_Sq_run [.ref 81, .ref 3, .int (nI steps)] S (.inl none, S1)) ∧ S1.1[81]? = some (sqO (sqL C.1 C.2.2.1 steps C.2.1 0).length (fstR 0 (-1) (sqL C.1 C.2.2.1 steps C.2.1 0))) ∧ SqOK S1 ∧ Fr sqA S S1 := by
  obtain ⟨x, y, f, h1, f1, f2, hz⟩ := h
  have o1 : (S.put 81 (oB 7 [.ref 82, .int (nI 0), .int y])).1[81]? = _ := put_self h1
  have o2 : ((S.put 81 (oB 7 [.ref 82, .int (nI 0), .int y])).put 81 (sqO 0 (-1))).1[81]? = _ := put_self o1
  have F2 : Fr [81] S ((S.put 81 (oB 7 [.ref 82, .int (nI 0), .int y])).put 81 (sqO 0 (-1))) := (Fr.put _ _ (by simp)).tr (Fr.put _ _ (by simp))
  have hs2 : ∀ k, k ∈ [81] → k ∈ sqA := fun k hk => by simp at hk; rw [sqA_mem]; omega
  have hB0 : SqB S C := ⟨hC, f, f1, f2⟩
  have hB := hB0.fr (F2.mono hs2)
  obtain ⟨zs, w0⟩ := hz 0 (by omega)
  have w0 := w0.fr F2 ⟨by decide, by decide⟩
  obtain ⟨S3, m3, w3, f3⟩ := w_copy (scr := scr) (l := l) w0 hB.1.2.2.2.1
  have hs3 : ∀ k, k ∈ [83 + 2 * 0, 84 + 2 * 0] → k ∈ sqA := fun k hk => by simp at hk; rw [sqA_mem]; omega
  have o3 := f3.at o2 (by decide)
  have h35 : 3 ^ steps ≤ 243 := Nat.le_trans (Nat.pow_le_pow_right (by decide) hst) (by decide)
  obtain ⟨S4, m4, o4, z4, f4⟩ := q_follow (scr := scr) (l := l) hst steps 0 C.2.1 0 0 (-1) S3 (by omega) (by omega) (hB.fr (f3.mono hs3)) o3 w3 (fun j h1 h2 => by
    obtain ⟨zs, q⟩ := hz j h2
    exact ⟨zs, (q.fr F2 ⟨by simp; omega, by simp; omega⟩).fr f3 ⟨by simp; omega, by simp; omega⟩⟩)
  have hs4 : ∀ k, k ∈ sqK 0 → k ∈ sqA := fun k hk => by rw [sqK_mem] at hk; rw [sqA_mem]; omega
  have F4 := ((F2.mono hs2).tr (f3.mono hs3)).tr (f4.mono hs4)
  rw [Nat.zero_add] at o4
  refine ⟨S4, fun d => ?_, o4, ⟨_, _, f, o4, F4.at f1 (by rw [sqA_mem]; omega), f2, fun j hj => ?_⟩, F4⟩
  · refine MetA.of rfl (by decide +kernel) (Nat.le_of_ble_eq_true rfl) ?_
    refine ev_aload_n i_Sq_run_0 rfl ?_
    refine ev_iconstN (v := 0) i_Sq_run_1 (by decide) ?_
    refine ev_put i_Sq_run_2 h1 (Nat.le_of_ble_eq_true rfl) rfl rfl ?_
    refine ev_aload_n i_Sq_run_5 rfl ?_
    refine ev_iconst (v := -1) i_Sq_run_6 (by decide) ?_
    refine ev_put i_Sq_run_7 o1 (Nat.le_of_ble_eq_true rfl) rfl rfl ?_
    refine ev_aload_n i_Sq_run_10 rfl ?_
    refine ev_get i_Sq_run_11 o2 rfl ?_
    refine ev_iconstN (v := 0) i_Sq_run_14 (by decide) ?_
    refine ev_qaldN i_Sq_run_15 (put_at (put_at f1 (by decide)) (by decide)) (by decide) (by decide) (f2 0 (by omega)) ?_
    refine ev_aload_n i_Sq_run_16 rfl ?_
    refine ev_get i_Sq_run_17 hB.1.1 rfl ?_
    refine ev_callV1 i_Sq_run_20 rfl w0.1 (Nat.le_of_ble_eq_true rfl) (m3 _) ?_
    refine ev_aload_n i_Sq_run_23 rfl ?_
    refine ev_aload_n i_Sq_run_24 rfl ?_
    refine ev_iconstN (v := 0) i_Sq_run_25 (by decide) ?_
    refine ev_iload_n i_Sq_run_26 rfl ?_
    refine ev_iconstN (v := 5) i_Sq_run_27 (by decide) ?_
    refine ev_callS2 i_Sq_run_28 rfl (Nat.le_of_ble_eq_true rfl) (c_Ma_minI (by omega) (by decide)) ?_
    rw [Nat.min_eq_left (show steps ≤ 5 by omega)]
    refine ev_iconstN (v := 0) i_Sq_run_31 (by decide) ?_
    refine ev_callV4 i_Sq_run_32 rfl o3 (Nat.le_of_ble_eq_true rfl) (m4 _) ?_
    exact ev_vret i_Sq_run_35 rfl
  · by_cases zj : j = 0
    · subst zj
      exact ⟨_, w3.fr f4 ⟨by rw [sqK_mem]; omega, by rw [sqK_mem]; omega⟩⟩
    · exact z4 j (by omega) hj

/-! ParallelRewriting: the plain methods -/
/-- an int from 0 to n - 1 -/
def inR (n : Nat) (x : Int32) : Prop := ¬ x < 0 ∧ x < nI n
theorem inR.get {n : Nat} {x : Int32} (hn : n < 2 ^ 31) (h : inR n x) : ∃ t, t < n ∧ x = nI t := nI_rng hn h.1 (fun q => absurd h.2 (by rw [Int32.lt_iff_toInt_lt]; rw [Int32.le_iff_toInt_le] at q; omega))
theorem inR.of {n t : Nat} (hn : n < 2 ^ 31) (h : t < n) : inR n (nI t) := ⟨nI_pos (by omega), nI_lt h hn⟩
abbrev xK : List Nat := List.range' 0 105
theorem Fr.x {K : List Nat} {S1 S2 : Sto} (h : Fr K S1 S2) (hk : ∀ k, k ∈ K → k < 105) : Fr xK S1 S2 := h.mono (fun k q => by rw [List.mem_range'_1]; have := hk k q; omega)
theorem lt_word {w a k : Nat} (hw : w < 105) (ha : a < 105) : k ∈ [w, a] → k < 105 := by
  intro h
  simp at h
  omega
theorem x_tableAt {scr : Scr} {l : Launch} {S : Sto} {σ : Sg} {t d : Nat} (h : XInv σ S) (ht : t < 3) : MetA scr l d M_Pr_tableAt [.ref 0, .int (nI t)] S (.inl (some (.ref (5 + 4 * t))), S) := by
  obtain ⟨h0, hT, hL, hSv, hH, hRs, hrest⟩ := id h
  obtain ⟨l1, ⟨lf, l2, l3⟩, l4, l5, l6, lg, l7, l8⟩ := id hL
  refine MetA.of rfl (by decide +kernel) (Nat.le_of_ble_eq_true rfl) ?_
  refine ev_iload_n i_Pr_tableAt_0 rfl ?_
  refine ev_if_lt_N i_Pr_tableAt_1 (by omega) (fun hc_1 => ?_) (fun hc_1 => ?_)
  · skip
    exfalso; omega
  · skip
    refine ev_iload_n i_Pr_tableAt_4 rfl ?_
    refine ev_iconstN (v := 3) i_Pr_tableAt_5 (by decide) ?_
    refine ev_icmp_ltN i_Pr_tableAt_6 (by omega) (by omega) (fun hc_6 => ?_) (fun hc_6 => ?_)
    · skip
      refine ev_aload_n i_Pr_tableAt_20 rfl ?_
      refine ev_get i_Pr_tableAt_21 h0 rfl ?_
      refine ev_get i_Pr_tableAt_24 l1 rfl ?_
      refine ev_iload_n i_Pr_tableAt_27 rfl ?_
      refine ev_qaldN i_Pr_tableAt_28 l2 (by omega) (by decide) (by rw [l3 t ht]) ?_
      exact ev_aret i_Pr_tableAt_29 rfl (Or.inl ⟨_, rfl⟩)
    · skip
      exfalso; omega
theorem x_tableAt_no {scr : Scr} {l : Launch} {S : Sto} {p : Int32} {d : Nat} (hp : ¬ inR 3 p) : MetA scr l d M_Pr_tableAt [.ref 0, .int p] S (.inr xIob, S.thrown) := by
  refine MetA.of rfl (by decide +kernel) (Nat.le_of_ble_eq_true rfl) ?_
  refine ev_iload_n i_Pr_tableAt_0 rfl ?_
  refine ev_if_lt i_Pr_tableAt_1 (fun hc_1 => ?_) (fun hc_1 => ?_)
  · skip
    exact ev_throw i_Pr_tableAt_9 ex_Iob rfl rfl (Nat.le_of_ble_eq_true rfl)
  · skip
    refine ev_iload_n i_Pr_tableAt_4 rfl ?_
    refine ev_iconstN (v := 3) i_Pr_tableAt_5 (by decide) ?_
    refine ev_icmp_lt i_Pr_tableAt_6 (fun hc_6 => ?_) (fun hc_6 => ?_)
    · skip
      exact absurd ⟨hc_1, hc_6⟩ hp
    · skip
      exact ev_throw i_Pr_tableAt_9 ex_Iob rfl rfl (Nat.le_of_ble_eq_true rfl)
theorem x_checkLetter {scr : Scr} {l : Launch} {S : Sto} {t d : Nat} (ht : t < 6) : MetA scr l d M_Pr_checkLetter [.int (nI t)] S (.inl none, S) := by
  refine MetA.of rfl (by decide +kernel) (Nat.le_of_ble_eq_true rfl) ?_
  refine ev_iload_n i_Pr_checkLetter_0 rfl ?_
  refine ev_if_lt_N i_Pr_checkLetter_1 (by omega) (fun hc_1 => ?_) (fun hc_1 => ?_)
  · skip
    exfalso; omega
  · skip
    refine ev_iload_n i_Pr_checkLetter_4 rfl ?_
    refine ev_bipushN (v := 6) i_Pr_checkLetter_5 (by decide) ?_
    refine ev_icmp_ltN i_Pr_checkLetter_7 (by omega) (by omega) (fun hc_7 => ?_) (fun hc_7 => ?_)
    · skip
      exact ev_vret i_Pr_checkLetter_21 rfl
    · skip
      exfalso; omega
theorem x_checkLetter_no {scr : Scr} {l : Launch} {S : Sto} {p : Int32} {d : Nat} (hp : ¬ inR 6 p) : MetA scr l d M_Pr_checkLetter [.int p] S (.inr xIob, S.thrown) := by
  refine MetA.of rfl (by decide +kernel) (Nat.le_of_ble_eq_true rfl) ?_
  refine ev_iload_n i_Pr_checkLetter_0 rfl ?_
  refine ev_if_lt i_Pr_checkLetter_1 (fun hc_1 => ?_) (fun hc_1 => ?_)
  · skip
    exact ev_throw i_Pr_checkLetter_10 ex_Iob rfl rfl (Nat.le_of_ble_eq_true rfl)
  · skip
    refine ev_iload_n i_Pr_checkLetter_4 rfl ?_
    refine ev_bipushN (v := 6) i_Pr_checkLetter_5 (by decide) ?_
    refine ev_icmp_lt i_Pr_checkLetter_7 (fun hc_7 => ?_) (fun hc_7 => ?_)
    · skip
      exact absurd ⟨hc_1, hc_7⟩ hp
    · skip
      exact ev_throw i_Pr_checkLetter_10 ex_Iob rfl rfl (Nat.le_of_ble_eq_true rfl)
theorem t_letters {scr : Scr} {l : Launch} {S : Sto} {t a d : Nat} {cs : List Nat} (h : TextAt S t a cs) : (isW cs → MetA scr l d M_Tx_hasOnlyLetters [.ref t] S (.inl (some (.int (nI 1))), S)) ∧ (¬ isW cs → MetA scr l d M_Tx_hasOnlyLetters [.ref t] S (.inl (some (.int (nI 0))), S)) := by
  have hc := c_Tx_hasOnlyLetters (scr := scr) (l := l) (d := d) h.1
  constructor
  · intro q
    rw [if_pos (show ∀ j, j < cs.length → 97 ≤ cs.getD j 0 ∧ cs.getD j 0 < 103 from q)] at hc
    exact hc
  · intro q
    rw [if_neg (show ¬ ∀ j, j < cs.length → 97 ≤ cs.getD j 0 ∧ cs.getD j 0 < 103 from q)] at hc
    exact hc
theorem x_checkWord {scr : Scr} {l : Launch} {S : Sto} {σ : Sg} {n d : Nat} (h : XInv σ S) (hn : n ≤ 60) (hw : isW σ.1) (hl : σ.1.length ≤ n) : MetA scr l (d + 1) M_Pr_checkWordInText [.ref 0, .int (nI n)] S (.inl none, S) := by
  obtain ⟨h0, hT, hL, hSv, hH, hRs, hrest⟩ := id h
  have h60 := hT.1.2.1
  refine MetA.of rfl (by decide +kernel) (Nat.le_of_ble_eq_true rfl) ?_
  refine ev_aload_n i_Pr_checkWordInText_0 rfl ?_
  refine ev_get i_Pr_checkWordInText_1 h0 rfl ?_
  refine ev_get i_Pr_checkWordInText_4 hT.1.1 rfl ?_
  refine ev_iload_n i_Pr_checkWordInText_7 rfl ?_
  refine ev_icmp_gtN i_Pr_checkWordInText_8 (by omega) (by omega) (fun hc_8 => ?_) (fun hc_8 => ?_)
  · skip
    exfalso; omega
  · skip
    refine ev_aload_n i_Pr_checkWordInText_11 rfl ?_
    refine ev_get i_Pr_checkWordInText_12 h0 rfl ?_
    refine ev_callV0 i_Pr_checkWordInText_15 rfl hT.1.1 (Nat.le_of_ble_eq_true rfl) ((t_letters hT).1 hw) ?_
    refine ev_if_neN i_Pr_checkWordInText_18 (by omega) (fun hc_18 => ?_) (fun hc_18 => ?_)
    · skip
      exact ev_vret i_Pr_checkWordInText_32 rfl
    · skip
      exfalso; omega
theorem x_checkWord_no {scr : Scr} {l : Launch} {S : Sto} {σ : Sg} {n d : Nat} (h : XInv σ S) (hn : n ≤ 60) (hw : ¬ (isW σ.1 ∧ σ.1.length ≤ n)) : MetA scr l (d + 1) M_Pr_checkWordInText [.ref 0, .int (nI n)] S (.inr xIae, S.thrown) := by
  obtain ⟨h0, hT, hL, hSv, hH, hRs, hrest⟩ := id h
  have h60 := hT.1.2.1
  refine MetA.of rfl (by decide +kernel) (Nat.le_of_ble_eq_true rfl) ?_
  refine ev_aload_n i_Pr_checkWordInText_0 rfl ?_
  refine ev_get i_Pr_checkWordInText_1 h0 rfl ?_
  refine ev_get i_Pr_checkWordInText_4 hT.1.1 rfl ?_
  refine ev_iload_n i_Pr_checkWordInText_7 rfl ?_
  refine ev_icmp_gtN i_Pr_checkWordInText_8 (by omega) (by omega) (fun hc_8 => ?_) (fun hc_8 => ?_)
  · skip
    exact ev_throw i_Pr_checkWordInText_21 ex_Iae rfl rfl (Nat.le_of_ble_eq_true rfl)
  · skip
    refine ev_aload_n i_Pr_checkWordInText_11 rfl ?_
    refine ev_get i_Pr_checkWordInText_12 h0 rfl ?_
    refine ev_callV0 i_Pr_checkWordInText_15 rfl hT.1.1 (Nat.le_of_ble_eq_true rfl) ((t_letters hT).2 (fun q => hw ⟨q, by omega⟩)) ?_
    refine ev_if_neN i_Pr_checkWordInText_18 (by omega) (fun hc_18 => ?_) (fun hc_18 => ?_)
    · skip
      exfalso; omega
    · skip
      exact ev_throw i_Pr_checkWordInText_21 ex_Iae rfl rfl (Nat.le_of_ble_eq_true rfl)
theorem i2c_nI {c : Nat} (h : c < 65536) : ((nI c).toUInt32 % 65536).toInt32 = nI c := by
  have e1 : (nI c).toUInt32 = UInt32.ofNat c := rfl
  have e2 : (UInt32.ofNat c) % 65536 = UInt32.ofNat c := by
    apply UInt32.toNat_inj.mp
    rw [UInt32.toNat_mod, UInt32.toNat_ofNat_of_lt' (by show c < 4294967296; omega)]
    show c % 65536 = c
    omega
  rw [e1, e2]
  rfl
/-- a character that a text takes -/
def inC (x : Int32) : Prop := ¬ x < nI 32 ∧ x ≤ nI 126
theorem inC.get {x : Int32} (h : inC x) : ∃ c, 32 ≤ c ∧ c ≤ 126 ∧ x = nI c := by
  obtain ⟨h1, h2⟩ := h
  rw [Int32.lt_iff_toInt_lt, nI_toInt (by omega)] at h1
  rw [Int32.le_iff_toInt_le, nI_toInt (by omega)] at h2
  obtain ⟨t, h3, h4⟩ := nI_rng (x := x) (n := 127) (by decide) (by rw [Int32.lt_iff_toInt_lt, Int32.toInt_zero]; omega) (by rw [Int32.le_iff_toInt_le, nI_toInt (by omega)]; omega)
  subst h4
  rw [nI_toInt (by omega)] at h1
  exact ⟨t, by omega, by omega, rfl⟩
theorem x_append {scr : Scr} {l : Launch} {S : Sto} {σ : Sg} {c : Nat} (h : XInv σ S) (h1 : 32 ≤ c) (h2 : c ≤ 126) (hl : σ.1.length < 60) : ∃ S1, (∀ d, MetA scr l (d + 1) M_Pr_appendCharacter [.ref 0, .int (nI c)] S (.inl (some (.int (nI (σ.1.length + 1)))), S1)) ∧ XInv (σ.1 ++ [c], σ.2) S1 ∧ Fr xK S S1 := by
  obtain ⟨h0, hT, hL, hSv, hH, hRs, hrest⟩ := id h
  obtain ⟨S1, m1, t1, f1⟩ := c_Tx_append_ok (scr := scr) (l := l) (x := c) hT.1 hl (by omega)
  have o0 := f1.at h0 (by decide)
  have ht : TextAt S1 1 2 (σ.1 ++ [c]) := by
    refine ⟨?_, fun j hj => ?_⟩
    · rw [List.length_append]
      obtain ⟨q1, q2, f, q3, q4⟩ := t1
      exact ⟨q1, q2, f, q3, fun j hj => by
        have := q4 j hj
        dsimp only
        rw [getD_app]
        exact this⟩
    · rw [getD_app]
      split
      · exact ⟨h1, h2⟩
      · exact hT.2 j (by simp at hj; omega)
  refine ⟨S1, fun d => ?_, h.text f1 (by decide) ht, f1.x (by decide)⟩
  refine MetA.of rfl (by decide +kernel) (Nat.le_of_ble_eq_true rfl) ?_
  refine ev_iload_n i_Pr_appendCharacter_0 rfl ?_
  refine ev_bipushN (v := 32) i_Pr_appendCharacter_1 (by decide) ?_
  refine ev_icmp_ltN i_Pr_appendCharacter_3 (by omega) (by omega) (fun hc_3 => ?_) (fun hc_3 => ?_)
  · skip
    exfalso; omega
  · skip
    refine ev_iload_n i_Pr_appendCharacter_6 rfl ?_
    refine ev_bipushN (v := 126) i_Pr_appendCharacter_7 (by decide) ?_
    refine ev_icmp_leN i_Pr_appendCharacter_9 (by omega) (by omega) (fun hc_9 => ?_) (fun hc_9 => ?_)
    · skip
      refine ev_aload_n i_Pr_appendCharacter_22 rfl ?_
      refine ev_get i_Pr_appendCharacter_23 h0 rfl ?_
      refine ev_iload_n i_Pr_appendCharacter_26 rfl ?_
      refine ev_i2c i_Pr_appendCharacter_27 ?_
      rw [i2c_nI (by omega)]
      refine ev_callV1 i_Pr_appendCharacter_28 rfl hT.1.1 (Nat.le_of_ble_eq_true rfl) (m1 _) ?_
      refine ev_if_neN i_Pr_appendCharacter_31 (by omega) (fun hc_31 => ?_) (fun hc_31 => ?_)
      · skip
        refine ev_aload_n i_Pr_appendCharacter_44 rfl ?_
        refine ev_get i_Pr_appendCharacter_45 o0 rfl ?_
        refine ev_get i_Pr_appendCharacter_48 t1.1 rfl ?_
        exact ev_iret i_Pr_appendCharacter_51 rfl (by first | rfl | decide)
      · skip
        exfalso; omega
    · skip
      exfalso; omega
theorem x_append_1 {scr : Scr} {l : Launch} {S : Sto} {x : Int32} {d : Nat} (hx : ¬ inC x) : MetA scr l (d + 1) M_Pr_appendCharacter [.ref 0, .int x] S (.inr xIae, S.thrown) := by
  refine MetA.of rfl (by decide +kernel) (Nat.le_of_ble_eq_true rfl) ?_
  refine ev_iload_n i_Pr_appendCharacter_0 rfl ?_
  refine ev_bipushN (v := 32) i_Pr_appendCharacter_1 (by decide) ?_
  refine ev_icmp_lt i_Pr_appendCharacter_3 (fun hc_3 => ?_) (fun hc_3 => ?_)
  · skip
    exact ev_throw i_Pr_appendCharacter_12 ex_Iae rfl rfl (Nat.le_of_ble_eq_true rfl)
  · skip
    refine ev_iload_n i_Pr_appendCharacter_6 rfl ?_
    refine ev_bipushN (v := 126) i_Pr_appendCharacter_7 (by decide) ?_
    refine ev_icmp_le i_Pr_appendCharacter_9 (fun hc_9 => ?_) (fun hc_9 => ?_)
    · skip
      exact absurd ⟨hc_3, hc_9⟩ hx
    · skip
      exact ev_throw i_Pr_appendCharacter_12 ex_Iae rfl rfl (Nat.le_of_ble_eq_true rfl)
theorem x_append_2 {scr : Scr} {l : Launch} {S : Sto} {σ : Sg} {c d : Nat} (h : XInv σ S) (h1 : 32 ≤ c) (h2 : c ≤ 126) (hl : σ.1.length = 60) : MetA scr l (d + 1) M_Pr_appendCharacter [.ref 0, .int (nI c)] S (.inr xIse, S.thrown) := by
  obtain ⟨h0, hT, hL, hSv, hH, hRs, hrest⟩ := id h
  refine MetA.of rfl (by decide +kernel) (Nat.le_of_ble_eq_true rfl) ?_
  refine ev_iload_n i_Pr_appendCharacter_0 rfl ?_
  refine ev_bipushN (v := 32) i_Pr_appendCharacter_1 (by decide) ?_
  refine ev_icmp_ltN i_Pr_appendCharacter_3 (by omega) (by omega) (fun hc_3 => ?_) (fun hc_3 => ?_)
  · skip
    exfalso; omega
  · skip
    refine ev_iload_n i_Pr_appendCharacter_6 rfl ?_
    refine ev_bipushN (v := 126) i_Pr_appendCharacter_7 (by decide) ?_
    refine ev_icmp_leN i_Pr_appendCharacter_9 (by omega) (by omega) (fun hc_9 => ?_) (fun hc_9 => ?_)
    · skip
      refine ev_aload_n i_Pr_appendCharacter_22 rfl ?_
      refine ev_get i_Pr_appendCharacter_23 h0 rfl ?_
      refine ev_iload_n i_Pr_appendCharacter_26 rfl ?_
      refine ev_i2c i_Pr_appendCharacter_27 ?_
      rw [i2c_nI (by omega)]
      refine ev_callV1 i_Pr_appendCharacter_28 rfl hT.1.1 (Nat.le_of_ble_eq_true rfl) (c_Tx_append_no hT.1 hl) ?_
      refine ev_if_neN i_Pr_appendCharacter_31 (by omega) (fun hc_31 => ?_) (fun hc_31 => ?_)
      · skip
        exfalso; omega
      · skip
        exact ev_throw i_Pr_appendCharacter_34 ex_Ise rfl rfl (Nat.le_of_ble_eq_true rfl)
    · skip
      exfalso; omega
theorem x_clear {scr : Scr} {l : Launch} {S : Sto} {σ : Sg} (h : XInv σ S) : ∃ S1, (∀ d, MetA scr l d M_Pr_clearText [.ref 0] S (.inl (some (.int (nI σ.1.length))), S1)) ∧ XInv ([], σ.2) S1 ∧ Fr xK S S1 := by
  obtain ⟨h0, hT, hL, hSv, hH, hRs, hrest⟩ := id h
  obtain ⟨t1, t2, f, t3, t4⟩ := id hT.1
  have hf : Fr [1] S (S.put 1 (oB 10 [.ref 2, .int (nI 0)])) := Fr.put _ _ (by simp)
  refine ⟨_, fun d => ?_, h.text hf (by decide) ⟨⟨put_self t1, by simp, f, hf.at t3 (by decide), by simp⟩, by simp⟩, hf.x (by decide)⟩
  refine MetA.of rfl (by decide +kernel) (Nat.le_of_ble_eq_true rfl) ?_
  refine ev_aload_n i_Pr_clearText_0 rfl ?_
  refine ev_get i_Pr_clearText_1 h0 rfl ?_
  refine ev_get i_Pr_clearText_4 hT.1.1 rfl ?_
  refine ev_istore_n i_Pr_clearText_7 (Nat.le_of_ble_eq_true rfl) ?_
  refine ev_aload_n i_Pr_clearText_8 rfl ?_
  refine ev_get i_Pr_clearText_9 h0 rfl ?_
  refine ev_iconstN (v := 0) i_Pr_clearText_12 (by decide) ?_
  refine ev_put i_Pr_clearText_13 hT.1.1 (Nat.le_of_ble_eq_true rfl) rfl rfl ?_
  refine ev_iload_n i_Pr_clearText_16 rfl ?_
  exact ev_iret i_Pr_clearText_17 rfl (by first | rfl | decide)

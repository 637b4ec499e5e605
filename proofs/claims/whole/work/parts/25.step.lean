/-! steps of a word -/
theorem nI_div {a b : Nat} (ha : a < 2 ^ 31) (hb : b < 2 ^ 31) : nI a / nI b = nI (a / b) := by
  apply Int32.toInt_inj.mp
  have hq : a / b ≤ a := Nat.div_le_self a b
  rw [Int32.toInt_div, nI_toInt ha, nI_toInt hb, nI_toInt (by omega)]
  rw [show ((a : Int).tdiv (b : Int)) = ((a / b : Nat) : Int) from by simp [Int.ofNat_tdiv]]
  generalize a / b = q at hq ⊢
  apply Int.bmod_eq_of_le <;> omega
theorem nI_mod {a b : Nat} (ha : a < 2 ^ 31) (hb : b < 2 ^ 31) : nI a - nI a / nI b * nI b = nI (a % b) := by
  rw [nI_div ha hb, nI_mul, nI_sub (Nat.div_mul_le_self a b)]
  congr 1
  have := Nat.div_add_mod a b
  rw [Nat.mul_comm] at this
  omega
theorem ev_iremN {scr : Scr} {l : Launch} {d : Nat} {M : Mth} {pc : Nat} {L : List (Option Value)} {st : List Value} {S : Sto} {r : Res} {a b : Nat} (h : iIns M pc .irem 1) (hb0 : b ≠ 0) (ha : a < 2 ^ 31) (hb : b < 2 ^ 31) (k : Ev scr l d M (pc + 1) L (.int (nI (a % b)) :: st) S r) : Ev scr l d M pc L (.int (nI b) :: .int (nI a) :: st) S r :=
  ev_irem h (fun q => hb0 (nI_inj hb (by omega) (q.trans nI_0.symm))) (by rw [nI_mod ha hb]; exact k)
theorem ev_idivN {scr : Scr} {l : Launch} {d : Nat} {M : Mth} {pc : Nat} {L : List (Option Value)} {st : List Value} {S : Sto} {r : Res} {a b : Nat} (h : iIns M pc .idiv 1) (hb0 : b ≠ 0) (ha : a < 2 ^ 31) (hb : b < 2 ^ 31) (k : Ev scr l d M (pc + 1) L (.int (nI (a / b)) :: st) S r) : Ev scr l d M pc L (.int (nI b) :: .int (nI a) :: st) S r :=
  ev_idiv h (fun q => hb0 (nI_inj hb (by omega) (q.trans nI_0.symm))) (by rw [nI_div ha hb]; exact k)
/-- the draws of a step -/
def lcg (x : Int32) : Int32 := x * 1103515245 + nI 12345
def drwN (x : Int32) : Nat := (x.toUInt32 >>> ((nI 16).toUInt32 &&& Int32.toUInt32 31)).toNat
theorem drwN_lt (x : Int32) : drwN x < 65536 := by
  unfold drwN
  have e : (nI 16).toUInt32 &&& Int32.toUInt32 31 = 16 := by decide
  rw [e, UInt32.toNat_shiftRight]
  have h : x.toUInt32.toNat < 4294967296 := UInt32.toNat_lt _
  rw [show (16 : UInt32).toNat % 32 = 16 from rfl, Nat.shiftRight_eq_div_pow]
  omega
theorem drw_nI (x : Int32) : (x.toUInt32 >>> ((nI 16).toUInt32 &&& Int32.toUInt32 31)).toInt32 = nI (drwN x) := by
  have h := drwN_lt x
  unfold drwN at h ⊢
  generalize (x.toUInt32 >>> ((nI 16).toUInt32 &&& Int32.toUInt32 31)) = y at h ⊢
  apply Int32.toInt_inj.mp
  rw [nI_toInt (by omega)]
  have : y.toInt32 = nI y.toNat := by
    apply Int32.toBitVec_inj.mp
    show y.toBitVec = _
    simp [nI, Int32.ofNat, Int32.toBitVec]
  rw [this, nI_toInt (by omega)]
/-- the context rule for place i of xs -/
def ruleAt (T : TabV) (xs : List Nat) (i : Nat) : Option (List Nat) := if i = 0 then none else T.2 (xs.getD (i - 1) 0) (xs.getD i 0)
def listAt (T : TabV) (xs : List Nat) (i n : Nat) : List Nat := (T.1 (xs.getD i 0)).getD (n % (T.1 (xs.getD i 0)).length) []
/-- the production at place i, and the value behind it -/
def prodAt (T : TabV) (xs : List Nat) (i : Nat) (x : Int32) : List Nat × Int32 := match ruleAt T xs i with
  | some p => (p, x)
  | none => (listAt T xs i (drwN (lcg x)), lcg x)
/-- what the first i letters become -/
def stepN (T : TabV) (xs : List Nat) (seed : Int32) : Nat → List Nat × Int32
  | 0 => ([], seed)
  | i + 1 => ((stepN T xs seed i).1 ++ (prodAt T xs i (stepN T xs seed i).2).1, (prodAt T xs i (stepN T xs seed i).2).2)
def stepW (T : TabV) (xs : List Nat) (seed : Int32) : List Nat := (stepN T xs seed xs.length).1
theorem stepN_le {T : TabV} {xs : List Nat} {seed : Int32} {i j : Nat} (h : i ≤ j) : (stepN T xs seed i).1.length ≤ (stepN T xs seed j).1.length := by
  induction j with
  | zero =>
    have : i = 0 := by omega
    subst this
    exact Nat.le_refl _
  | succ j ih =>
    by_cases q : i = j + 1
    · subst q
      exact Nat.le_refl _
    · have := ih (by omega)
      show _ ≤ ((stepN T xs seed j).1 ++ _).length
      rw [List.length_append]
      omega
theorem t_ruleAt_0 {scr : Scr} {l : Launch} {S : Sto} {t w d : Nat} : MetA scr l d M_Tb_ruleSlotAt [.ref t, .ref w, .int (nI 0)] S (.inl (some (.int (-1))), S) := by
  refine MetA.of rfl (by decide +kernel) (Nat.le_of_ble_eq_true rfl) ?_
  refine ev_iload_n i_Tb_ruleSlotAt_0 rfl ?_
  refine ev_iconstN (v := 1) i_Tb_ruleSlotAt_1 (by decide) ?_
  refine ev_icmp_geN i_Tb_ruleSlotAt_2 (by omega) (by omega) (fun hc_2 => ?_) (fun hc_2 => ?_)
  · skip
    exfalso; omega
  · skip
    refine ev_iconst (v := -1) i_Tb_ruleSlotAt_5 (by decide) ?_
    exact ev_iret i_Tb_ruleSlotAt_6 rfl (by first | rfl | decide)
theorem t_ruleAt {scr : Scr} {l : Launch} {S : Sto} {t w a i : Nat} {T : TabV} {xs : List Nat} (ht : TabAt S t T) (h : WordAt S w a xs) (hi : i < xs.length) : (ruleAt T xs i = none → ∀ d, MetA scr l (d + 1) M_Tb_ruleSlotAt [.ref t, .ref w, .int (nI i)] S (.inl (some (.int (-1))), S)) ∧ (∀ p, ruleAt T xs i = some p → ∀ d, MetA scr l (d + 1) M_Tb_ruleSlotAt [.ref t, .ref w, .int (nI i)] S (.inl (some (.int (nI (18 + xs.getD (i - 1) 0 * 6 + xs.getD i 0)))), S)) := by
  obtain ⟨rc, fs, fl, fe, hT, hR⟩ := ht
  obtain ⟨h1, h2, h3, f, h4, h5⟩ := h
  unfold ruleAt
  by_cases hi0 : i = 0
  · subst hi0
    exact ⟨fun _ d => t_ruleAt_0, fun p hp => by simp at hp⟩
  · rw [if_neg hi0]
    have hx1 := h3 (i - 1) (by omega)
    have hx2 := h3 i (by omega)
    obtain ⟨r1, r2⟩ := hR.2.1 _ _ hx1 hx2
    refine ⟨fun hz d => ?_, fun p hp d => ?_⟩
    · have hz2 := r1 hz
      refine MetA.of rfl (by decide +kernel) (Nat.le_of_ble_eq_true rfl) ?_
      refine ev_iload_n i_Tb_ruleSlotAt_0 rfl ?_
      refine ev_iconstN (v := 1) i_Tb_ruleSlotAt_1 (by decide) ?_
      refine ev_icmp_geN i_Tb_ruleSlotAt_2 (by omega) (by omega) (fun hc_2 => ?_) (fun hc_2 => ?_)
      · skip
        refine ev_aload_n i_Tb_ruleSlotAt_7 rfl ?_
        refine ev_get i_Tb_ruleSlotAt_8 h1 rfl ?_
        refine ev_iload_n i_Tb_ruleSlotAt_11 rfl ?_
        refine ev_iconstN (v := 1) i_Tb_ruleSlotAt_12 (by decide) ?_
        first | refine ev_isubN i_Tb_ruleSlotAt_13 (by omega) ?_ | refine ev_isub i_Tb_ruleSlotAt_13 ?_
        refine ev_ialdN i_Tb_ruleSlotAt_14 h4 (by omega) (by decide) ?_
        rw [h5 _ (by omega)]
        refine ev_aload_n i_Tb_ruleSlotAt_15 rfl ?_
        refine ev_get i_Tb_ruleSlotAt_16 h1 rfl ?_
        refine ev_iload_n i_Tb_ruleSlotAt_19 rfl ?_
        refine ev_ialdN i_Tb_ruleSlotAt_20 h4 (by omega) (by decide) ?_
        rw [h5 _ (by omega)]
        refine ev_callS2 i_Tb_ruleSlotAt_21 rfl (Nat.le_of_ble_eq_true rfl) c_Tb_ruleSlot ?_
        refine ev_istore_n i_Tb_ruleSlotAt_24 (Nat.le_of_ble_eq_true rfl) ?_
        refine ev_aload_n i_Tb_ruleSlotAt_25 rfl ?_
        refine ev_get i_Tb_ruleSlotAt_26 hT.1 rfl ?_
        refine ev_iload_n i_Tb_ruleSlotAt_29 rfl ?_
        refine ev_ialdN i_Tb_ruleSlotAt_30 hT.2.2.1 (by omega) (by decide) ?_
        refine ev_iconst (v := -1) i_Tb_ruleSlotAt_31 (by decide) ?_
        refine ev_icmp_ne i_Tb_ruleSlotAt_32 (fun hc_32 => ?_) (fun hc_32 => ?_)
        · skip
          exact absurd hz2 hc_32
        · skip
          refine ev_iconst (v := -1) i_Tb_ruleSlotAt_35 (by decide) ?_
          refine ev_goto i_Tb_ruleSlotAt_36 ?_
          exact ev_iret i_Tb_ruleSlotAt_40 rfl (by first | rfl | decide)
      · skip
        exfalso; omega
    · have hz2 : ¬ fl (18 + xs.getD (i - 1) 0 * 6 + xs.getD i 0) = -1 := by
        rw [(r2 p hp).1.1]
        exact nI_ne_m1 (by have := (r2 p hp).2.1; omega)
      refine MetA.of rfl (by decide +kernel) (Nat.le_of_ble_eq_true rfl) ?_
      refine ev_iload_n i_Tb_ruleSlotAt_0 rfl ?_
      refine ev_iconstN (v := 1) i_Tb_ruleSlotAt_1 (by decide) ?_
      refine ev_icmp_geN i_Tb_ruleSlotAt_2 (by omega) (by omega) (fun hc_2 => ?_) (fun hc_2 => ?_)
      · skip
        refine ev_aload_n i_Tb_ruleSlotAt_7 rfl ?_
        refine ev_get i_Tb_ruleSlotAt_8 h1 rfl ?_
        refine ev_iload_n i_Tb_ruleSlotAt_11 rfl ?_
        refine ev_iconstN (v := 1) i_Tb_ruleSlotAt_12 (by decide) ?_
        first | refine ev_isubN i_Tb_ruleSlotAt_13 (by omega) ?_ | refine ev_isub i_Tb_ruleSlotAt_13 ?_
        refine ev_ialdN i_Tb_ruleSlotAt_14 h4 (by omega) (by decide) ?_
        rw [h5 _ (by omega)]
        refine ev_aload_n i_Tb_ruleSlotAt_15 rfl ?_
        refine ev_get i_Tb_ruleSlotAt_16 h1 rfl ?_
        refine ev_iload_n i_Tb_ruleSlotAt_19 rfl ?_
        refine ev_ialdN i_Tb_ruleSlotAt_20 h4 (by omega) (by decide) ?_
        rw [h5 _ (by omega)]
        refine ev_callS2 i_Tb_ruleSlotAt_21 rfl (Nat.le_of_ble_eq_true rfl) c_Tb_ruleSlot ?_
        refine ev_istore_n i_Tb_ruleSlotAt_24 (Nat.le_of_ble_eq_true rfl) ?_
        refine ev_aload_n i_Tb_ruleSlotAt_25 rfl ?_
        refine ev_get i_Tb_ruleSlotAt_26 hT.1 rfl ?_
        refine ev_iload_n i_Tb_ruleSlotAt_29 rfl ?_
        refine ev_ialdN i_Tb_ruleSlotAt_30 hT.2.2.1 (by omega) (by decide) ?_
        refine ev_iconst (v := -1) i_Tb_ruleSlotAt_31 (by decide) ?_
        refine ev_icmp_ne i_Tb_ruleSlotAt_32 (fun hc_32 => ?_) (fun hc_32 => ?_)
        · skip
          refine ev_iload_n i_Tb_ruleSlotAt_39 rfl ?_
          exact ev_iret i_Tb_ruleSlotAt_40 rfl (by first | rfl | decide)
        · skip
          exact absurd hc_32 hz2
      · skip
        exfalso; omega
theorem t_chosen {scr : Scr} {l : Launch} {S : Sto} {t a n d : Nat} {T : TabV} (ht : TabAt S t T) (ha : a < 6) (hn : n < 65536) : MetA scr l (d + 1) M_Tb_chosenSlot [.ref t, .int (nI a), .int (nI n)] S (.inl (some (.int (nI (a * 3 + n % (T.1 a).length)))), S) := by
  obtain ⟨rc, fs, fl, fe, hT, hR⟩ := ht
  have hold := hR.1 a ha
  refine MetA.of rfl (by decide +kernel) (Nat.le_of_ble_eq_true rfl) ?_
  refine ev_aload_n i_Tb_chosenSlot_0 rfl ?_
  refine ev_get i_Tb_chosenSlot_1 hT.1 rfl ?_
  refine ev_iload_n i_Tb_chosenSlot_4 rfl ?_
  refine ev_ialdN i_Tb_chosenSlot_5 hT.2.1 (by omega) (by decide) ?_
  rw [hold.1]
  refine ev_istore_n i_Tb_chosenSlot_6 (Nat.le_of_ble_eq_true rfl) ?_
  refine ev_iload_n i_Tb_chosenSlot_7 rfl ?_
  refine ev_iload_n i_Tb_chosenSlot_8 rfl ?_
  refine ev_iconstN (v := 1) i_Tb_chosenSlot_9 (by decide) ?_
  refine ev_icmp_leN i_Tb_chosenSlot_10 (by omega) (by omega) (fun hc_10 => ?_) (fun hc_10 => ?_)
  · skip
    have e : n % (T.1 a).length = 0 := by rw [show (T.1 a).length = 1 by omega]; omega
    rw [e]
    refine ev_iconstN (v := 0) i_Tb_chosenSlot_19 (by decide) ?_
    refine ev_callS2 i_Tb_chosenSlot_20 rfl (Nat.le_of_ble_eq_true rfl) c_Tb_listSlot ?_
    exact ev_iret i_Tb_chosenSlot_23 rfl rfl
  · skip
    refine ev_iload_n i_Tb_chosenSlot_13 rfl ?_
    refine ev_iload_n i_Tb_chosenSlot_14 rfl ?_
    refine ev_iremN i_Tb_chosenSlot_15 (by omega) (by omega) (by omega) ?_
    refine ev_goto i_Tb_chosenSlot_16 ?_
    refine ev_callS2 i_Tb_chosenSlot_20 rfl (Nat.le_of_ble_eq_true rfl) c_Tb_listSlot ?_
    exact ev_iret i_Tb_chosenSlot_23 rfl rfl
theorem lp_appendSlot {scr : Scr} {l : Launch} {S : Sto} {t s w a : Nat} {rc : Nat} {fs fl fe : Nat → Int32} {ys p : List Nat} (hT : TabIs S t (t + 1) (t + 2) (t + 3) rc fs fl fe) (hs : s < 54) (hp : SlotR fl fe s p) (hok : PrOK p) (hd : t ∉ [w, a] ∧ t + 1 ∉ [w, a] ∧ t + 2 ∉ [w, a] ∧ t + 3 ∉ [w, a]) (hl : ys.length + p.length ≤ 60) : ∀ (k i : Nat), i + k = p.length → ∀ S2, WordAt S2 w a (ys ++ p.take i) → Fr [w, a] S S2 → ∃ S3, (∀ d, Ev scr l (d + 1) M_Tb_appendSlot 2 [some (.ref t), some (.int (nI s)), some (.ref w), some (.int (nI i))] [] S2 (.inl (some (.int (nI 1))), S3)) ∧ WordAt S3 w a (ys ++ p) ∧ Fr [w, a] S S3 := by
  intro k
  induction k with
  | zero =>
    intro i hi S2 hw hF
    have hT2 := hT.fr hF hd
    have hp4 := hok.1
    have hi : i = p.length := by omega
    subst hi
    rw [List.take_of_length_le (Nat.le_refl _)] at hw
    refine ⟨S2, fun d => ?_, hw, hF⟩
    refine ev_iload_n i_Tb_appendSlot_2 rfl ?_
    refine ev_aload_n i_Tb_appendSlot_3 rfl ?_
    refine ev_get i_Tb_appendSlot_4 hT2.1 rfl ?_
    refine ev_iload_n i_Tb_appendSlot_7 rfl ?_
    refine ev_ialdN i_Tb_appendSlot_8 hT2.2.2.1 (by omega) (by decide) ?_
    rw [hp.1]
    refine ev_icmp_geN i_Tb_appendSlot_9 (by omega) (by omega) (fun hc_9 => ?_) (fun hc_9 => ?_)
    · skip
      refine ev_iconstN (v := 1) i_Tb_appendSlot_33 (by decide) ?_
      exact ev_iret i_Tb_appendSlot_34 rfl (by first | rfl | decide)
    · skip
      exfalso; omega
  | succ k ih =>
    intro i hi S2 hw hF
    have hT2 := hT.fr hF hd
    have hp4 := hok.1
    obtain ⟨S3, m3, w3, f3⟩ := w_append (scr := scr) (l := l) (x := p.getD i 0) hw (hok.2 i (by omega)) (by rw [List.length_append, List.length_take]; omega)
    obtain ⟨S4, e4, w4, f4⟩ := ih (i + 1) (by omega) S3 (by rw [take_succ (by omega), ← List.append_assoc]; exact w3) (hF.tr f3)
    refine ⟨S4, fun d => ?_, w4, f4⟩
    refine ev_iload_n i_Tb_appendSlot_2 rfl ?_
    refine ev_aload_n i_Tb_appendSlot_3 rfl ?_
    refine ev_get i_Tb_appendSlot_4 hT2.1 rfl ?_
    refine ev_iload_n i_Tb_appendSlot_7 rfl ?_
    refine ev_ialdN i_Tb_appendSlot_8 hT2.2.2.1 (by omega) (by decide) ?_
    rw [hp.1]
    refine ev_icmp_geN i_Tb_appendSlot_9 (by omega) (by omega) (fun hc_9 => ?_) (fun hc_9 => ?_)
    · skip
      exfalso; omega
    · skip
      refine ev_aload_n i_Tb_appendSlot_12 rfl ?_
      refine ev_aload_n i_Tb_appendSlot_13 rfl ?_
      refine ev_iload_n i_Tb_appendSlot_14 rfl ?_
      refine ev_iload_n i_Tb_appendSlot_15 rfl ?_
      refine ev_callV2 i_Tb_appendSlot_16 rfl hT2.1 (Nat.le_of_ble_eq_true rfl) (c_Tb_letterOf hT2 hs (by omega)) ?_
      rw [hp.2 i (by omega)]
      refine ev_callV1 i_Tb_appendSlot_19 rfl hw.1 (Nat.le_of_ble_eq_true rfl) (m3 _) ?_
      refine ev_if_neN i_Tb_appendSlot_22 (by omega) (fun hc_22 => ?_) (fun hc_22 => ?_)
      · skip
        refine ev_iincN (c := 1) i_Tb_appendSlot_27 (by decide) rfl ?_
        refine ev_goto i_Tb_appendSlot_30 ?_
        exact e4 d
      · skip
        exfalso; omega
theorem lp_appendSlot_no {scr : Scr} {l : Launch} {S : Sto} {t s w a : Nat} {rc : Nat} {fs fl fe : Nat → Int32} {ys p : List Nat} (hT : TabIs S t (t + 1) (t + 2) (t + 3) rc fs fl fe) (hs : s < 54) (hp : SlotR fl fe s p) (hok : PrOK p) (hd : t ∉ [w, a] ∧ t + 1 ∉ [w, a] ∧ t + 2 ∉ [w, a] ∧ t + 3 ∉ [w, a]) (hl : 60 < ys.length + p.length) : ∀ (k i : Nat), i + k = p.length → ∀ S2, WordAt S2 w a (ys ++ p.take i) → Fr [w, a] S S2 → ∃ S3, (∀ d, Ev scr l (d + 1) M_Tb_appendSlot 2 [some (.ref t), some (.int (nI s)), some (.ref w), some (.int (nI i))] [] S2 (.inl (some (.int (nI 0))), S3)) ∧ (∃ zs, WordAt S3 w a zs) ∧ Fr [w, a] S S3 := by
  intro k
  induction k with
  | zero =>
    intro i hi S2 hw hF
    have h60 := hw.2.1
    rw [List.length_append, List.length_take] at h60
    exfalso
    omega
  | succ k ih =>
    intro i hi S2 hw hF
    have hT2 := hT.fr hF hd
    have hp4 := hok.1
    have h60 := hw.2.1
    by_cases hfull : (ys ++ p.take i).length = 60
    · refine ⟨S2, fun d => ?_, ⟨_, hw⟩, hF⟩
      refine ev_iload_n i_Tb_appendSlot_2 rfl ?_
      refine ev_aload_n i_Tb_appendSlot_3 rfl ?_
      refine ev_get i_Tb_appendSlot_4 hT2.1 rfl ?_
      refine ev_iload_n i_Tb_appendSlot_7 rfl ?_
      refine ev_ialdN i_Tb_appendSlot_8 hT2.2.2.1 (by omega) (by decide) ?_
      rw [hp.1]
      refine ev_icmp_geN i_Tb_appendSlot_9 (by omega) (by omega) (fun hc_9 => ?_) (fun hc_9 => ?_)
      · skip
        exfalso; omega
      · skip
        refine ev_aload_n i_Tb_appendSlot_12 rfl ?_
        refine ev_aload_n i_Tb_appendSlot_13 rfl ?_
        refine ev_iload_n i_Tb_appendSlot_14 rfl ?_
        refine ev_iload_n i_Tb_appendSlot_15 rfl ?_
        refine ev_callV2 i_Tb_appendSlot_16 rfl hT2.1 (Nat.le_of_ble_eq_true rfl) (c_Tb_letterOf hT2 hs (by omega)) ?_
        rw [hp.2 i (by omega)]
        refine ev_callV1 i_Tb_appendSlot_19 rfl hw.1 (Nat.le_of_ble_eq_true rfl) (w_append_no hw hfull) ?_
        refine ev_if_neN i_Tb_appendSlot_22 (by omega) (fun hc_22 => ?_) (fun hc_22 => ?_)
        · skip
          exfalso; omega
        · skip
          refine ev_iconstN (v := 0) i_Tb_appendSlot_25 (by decide) ?_
          exact ev_iret i_Tb_appendSlot_26 rfl (by first | rfl | decide)
    · obtain ⟨S3, m3, w3, f3⟩ := w_append (scr := scr) (l := l) (x := p.getD i 0) hw (hok.2 i (by omega)) (by omega)
      obtain ⟨S4, e4, w4, f4⟩ := ih (i + 1) (by omega) S3 (by rw [take_succ (by omega), ← List.append_assoc]; exact w3) (hF.tr f3)
      refine ⟨S4, fun d => ?_, w4, f4⟩
      refine ev_iload_n i_Tb_appendSlot_2 rfl ?_
      refine ev_aload_n i_Tb_appendSlot_3 rfl ?_
      refine ev_get i_Tb_appendSlot_4 hT2.1 rfl ?_
      refine ev_iload_n i_Tb_appendSlot_7 rfl ?_
      refine ev_ialdN i_Tb_appendSlot_8 hT2.2.2.1 (by omega) (by decide) ?_
      rw [hp.1]
      refine ev_icmp_geN i_Tb_appendSlot_9 (by omega) (by omega) (fun hc_9 => ?_) (fun hc_9 => ?_)
      · skip
        exfalso; omega
      · skip
        refine ev_aload_n i_Tb_appendSlot_12 rfl ?_
        refine ev_aload_n i_Tb_appendSlot_13 rfl ?_
        refine ev_iload_n i_Tb_appendSlot_14 rfl ?_
        refine ev_iload_n i_Tb_appendSlot_15 rfl ?_
        refine ev_callV2 i_Tb_appendSlot_16 rfl hT2.1 (Nat.le_of_ble_eq_true rfl) (c_Tb_letterOf hT2 hs (by omega)) ?_
        rw [hp.2 i (by omega)]
        refine ev_callV1 i_Tb_appendSlot_19 rfl hw.1 (Nat.le_of_ble_eq_true rfl) (m3 _) ?_
        refine ev_if_neN i_Tb_appendSlot_22 (by omega) (fun hc_22 => ?_) (fun hc_22 => ?_)
        · skip
          refine ev_iincN (c := 1) i_Tb_appendSlot_27 (by decide) rfl ?_
          refine ev_goto i_Tb_appendSlot_30 ?_
          exact e4 d
        · skip
          exfalso; omega
theorem t_appendSlot {scr : Scr} {l : Launch} {S : Sto} {t s w a : Nat} {rc : Nat} {fs fl fe : Nat → Int32} {ys p : List Nat} (hT : TabIs S t (t + 1) (t + 2) (t + 3) rc fs fl fe) (hs : s < 54) (hp : SlotR fl fe s p) (hok : PrOK p) (hd : t ∉ [w, a] ∧ t + 1 ∉ [w, a] ∧ t + 2 ∉ [w, a] ∧ t + 3 ∉ [w, a]) (h : WordAt S w a ys) : (ys.length + p.length ≤ 60 → ∃ S3, (∀ d, MetA scr l (d + 1) M_Tb_appendSlot [.ref t, .int (nI s), .ref w] S (.inl (some (.int (nI 1))), S3)) ∧ WordAt S3 w a (ys ++ p) ∧ Fr [w, a] S S3) ∧ (60 < ys.length + p.length → ∃ S3, (∀ d, MetA scr l (d + 1) M_Tb_appendSlot [.ref t, .int (nI s), .ref w] S (.inl (some (.int (nI 0))), S3)) ∧ (∃ zs, WordAt S3 w a zs) ∧ Fr [w, a] S S3) := by
  refine ⟨fun hl => ?_, fun hl => ?_⟩
  · obtain ⟨S4, e4, w4, f4⟩ := lp_appendSlot (scr := scr) (l := l) hT hs hp hok hd hl p.length 0 (by omega) S (by simpa using h) (Fr.rf _ _)
    refine ⟨S4, fun d => ?_, w4, f4⟩
    refine MetA.of rfl (by decide +kernel) (Nat.le_of_ble_eq_true rfl) ?_
    refine ev_iconstN (v := 0) i_Tb_appendSlot_0 (by decide) ?_
    refine ev_istore_n i_Tb_appendSlot_1 (Nat.le_of_ble_eq_true rfl) ?_
    exact e4 d
  · obtain ⟨S4, e4, w4, f4⟩ := lp_appendSlot_no (scr := scr) (l := l) hT hs hp hok hd hl p.length 0 (by omega) S (by simpa using h) (Fr.rf _ _)
    refine ⟨S4, fun d => ?_, w4, f4⟩
    refine MetA.of rfl (by decide +kernel) (Nat.le_of_ble_eq_true rfl) ?_
    refine ev_iconstN (v := 0) i_Tb_appendSlot_0 (by decide) ?_
    refine ev_istore_n i_Tb_appendSlot_1 (Nat.le_of_ble_eq_true rfl) ?_
    exact e4 d
theorem slot_list {fs fl fe : Nat → Int32} {rc a n : Nat} {T : TabV} (hR : TabR fs fl fe rc T) (ha : a < 6) : SlotR fl fe (a * 3 + n % (T.1 a).length) ((T.1 a).getD (n % (T.1 a).length) []) ∧ PrOK ((T.1 a).getD (n % (T.1 a).length) []) := by
  have h := hR.1 a ha
  exact h.2.2.2 _ (Nat.mod_lt _ (by omega))
theorem lp_rewrite {scr : Scr} {l : Launch} {S : Sto} {t w a v b : Nat} {T : TabV} {xs : List Nat} {seed : Int32} (ht : TabAt S t T) (hx : WordAt S w a xs) (hd : t ∉ [v, b] ∧ t + 1 ∉ [v, b] ∧ t + 2 ∉ [v, b] ∧ t + 3 ∉ [v, b]) (hwv : w ∉ [v, b] ∧ a ∉ [v, b]) (hl : (stepW T xs seed).length ≤ 60) : ∀ (k i : Nat), i + k = xs.length → ∀ (q : Option Value) (S2 : Sto), WordAt S2 v b (stepN T xs seed i).1 → Fr [v, b] S S2 → ∃ S3, (∀ d, Ev scr l (d + 2) M_Tb_rewrite 11 [some (.ref t), some (.ref w), some (.int seed), some (.ref v), some (.int (stepN T xs seed i).2), some (.int (nI i)), q] [] S2 (.inl (some (.int (nI 1))), S3)) ∧ WordAt S3 v b (stepW T xs seed) ∧ Fr [v, b] S S3 := by
  intro k
  induction k with
  | zero =>
    intro i hi q S2 hw hF
    have ht2 := ht.fr hF hd
    have hx2 := hx.fr hF hwv
    obtain ⟨rc, fs, fl, fe, hT2, hR⟩ := id ht2
    obtain ⟨h1, h2, h3', f, h4, h5⟩ := id hx2
    have hi : i = xs.length := by omega
    subst hi
    refine ⟨S2, fun d => ?_, hw, hF⟩
    refine ev_iload i_Tb_rewrite_11 rfl ?_
    refine ev_aload_n i_Tb_rewrite_13 rfl ?_
    refine ev_get i_Tb_rewrite_14 hx2.1 rfl ?_
    refine ev_icmp_geN i_Tb_rewrite_17 (by omega) (by omega) (fun hc_17 => ?_) (fun hc_17 => ?_)
    · skip
      refine ev_iconstN (v := 1) i_Tb_rewrite_82 (by decide) ?_
      exact ev_iret i_Tb_rewrite_83 rfl (by first | rfl | decide)
    · skip
      exfalso; omega
  | succ k ih =>
    intro i hi q S2 hw hF
    have ht2 := ht.fr hF hd
    have hx2 := hx.fr hF hwv
    obtain ⟨rc, fs, fl, fe, hT2, hR⟩ := id ht2
    obtain ⟨h1, h2, h3', f, h4, h5⟩ := id hx2
    have hlen : (stepN T xs seed (i + 1)).1.length ≤ 60 := Nat.le_trans (stepN_le (by omega)) hl
    have hrule := t_ruleAt (scr := scr) (l := l) (i := i) ht2 hx2 (by omega)
    have h3 := h3' i (by omega)
    cases hz : ruleAt T xs i with
    | none =>
      have hr0 := hrule.1 hz
      have e1 : prodAt T xs i (stepN T xs seed i).2 = (listAt T xs i (drwN (lcg (stepN T xs seed i).2)), lcg (stepN T xs seed i).2) := by unfold prodAt; rw [hz]
      have e2 : stepN T xs seed (i + 1) = ((stepN T xs seed i).1 ++ listAt T xs i (drwN (lcg (stepN T xs seed i).2)), lcg (stepN T xs seed i).2) := by show (_, _) = _; rw [e1]
      rw [e2, List.length_append] at hlen
      obtain ⟨p1, p2⟩ := slot_list (n := drwN (lcg (stepN T xs seed i).2)) hR h3
      obtain ⟨S3, m3, w3, f3⟩ := (t_appendSlot (scr := scr) (l := l) hT2 (by have := (hR.1 _ h3).2.2.1; have := Nat.mod_lt (drwN (lcg (stepN T xs seed i).2)) (show 0 < (T.1 (xs.getD i 0)).length by have := (hR.1 _ h3).2.1; omega); omega) p1 p2 hd hw).1 hlen
      obtain ⟨S4, e4, w4, f4⟩ := ih (i + 1) (by omega) (some (.int (nI (xs.getD i 0 * 3 + drwN (lcg (stepN T xs seed i).2) % (T.1 (xs.getD i 0)).length)))) S3 (by rw [e2]; exact w3) (hF.tr f3)
      rw [e2] at e4
      refine ⟨S4, fun d => ?_, w4, f4⟩
      refine ev_iload i_Tb_rewrite_11 rfl ?_
      refine ev_aload_n i_Tb_rewrite_13 rfl ?_
      refine ev_get i_Tb_rewrite_14 hx2.1 rfl ?_
      refine ev_icmp_geN i_Tb_rewrite_17 (by omega) (by omega) (fun hc_17 => ?_) (fun hc_17 => ?_)
      · skip
        exfalso; omega
      · skip
        refine ev_aload_n i_Tb_rewrite_20 rfl ?_
        refine ev_aload_n i_Tb_rewrite_21 rfl ?_
        refine ev_iload i_Tb_rewrite_22 rfl ?_
        refine ev_callV2 i_Tb_rewrite_24 rfl hT2.1 (Nat.le_of_ble_eq_true rfl) (hr0 _) ?_
        refine ev_istore i_Tb_rewrite_27 (Nat.le_of_ble_eq_true rfl) ?_
        refine ev_iload i_Tb_rewrite_29 rfl ?_
        refine ev_iconst (v := -1) i_Tb_rewrite_31 (by decide) ?_
        refine ev_icmp_ne i_Tb_rewrite_32 (fun hc_32 => ?_) (fun hc_32 => ?_)
        · skip
          exact absurd rfl hc_32
        · skip
          refine ev_iload i_Tb_rewrite_35 rfl ?_
          refine ev_LdcI i_Tb_rewrite_37 ?_
          refine ev_imul i_Tb_rewrite_39 ?_
          refine ev_sipushN (v := 12345) i_Tb_rewrite_40 (by decide) ?_
          refine ev_iadd i_Tb_rewrite_43 ?_
          refine ev_istore i_Tb_rewrite_44 (Nat.le_of_ble_eq_true rfl) ?_
          refine ev_aload_n i_Tb_rewrite_46 rfl ?_
          refine ev_aload_n i_Tb_rewrite_47 rfl ?_
          refine ev_get i_Tb_rewrite_48 hx2.1 rfl ?_
          refine ev_iload i_Tb_rewrite_51 rfl ?_
          refine ev_ialdN i_Tb_rewrite_53 h4 (by omega) (by decide) ?_
          rw [h5 i (by omega)]
          refine ev_iload i_Tb_rewrite_54 rfl ?_
          refine ev_bipushN (v := 16) i_Tb_rewrite_56 (by decide) ?_
          refine ev_iushr i_Tb_rewrite_58 ?_
          rw [drw_nI]
          refine ev_callV2 i_Tb_rewrite_59 rfl hT2.1 (Nat.le_of_ble_eq_true rfl) (t_chosen ht2 h3 (drwN_lt _)) ?_
          refine ev_istore i_Tb_rewrite_62 (Nat.le_of_ble_eq_true rfl) ?_
          refine ev_aload_n i_Tb_rewrite_64 rfl ?_
          refine ev_iload i_Tb_rewrite_65 rfl ?_
          refine ev_aload_n i_Tb_rewrite_67 rfl ?_
          refine ev_callV2 i_Tb_rewrite_68 rfl hT2.1 (Nat.le_of_ble_eq_true rfl) (m3 _) ?_
          refine ev_if_neN i_Tb_rewrite_71 (by omega) (fun hc_71 => ?_) (fun hc_71 => ?_)
          · skip
            refine ev_iincN (c := 1) i_Tb_rewrite_76 (by decide) rfl ?_
            refine ev_goto i_Tb_rewrite_79 ?_
            exact e4 d
          · skip
            exfalso; omega
    | some p =>
      have hr0 := hrule.2 p hz
      have e1 : prodAt T xs i (stepN T xs seed i).2 = (p, (stepN T xs seed i).2) := by unfold prodAt; rw [hz]
      have e2 : stepN T xs seed (i + 1) = ((stepN T xs seed i).1 ++ p, (stepN T xs seed i).2) := by show (_, _) = _; rw [e1]
      rw [e2, List.length_append] at hlen
      have hi0 : i ≠ 0 := fun q => by subst q; simp [ruleAt] at hz
      have hz2 : T.2 (xs.getD (i - 1) 0) (xs.getD i 0) = some p := by unfold ruleAt at hz; rw [if_neg hi0] at hz; exact hz
      have h3p := h3' (i - 1) (by omega)
      obtain ⟨p1, p2⟩ := (hR.2.1 _ _ h3p h3).2 p hz2
      obtain ⟨S3, m3, w3, f3⟩ := (t_appendSlot (scr := scr) (l := l) hT2 (by omega) p1 p2 hd hw).1 hlen
      obtain ⟨S4, e4, w4, f4⟩ := ih (i + 1) (by omega) (some (.int (nI (18 + xs.getD (i - 1) 0 * 6 + xs.getD i 0)))) S3 (by rw [e2]; exact w3) (hF.tr f3)
      rw [e2] at e4
      refine ⟨S4, fun d => ?_, w4, f4⟩
      refine ev_iload i_Tb_rewrite_11 rfl ?_
      refine ev_aload_n i_Tb_rewrite_13 rfl ?_
      refine ev_get i_Tb_rewrite_14 hx2.1 rfl ?_
      refine ev_icmp_geN i_Tb_rewrite_17 (by omega) (by omega) (fun hc_17 => ?_) (fun hc_17 => ?_)
      · skip
        exfalso; omega
      · skip
        refine ev_aload_n i_Tb_rewrite_20 rfl ?_
        refine ev_aload_n i_Tb_rewrite_21 rfl ?_
        refine ev_iload i_Tb_rewrite_22 rfl ?_
        refine ev_callV2 i_Tb_rewrite_24 rfl hT2.1 (Nat.le_of_ble_eq_true rfl) (hr0 _) ?_
        refine ev_istore i_Tb_rewrite_27 (Nat.le_of_ble_eq_true rfl) ?_
        refine ev_iload i_Tb_rewrite_29 rfl ?_
        refine ev_iconst (v := -1) i_Tb_rewrite_31 (by decide) ?_
        refine ev_icmp_ne i_Tb_rewrite_32 (fun hc_32 => ?_) (fun hc_32 => ?_)
        · skip
          refine ev_aload_n i_Tb_rewrite_64 rfl ?_
          refine ev_iload i_Tb_rewrite_65 rfl ?_
          refine ev_aload_n i_Tb_rewrite_67 rfl ?_
          refine ev_callV2 i_Tb_rewrite_68 rfl hT2.1 (Nat.le_of_ble_eq_true rfl) (m3 _) ?_
          refine ev_if_neN i_Tb_rewrite_71 (by omega) (fun hc_71 => ?_) (fun hc_71 => ?_)
          · skip
            refine ev_iincN (c := 1) i_Tb_rewrite_76 (by decide) rfl ?_
            refine ev_goto i_Tb_rewrite_79 ?_
            exact e4 d
          · skip
            exfalso; omega
        · skip
          exact absurd hc_32 (nI_ne_m1 (by omega))
theorem lp_rewrite_no {scr : Scr} {l : Launch} {S : Sto} {t w a v b : Nat} {T : TabV} {xs : List Nat} {seed : Int32} (ht : TabAt S t T) (hx : WordAt S w a xs) (hd : t ∉ [v, b] ∧ t + 1 ∉ [v, b] ∧ t + 2 ∉ [v, b] ∧ t + 3 ∉ [v, b]) (hwv : w ∉ [v, b] ∧ a ∉ [v, b]) (hl : 60 < (stepW T xs seed).length) : ∀ (k i : Nat), i + k = xs.length → ∀ (q : Option Value) (S2 : Sto), WordAt S2 v b (stepN T xs seed i).1 → Fr [v, b] S S2 → ∃ S3, (∀ d, Ev scr l (d + 2) M_Tb_rewrite 11 [some (.ref t), some (.ref w), some (.int seed), some (.ref v), some (.int (stepN T xs seed i).2), some (.int (nI i)), q] [] S2 (.inl (some (.int (nI 0))), S3)) ∧ (∃ zs, WordAt S3 v b zs) ∧ Fr [v, b] S S3 := by
  intro k
  induction k with
  | zero =>
    intro i hi q S2 hw hF
    have hi : i = xs.length := by omega
    subst hi
    have := hw.2.1
    exfalso
    unfold stepW at hl
    omega
  | succ k ih =>
    intro i hi q S2 hw hF
    have ht2 := ht.fr hF hd
    have hx2 := hx.fr hF hwv
    obtain ⟨rc, fs, fl, fe, hT2, hR⟩ := id ht2
    obtain ⟨h1, h2, h3', f, h4, h5⟩ := id hx2
    have hrule := t_ruleAt (scr := scr) (l := l) (i := i) ht2 hx2 (by omega)
    have h3 := h3' i (by omega)
    cases hz : ruleAt T xs i with
    | none =>
      have hr0 := hrule.1 hz
      have e1 : prodAt T xs i (stepN T xs seed i).2 = (listAt T xs i (drwN (lcg (stepN T xs seed i).2)), lcg (stepN T xs seed i).2) := by unfold prodAt; rw [hz]
      have e2 : stepN T xs seed (i + 1) = ((stepN T xs seed i).1 ++ listAt T xs i (drwN (lcg (stepN T xs seed i).2)), lcg (stepN T xs seed i).2) := by show (_, _) = _; rw [e1]
      obtain ⟨p1, p2⟩ := slot_list (n := drwN (lcg (stepN T xs seed i).2)) hR h3
      have hap := t_appendSlot (scr := scr) (l := l) hT2 (by have := (hR.1 _ h3).2.2.1; have := Nat.mod_lt (drwN (lcg (stepN T xs seed i).2)) (show 0 < (T.1 (xs.getD i 0)).length by have := (hR.1 _ h3).2.1; omega); omega) p1 p2 hd hw
      by_cases hlen : (stepN T xs seed i).1.length + (listAt T xs i (drwN (lcg (stepN T xs seed i).2))).length ≤ 60
      · obtain ⟨S3, m3, w3, f3⟩ := hap.1 hlen
        obtain ⟨S4, e4, w4, f4⟩ := ih (i + 1) (by omega) (some (.int (nI (xs.getD i 0 * 3 + drwN (lcg (stepN T xs seed i).2) % (T.1 (xs.getD i 0)).length)))) S3 (by rw [e2]; exact w3) (hF.tr f3)
        rw [e2] at e4
        refine ⟨S4, fun d => ?_, w4, f4⟩
        refine ev_iload i_Tb_rewrite_11 rfl ?_
        refine ev_aload_n i_Tb_rewrite_13 rfl ?_
        refine ev_get i_Tb_rewrite_14 hx2.1 rfl ?_
        refine ev_icmp_geN i_Tb_rewrite_17 (by omega) (by omega) (fun hc_17 => ?_) (fun hc_17 => ?_)
        · skip
          exfalso; omega
        · skip
          refine ev_aload_n i_Tb_rewrite_20 rfl ?_
          refine ev_aload_n i_Tb_rewrite_21 rfl ?_
          refine ev_iload i_Tb_rewrite_22 rfl ?_
          refine ev_callV2 i_Tb_rewrite_24 rfl hT2.1 (Nat.le_of_ble_eq_true rfl) (hr0 _) ?_
          refine ev_istore i_Tb_rewrite_27 (Nat.le_of_ble_eq_true rfl) ?_
          refine ev_iload i_Tb_rewrite_29 rfl ?_
          refine ev_iconst (v := -1) i_Tb_rewrite_31 (by decide) ?_
          refine ev_icmp_ne i_Tb_rewrite_32 (fun hc_32 => ?_) (fun hc_32 => ?_)
          · skip
            exact absurd rfl hc_32
          · skip
            refine ev_iload i_Tb_rewrite_35 rfl ?_
            refine ev_LdcI i_Tb_rewrite_37 ?_
            refine ev_imul i_Tb_rewrite_39 ?_
            refine ev_sipushN (v := 12345) i_Tb_rewrite_40 (by decide) ?_
            refine ev_iadd i_Tb_rewrite_43 ?_
            refine ev_istore i_Tb_rewrite_44 (Nat.le_of_ble_eq_true rfl) ?_
            refine ev_aload_n i_Tb_rewrite_46 rfl ?_
            refine ev_aload_n i_Tb_rewrite_47 rfl ?_
            refine ev_get i_Tb_rewrite_48 hx2.1 rfl ?_
            refine ev_iload i_Tb_rewrite_51 rfl ?_
            refine ev_ialdN i_Tb_rewrite_53 h4 (by omega) (by decide) ?_
            rw [h5 i (by omega)]
            refine ev_iload i_Tb_rewrite_54 rfl ?_
            refine ev_bipushN (v := 16) i_Tb_rewrite_56 (by decide) ?_
            refine ev_iushr i_Tb_rewrite_58 ?_
            rw [drw_nI]
            refine ev_callV2 i_Tb_rewrite_59 rfl hT2.1 (Nat.le_of_ble_eq_true rfl) (t_chosen ht2 h3 (drwN_lt _)) ?_
            refine ev_istore i_Tb_rewrite_62 (Nat.le_of_ble_eq_true rfl) ?_
            refine ev_aload_n i_Tb_rewrite_64 rfl ?_
            refine ev_iload i_Tb_rewrite_65 rfl ?_
            refine ev_aload_n i_Tb_rewrite_67 rfl ?_
            refine ev_callV2 i_Tb_rewrite_68 rfl hT2.1 (Nat.le_of_ble_eq_true rfl) (m3 _) ?_
            refine ev_if_neN i_Tb_rewrite_71 (by omega) (fun hc_71 => ?_) (fun hc_71 => ?_)
            · skip
              refine ev_iincN (c := 1) i_Tb_rewrite_76 (by decide) rfl ?_
              refine ev_goto i_Tb_rewrite_79 ?_
              exact e4 d
            · skip
              exfalso; omega
      · obtain ⟨S3, m3, w3, f3⟩ := hap.2 (by unfold listAt at hlen; omega)
        refine ⟨S3, fun d => ?_, w3, hF.tr f3⟩
        refine ev_iload i_Tb_rewrite_11 rfl ?_
        refine ev_aload_n i_Tb_rewrite_13 rfl ?_
        refine ev_get i_Tb_rewrite_14 hx2.1 rfl ?_
        refine ev_icmp_geN i_Tb_rewrite_17 (by omega) (by omega) (fun hc_17 => ?_) (fun hc_17 => ?_)
        · skip
          exfalso; omega
        · skip
          refine ev_aload_n i_Tb_rewrite_20 rfl ?_
          refine ev_aload_n i_Tb_rewrite_21 rfl ?_
          refine ev_iload i_Tb_rewrite_22 rfl ?_
          refine ev_callV2 i_Tb_rewrite_24 rfl hT2.1 (Nat.le_of_ble_eq_true rfl) (hr0 _) ?_
          refine ev_istore i_Tb_rewrite_27 (Nat.le_of_ble_eq_true rfl) ?_
          refine ev_iload i_Tb_rewrite_29 rfl ?_
          refine ev_iconst (v := -1) i_Tb_rewrite_31 (by decide) ?_
          refine ev_icmp_ne i_Tb_rewrite_32 (fun hc_32 => ?_) (fun hc_32 => ?_)
          · skip
            exact absurd rfl hc_32
          · skip
            refine ev_iload i_Tb_rewrite_35 rfl ?_
            refine ev_LdcI i_Tb_rewrite_37 ?_
            refine ev_imul i_Tb_rewrite_39 ?_
            refine ev_sipushN (v := 12345) i_Tb_rewrite_40 (by decide) ?_
            refine ev_iadd i_Tb_rewrite_43 ?_
            refine ev_istore i_Tb_rewrite_44 (Nat.le_of_ble_eq_true rfl) ?_
            refine ev_aload_n i_Tb_rewrite_46 rfl ?_
            refine ev_aload_n i_Tb_rewrite_47 rfl ?_
            refine ev_get i_Tb_rewrite_48 hx2.1 rfl ?_
            refine ev_iload i_Tb_rewrite_51 rfl ?_
            refine ev_ialdN i_Tb_rewrite_53 h4 (by omega) (by decide) ?_
            rw [h5 i (by omega)]
            refine ev_iload i_Tb_rewrite_54 rfl ?_
            refine ev_bipushN (v := 16) i_Tb_rewrite_56 (by decide) ?_
            refine ev_iushr i_Tb_rewrite_58 ?_
            rw [drw_nI]
            refine ev_callV2 i_Tb_rewrite_59 rfl hT2.1 (Nat.le_of_ble_eq_true rfl) (t_chosen ht2 h3 (drwN_lt _)) ?_
            refine ev_istore i_Tb_rewrite_62 (Nat.le_of_ble_eq_true rfl) ?_
            refine ev_aload_n i_Tb_rewrite_64 rfl ?_
            refine ev_iload i_Tb_rewrite_65 rfl ?_
            refine ev_aload_n i_Tb_rewrite_67 rfl ?_
            refine ev_callV2 i_Tb_rewrite_68 rfl hT2.1 (Nat.le_of_ble_eq_true rfl) (m3 _) ?_
            refine ev_if_neN i_Tb_rewrite_71 (by omega) (fun hc_71 => ?_) (fun hc_71 => ?_)
            · skip
              exfalso; omega
            · skip
              refine ev_iconstN (v := 0) i_Tb_rewrite_74 (by decide) ?_
              exact ev_iret i_Tb_rewrite_75 rfl (by first | rfl | decide)
    | some p =>
      have hr0 := hrule.2 p hz
      have e1 : prodAt T xs i (stepN T xs seed i).2 = (p, (stepN T xs seed i).2) := by unfold prodAt; rw [hz]
      have e2 : stepN T xs seed (i + 1) = ((stepN T xs seed i).1 ++ p, (stepN T xs seed i).2) := by show (_, _) = _; rw [e1]
      have hi0 : i ≠ 0 := fun q => by subst q; simp [ruleAt] at hz
      have hz2 : T.2 (xs.getD (i - 1) 0) (xs.getD i 0) = some p := by unfold ruleAt at hz; rw [if_neg hi0] at hz; exact hz
      have h3p := h3' (i - 1) (by omega)
      obtain ⟨p1, p2⟩ := (hR.2.1 _ _ h3p h3).2 p hz2
      have hap := t_appendSlot (scr := scr) (l := l) hT2 (by omega) p1 p2 hd hw
      by_cases hlen : (stepN T xs seed i).1.length + p.length ≤ 60
      · obtain ⟨S3, m3, w3, f3⟩ := hap.1 hlen
        obtain ⟨S4, e4, w4, f4⟩ := ih (i + 1) (by omega) (some (.int (nI (18 + xs.getD (i - 1) 0 * 6 + xs.getD i 0)))) S3 (by rw [e2]; exact w3) (hF.tr f3)
        rw [e2] at e4
        refine ⟨S4, fun d => ?_, w4, f4⟩
        refine ev_iload i_Tb_rewrite_11 rfl ?_
        refine ev_aload_n i_Tb_rewrite_13 rfl ?_
        refine ev_get i_Tb_rewrite_14 hx2.1 rfl ?_
        refine ev_icmp_geN i_Tb_rewrite_17 (by omega) (by omega) (fun hc_17 => ?_) (fun hc_17 => ?_)
        · skip
          exfalso; omega
        · skip
          refine ev_aload_n i_Tb_rewrite_20 rfl ?_
          refine ev_aload_n i_Tb_rewrite_21 rfl ?_
          refine ev_iload i_Tb_rewrite_22 rfl ?_
          refine ev_callV2 i_Tb_rewrite_24 rfl hT2.1 (Nat.le_of_ble_eq_true rfl) (hr0 _) ?_
          refine ev_istore i_Tb_rewrite_27 (Nat.le_of_ble_eq_true rfl) ?_
          refine ev_iload i_Tb_rewrite_29 rfl ?_
          refine ev_iconst (v := -1) i_Tb_rewrite_31 (by decide) ?_
          refine ev_icmp_ne i_Tb_rewrite_32 (fun hc_32 => ?_) (fun hc_32 => ?_)
          · skip
            refine ev_aload_n i_Tb_rewrite_64 rfl ?_
            refine ev_iload i_Tb_rewrite_65 rfl ?_
            refine ev_aload_n i_Tb_rewrite_67 rfl ?_
            refine ev_callV2 i_Tb_rewrite_68 rfl hT2.1 (Nat.le_of_ble_eq_true rfl) (m3 _) ?_
            refine ev_if_neN i_Tb_rewrite_71 (by omega) (fun hc_71 => ?_) (fun hc_71 => ?_)
            · skip
              refine ev_iincN (c := 1) i_Tb_rewrite_76 (by decide) rfl ?_
              refine ev_goto i_Tb_rewrite_79 ?_
              exact e4 d
            · skip
              exfalso; omega
          · skip
            exact absurd hc_32 (nI_ne_m1 (by omega))
      · obtain ⟨S3, m3, w3, f3⟩ := hap.2 (by omega)
        refine ⟨S3, fun d => ?_, w3, hF.tr f3⟩
        refine ev_iload i_Tb_rewrite_11 rfl ?_
        refine ev_aload_n i_Tb_rewrite_13 rfl ?_
        refine ev_get i_Tb_rewrite_14 hx2.1 rfl ?_
        refine ev_icmp_geN i_Tb_rewrite_17 (by omega) (by omega) (fun hc_17 => ?_) (fun hc_17 => ?_)
        · skip
          exfalso; omega
        · skip
          refine ev_aload_n i_Tb_rewrite_20 rfl ?_
          refine ev_aload_n i_Tb_rewrite_21 rfl ?_
          refine ev_iload i_Tb_rewrite_22 rfl ?_
          refine ev_callV2 i_Tb_rewrite_24 rfl hT2.1 (Nat.le_of_ble_eq_true rfl) (hr0 _) ?_
          refine ev_istore i_Tb_rewrite_27 (Nat.le_of_ble_eq_true rfl) ?_
          refine ev_iload i_Tb_rewrite_29 rfl ?_
          refine ev_iconst (v := -1) i_Tb_rewrite_31 (by decide) ?_
          refine ev_icmp_ne i_Tb_rewrite_32 (fun hc_32 => ?_) (fun hc_32 => ?_)
          · skip
            refine ev_aload_n i_Tb_rewrite_64 rfl ?_
            refine ev_iload i_Tb_rewrite_65 rfl ?_
            refine ev_aload_n i_Tb_rewrite_67 rfl ?_
            refine ev_callV2 i_Tb_rewrite_68 rfl hT2.1 (Nat.le_of_ble_eq_true rfl) (m3 _) ?_
            refine ev_if_neN i_Tb_rewrite_71 (by omega) (fun hc_71 => ?_) (fun hc_71 => ?_)
            · skip
              exfalso; omega
            · skip
              refine ev_iconstN (v := 0) i_Tb_rewrite_74 (by decide) ?_
              exact ev_iret i_Tb_rewrite_75 rfl (by first | rfl | decide)
          · skip
            exact absurd hc_32 (nI_ne_m1 (by omega))
/-- a step with the table T from xs into another word -/
theorem t_rewrite {scr : Scr} {l : Launch} {S : Sto} {t w a v b : Nat} {T : TabV} {xs : List Nat} {seed : Int32} {ys : List Nat} (ht : TabAt S t T) (hx : WordAt S w a xs) (hd : t ∉ [v, b] ∧ t + 1 ∉ [v, b] ∧ t + 2 ∉ [v, b] ∧ t + 3 ∉ [v, b]) (hwv : w ∉ [v, b] ∧ a ∉ [v, b]) (hy : WordAt S v b ys) : ((stepW T xs seed).length ≤ 60 → ∃ S3, (∀ d, MetA scr l (d + 2) M_Tb_rewrite [.ref t, .ref w, .int seed, .ref v] S (.inl (some (.int (nI 1))), S3)) ∧ WordAt S3 v b (stepW T xs seed) ∧ Fr [v, b] S S3) ∧ (60 < (stepW T xs seed).length → ∃ S3, (∀ d, MetA scr l (d + 2) M_Tb_rewrite [.ref t, .ref w, .int seed, .ref v] S (.inl (some (.int (nI 0))), S3)) ∧ (∃ zs, WordAt S3 v b zs) ∧ Fr [v, b] S S3) := by
  have hne := hy.ne
  obtain ⟨hy1, hy2, hy3, f, hy4, hy5⟩ := hy
  have hw0 : WordAt (S.put v (oB 12 [.ref b, .int (nI 0)])) v b (stepN T xs seed 0).1 := ⟨put_self hy1, by simp [stepN], by simp [stepN], f, put_at hy4 hne.symm, by simp [stepN]⟩
  refine ⟨fun hl => ?_, fun hl => ?_⟩
  · obtain ⟨S4, e4, w4, f4⟩ := lp_rewrite (scr := scr) (l := l) ht hx hd hwv hl xs.length 0 (by omega) none _ hw0 (Fr.put _ _ (by simp))
    refine ⟨S4, fun d => ?_, w4, f4⟩
    refine MetA.of rfl (by decide +kernel) (Nat.le_of_ble_eq_true rfl) ?_
    refine ev_iload_n i_Tb_rewrite_0 rfl ?_
    refine ev_istore i_Tb_rewrite_1 (Nat.le_of_ble_eq_true rfl) ?_
    refine ev_aload_n i_Tb_rewrite_3 rfl ?_
    refine ev_iconstN (v := 0) i_Tb_rewrite_4 (by decide) ?_
    refine ev_put i_Tb_rewrite_5 hy1 (Nat.le_of_ble_eq_true rfl) rfl rfl ?_
    refine ev_iconstN (v := 0) i_Tb_rewrite_8 (by decide) ?_
    refine ev_istore i_Tb_rewrite_9 (Nat.le_of_ble_eq_true rfl) ?_
    exact e4 d
  · obtain ⟨S4, e4, w4, f4⟩ := lp_rewrite_no (scr := scr) (l := l) ht hx hd hwv hl xs.length 0 (by omega) none _ hw0 (Fr.put _ _ (by simp))
    refine ⟨S4, fun d => ?_, w4, f4⟩
    refine MetA.of rfl (by decide +kernel) (Nat.le_of_ble_eq_true rfl) ?_
    refine ev_iload_n i_Tb_rewrite_0 rfl ?_
    refine ev_istore i_Tb_rewrite_1 (Nat.le_of_ble_eq_true rfl) ?_
    refine ev_aload_n i_Tb_rewrite_3 rfl ?_
    refine ev_iconstN (v := 0) i_Tb_rewrite_4 (by decide) ?_
    refine ev_put i_Tb_rewrite_5 hy1 (Nat.le_of_ble_eq_true rfl) rfl rfl ?_
    refine ev_iconstN (v := 0) i_Tb_rewrite_8 (by decide) ?_
    refine ev_istore i_Tb_rewrite_9 (Nat.le_of_ble_eq_true rfl) ?_
    exact e4 d

/-! the model m: growth of lengths -/
theorem ev_cpyLN {scr : Scr} {l : Launch} {d : Nat} {M : Mth} {pc : Nat} {L : List (Option Value)} {st : List Value} {S : Sto} {r : Res} {a b n0 n1 sp dp n : Nat} {f g : Nat → Int64} (h : iCpy M pc) (hlen : L.length = M.2.2.1) (hcat : (st.map fun v => v.category).sum ≤ 8) (ha : S.1[a]? = some (aJ n0 f)) (hb : S.1[b]? = some (aJ n1 g)) (h4 : sp + n ≤ n0) (h5 : dp + n ≤ n1) (hn0 : n0 < 2 ^ 31) (hn1 : n1 < 2 ^ 31) (k : Ev scr l d M (pc + 3) L st (S.put b (aJ n1 (va_cpy f g sp dp n))) r) : Ev scr l d M pc L (.int (nI n) :: .int (nI dp) :: .ref b :: .int (nI sp) :: .ref a :: st) S r := by
  refine ev_cpyL h hlen hcat ha hb (nI_pos (by omega)) (nI_pos (by omega)) (nI_pos (by omega)) (by rw [nI_clamp (by omega), nI_clamp (by omega)]; exact h4) (by rw [nI_clamp (by omega), nI_clamp (by omega)]; exact h5) ?_
  rw [nI_clamp (by omega), nI_clamp (by omega), nI_clamp (by omega)]
  exact k
/-- a long stands for a number, or is below 0 where it cannot say it -/
def rep (n : Nat) (x : Int64) : Prop := (n < 2 ^ 63 ∧ x = nL n) ∨ (¬ n < 2 ^ 63 ∧ x < 0)
theorem rep.neg {n : Nat} {x : Int64} (h : rep n x) : x < 0 ↔ ¬ n < 2 ^ 63 := by
  rcases h with ⟨h1, h2⟩ | ⟨h1, h2⟩
  · rw [h2]; exact ⟨fun q => absurd q (nL_pos h1), fun q => absurd h1 q⟩
  · exact ⟨fun _ => h1, fun _ => h2⟩
theorem rep.eq {n : Nat} {x : Int64} (h : rep n x) (hn : n < 2 ^ 63) : x = nL n := by
  rcases h with ⟨h1, h2⟩ | ⟨h1, h2⟩
  · exact h2
  · exact absurd hn h1
theorem rep.add {n m : Nat} (hn : n < 2 ^ 63) (hm : m < 2 ^ 63) : rep (n + m) (nL n + nL m) := by
  rw [nL_add]
  by_cases h : n + m < 2 ^ 63
  · exact Or.inl ⟨h, rfl⟩
  · exact Or.inr ⟨h, nL_big (by omega) (by omega)⟩
def totV (f : Nat → Int64) : Nat → Int64
  | 0 => 0
  | i + 1 => if totV f i < 0 ∨ f i < 0 then -1 else totV f i + f i
theorem totV_rep {f : Nat → Int64} {W : Nat → Nat} : ∀ n, (∀ i, i < n → rep (W i) (f i)) → rep (sumN W n) (totV f n) := by
  intro n
  induction n with
  | zero => intro _; exact Or.inl ⟨Nat.two_pow_pos 63, rfl⟩
  | succ n ih =>
    intro h
    have h1 := ih (fun i hi => h i (by omega))
    have h2 := h n (by omega)
    show rep (sumN W n + W n) (if totV f n < 0 ∨ f n < 0 then -1 else totV f n + f n)
    by_cases q : totV f n < 0 ∨ f n < 0
    · rw [if_pos q]
      refine Or.inr ⟨?_, by decide⟩
      rcases q with q | q
      · have := h1.neg.mp q; omega
      · have := h2.neg.mp q; omega
    · rw [if_neg q]
      have n1 : sumN W n < 2 ^ 63 := Classical.byContradiction (fun z => q (Or.inl (h1.neg.mpr z)))
      have n2 : W n < 2 ^ 63 := Classical.byContradiction (fun z => q (Or.inr (h2.neg.mpr z)))
      rw [h1.eq n1, h2.eq n2]
      exact rep.add n1 n2
def addV (c : Int64) : Nat → Int64 → Int64
  | 0, s => s
  | k + 1, s => if s < 0 then s else addV c k (s + c)
theorem addV_rep {C : Nat} (hC : C < 2 ^ 63) : ∀ (k N : Nat) (s : Int64), rep N s → rep (N + k * C) (addV (nL C) k s) := by
  intro k
  induction k with
  | zero => intro N s h; rw [Nat.zero_mul, Nat.add_zero]; exact h
  | succ k ih =>
    intro N s h
    unfold addV
    by_cases q : s < 0
    · rw [if_pos q]
      refine Or.inr ⟨?_, q⟩
      have := h.neg.mp q
      omega
    · rw [if_neg q]
      have hN : N < 2 ^ 63 := Classical.byContradiction (fun z => q (h.neg.mpr z))
      rw [h.eq hN, Nat.succ_mul, Nat.add_comm (k * C) C, ← Nat.add_assoc]
      exact ih _ _ (rep.add hN hC)
def sumV (T : TabV) (f : Nat → Int64) (b : Nat) : Nat → Int64
  | 0 => 0
  | a + 1 => addV (f a) (occ (prd T a) b) (sumV T f b a)
theorem sumV_rep {T : TabV} {f : Nat → Int64} {W : Nat → Nat} {b : Nat} : ∀ n, (∀ a, a < n → W a < 2 ^ 63 ∧ f a = nL (W a)) → rep (sumN (fun a => occ (prd T a) b * W a) n) (sumV T f b n) := by
  intro n
  induction n with
  | zero => intro _; exact Or.inl ⟨Nat.two_pow_pos 63, rfl⟩
  | succ n ih =>
    intro h
    have h1 := ih (fun a ha => h a (by omega))
    have h2 := h n (by omega)
    show rep (sumN (fun a => occ (prd T a) b * W a) n + occ (prd T n) b * W n) (addV (f n) (occ (prd T n) b) (sumV T f b n))
    rw [h2.2]
    exact addV_rep h2.1 _ _ _ h1
theorem occN_le (p : List Nat) (b i : Nat) : occN p b i ≤ i := by
  have := sumN_le (f := fun u => if p.getD u 0 = b then 1 else 0) (b := 1) (n := i) (fun u _ => by
    split
    · exact Nat.le_refl _
    · exact Nat.zero_le _)
  unfold occN
  omega
theorem m_unfit {scr : Scr} {l : Launch} {S : Sto} {σ : Sg} {th : Nat} {t d : Nat} (h : MInv th σ S) (ht : t < 3) : (fitT (σ.2.1.1 t) → MetA scr l (d + 2) M_Md_unfit [.ref 105, .int (nI t)] S (.inl (some (.int (nI 0))), S)) ∧ (¬ fitT (σ.2.1.1 t) → MetA scr l (d + 2) M_Md_unfit [.ref 105, .int (nI t)] S (.inl (some (.int (nI 1))), S)) := by
  obtain ⟨dr, mo, sc, h0⟩ := h.get
  refine ⟨fun hf => ?_, fun hf => ?_⟩
  · refine MetA.of rfl (by decide +kernel) (Nat.le_of_ble_eq_true rfl) ?_
    refine ev_aload_n i_Md_unfit_0 rfl ?_
    refine ev_iload_n i_Md_unfit_1 rfl ?_
    refine ev_callV1 i_Md_unfit_2 rfl h0 (Nat.le_of_ble_eq_true rfl) ((m_det h ht).1 hf.1) ?_
    refine ev_if_eqN i_Md_unfit_5 (by omega) (fun hc_5 => ?_) (fun hc_5 => ?_)
    · skip
      exfalso; omega
    · skip
      refine ev_aload_n i_Md_unfit_8 rfl ?_
      refine ev_iload_n i_Md_unfit_9 rfl ?_
      refine ev_callV1 i_Md_unfit_10 rfl h0 (Nat.le_of_ble_eq_true rfl) ((m_plain h ht).1 hf.2) ?_
      refine ev_if_eqN i_Md_unfit_13 (by omega) (fun hc_13 => ?_) (fun hc_13 => ?_)
      · skip
        exfalso; omega
      · skip
        refine ev_iconstN (v := 0) i_Md_unfit_16 (by decide) ?_
        refine ev_goto i_Md_unfit_17 ?_
        exact ev_iret i_Md_unfit_21 rfl (by first | rfl | decide)
  · by_cases hd : isDet (σ.2.1.1 t)
    · refine MetA.of rfl (by decide +kernel) (Nat.le_of_ble_eq_true rfl) ?_
      refine ev_aload_n i_Md_unfit_0 rfl ?_
      refine ev_iload_n i_Md_unfit_1 rfl ?_
      refine ev_callV1 i_Md_unfit_2 rfl h0 (Nat.le_of_ble_eq_true rfl) ((m_det h ht).1 hd) ?_
      refine ev_if_eqN i_Md_unfit_5 (by omega) (fun hc_5 => ?_) (fun hc_5 => ?_)
      · skip
        exfalso; omega
      · skip
        refine ev_aload_n i_Md_unfit_8 rfl ?_
        refine ev_iload_n i_Md_unfit_9 rfl ?_
        refine ev_callV1 i_Md_unfit_10 rfl h0 (Nat.le_of_ble_eq_true rfl) ((m_plain h ht).2 (fun q => hf ⟨hd, q⟩)) ?_
        refine ev_if_eqN i_Md_unfit_13 (by omega) (fun hc_13 => ?_) (fun hc_13 => ?_)
        · skip
          refine ev_iconstN (v := 1) i_Md_unfit_20 (by decide) ?_
          exact ev_iret i_Md_unfit_21 rfl (by first | rfl | decide)
        · skip
          exfalso; omega
    · refine MetA.of rfl (by decide +kernel) (Nat.le_of_ble_eq_true rfl) ?_
      refine ev_aload_n i_Md_unfit_0 rfl ?_
      refine ev_iload_n i_Md_unfit_1 rfl ?_
      refine ev_callV1 i_Md_unfit_2 rfl h0 (Nat.le_of_ble_eq_true rfl) ((m_det h ht).2 hd) ?_
      refine ev_if_eqN i_Md_unfit_5 (by omega) (fun hc_5 => ?_) (fun hc_5 => ?_)
      · skip
        refine ev_iconstN (v := 1) i_Md_unfit_20 (by decide) ?_
        exact ev_iret i_Md_unfit_21 rfl (by first | rfl | decide)
      · skip
        exfalso; omega
theorem m_occurs {scr : Scr} {l : Launch} {S : Sto} {t a b d : Nat} {g : Nat → Int32} {T : TabV} {q1 q2 q3 q4 q5 q6 q7 : Int32} (h0 : S.1[105]? = some (mObj q1 q2 q3 q4 q5 q6 q7)) (hg : S.1[106]? = some (aI 417 g)) (hT : MTab g t T) (ht : t < 3) (ha : a < 6) (hb : b < 6) : MetA scr l (d + 1) M_Md_occurs [.ref 105, .int (nI t), .int (nI a), .int (nI b)] S (.inl (some (.int (nI (occ (prd T a) b)))), S) := by
  have hL := hT.1 a ha
  have hp := hL.2.2.2 0 hL.2.1
  have hp : MProd g (139 * t + 16 * a + 1 + 5 * 0) (prd T a) ∧ PrOK (prd T a) := hp
  have h4 := hp.2.1
  unfold occ
  refine MetA.of rfl (by decide +kernel) (Nat.le_of_ble_eq_true rfl) ?_
  refine ev_iload_n i_Md_occurs_0 rfl ?_
  refine ev_iload_n i_Md_occurs_1 rfl ?_
  refine ev_callS2 i_Md_occurs_2 rfl (Nat.le_of_ble_eq_true rfl) m_listAt ?_
  refine ev_iconstN (v := 0) i_Md_occurs_5 (by decide) ?_
  refine ev_callS2 i_Md_occurs_6 rfl (Nat.le_of_ble_eq_true rfl) m_productionAt ?_
  refine ev_ist_4 i_Md_occurs_9 rfl ?_
  refine ev_iconstN (v := 0) i_Md_occurs_11 (by decide) ?_
  refine ev_ist_5 i_Md_occurs_12 rfl ?_
  refine ev_iconstN (v := 0) i_Md_occurs_14 (by decide) ?_
  refine ev_ist_6 i_Md_occurs_15 rfl ?_
  refine ev_loop (n := (prd T a).length) (fun i => [some (.ref 105), some (.int (nI t)), some (.int (nI a)), some (.int (nI b)), some (.int (nI (139 * t + 16 * a + 1 + 5 * 0))), some (.int (nI (occN (prd T a) b i))), some (.int (nI i))]) (fun i => S) (fun i hi ki => ?_) ?_
  · try dsimp only at ki ⊢
    have h6 := hp.2.2 i (by omega)
    have hol := occN_le (prd T a) b i
    by_cases he : (prd T a).getD i 0 = b
    · skip
      refine ev_iload i_Md_occurs_17 rfl ?_
      refine ev_aload_n i_Md_occurs_19 rfl ?_
      refine ev_get i_Md_occurs_20 h0 rfl ?_
      refine ev_iload i_Md_occurs_23 rfl ?_
      refine ev_ialdN i_Md_occurs_25 hg (by omega) (by decide) ?_
      rw [hp.1.1]
      refine ev_icmp_geN i_Md_occurs_26 (by omega) (by omega) (fun hc_26 => ?_) (fun hc_26 => ?_)
      · skip
        exfalso; omega
      · skip
        refine ev_iload i_Md_occurs_29 rfl ?_
        refine ev_aload_n i_Md_occurs_31 rfl ?_
        refine ev_get i_Md_occurs_32 h0 rfl ?_
        refine ev_iload i_Md_occurs_35 rfl ?_
        refine ev_iconstN (v := 1) i_Md_occurs_37 (by decide) ?_
        first | refine ev_iaddN i_Md_occurs_38 ?_ | refine ev_iadd i_Md_occurs_38 ?_
        refine ev_iload i_Md_occurs_39 rfl ?_
        first | refine ev_iaddN i_Md_occurs_41 ?_ | refine ev_iadd i_Md_occurs_41 ?_
        refine ev_ialdN i_Md_occurs_42 hg (by omega) (by decide) ?_
        rw [hp.1.2 i (by omega)]
        refine ev_iload_n i_Md_occurs_43 rfl ?_
        refine ev_icmp_neN i_Md_occurs_44 (by omega) (by omega) (fun hc_44 => ?_) (fun hc_44 => ?_)
        · skip
          exfalso; omega
        · skip
          refine ev_iconstN (v := 1) i_Md_occurs_47 (by decide) ?_
          refine ev_goto i_Md_occurs_48 ?_
          first | refine ev_iaddN i_Md_occurs_52 ?_ | refine ev_iadd i_Md_occurs_52 ?_
          refine ev_ist_5 i_Md_occurs_53 rfl ?_
          refine ev_iincN_6 (c := 1) i_Md_occurs_55 (by decide) rfl ?_
          refine ev_goto i_Md_occurs_58 ?_
          rw [occN_s, if_pos he] at ki
          exact ki
    · skip
      refine ev_iload i_Md_occurs_17 rfl ?_
      refine ev_aload_n i_Md_occurs_19 rfl ?_
      refine ev_get i_Md_occurs_20 h0 rfl ?_
      refine ev_iload i_Md_occurs_23 rfl ?_
      refine ev_ialdN i_Md_occurs_25 hg (by omega) (by decide) ?_
      rw [hp.1.1]
      refine ev_icmp_geN i_Md_occurs_26 (by omega) (by omega) (fun hc_26 => ?_) (fun hc_26 => ?_)
      · skip
        exfalso; omega
      · skip
        refine ev_iload i_Md_occurs_29 rfl ?_
        refine ev_aload_n i_Md_occurs_31 rfl ?_
        refine ev_get i_Md_occurs_32 h0 rfl ?_
        refine ev_iload i_Md_occurs_35 rfl ?_
        refine ev_iconstN (v := 1) i_Md_occurs_37 (by decide) ?_
        first | refine ev_iaddN i_Md_occurs_38 ?_ | refine ev_iadd i_Md_occurs_38 ?_
        refine ev_iload i_Md_occurs_39 rfl ?_
        first | refine ev_iaddN i_Md_occurs_41 ?_ | refine ev_iadd i_Md_occurs_41 ?_
        refine ev_ialdN i_Md_occurs_42 hg (by omega) (by decide) ?_
        rw [hp.1.2 i (by omega)]
        refine ev_iload_n i_Md_occurs_43 rfl ?_
        refine ev_icmp_neN i_Md_occurs_44 (by omega) (by omega) (fun hc_44 => ?_) (fun hc_44 => ?_)
        · skip
          refine ev_iconstN (v := 0) i_Md_occurs_51 (by decide) ?_
          first | refine ev_iaddN i_Md_occurs_52 ?_ | refine ev_iadd i_Md_occurs_52 ?_
          refine ev_ist_5 i_Md_occurs_53 rfl ?_
          refine ev_iincN_6 (c := 1) i_Md_occurs_55 (by decide) rfl ?_
          refine ev_goto i_Md_occurs_58 ?_
          rw [occN_s, if_neg he] at ki
          exact ki
        · skip
          exfalso; omega
  · try dsimp only
    refine ev_iload i_Md_occurs_17 rfl ?_
    refine ev_aload_n i_Md_occurs_19 rfl ?_
    refine ev_get i_Md_occurs_20 h0 rfl ?_
    refine ev_iload i_Md_occurs_23 rfl ?_
    refine ev_ialdN i_Md_occurs_25 hg (by omega) (by decide) ?_
    rw [hp.1.1]
    refine ev_icmp_geN i_Md_occurs_26 (by omega) (by omega) (fun hc_26 => ?_) (fun hc_26 => ?_)
    · skip
      refine ev_iload i_Md_occurs_61 rfl ?_
      exact ev_iret i_Md_occurs_63 rfl (by first | rfl | decide)
    · skip
      exfalso; omega
theorem m_total {scr : Scr} {l : Launch} {S : Sto} {c d : Nat} {f : Nat → Int64} (hc : S.1[c]? = some (aJ 6 f)) : MetA scr l d M_Md_total [.ref c] S (.inl (some (.long (totV f 6))), S) := by
  refine MetA.of rfl (by decide +kernel) (Nat.le_of_ble_eq_true rfl) ?_
  refine ev_lconst (v := 0) i_Md_total_0 (by decide) ?_
  refine ev_lst_n_1 i_Md_total_1 rfl ?_
  refine ev_iconstN (v := 0) i_Md_total_2 (by decide) ?_
  refine ev_ist_n_3 i_Md_total_3 rfl ?_
  refine ev_loop (n := 6) (fun i => [some (.ref c), some (.long (totV f i)), none, some (.int (nI i))]) (fun i => S) (fun i hi ki => ?_) ?_
  · try dsimp only at ki ⊢
    refine ev_iload_n i_Md_total_4 rfl ?_
    refine ev_bipushN (v := 6) i_Md_total_5 (by decide) ?_
    refine ev_icmp_geN i_Md_total_7 (by omega) (by omega) (fun hc_7 => ?_) (fun hc_7 => ?_)
    · skip
      exfalso; omega
    · skip
      refine ev_lload_n i_Md_total_10 rfl ?_
      refine ev_lconst (v := 0) i_Md_total_11 (by decide) ?_
      refine ev_lif_lt i_Md_total_12 i_Md_total_13 (fun hc_13 => ?_) (fun hc_13 => ?_)
      · skip
        refine ev_LdcL i_Md_total_24 ?_
        refine ev_goto i_Md_total_27 ?_
        refine ev_lst_n_1 i_Md_total_35 rfl ?_
        refine ev_iincN_3 (c := 1) i_Md_total_36 (by decide) rfl ?_
        refine ev_goto i_Md_total_39 ?_
        rw [show totV f (i + 1) = -1 from if_pos (Or.inl hc_13)] at ki
        exact ki
      · skip
        refine ev_aload_n i_Md_total_16 rfl ?_
        refine ev_iload_n i_Md_total_17 rfl ?_
        refine ev_laldN i_Md_total_18 hc (by omega) (by decide) ?_
        refine ev_lconst (v := 0) i_Md_total_19 (by decide) ?_
        refine ev_lif_ge i_Md_total_20 i_Md_total_21 (fun hc_21 => ?_) (fun hc_21 => ?_)
        · skip
          refine ev_lload_n i_Md_total_30 rfl ?_
          refine ev_aload_n i_Md_total_31 rfl ?_
          refine ev_iload_n i_Md_total_32 rfl ?_
          refine ev_laldN i_Md_total_33 hc (by omega) (by decide) ?_
          refine ev_ladd i_Md_total_34 ?_
          refine ev_lst_n_1 i_Md_total_35 rfl ?_
          refine ev_iincN_3 (c := 1) i_Md_total_36 (by decide) rfl ?_
          refine ev_goto i_Md_total_39 ?_
          rw [show totV f (i + 1) = totV f i + f i from if_neg (fun q => q.elim hc_13 hc_21)] at ki
          exact ki
        · skip
          refine ev_LdcL i_Md_total_24 ?_
          refine ev_goto i_Md_total_27 ?_
          refine ev_lst_n_1 i_Md_total_35 rfl ?_
          refine ev_iincN_3 (c := 1) i_Md_total_36 (by decide) rfl ?_
          refine ev_goto i_Md_total_39 ?_
          rw [show totV f (i + 1) = -1 from if_pos (Or.inr hc_21)] at ki
          exact ki
  · try dsimp only
    refine ev_iload_n i_Md_total_4 rfl ?_
    refine ev_bipushN (v := 6) i_Md_total_5 (by decide) ?_
    refine ev_icmp_geN i_Md_total_7 (by omega) (by omega) (fun hc_7 => ?_) (fun hc_7 => ?_)
    · skip
      refine ev_lload_n i_Md_total_42 rfl ?_
      exact ev_lret i_Md_total_43 rfl
    · skip
      exfalso; omega
theorem m_countWord {scr : Scr} {l : Launch} {S : Sto} {d : Nat} {gw : Nat → Int32} {f : Nat → Int64} {xs : List Nat} {q1 q2 q3 q4 q5 q6 q7 : Int32} (h0 : S.1[105]? = some (mObj q1 q2 q3 q4 q5 q6 q7)) (hw : S.1[107]? = some (aI 61 gw)) (hx : RowW gw 0 xs) (hc : S.1[117]? = some (aJ 6 f)) : MetA scr l d M_Md_countWord [.ref 105] S (.inl none, S.put 117 (aJ 6 (cF (fun b => occ xs b) f))) := by
  have h60 := hx.2.1
  have ex : ∀ j, j < xs.length → gw (j + 1) = nI (xs.getD j 0) := fun j hj => by rw [show j + 1 = 0 + 1 + j from by omega]; exact (hx.2.2 j hj).1
  have h6 : ∀ j, j < xs.length → xs.getD j 0 < 6 := fun j hj => (hx.2.2 j hj).2
  refine MetA.of rfl (by decide +kernel) (Nat.le_of_ble_eq_true rfl) ?_
  refine ev_iconstN (v := 0) i_Md_countWord_0 (by decide) ?_
  refine ev_ist_n_1 i_Md_countWord_1 rfl ?_
  refine ev_eqS (S1 := (S.put 117 (aJ 6 (fillF f 0 (fun _ => (0 : Int64)) 0)))) (by rw [fillF_0]; exact put_same hc) ?_
  refine ev_loop (n := 6) (fun i => [some (.ref 105), some (.int (nI i))]) (fun i => (S.put 117 (aJ 6 (fillF f 0 (fun _ => (0 : Int64)) i)))) (fun i hi ki => ?_) ?_
  · try dsimp only at ki ⊢
    refine ev_iload_n i_Md_countWord_2 rfl ?_
    refine ev_bipushN (v := 6) i_Md_countWord_3 (by decide) ?_
    refine ev_icmp_geN i_Md_countWord_5 (by omega) (by omega) (fun hc_5 => ?_) (fun hc_5 => ?_)
    · skip
      exfalso; omega
    · skip
      refine ev_aload_n i_Md_countWord_8 rfl ?_
      refine ev_get i_Md_countWord_9 (put_at h0 (by decide)) rfl ?_
      refine ev_iload_n i_Md_countWord_12 rfl ?_
      refine ev_lconst (v := 0) i_Md_countWord_13 (by decide) ?_
      refine ev_lastN i_Md_countWord_14 (put_self hc) (by omega) (by decide) ?_
      rw [put_put]
      have eF := fillF_sL f 0 (fun _ => (0 : Int64)) i
      rw [Nat.zero_add] at eF
      rw [eF]
      refine ev_iincN_1 (c := 1) i_Md_countWord_15 (by decide) rfl ?_
      refine ev_goto i_Md_countWord_18 ?_
      exact ki
  · try dsimp only
    refine ev_iload_n i_Md_countWord_2 rfl ?_
    refine ev_bipushN (v := 6) i_Md_countWord_3 (by decide) ?_
    refine ev_icmp_geN i_Md_countWord_5 (by omega) (by omega) (fun hc_5 => ?_) (fun hc_5 => ?_)
    · skip
      refine ev_iconstN (v := 1) i_Md_countWord_21 (by decide) ?_
      refine ev_ist_n_1 i_Md_countWord_22 rfl ?_
      refine ev_eqS (S1 := (S.put 117 (aJ 6 (cF (fun b => occN xs b 0) f)))) (by rw [cF_fill]; rfl) ?_
      refine ev_loop (n := xs.length) (fun j => [some (.ref 105), some (.int (nI (j + 1)))]) (fun j => (S.put 117 (aJ 6 (cF (fun b => occN xs b j) f)))) (fun j hj kj => ?_) ?_
      · try dsimp only at kj ⊢
        refine ev_iload_n i_Md_countWord_23 rfl ?_
        refine ev_aload_n i_Md_countWord_24 rfl ?_
        refine ev_get i_Md_countWord_25 (put_at h0 (by decide)) rfl ?_
        refine ev_iconstN (v := 0) i_Md_countWord_28 (by decide) ?_
        refine ev_ialdN i_Md_countWord_29 (put_at hw (by decide)) (by decide) (by decide) ?_
        rw [hx.1]
        refine ev_icmp_gtN i_Md_countWord_30 (by omega) (by omega) (fun hc_30 => ?_) (fun hc_30 => ?_)
        · skip
          exfalso; omega
        · skip
          refine ev_aload_n i_Md_countWord_33 rfl ?_
          refine ev_get i_Md_countWord_34 (put_at h0 (by decide)) rfl ?_
          refine ev_aload_n i_Md_countWord_37 rfl ?_
          refine ev_get i_Md_countWord_38 (put_at h0 (by decide)) rfl ?_
          refine ev_iload_n i_Md_countWord_41 rfl ?_
          refine ev_ialdN i_Md_countWord_42 (put_at hw (by decide)) (by omega) (by decide) ?_
          rw [ex j (by omega)]
          refine ev_dup2_11 i_Md_countWord_43 rfl rfl ?_
          refine ev_laldN i_Md_countWord_44 (put_self hc) (h6 j (by omega)) (by decide) ?_
          rw [cF_at (h6 j (by omega))]
          refine ev_lconst (v := 1) i_Md_countWord_45 (by decide) ?_
          refine ev_ladd i_Md_countWord_46 ?_
          rw [show (1 : Int64) = nL 1 from rfl, nL_add]
          refine ev_lastN i_Md_countWord_47 (put_self hc) (h6 j (by omega)) (by decide) ?_
          rw [cF_upd (h6 j (by omega)), put_put]
          refine ev_iincN_1 (c := 1) i_Md_countWord_48 (by decide) rfl ?_
          refine ev_goto i_Md_countWord_51 ?_
          have e : ∀ b, b < 6 → occN xs b (j + 1) = if b = xs.getD j 0 then occN xs (xs.getD j 0) j + 1 else occN xs b j := fun b _ => by
            rw [occN_s]
            by_cases z : b = xs.getD j 0
            · rw [if_pos z, if_pos z.symm, z]
            · rw [if_neg z, if_neg (fun q => z q.symm), Nat.add_zero]
          rw [cF_congr e] at kj
          exact kj
      · try dsimp only
        refine ev_iload_n i_Md_countWord_23 rfl ?_
        refine ev_aload_n i_Md_countWord_24 rfl ?_
        refine ev_get i_Md_countWord_25 (put_at h0 (by decide)) rfl ?_
        refine ev_iconstN (v := 0) i_Md_countWord_28 (by decide) ?_
        refine ev_ialdN i_Md_countWord_29 (put_at hw (by decide)) (by decide) (by decide) ?_
        rw [hx.1]
        refine ev_icmp_gtN i_Md_countWord_30 (by omega) (by omega) (fun hc_30 => ?_) (fun hc_30 => ?_)
        · skip
          exact ev_vret i_Md_countWord_54 rfl
        · skip
          exfalso; omega
    · skip
      exfalso; omega

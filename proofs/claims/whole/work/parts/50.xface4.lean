/-! ParallelRewriting: adult words -/
/-- a call on x: its answer, its state behind it -/
def XRun (scr : Scr) (l : Launch) (K : Nat) (M : Mth) (as : List Value) (S : Sto) (v : Option Value) (σ : Sg) : Prop := ∃ S1, (∀ d, MetA scr l (d + K) M as S (.inl v, S1)) ∧ XInv σ S1 ∧ Fr xK S S1
/-- a call on x that throws -/
def XThr (scr : Scr) (l : Launch) (K : Nat) (M : Mth) (as : List Value) (S : Sto) (E : String) (σ : Sg) : Prop := ∃ S1, (∀ d, MetA scr l (d + K) M as S (.inr E, S1.thrown)) ∧ XInv σ S1 ∧ Fr xK S S1
theorem XThr.of {scr : Scr} {l : Launch} {K : Nat} {M : Mth} {as : List Value} {S : Sto} {E : String} {σ : Sg} (h : XInv σ S) (hm : ∀ d, MetA scr l (d + K) M as S (.inr E, S.thrown)) : XThr scr l K M as S E σ := ⟨S, hm, h, Fr.rf _ _⟩
theorem XRun.of {scr : Scr} {l : Launch} {K : Nat} {M : Mth} {as : List Value} {S : Sto} {v : Option Value} {σ : Sg} (h : XInv σ S) (hm : ∀ d, MetA scr l (d + K) M as S (.inl v, S)) : XRun scr l K M as S v σ := ⟨S, hm, h, Fr.rf _ _⟩
theorem live_off {t : Nat} (ht : t < 3) {K : List Nat} (hK : ∀ k, k ∈ K → 22 ≤ k) : tabOff (5 + 4 * t) K := ⟨fun q => by have := hK _ q; omega, fun q => by have := hK _ q; omega, fun q => by have := hK _ q; omega, fun q => by have := hK _ q; omega⟩
theorem live_cur {σ : Sg} {S : Sto} (h : XInv σ S) : WordAt S 17 18 σ.2.1.2.1 := h.2.2.1.2.2.2.1
theorem live_tgt {σ : Sg} {S : Sto} (h : XInv σ S) : WordAt S 19 20 σ.2.1.2.2.1 := h.2.2.1.2.2.2.2.1
theorem XInv.ads {σ : Sg} {S : Sto} (h : XInv σ S) : AdOK S := h.2.2.2.2.2.2.2.2.1
theorem x_isAdult {scr : Scr} {l : Launch} {S : Sto} {σ : Sg} {t : Nat} (h : XInv σ S) (ht : t < 3) : XRun scr l 5 M_Pr_isAdult [.ref 0, .int (nI t)] S (some (.int (nI (bI (adB (σ.2.1.1 t) σ.2.1.2.1))))) σ := by
  obtain ⟨S1, m1, z1, f1⟩ := a_isKept (scr := scr) (l := l) h.ads (live_tab h ht) (live_cur h) (live_off ht (by decide)) ⟨by decide, by decide⟩
  refine ⟨S1, fun d => ?_, h.ad f1 (by decide) ⟨f1.at h.ads.1 (by decide), wfr h.ads.2.1 f1 ⟨by decide, by decide⟩, z1⟩, f1.x (by decide)⟩
  refine MetA.of rfl (by decide +kernel) (Nat.le_of_ble_eq_true rfl) ?_
  refine ev_aload_n i_Pr_isAdult_0 rfl ?_
  refine ev_get i_Pr_isAdult_1 h.1 rfl ?_
  refine ev_aload_n i_Pr_isAdult_4 rfl ?_
  refine ev_iload_n i_Pr_isAdult_5 rfl ?_
  refine ev_callV1 i_Pr_isAdult_6 rfl h.1 (Nat.le_of_ble_eq_true rfl) (x_tableAt h ht) ?_
  refine ev_aload_n i_Pr_isAdult_9 rfl ?_
  refine ev_get i_Pr_isAdult_10 h.1 rfl ?_
  refine ev_get i_Pr_isAdult_13 h.2.2.1.1 rfl ?_
  refine ev_callV2 i_Pr_isAdult_16 rfl h.ads.1 (Nat.le_of_ble_eq_true rfl) (m1 _) ?_
  exact ev_iretB i_Pr_isAdult_19 rfl
theorem x_isAdult_1 {scr : Scr} {l : Launch} {S : Sto} {σ : Sg} {p : Int32} (h : XInv σ S) (hp : ¬ inR 3 p) : XThr scr l 5 M_Pr_isAdult [.ref 0, .int p] S xIob σ := by
  refine XThr.of h (fun d => ?_)
  refine MetA.of rfl (by decide +kernel) (Nat.le_of_ble_eq_true rfl) ?_
  refine ev_aload_n i_Pr_isAdult_0 rfl ?_
  refine ev_get i_Pr_isAdult_1 h.1 rfl ?_
  refine ev_aload_n i_Pr_isAdult_4 rfl ?_
  refine ev_iload_n i_Pr_isAdult_5 rfl ?_
  exact ev_callV1x rfl i_Pr_isAdult_6 rfl h.1 (Nat.le_of_ble_eq_true rfl) (x_tableAt_no hp)
theorem x_stepsAd_1 {scr : Scr} {l : Launch} {S : Sto} {σ : Sg} {p q : Int32} (h : XInv σ S) (hp : ¬ inR 3 p) : XThr scr l 5 M_Pr_stepsToAdult [.ref 0, .int p, .int q] S xIob σ := by
  refine XThr.of h (fun d => ?_)
  refine MetA.of rfl (by decide +kernel) (Nat.le_of_ble_eq_true rfl) ?_
  refine ev_aload_n i_Pr_stepsToAdult_0 rfl ?_
  refine ev_iload_n i_Pr_stepsToAdult_1 rfl ?_
  exact ev_callV1x rfl i_Pr_stepsToAdult_2 rfl h.1 (Nat.le_of_ble_eq_true rfl) (x_tableAt_no hp)
theorem not_le_of {x : Int32} {n : Nat} (hn : n < 2 ^ 31 - 1) (h : ¬ inR (n + 1) x) (h0 : ¬ x < 0) : ¬ x ≤ nI n := fun q => h ⟨h0, by
  rw [Int32.lt_iff_toInt_lt, nI_toInt (by omega)]
  rw [Int32.le_iff_toInt_le, nI_toInt (by omega)] at q
  omega⟩
theorem x_stepsAd_2 {scr : Scr} {l : Launch} {S : Sto} {σ : Sg} {t : Nat} {q : Int32} (h : XInv σ S) (ht : t < 3) (hq : ¬ inR 51 q) : XThr scr l 5 M_Pr_stepsToAdult [.ref 0, .int (nI t), .int q] S xIae σ := by
  refine XThr.of h (fun d => ?_)
  refine MetA.of rfl (by decide +kernel) (Nat.le_of_ble_eq_true rfl) ?_
  refine ev_aload_n i_Pr_stepsToAdult_0 rfl ?_
  refine ev_iload_n i_Pr_stepsToAdult_1 rfl ?_
  refine ev_callV1 i_Pr_stepsToAdult_2 rfl h.1 (Nat.le_of_ble_eq_true rfl) (x_tableAt h ht) ?_
  refine ev_ast_n_3 i_Pr_stepsToAdult_5 rfl ?_
  refine ev_iload_n i_Pr_stepsToAdult_6 rfl ?_
  refine ev_if_lt i_Pr_stepsToAdult_7 (fun hc_7 => ?_) (fun hc_7 => ?_)
  · skip
    exact ev_throw i_Pr_stepsToAdult_16 ex_Iae rfl rfl (Nat.le_of_ble_eq_true rfl)
  · skip
    refine ev_iload_n i_Pr_stepsToAdult_10 rfl ?_
    refine ev_bipushN (v := 50) i_Pr_stepsToAdult_11 (by decide) ?_
    refine ev_icmp_le i_Pr_stepsToAdult_13 (fun hc_13 => ?_) (fun hc_13 => ?_)
    · skip
      exact absurd hc_13 (not_le_of (by decide) hq hc_7)
    · skip
      exact ev_throw i_Pr_stepsToAdult_16 ex_Iae rfl rfl (Nat.le_of_ble_eq_true rfl)
theorem x_stepsAd_3 {scr : Scr} {l : Launch} {S : Sto} {σ : Sg} {t n : Nat} (h : XInv σ S) (ht : t < 3) (hn : n < 51) (hd : ¬ isDet (σ.2.1.1 t)) : XThr scr l 5 M_Pr_stepsToAdult [.ref 0, .int (nI t), .int (nI n)] S xIse σ := by
  refine XThr.of h (fun d => ?_)
  obtain ⟨rc, htb, -⟩ := tab_obj (live_tab h ht)
  refine MetA.of rfl (by decide +kernel) (Nat.le_of_ble_eq_true rfl) ?_
  refine ev_aload_n i_Pr_stepsToAdult_0 rfl ?_
  refine ev_iload_n i_Pr_stepsToAdult_1 rfl ?_
  refine ev_callV1 i_Pr_stepsToAdult_2 rfl h.1 (Nat.le_of_ble_eq_true rfl) (x_tableAt h ht) ?_
  refine ev_ast_n_3 i_Pr_stepsToAdult_5 rfl ?_
  refine ev_iload_n i_Pr_stepsToAdult_6 rfl ?_
  refine ev_if_lt_N i_Pr_stepsToAdult_7 (by omega) (fun hc_7 => ?_) (fun hc_7 => ?_)
  · skip
    exfalso; omega
  · skip
    refine ev_iload_n i_Pr_stepsToAdult_10 rfl ?_
    refine ev_bipushN (v := 50) i_Pr_stepsToAdult_11 (by decide) ?_
    refine ev_icmp_leN i_Pr_stepsToAdult_13 (by omega) (by omega) (fun hc_13 => ?_) (fun hc_13 => ?_)
    · skip
      refine ev_aload_n i_Pr_stepsToAdult_26 rfl ?_
      refine ev_callV0 i_Pr_stepsToAdult_27 rfl htb (Nat.le_of_ble_eq_true rfl) ((t_det (live_tab h ht)).2 hd) ?_
      refine ev_if_neN i_Pr_stepsToAdult_30 (by omega) (fun hc_30 => ?_) (fun hc_30 => ?_)
      · skip
        exfalso; omega
      · skip
        exact ev_throw i_Pr_stepsToAdult_33 ex_Ise rfl rfl (Nat.le_of_ble_eq_true rfl)
    · skip
      exfalso; omega
theorem x_stepsAd {scr : Scr} {l : Launch} {S : Sto} {σ : Sg} {t n k : Nat} (h : XInv σ S) (ht : t < 3) (hn : n < 51) (hd : isDet (σ.2.1.1 t)) (hk : adS (σ.2.1.1 t) (n + 1) σ.2.1.2.1 = some k) : XRun scr l 5 M_Pr_stepsToAdult [.ref 0, .int (nI t), .int (nI n)] S (some (.int (nI k))) σ := by
  obtain ⟨rc, htb, -⟩ := tab_obj (live_tab h ht)
  have hkl := adS_lt hk
  obtain ⟨S1, m1, a1, f1⟩ := a_steps (scr := scr) (l := l) h.ads (live_tab h ht) (live_cur h) (live_off ht (by decide)) (show n ≤ 50 by omega)
  rw [hk] at m1
  have m1 : ∀ d, MetA scr l (d + 3) M_Ad_stepsUntilKept [.ref 73, .ref (5 + 4 * t), .ref 17, .int (nI n)] S (.inl (some (.int (nI (0 + k)))), S1) := m1
  rw [Nat.zero_add] at m1
  refine ⟨S1, fun d => ?_, h.ad f1 (by decide) a1, f1.x (by decide)⟩
  refine MetA.of rfl (by decide +kernel) (Nat.le_of_ble_eq_true rfl) ?_
  refine ev_aload_n i_Pr_stepsToAdult_0 rfl ?_
  refine ev_iload_n i_Pr_stepsToAdult_1 rfl ?_
  refine ev_callV1 i_Pr_stepsToAdult_2 rfl h.1 (Nat.le_of_ble_eq_true rfl) (x_tableAt h ht) ?_
  refine ev_ast_n_3 i_Pr_stepsToAdult_5 rfl ?_
  refine ev_iload_n i_Pr_stepsToAdult_6 rfl ?_
  refine ev_if_lt_N i_Pr_stepsToAdult_7 (by omega) (fun hc_7 => ?_) (fun hc_7 => ?_)
  · skip
    exfalso; omega
  · skip
    refine ev_iload_n i_Pr_stepsToAdult_10 rfl ?_
    refine ev_bipushN (v := 50) i_Pr_stepsToAdult_11 (by decide) ?_
    refine ev_icmp_leN i_Pr_stepsToAdult_13 (by omega) (by omega) (fun hc_13 => ?_) (fun hc_13 => ?_)
    · skip
      refine ev_aload_n i_Pr_stepsToAdult_26 rfl ?_
      refine ev_callV0 i_Pr_stepsToAdult_27 rfl htb (Nat.le_of_ble_eq_true rfl) ((t_det (live_tab h ht)).1 hd) ?_
      refine ev_if_neN i_Pr_stepsToAdult_30 (by omega) (fun hc_30 => ?_) (fun hc_30 => ?_)
      · skip
        refine ev_aload_n i_Pr_stepsToAdult_43 rfl ?_
        refine ev_get i_Pr_stepsToAdult_44 h.1 rfl ?_
        refine ev_aload_n i_Pr_stepsToAdult_47 rfl ?_
        refine ev_aload_n i_Pr_stepsToAdult_48 rfl ?_
        refine ev_get i_Pr_stepsToAdult_49 h.1 rfl ?_
        refine ev_get i_Pr_stepsToAdult_52 h.2.2.1.1 rfl ?_
        refine ev_iload_n i_Pr_stepsToAdult_55 rfl ?_
        refine ev_callV3 i_Pr_stepsToAdult_56 rfl h.ads.1 (Nat.le_of_ble_eq_true rfl) (m1 _) ?_
        refine ev_ist_4 i_Pr_stepsToAdult_59 rfl ?_
        refine ev_iload i_Pr_stepsToAdult_61 rfl ?_
        refine ev_iconst (v := -1) i_Pr_stepsToAdult_63 (by decide) ?_
        refine ev_icmp_ne i_Pr_stepsToAdult_64 (fun hc_64 => ?_) (fun hc_64 => ?_)
        · skip
          refine ev_iload i_Pr_stepsToAdult_78 rfl ?_
          exact ev_iret i_Pr_stepsToAdult_80 rfl (by first | rfl | decide)
        · skip
          exact absurd hc_64 (nI_ne_m1 (by omega))
      · skip
        exfalso; omega
    · skip
      exfalso; omega
theorem x_adWords_1 {scr : Scr} {l : Launch} {S : Sto} {σ : Sg} {p q : Int32} (h : XInv σ S) (hp : ¬ inR 3 p) : XThr scr l 10 M_Pr_adultWords [.ref 0, .int p, .int q] S xIob σ := by
  refine XThr.of h (fun d => ?_)
  refine MetA.of rfl (by decide +kernel) (Nat.le_of_ble_eq_true rfl) ?_
  refine ev_aload_n i_Pr_adultWords_0 rfl ?_
  refine ev_iload_n i_Pr_adultWords_1 rfl ?_
  exact ev_callV1x rfl i_Pr_adultWords_2 rfl h.1 (Nat.le_of_ble_eq_true rfl) (x_tableAt_no hp)
theorem x_adWords_2 {scr : Scr} {l : Launch} {S : Sto} {σ : Sg} {t : Nat} {q : Int32} (h : XInv σ S) (ht : t < 3) (hq : ¬ inR 5 q) : XThr scr l 10 M_Pr_adultWords [.ref 0, .int (nI t), .int q] S xIae σ := by
  refine XThr.of h (fun d => ?_)
  refine MetA.of rfl (by decide +kernel) (Nat.le_of_ble_eq_true rfl) ?_
  refine ev_aload_n i_Pr_adultWords_0 rfl ?_
  refine ev_iload_n i_Pr_adultWords_1 rfl ?_
  refine ev_callV1 i_Pr_adultWords_2 rfl h.1 (Nat.le_of_ble_eq_true rfl) (x_tableAt h ht) ?_
  refine ev_ast_n_3 i_Pr_adultWords_5 rfl ?_
  refine ev_iload_n i_Pr_adultWords_6 rfl ?_
  refine ev_if_lt i_Pr_adultWords_7 (fun hc_7 => ?_) (fun hc_7 => ?_)
  · skip
    exact ev_throw i_Pr_adultWords_15 ex_Iae rfl rfl (Nat.le_of_ble_eq_true rfl)
  · skip
    refine ev_iload_n i_Pr_adultWords_10 rfl ?_
    refine ev_iconstN (v := 4) i_Pr_adultWords_11 (by decide) ?_
    refine ev_icmp_le i_Pr_adultWords_12 (fun hc_12 => ?_) (fun hc_12 => ?_)
    · skip
      exact absurd hc_12 (not_le_of (by decide) hq hc_7)
    · skip
      exact ev_throw i_Pr_adultWords_15 ex_Iae rfl rfl (Nat.le_of_ble_eq_true rfl)
theorem x_adWords {scr : Scr} {l : Launch} {S : Sto} {σ : Sg} {t n : Nat} (h : XInv σ S) (ht : t < 3) (hn : n < 5) : XRun scr l 10 M_Pr_adultWords [.ref 0, .int (nI t), .int (nI n)] S (some (.int (nI (cntA (σ.2.1.1 t) n [])))) σ := by
  obtain ⟨S1, m1, a1, f1⟩ := a_count (scr := scr) (l := l) h.ads (live_tab h ht) (live_off ht (by decide)) (show n ≤ 4 by omega)
  refine ⟨S1, fun d => ?_, h.ad f1 (by decide) a1, f1.x (by decide)⟩
  have m1 := m1 (d + (4 - n))
  rw [show d + (4 - n) + n + 5 = d + 9 from by omega] at m1
  refine MetA.of rfl (by decide +kernel) (Nat.le_of_ble_eq_true rfl) ?_
  refine ev_aload_n i_Pr_adultWords_0 rfl ?_
  refine ev_iload_n i_Pr_adultWords_1 rfl ?_
  refine ev_callV1 i_Pr_adultWords_2 rfl h.1 (Nat.le_of_ble_eq_true rfl) (x_tableAt h ht) ?_
  refine ev_ast_n_3 i_Pr_adultWords_5 rfl ?_
  refine ev_iload_n i_Pr_adultWords_6 rfl ?_
  refine ev_if_lt_N i_Pr_adultWords_7 (by omega) (fun hc_7 => ?_) (fun hc_7 => ?_)
  · skip
    exfalso; omega
  · skip
    refine ev_iload_n i_Pr_adultWords_10 rfl ?_
    refine ev_iconstN (v := 4) i_Pr_adultWords_11 (by decide) ?_
    refine ev_icmp_leN i_Pr_adultWords_12 (by omega) (by omega) (fun hc_12 => ?_) (fun hc_12 => ?_)
    · skip
      refine ev_aload_n i_Pr_adultWords_26 rfl ?_
      refine ev_get i_Pr_adultWords_27 h.1 rfl ?_
      refine ev_aload_n i_Pr_adultWords_30 rfl ?_
      refine ev_iload_n i_Pr_adultWords_31 rfl ?_
      refine ev_callV2 i_Pr_adultWords_32 rfl h.ads.1 (Nat.le_of_ble_eq_true rfl) m1 ?_
      exact ev_iret i_Pr_adultWords_35 rfl (by first | rfl | decide)
    · skip
      exfalso; omega

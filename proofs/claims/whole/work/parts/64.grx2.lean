/-! the class Growth: lengths; x.lengthAfter, x.countAfter -/
def GrS (S : Sto) (W : Nat → Nat) (t : Int64) : Prop := ∃ (c1 c2 : Nat) (g1 f2 : Nat → Int64), ((c1 = 62 ∧ c2 = 63) ∨ (c1 = 63 ∧ c2 = 62)) ∧ S.1[61]? = some (grO c1 c2 t) ∧ S.1[c1]? = some (aJ 6 (cF W g1)) ∧ S.1[c2]? = some (aJ 6 f2)
theorem GrS.ok {S S1 : Sto} {W : Nat → Nat} {t : Int64} (h : GrS S1 W t) (h0 : GrowOK S) (hF : Fr [61, 62, 63] S S1) : GrowOK S1 := by
  obtain ⟨-, -, -, -, -, r1, r2, -, -, -, -, e4, e5⟩ := h0
  obtain ⟨c1, c2, g1, f2, hc, h1, h2, h3⟩ := h
  rcases hc with ⟨q1, q2⟩ | ⟨q1, q2⟩
  · subst q1 q2
    exact ⟨62, 63, t, _, _, r1, r2, Or.inl ⟨rfl, rfl⟩, h1, h2, h3, hF.at e4 (by decide), hF.at e5 (by decide)⟩
  · subst q1 q2
    exact ⟨63, 62, t, _, _, r1, r2, Or.inr ⟨rfl, rfl⟩, h1, h3, h2, hF.at e4 (by decide), hF.at e5 (by decide)⟩
theorem i2l_nI {n : Nat} (h : n < 2 ^ 31) : (nI n).toInt64 = nL n := by
  apply Int64.toInt_inj.mp
  rw [Int32.toInt_toInt64, nI_toInt h, nL_toInt (by omega)]
theorem NX_cw {T : TabV} {xs : List Nat} {n b : Nat} : NX T (cw T xs n) 6 0 b = cw T xs (n + 1) b := by
  unfold NX
  show _ + 0 * _ = _
  rw [Nat.zero_mul, Nat.add_zero]
  rfl
theorem TT_tot {T : TabV} {xs : List Nat} {n : Nat} (h : ∀ a, a < 6 → PrOK (prd T a)) : TT T (cw T xs n) 6 0 = tot T xs (n + 1) := by
  rw [tot_s h]
  unfold TT
  rw [Nat.zero_mul, Nat.add_zero]
theorem prd_ok {S : Sto} {t : Nat} {T : TabV} (h : TabAt S t T) (hd : isDet T) : ∀ a, a < 6 → PrOK (prd T a) := fun a ha => by
  obtain ⟨rc, fs, fl, fe, hT, hR⟩ := h
  exact ((hR.1 a ha).2.2.2 0 (by rw [hd a ha]; omega)).2
theorem lp_adv {scr : Scr} {l : Launch} {S : Sto} {t w a : Nat} {T : TabV} {xs : List Nat} (ht : TabAt S t T) (hd : isDet T) (hx : WordAt S w a xs) (hoff : tabOff t [61, 62, 63]) (hw : w ∉ [61, 62, 63] ∧ a ∉ [61, 62, 63]) {st : Nat} (hst : st ≤ 1000) (hok : okG T xs st) : ∀ (k n : Nat), n + k = st → ∀ S2, GrS S2 (cw T xs n) (nL (tot T xs n)) → Fr [61, 62, 63] S S2 → ∃ S3, (∀ d, Ev scr l (d + 2) M_Gr_advance 54 [some (.ref 61), some (.ref t), some (.ref w), some (.int (nI st)), some (.int (nI n))] [] S2 (.inl (some (.int (nI 1))), S3)) ∧ GrS S3 (cw T xs st) (nL (tot T xs st)) ∧ Fr [61, 62, 63] S S3 := by
  have hpo := prd_ok ht hd
  intro k
  induction k with
  | zero =>
    intro n hn S2 hS hF
    have z : n = st := by omega
    subst z
    refine ⟨S2, fun d => ?_, hS, hF⟩
    refine ev_iload i_Gr_advance_54 rfl ?_
    refine ev_iload_n i_Gr_advance_56 rfl ?_
    refine ev_icmp_geN i_Gr_advance_57 (by omega) (by omega) (fun hc_57 => ?_) (fun hc_57 => ?_)
    · skip
      refine ev_iconstN (v := 1) i_Gr_advance_76 (by decide) ?_
      exact ev_iret i_Gr_advance_77 rfl (by first | rfl | decide)
    · skip
      exfalso; omega
  | succ k ih =>
    intro n hn S2 hS hF
    obtain ⟨c1, c2, g1, f2, hc, o2, w2, n2⟩ := hS
    have hN : c2 ≠ 61 ∧ c2 ≠ c1 ∧ 61 ≠ c1 := by rcases hc with q | q <;> omega
    have hcn : c2 ∈ [61, 62, 63] := by rcases hc with q | q <;> (rw [q.2]; simp)
    have hlim : TT T (cw T xs n) 6 0 < 2 ^ 63 := by rw [TT_tot hpo]; exact hok (n + 1) (by omega)
    have hS4 : GrS ((S2.put c2 (aJ 6 (cF (NX T (cw T xs n) 6 0) f2))).put 61 (grO c2 c1 (nL (TT T (cw T xs n) 6 0)))) (cw T xs (n + 1)) (nL (tot T xs (n + 1))) := by
      rw [← TT_tot hpo]
      refine ⟨c2, c1, f2, cF (cw T xs n) g1, by rcases hc with q | q <;> omega, put_self (put_at o2 hN.1), ?_, put_at (put_at w2 hN.2.1) hN.2.2⟩
      rw [← cF_congr (fun b _ => NX_cw)]
      exact put_at (put_self n2) hN.1.symm
    obtain ⟨S4, m4, r4⟩ := ih (n + 1) (by omega) _ hS4 ((hF.tr (Fr.put _ _ hcn)).tr (Fr.put _ _ (by simp)))
    refine ⟨S4, fun d => ?_, r4⟩
    have m3 := g_once (scr := scr) (l := l) (d := d) (ht.fr hF hoff) hd hc o2 w2 n2 hoff hlim (fun a ha => Nat.lt_of_le_of_lt (cw_le_tot ha) (hok n (by omega)))
    refine ev_iload i_Gr_advance_54 rfl ?_
    refine ev_iload_n i_Gr_advance_56 rfl ?_
    refine ev_icmp_geN i_Gr_advance_57 (by omega) (by omega) (fun hc_57 => ?_) (fun hc_57 => ?_)
    · skip
      exfalso; omega
    · skip
      refine ev_aload_n i_Gr_advance_60 rfl ?_
      refine ev_aload_n i_Gr_advance_61 rfl ?_
      refine ev_callV1 i_Gr_advance_62 rfl o2 (Nat.le_of_ble_eq_true rfl) m3 ?_
      refine ev_if_neN i_Gr_advance_65 (by omega) (fun hc_65 => ?_) (fun hc_65 => ?_)
      · skip
        refine ev_iincN_4 (c := 1) i_Gr_advance_70 (by decide) rfl ?_
        refine ev_goto i_Gr_advance_73 ?_
        exact m4 d
      · skip
        exfalso; omega
theorem lp_adv_no {scr : Scr} {l : Launch} {S : Sto} {t w a : Nat} {T : TabV} {xs : List Nat} (ht : TabAt S t T) (hd : isDet T) (hx : WordAt S w a xs) (hoff : tabOff t [61, 62, 63]) (hw : w ∉ [61, 62, 63] ∧ a ∉ [61, 62, 63]) {st m : Nat} (hst : st ≤ 1000) (hm : m < st) (hok : okG T xs m) (hov : ¬ tot T xs (m + 1) < 2 ^ 63) : ∀ (k n : Nat), n + k = m → ∀ S2, GrS S2 (cw T xs n) (nL (tot T xs n)) → Fr [61, 62, 63] S S2 → ∃ S3, (∀ d, Ev scr l (d + 2) M_Gr_advance 54 [some (.ref 61), some (.ref t), some (.ref w), some (.int (nI st)), some (.int (nI n))] [] S2 (.inl (some (.int (nI 0))), S3)) ∧ (∃ W x, GrS S3 W x) ∧ Fr [61, 62, 63] S S3 := by
  have hpo := prd_ok ht hd
  intro k
  induction k with
  | zero =>
    intro n hn S2 hS hF
    have z : n = m := by omega
    subst z
    obtain ⟨c1, c2, g1, f2, hc, o2, w2, n2⟩ := hS
    obtain ⟨S3, m3, ⟨f3, x3, e1, e2, e3⟩, F3⟩ := g_once_no (scr := scr) (l := l) (ht.fr hF hoff) hd hc o2 w2 n2 hoff (by rw [TT_tot hpo]; exact hov) (fun a ha => Nat.lt_of_le_of_lt (cw_le_tot ha) (hok n (Nat.le_refl _)))
    refine ⟨S3, fun d => ?_, ⟨_, x3, c1, c2, g1, f3, hc, e1, e2, e3⟩, hF.tr F3⟩
    refine ev_iload i_Gr_advance_54 rfl ?_
    refine ev_iload_n i_Gr_advance_56 rfl ?_
    refine ev_icmp_geN i_Gr_advance_57 (by omega) (by omega) (fun hc_57 => ?_) (fun hc_57 => ?_)
    · skip
      exfalso; omega
    · skip
      refine ev_aload_n i_Gr_advance_60 rfl ?_
      refine ev_aload_n i_Gr_advance_61 rfl ?_
      refine ev_callV1 i_Gr_advance_62 rfl o2 (Nat.le_of_ble_eq_true rfl) (m3 _) ?_
      refine ev_if_neN i_Gr_advance_65 (by omega) (fun hc_65 => ?_) (fun hc_65 => ?_)
      · skip
        exfalso; omega
      · skip
        refine ev_iconstN (v := 0) i_Gr_advance_68 (by decide) ?_
        exact ev_iret i_Gr_advance_69 rfl (by first | rfl | decide)
  | succ k ih =>
    intro n hn S2 hS hF
    obtain ⟨c1, c2, g1, f2, hc, o2, w2, n2⟩ := hS
    have hN : c2 ≠ 61 ∧ c2 ≠ c1 ∧ 61 ≠ c1 := by rcases hc with q | q <;> omega
    have hcn : c2 ∈ [61, 62, 63] := by rcases hc with q | q <;> (rw [q.2]; simp)
    have hlim : TT T (cw T xs n) 6 0 < 2 ^ 63 := by rw [TT_tot hpo]; exact hok (n + 1) (by omega)
    have hS4 : GrS ((S2.put c2 (aJ 6 (cF (NX T (cw T xs n) 6 0) f2))).put 61 (grO c2 c1 (nL (TT T (cw T xs n) 6 0)))) (cw T xs (n + 1)) (nL (tot T xs (n + 1))) := by
      rw [← TT_tot hpo]
      refine ⟨c2, c1, f2, cF (cw T xs n) g1, by rcases hc with q | q <;> omega, put_self (put_at o2 hN.1), ?_, put_at (put_at w2 hN.2.1) hN.2.2⟩
      rw [← cF_congr (fun b _ => NX_cw)]
      exact put_at (put_self n2) hN.1.symm
    obtain ⟨S4, m4, r4⟩ := ih (n + 1) (by omega) _ hS4 ((hF.tr (Fr.put _ _ hcn)).tr (Fr.put _ _ (by simp)))
    refine ⟨S4, fun d => ?_, r4⟩
    have m3 := g_once (scr := scr) (l := l) (d := d) (ht.fr hF hoff) hd hc o2 w2 n2 hoff hlim (fun a ha => Nat.lt_of_le_of_lt (cw_le_tot ha) (hok n (by omega)))
    refine ev_iload i_Gr_advance_54 rfl ?_
    refine ev_iload_n i_Gr_advance_56 rfl ?_
    refine ev_icmp_geN i_Gr_advance_57 (by omega) (by omega) (fun hc_57 => ?_) (fun hc_57 => ?_)
    · skip
      exfalso; omega
    · skip
      refine ev_aload_n i_Gr_advance_60 rfl ?_
      refine ev_aload_n i_Gr_advance_61 rfl ?_
      refine ev_callV1 i_Gr_advance_62 rfl o2 (Nat.le_of_ble_eq_true rfl) m3 ?_
      refine ev_if_neN i_Gr_advance_65 (by omega) (fun hc_65 => ?_) (fun hc_65 => ?_)
      · skip
        refine ev_iincN_4 (c := 1) i_Gr_advance_70 (by decide) rfl ?_
        refine ev_goto i_Gr_advance_73 ?_
        exact m4 d
      · skip
        exfalso; omega
theorem g_advance {scr : Scr} {l : Launch} {S : Sto} {t w a : Nat} {T : TabV} {xs : List Nat} (ht : TabAt S t T) (hd : isDet T) (hx : WordAt S w a xs) (hoff : tabOff t [61, 62, 63]) (hw : w ∉ [61, 62, 63] ∧ a ∉ [61, 62, 63]) {st : Nat} (h : GrowOK S) (hst : st ≤ 1000) : (okG T xs st → ∃ S1, (∀ d, MetA scr l (d + 2) M_Gr_advance [.ref 61, .ref t, .ref w, .int (nI st)] S (.inl (some (.int (nI 1))), S1)) ∧ GrS S1 (cw T xs st) (nL (tot T xs st)) ∧ Fr [61, 62, 63] S S1) ∧ (¬ okG T xs st → ∃ S1, (∀ d, MetA scr l (d + 2) M_Gr_advance [.ref 61, .ref t, .ref w, .int (nI st)] S (.inl (some (.int (nI 0))), S1)) ∧ (∃ W x, GrS S1 W x) ∧ Fr [61, 62, 63] S S1) := by
  obtain ⟨c1, c2, x0, ff1, ff2, r1, r2, hc, ho, e1, e2, -, -⟩ := h
  obtain ⟨f, g, h1, h2⟩ : ∃ f g, S.1[c1]? = some (aJ 6 f) ∧ S.1[c2]? = some (aJ 6 g) := by
    rcases hc with ⟨q1, q2⟩ | ⟨q1, q2⟩
    · subst q1 q2; exact ⟨_, _, e1, e2⟩
    · subst q1 q2; exact ⟨_, _, e2, e1⟩
  have hcn : c1 ∈ [61, 62, 63] := by rcases hc with q | q <;> (rw [q.1]; simp)
  have hN : c1 ≠ 61 ∧ c1 ≠ c2 ∧ 61 ≠ c2 := by rcases hc with q | q <;> omega
  have h60 := hx.2.1
  have hpo := prd_ok ht hd
  have F2 : Fr [61, 62, 63] S ((S.put c1 (aJ 6 (cF (fun b => occN xs b xs.length) f))).put 61 (grO c1 c2 (nL xs.length))) := (Fr.put _ _ hcn).tr (Fr.put _ _ (by simp))
  have hG : GrS ((S.put c1 (aJ 6 (cF (fun b => occN xs b xs.length) f))).put 61 (grO c1 c2 (nL xs.length))) (cw T xs 0) (nL (tot T xs 0)) := by
    rw [tot_0 hx.2.2.1]
    exact ⟨c1, c2, f, g, hc, put_self (put_at ho hN.1), put_at (put_self h1) hN.1.symm, put_at (put_at h2 hN.2.1) hN.2.2⟩
  refine ⟨fun hok => ?_, fun hno => ?_⟩
  · obtain ⟨S3, m3, r3⟩ := lp_adv (scr := scr) (l := l) ht hd hx hoff hw hst hok st 0 (by omega) _ hG F2
    refine ⟨S3, fun d => ?_, r3⟩
    refine MetA.of rfl (by decide +kernel) (Nat.le_of_ble_eq_true rfl) ?_
    refine ev_aload_n i_Gr_advance_0 rfl ?_
    refine ev_get i_Gr_advance_1 ho rfl ?_
    refine ev_lconst (v := 0) i_Gr_advance_4 (by decide) ?_
    refine ev_callS2 i_Gr_advance_5 rfl (Nat.le_of_ble_eq_true rfl) (c_Ar_fillJ h1 (by decide)) ?_
    rw [cF_fill]
    refine ev_iconstN (v := 0) i_Gr_advance_8 (by decide) ?_
    refine ev_ist_4 i_Gr_advance_9 rfl ?_
    refine ev_eqS (S1 := (S.put c1 (aJ 6 (cF (fun b => occN xs b 0) f)))) rfl ?_
    refine ev_loop (n := xs.length) (fun i => [some (.ref 61), some (.ref t), some (.ref w), some (.int (nI st)), some (.int (nI i))]) (fun i => (S.put c1 (aJ 6 (cF (fun b => occN xs b i) f)))) (fun i hi ki => ?_) ?_
    · try dsimp only at ki ⊢
      have oj : (S.put c1 (aJ 6 (cF (fun b => occN xs b i) f))).1[61]? = _ := put_at ho hN.1
      have w1 : (S.put c1 (aJ 6 (cF (fun b => occN xs b i) f))).1[c1]? = _ := put_self h1
      have hFj : Fr [61, 62, 63] S (S.put c1 (aJ 6 (cF (fun b => occN xs b i) f))) := Fr.put _ _ hcn
      have xj := hx.fr hFj hw
      obtain ⟨-, -, x3, fx, x4, x5⟩ := id xj
      refine ev_iload i_Gr_advance_11 rfl ?_
      refine ev_aload_n i_Gr_advance_13 rfl ?_
      refine ev_get i_Gr_advance_14 xj.1 rfl ?_
      refine ev_icmp_geN i_Gr_advance_17 (by omega) (by omega) (fun hc_17 => ?_) (fun hc_17 => ?_)
      · skip
        exfalso; omega
      · skip
        refine ev_aload_n i_Gr_advance_20 rfl ?_
        refine ev_get i_Gr_advance_21 oj rfl ?_
        refine ev_aload_n i_Gr_advance_24 rfl ?_
        refine ev_get i_Gr_advance_25 xj.1 rfl ?_
        refine ev_iload i_Gr_advance_28 rfl ?_
        refine ev_ialdN i_Gr_advance_30 x4 (by omega) (by decide) ?_
        rw [x5 i (by omega)]
        refine ev_dup2_11 i_Gr_advance_31 rfl rfl ?_
        refine ev_laldN i_Gr_advance_32 w1 (x3 i (by omega)) (by decide) ?_
        rw [cF_at (x3 i (by omega))]
        refine ev_lconst (v := 1) i_Gr_advance_33 (by decide) ?_
        refine ev_ladd i_Gr_advance_34 ?_
        rw [show (1 : Int64) = nL 1 from rfl, nL_add]
        refine ev_lastN i_Gr_advance_35 w1 (x3 i (by omega)) (by decide) ?_
        rw [cF_upd (x3 i (by omega)), put_put]
        refine ev_iincN_4 (c := 1) i_Gr_advance_36 (by decide) rfl ?_
        refine ev_goto i_Gr_advance_39 ?_
        have e : ∀ b, b < 6 → occN xs b (i + 1) = if b = xs.getD i 0 then occN xs (xs.getD i 0) i + 1 else occN xs b i := fun b _ => by
          rw [occN_s]
          by_cases z : b = xs.getD i 0
          · rw [if_pos z, if_pos z.symm, z]
          · rw [if_neg z, if_neg (fun q => z q.symm), Nat.add_zero]
        rw [cF_congr e] at ki
        exact ki
    · try dsimp only
      have oj : (S.put c1 (aJ 6 (cF (fun b => occN xs b xs.length) f))).1[61]? = _ := put_at ho hN.1
      have w1 : (S.put c1 (aJ 6 (cF (fun b => occN xs b xs.length) f))).1[c1]? = _ := put_self h1
      have hFj : Fr [61, 62, 63] S (S.put c1 (aJ 6 (cF (fun b => occN xs b xs.length) f))) := Fr.put _ _ hcn
      have xj := hx.fr hFj hw
      obtain ⟨-, -, x3, fx, x4, x5⟩ := id xj
      refine ev_iload i_Gr_advance_11 rfl ?_
      refine ev_aload_n i_Gr_advance_13 rfl ?_
      refine ev_get i_Gr_advance_14 xj.1 rfl ?_
      refine ev_icmp_geN i_Gr_advance_17 (by omega) (by omega) (fun hc_17 => ?_) (fun hc_17 => ?_)
      · skip
        refine ev_aload_n i_Gr_advance_42 rfl ?_
        refine ev_aload_n i_Gr_advance_43 rfl ?_
        refine ev_get i_Gr_advance_44 xj.1 rfl ?_
        refine ev_i2l i_Gr_advance_47 ?_
        rw [i2l_nI (by omega)]
        refine ev_put i_Gr_advance_48 oj (Nat.le_of_ble_eq_true rfl) rfl rfl ?_
        refine ev_eqS (S1 := (S.put c1 (aJ 6 (cF (fun b => occN xs b xs.length) f))).put 61 (grO c1 c2 (nL xs.length))) rfl ?_
        refine ev_iconstN (v := 0) i_Gr_advance_51 (by decide) ?_
        refine ev_ist_4 i_Gr_advance_52 rfl ?_
        exact m3 d
      · skip
        exfalso; omega
  · rcases first_or (fun m => decide (¬ tot T xs (m + 1) < 2 ^ 63)) st with hf | ⟨m, hm, hov, hf⟩
    · exact absurd (fun m hm => by
        cases m with
        | zero => rw [tot_0 hx.2.2.1]; omega
        | succ m => simpa using hf m (by omega)) hno
    · have hov : ¬ tot T xs (m + 1) < 2 ^ 63 := by simpa using hov
      have hok : okG T xs m := fun j hj => by
        cases j with
        | zero => rw [tot_0 hx.2.2.1]; omega
        | succ j => simpa using hf j (by omega)
      obtain ⟨S3, m3, r3⟩ := lp_adv_no (scr := scr) (l := l) ht hd hx hoff hw hst hm hok hov m 0 (by omega) _ hG F2
      refine ⟨S3, fun d => ?_, r3⟩
      refine MetA.of rfl (by decide +kernel) (Nat.le_of_ble_eq_true rfl) ?_
      refine ev_aload_n i_Gr_advance_0 rfl ?_
      refine ev_get i_Gr_advance_1 ho rfl ?_
      refine ev_lconst (v := 0) i_Gr_advance_4 (by decide) ?_
      refine ev_callS2 i_Gr_advance_5 rfl (Nat.le_of_ble_eq_true rfl) (c_Ar_fillJ h1 (by decide)) ?_
      rw [cF_fill]
      refine ev_iconstN (v := 0) i_Gr_advance_8 (by decide) ?_
      refine ev_ist_4 i_Gr_advance_9 rfl ?_
      refine ev_eqS (S1 := (S.put c1 (aJ 6 (cF (fun b => occN xs b 0) f)))) rfl ?_
      refine ev_loop (n := xs.length) (fun i => [some (.ref 61), some (.ref t), some (.ref w), some (.int (nI st)), some (.int (nI i))]) (fun i => (S.put c1 (aJ 6 (cF (fun b => occN xs b i) f)))) (fun i hi ki => ?_) ?_
      · try dsimp only at ki ⊢
        have oj : (S.put c1 (aJ 6 (cF (fun b => occN xs b i) f))).1[61]? = _ := put_at ho hN.1
        have w1 : (S.put c1 (aJ 6 (cF (fun b => occN xs b i) f))).1[c1]? = _ := put_self h1
        have hFj : Fr [61, 62, 63] S (S.put c1 (aJ 6 (cF (fun b => occN xs b i) f))) := Fr.put _ _ hcn
        have xj := hx.fr hFj hw
        obtain ⟨-, -, x3, fx, x4, x5⟩ := id xj
        refine ev_iload i_Gr_advance_11 rfl ?_
        refine ev_aload_n i_Gr_advance_13 rfl ?_
        refine ev_get i_Gr_advance_14 xj.1 rfl ?_
        refine ev_icmp_geN i_Gr_advance_17 (by omega) (by omega) (fun hc_17 => ?_) (fun hc_17 => ?_)
        · skip
          exfalso; omega
        · skip
          refine ev_aload_n i_Gr_advance_20 rfl ?_
          refine ev_get i_Gr_advance_21 oj rfl ?_
          refine ev_aload_n i_Gr_advance_24 rfl ?_
          refine ev_get i_Gr_advance_25 xj.1 rfl ?_
          refine ev_iload i_Gr_advance_28 rfl ?_
          refine ev_ialdN i_Gr_advance_30 x4 (by omega) (by decide) ?_
          rw [x5 i (by omega)]
          refine ev_dup2_11 i_Gr_advance_31 rfl rfl ?_
          refine ev_laldN i_Gr_advance_32 w1 (x3 i (by omega)) (by decide) ?_
          rw [cF_at (x3 i (by omega))]
          refine ev_lconst (v := 1) i_Gr_advance_33 (by decide) ?_
          refine ev_ladd i_Gr_advance_34 ?_
          rw [show (1 : Int64) = nL 1 from rfl, nL_add]
          refine ev_lastN i_Gr_advance_35 w1 (x3 i (by omega)) (by decide) ?_
          rw [cF_upd (x3 i (by omega)), put_put]
          refine ev_iincN_4 (c := 1) i_Gr_advance_36 (by decide) rfl ?_
          refine ev_goto i_Gr_advance_39 ?_
          have e : ∀ b, b < 6 → occN xs b (i + 1) = if b = xs.getD i 0 then occN xs (xs.getD i 0) i + 1 else occN xs b i := fun b _ => by
            rw [occN_s]
            by_cases z : b = xs.getD i 0
            · rw [if_pos z, if_pos z.symm, z]
            · rw [if_neg z, if_neg (fun q => z q.symm), Nat.add_zero]
          rw [cF_congr e] at ki
          exact ki
      · try dsimp only
        have oj : (S.put c1 (aJ 6 (cF (fun b => occN xs b xs.length) f))).1[61]? = _ := put_at ho hN.1
        have w1 : (S.put c1 (aJ 6 (cF (fun b => occN xs b xs.length) f))).1[c1]? = _ := put_self h1
        have hFj : Fr [61, 62, 63] S (S.put c1 (aJ 6 (cF (fun b => occN xs b xs.length) f))) := Fr.put _ _ hcn
        have xj := hx.fr hFj hw
        obtain ⟨-, -, x3, fx, x4, x5⟩ := id xj
        refine ev_iload i_Gr_advance_11 rfl ?_
        refine ev_aload_n i_Gr_advance_13 rfl ?_
        refine ev_get i_Gr_advance_14 xj.1 rfl ?_
        refine ev_icmp_geN i_Gr_advance_17 (by omega) (by omega) (fun hc_17 => ?_) (fun hc_17 => ?_)
        · skip
          refine ev_aload_n i_Gr_advance_42 rfl ?_
          refine ev_aload_n i_Gr_advance_43 rfl ?_
          refine ev_get i_Gr_advance_44 xj.1 rfl ?_
          refine ev_i2l i_Gr_advance_47 ?_
          rw [i2l_nI (by omega)]
          refine ev_put i_Gr_advance_48 oj (Nat.le_of_ble_eq_true rfl) rfl rfl ?_
          refine ev_eqS (S1 := (S.put c1 (aJ 6 (cF (fun b => occN xs b xs.length) f))).put 61 (grO c1 c2 (nL xs.length))) rfl ?_
          refine ev_iconstN (v := 0) i_Gr_advance_51 (by decide) ?_
          refine ev_ist_4 i_Gr_advance_52 rfl ?_
          exact m3 d
        · skip
          exfalso; omega
def fitT (T : TabV) : Prop := isDet T ∧ rcount T = 0
theorem XInv.grs {σ : Sg} {S : Sto} (h : XInv σ S) : GrowOK S := h.2.2.2.2.2.2.1
theorem x_checkFit {scr : Scr} {l : Launch} {S : Sto} {t d : Nat} {T : TabV} (h : TabAt S t T) : (fitT T → MetA scr l (d + 1) M_Pr_checkPlainAndDeterministic [.ref t] S (.inl none, S)) ∧ (¬ fitT T → MetA scr l (d + 1) M_Pr_checkPlainAndDeterministic [.ref t] S (.inr xIse, S.thrown)) := by
  obtain ⟨rc, tb, hrc⟩ := tab_obj h
  have h36 := rcount_le T
  refine ⟨fun hf => ?_, fun hf => ?_⟩
  · have hz : rc = 0 := hrc.trans hf.2
    refine MetA.of rfl (by decide +kernel) (Nat.le_of_ble_eq_true rfl) ?_
    refine ev_aload_n i_Pr_checkPlainAndDeterministic_0 rfl ?_
    refine ev_get i_Pr_checkPlainAndDeterministic_1 tb rfl ?_
    refine ev_if_gtN i_Pr_checkPlainAndDeterministic_4 (by omega) (fun hc_4 => ?_) (fun hc_4 => ?_)
    · skip
      exfalso; omega
    · skip
      refine ev_aload_n i_Pr_checkPlainAndDeterministic_7 rfl ?_
      refine ev_callV0 i_Pr_checkPlainAndDeterministic_8 rfl tb (Nat.le_of_ble_eq_true rfl) ((t_det h).1 hf.1) ?_
      refine ev_if_neN i_Pr_checkPlainAndDeterministic_11 (by omega) (fun hc_11 => ?_) (fun hc_11 => ?_)
      · skip
        exact ev_vret i_Pr_checkPlainAndDeterministic_25 rfl
      · skip
        exfalso; omega
  · refine MetA.of rfl (by decide +kernel) (Nat.le_of_ble_eq_true rfl) ?_
    refine ev_aload_n i_Pr_checkPlainAndDeterministic_0 rfl ?_
    refine ev_get i_Pr_checkPlainAndDeterministic_1 tb rfl ?_
    refine ev_if_gtN i_Pr_checkPlainAndDeterministic_4 (by omega) (fun hc_4 => ?_) (fun hc_4 => ?_)
    · skip
      exact ev_throw i_Pr_checkPlainAndDeterministic_14 ex_Ise rfl rfl (Nat.le_of_ble_eq_true rfl)
    · skip
      refine ev_aload_n i_Pr_checkPlainAndDeterministic_7 rfl ?_
      refine ev_callV0 i_Pr_checkPlainAndDeterministic_8 rfl tb (Nat.le_of_ble_eq_true rfl) ((t_det h).2 (fun q => hf ⟨q, hrc.symm.trans hc_4⟩)) ?_
      refine ev_if_neN i_Pr_checkPlainAndDeterministic_11 (by omega) (fun hc_11 => ?_) (fun hc_11 => ?_)
      · skip
        exfalso; omega
      · skip
        exact ev_throw i_Pr_checkPlainAndDeterministic_14 ex_Ise rfl rfl (Nat.le_of_ble_eq_true rfl)
theorem x_advG {scr : Scr} {l : Launch} {S : Sto} {σ : Sg} {t n : Nat} (h : XInv σ S) (ht : t < 3) (hn : n < 1001) (hf : fitT (σ.2.1.1 t)) : (okG (σ.2.1.1 t) σ.2.1.2.1 n → ∃ S1, (∀ d, MetA scr l (d + 3) M_Pr_advanceGrowth [.ref 0, .ref (5 + 4 * t), .int (nI n)] S (.inl none, S1)) ∧ GrS S1 (cw (σ.2.1.1 t) σ.2.1.2.1 n) (nL (tot (σ.2.1.1 t) σ.2.1.2.1 n)) ∧ XInv σ S1 ∧ Fr xK S S1) ∧ (¬ okG (σ.2.1.1 t) σ.2.1.2.1 n → ∃ S1, (∀ d, MetA scr l (d + 3) M_Pr_advanceGrowth [.ref 0, .ref (5 + 4 * t), .int (nI n)] S (.inr xAri, S1.thrown)) ∧ XInv σ S1 ∧ Fr xK S S1) := by
  have hg := g_advance (scr := scr) (l := l) (st := n) (live_tab h ht) hf.1 (live_cur h) (live_off ht (by decide)) ⟨by decide, by decide⟩ h.grs (by omega)
  obtain ⟨c1, c2, x0, ff1, ff2, r1, r2, hc, og, -⟩ := id h.grs
  refine ⟨fun hok => ?_, fun hok => ?_⟩
  · obtain ⟨S1, m1, s1, f1⟩ := hg.1 hok
    refine ⟨S1, fun d => ?_, s1, h.grow f1 (by decide) (s1.ok h.grs f1), f1.x (by decide)⟩
    refine MetA.of rfl (by decide +kernel) (Nat.le_of_ble_eq_true rfl) ?_
    refine ev_iload_n i_Pr_advanceGrowth_0 rfl ?_
    refine ev_if_lt_N i_Pr_advanceGrowth_1 (by omega) (fun hc_1 => ?_) (fun hc_1 => ?_)
    · skip
      exfalso; omega
    · skip
      refine ev_iload_n i_Pr_advanceGrowth_4 rfl ?_
      refine ev_sipushN (v := 1000) i_Pr_advanceGrowth_5 (by decide) ?_
      refine ev_icmp_leN i_Pr_advanceGrowth_8 (by omega) (by omega) (fun hc_8 => ?_) (fun hc_8 => ?_)
      · skip
        refine ev_aload_n i_Pr_advanceGrowth_22 rfl ?_
        refine ev_callS1 i_Pr_advanceGrowth_23 rfl (Nat.le_of_ble_eq_true rfl) ((x_checkFit (live_tab h ht)).1 hf) ?_
        refine ev_aload_n i_Pr_advanceGrowth_26 rfl ?_
        refine ev_get i_Pr_advanceGrowth_27 h.1 rfl ?_
        refine ev_aload_n i_Pr_advanceGrowth_30 rfl ?_
        refine ev_aload_n i_Pr_advanceGrowth_31 rfl ?_
        refine ev_get i_Pr_advanceGrowth_32 h.1 rfl ?_
        refine ev_get i_Pr_advanceGrowth_35 h.2.2.1.1 rfl ?_
        refine ev_iload_n i_Pr_advanceGrowth_38 rfl ?_
        refine ev_callV3 i_Pr_advanceGrowth_39 rfl og (Nat.le_of_ble_eq_true rfl) (m1 _) ?_
        refine ev_if_neN i_Pr_advanceGrowth_42 (by omega) (fun hc_42 => ?_) (fun hc_42 => ?_)
        · skip
          exact ev_vret i_Pr_advanceGrowth_56 rfl
        · skip
          exfalso; omega
      · skip
        exfalso; omega
  · obtain ⟨S1, m1, ⟨W, x, s1⟩, f1⟩ := hg.2 hok
    refine ⟨S1, fun d => ?_, h.grow f1 (by decide) (s1.ok h.grs f1), f1.x (by decide)⟩
    refine MetA.of rfl (by decide +kernel) (Nat.le_of_ble_eq_true rfl) ?_
    refine ev_iload_n i_Pr_advanceGrowth_0 rfl ?_
    refine ev_if_lt_N i_Pr_advanceGrowth_1 (by omega) (fun hc_1 => ?_) (fun hc_1 => ?_)
    · skip
      exfalso; omega
    · skip
      refine ev_iload_n i_Pr_advanceGrowth_4 rfl ?_
      refine ev_sipushN (v := 1000) i_Pr_advanceGrowth_5 (by decide) ?_
      refine ev_icmp_leN i_Pr_advanceGrowth_8 (by omega) (by omega) (fun hc_8 => ?_) (fun hc_8 => ?_)
      · skip
        refine ev_aload_n i_Pr_advanceGrowth_22 rfl ?_
        refine ev_callS1 i_Pr_advanceGrowth_23 rfl (Nat.le_of_ble_eq_true rfl) ((x_checkFit (live_tab h ht)).1 hf) ?_
        refine ev_aload_n i_Pr_advanceGrowth_26 rfl ?_
        refine ev_get i_Pr_advanceGrowth_27 h.1 rfl ?_
        refine ev_aload_n i_Pr_advanceGrowth_30 rfl ?_
        refine ev_aload_n i_Pr_advanceGrowth_31 rfl ?_
        refine ev_get i_Pr_advanceGrowth_32 h.1 rfl ?_
        refine ev_get i_Pr_advanceGrowth_35 h.2.2.1.1 rfl ?_
        refine ev_iload_n i_Pr_advanceGrowth_38 rfl ?_
        refine ev_callV3 i_Pr_advanceGrowth_39 rfl og (Nat.le_of_ble_eq_true rfl) (m1 _) ?_
        refine ev_if_neN i_Pr_advanceGrowth_42 (by omega) (fun hc_42 => ?_) (fun hc_42 => ?_)
        · skip
          exfalso; omega
        · skip
          exact ev_throw i_Pr_advanceGrowth_45 ex_Ari rfl rfl (Nat.le_of_ble_eq_true rfl)
      · skip
        exfalso; omega
theorem x_advG_3 {scr : Scr} {l : Launch} {S : Sto} {σ : Sg} {t n d : Nat} (h : XInv σ S) (ht : t < 3) (hn : n < 1001) (hf : ¬ fitT (σ.2.1.1 t)) : MetA scr l (d + 3) M_Pr_advanceGrowth [.ref 0, .ref (5 + 4 * t), .int (nI n)] S (.inr xIse, S.thrown) := by
  refine MetA.of rfl (by decide +kernel) (Nat.le_of_ble_eq_true rfl) ?_
  refine ev_iload_n i_Pr_advanceGrowth_0 rfl ?_
  refine ev_if_lt_N i_Pr_advanceGrowth_1 (by omega) (fun hc_1 => ?_) (fun hc_1 => ?_)
  · skip
    exfalso; omega
  · skip
    refine ev_iload_n i_Pr_advanceGrowth_4 rfl ?_
    refine ev_sipushN (v := 1000) i_Pr_advanceGrowth_5 (by decide) ?_
    refine ev_icmp_leN i_Pr_advanceGrowth_8 (by omega) (by omega) (fun hc_8 => ?_) (fun hc_8 => ?_)
    · skip
      refine ev_aload_n i_Pr_advanceGrowth_22 rfl ?_
      exact ev_callS1x rfl i_Pr_advanceGrowth_23 rfl (Nat.le_of_ble_eq_true rfl) ((x_checkFit (live_tab h ht)).2 hf)
    · skip
      exfalso; omega
theorem x_advG_2 {scr : Scr} {l : Launch} {S : Sto} {tr d : Nat} {q : Int32} (hq : ¬ inR 1001 q) : MetA scr l (d + 3) M_Pr_advanceGrowth [.ref 0, .ref tr, .int q] S (.inr xIae, S.thrown) := by
  refine MetA.of rfl (by decide +kernel) (Nat.le_of_ble_eq_true rfl) ?_
  refine ev_iload_n i_Pr_advanceGrowth_0 rfl ?_
  refine ev_if_lt i_Pr_advanceGrowth_1 (fun hc_1 => ?_) (fun hc_1 => ?_)
  · skip
    exact ev_throw i_Pr_advanceGrowth_11 ex_Iae rfl rfl (Nat.le_of_ble_eq_true rfl)
  · skip
    refine ev_iload_n i_Pr_advanceGrowth_4 rfl ?_
    refine ev_sipushN (v := 1000) i_Pr_advanceGrowth_5 (by decide) ?_
    refine ev_icmp_le i_Pr_advanceGrowth_8 (fun hc_8 => ?_) (fun hc_8 => ?_)
    · skip
      exact absurd hc_8 (not_le_of (by decide) hq hc_1)
    · skip
      exact ev_throw i_Pr_advanceGrowth_11 ex_Iae rfl rfl (Nat.le_of_ble_eq_true rfl)
theorem x_lenAfter {scr : Scr} {l : Launch} {S : Sto} {σ : Sg} {t n : Nat} (h : XInv σ S) (ht : t < 3) (hn : n < 1001) (hf : fitT (σ.2.1.1 t)) : (okG (σ.2.1.1 t) σ.2.1.2.1 n → XRun scr l 4 M_Pr_lengthAfter [.ref 0, .int (nI t), .int (nI n)] S (some (.long (nL (tot (σ.2.1.1 t) σ.2.1.2.1 n)))) σ) ∧ (¬ okG (σ.2.1.1 t) σ.2.1.2.1 n → XThr scr l 4 M_Pr_lengthAfter [.ref 0, .int (nI t), .int (nI n)] S xAri σ) := by
  refine ⟨fun hok => ?_, fun hok => ?_⟩
  · obtain ⟨S1, m1, ⟨c1, c2, g1, f2, hc, o1, w1, n1⟩, i1, f1⟩ := (x_advG (scr := scr) (l := l) h ht hn hf).1 hok
    refine ⟨S1, fun d => ?_, i1, f1⟩
    refine MetA.of rfl (by decide +kernel) (Nat.le_of_ble_eq_true rfl) ?_
    refine ev_aload_n i_Pr_lengthAfter_0 rfl ?_
    refine ev_iload_n i_Pr_lengthAfter_1 rfl ?_
    refine ev_callV1 i_Pr_lengthAfter_2 rfl h.1 (Nat.le_of_ble_eq_true rfl) (x_tableAt h ht) ?_
    refine ev_ast_n_3 i_Pr_lengthAfter_5 rfl ?_
    refine ev_aload_n i_Pr_lengthAfter_6 rfl ?_
    refine ev_aload_n i_Pr_lengthAfter_7 rfl ?_
    refine ev_iload_n i_Pr_lengthAfter_8 rfl ?_
    refine ev_callV2 i_Pr_lengthAfter_9 rfl h.1 (Nat.le_of_ble_eq_true rfl) (m1 _) ?_
    refine ev_aload_n i_Pr_lengthAfter_12 rfl ?_
    refine ev_get i_Pr_lengthAfter_13 i1.1 rfl ?_
    refine ev_get i_Pr_lengthAfter_16 o1 rfl ?_
    exact ev_lret i_Pr_lengthAfter_19 rfl
  · obtain ⟨S1, m1, i1, f1⟩ := (x_advG (scr := scr) (l := l) h ht hn hf).2 hok
    refine ⟨S1, fun d => ?_, i1, f1⟩
    refine MetA.of rfl (by decide +kernel) (Nat.le_of_ble_eq_true rfl) ?_
    refine ev_aload_n i_Pr_lengthAfter_0 rfl ?_
    refine ev_iload_n i_Pr_lengthAfter_1 rfl ?_
    refine ev_callV1 i_Pr_lengthAfter_2 rfl h.1 (Nat.le_of_ble_eq_true rfl) (x_tableAt h ht) ?_
    refine ev_ast_n_3 i_Pr_lengthAfter_5 rfl ?_
    refine ev_aload_n i_Pr_lengthAfter_6 rfl ?_
    refine ev_aload_n i_Pr_lengthAfter_7 rfl ?_
    refine ev_iload_n i_Pr_lengthAfter_8 rfl ?_
    exact ev_callV2x rfl i_Pr_lengthAfter_9 rfl h.1 (Nat.le_of_ble_eq_true rfl) (m1 _)
theorem x_lenAfter_3 {scr : Scr} {l : Launch} {S : Sto} {σ : Sg} {t n : Nat} (h : XInv σ S) (ht : t < 3) (hn : n < 1001) (hf : ¬ fitT (σ.2.1.1 t)) : XThr scr l 4 M_Pr_lengthAfter [.ref 0, .int (nI t), .int (nI n)] S xIse σ := by
  refine XThr.of h (fun d => ?_)
  refine MetA.of rfl (by decide +kernel) (Nat.le_of_ble_eq_true rfl) ?_
  refine ev_aload_n i_Pr_lengthAfter_0 rfl ?_
  refine ev_iload_n i_Pr_lengthAfter_1 rfl ?_
  refine ev_callV1 i_Pr_lengthAfter_2 rfl h.1 (Nat.le_of_ble_eq_true rfl) (x_tableAt h ht) ?_
  refine ev_ast_n_3 i_Pr_lengthAfter_5 rfl ?_
  refine ev_aload_n i_Pr_lengthAfter_6 rfl ?_
  refine ev_aload_n i_Pr_lengthAfter_7 rfl ?_
  refine ev_iload_n i_Pr_lengthAfter_8 rfl ?_
  exact ev_callV2x rfl i_Pr_lengthAfter_9 rfl h.1 (Nat.le_of_ble_eq_true rfl) (x_advG_3 h ht hn hf)
theorem x_lenAfter_2 {scr : Scr} {l : Launch} {S : Sto} {σ : Sg} {t : Nat} {q : Int32} (h : XInv σ S) (ht : t < 3) (hq : ¬ inR 1001 q) : XThr scr l 4 M_Pr_lengthAfter [.ref 0, .int (nI t), .int q] S xIae σ := by
  refine XThr.of h (fun d => ?_)
  refine MetA.of rfl (by decide +kernel) (Nat.le_of_ble_eq_true rfl) ?_
  refine ev_aload_n i_Pr_lengthAfter_0 rfl ?_
  refine ev_iload_n i_Pr_lengthAfter_1 rfl ?_
  refine ev_callV1 i_Pr_lengthAfter_2 rfl h.1 (Nat.le_of_ble_eq_true rfl) (x_tableAt h ht) ?_
  refine ev_ast_n_3 i_Pr_lengthAfter_5 rfl ?_
  refine ev_aload_n i_Pr_lengthAfter_6 rfl ?_
  refine ev_aload_n i_Pr_lengthAfter_7 rfl ?_
  refine ev_iload_n i_Pr_lengthAfter_8 rfl ?_
  exact ev_callV2x rfl i_Pr_lengthAfter_9 rfl h.1 (Nat.le_of_ble_eq_true rfl) (x_advG_2 hq)
theorem x_lenAfter_1 {scr : Scr} {l : Launch} {S : Sto} {σ : Sg} {p q : Int32} (h : XInv σ S) (hp : ¬ inR 3 p) : XThr scr l 4 M_Pr_lengthAfter [.ref 0, .int p, .int q] S xIob σ := by
  refine XThr.of h (fun d => ?_)
  refine MetA.of rfl (by decide +kernel) (Nat.le_of_ble_eq_true rfl) ?_
  refine ev_aload_n i_Pr_lengthAfter_0 rfl ?_
  refine ev_iload_n i_Pr_lengthAfter_1 rfl ?_
  exact ev_callV1x rfl i_Pr_lengthAfter_2 rfl h.1 (Nat.le_of_ble_eq_true rfl) (x_tableAt_no hp)
theorem x_cntAfter {scr : Scr} {l : Launch} {S : Sto} {σ : Sg} {t n b : Nat} (h : XInv σ S) (ht : t < 3) (hn : n < 1001) (hb : b < 6) (hf : fitT (σ.2.1.1 t)) : (okG (σ.2.1.1 t) σ.2.1.2.1 n → XRun scr l 4 M_Pr_countAfter [.ref 0, .int (nI t), .int (nI n), .int (nI b)] S (some (.long (nL (cw (σ.2.1.1 t) σ.2.1.2.1 n b)))) σ) ∧ (¬ okG (σ.2.1.1 t) σ.2.1.2.1 n → XThr scr l 4 M_Pr_countAfter [.ref 0, .int (nI t), .int (nI n), .int (nI b)] S xAri σ) := by
  refine ⟨fun hok => ?_, fun hok => ?_⟩
  · obtain ⟨S1, m1, ⟨c1, c2, g1, f2, hc, o1, w1, n1⟩, i1, f1⟩ := (x_advG (scr := scr) (l := l) h ht hn hf).1 hok
    refine ⟨S1, fun d => ?_, i1, f1⟩
    refine MetA.of rfl (by decide +kernel) (Nat.le_of_ble_eq_true rfl) ?_
    refine ev_aload_n i_Pr_countAfter_0 rfl ?_
    refine ev_iload_n i_Pr_countAfter_1 rfl ?_
    refine ev_callV1 i_Pr_countAfter_2 rfl h.1 (Nat.le_of_ble_eq_true rfl) (x_tableAt h ht) ?_
    refine ev_ast_4 i_Pr_countAfter_5 rfl ?_
    refine ev_iload_n i_Pr_countAfter_7 rfl ?_
    refine ev_callS1 i_Pr_countAfter_8 rfl (Nat.le_of_ble_eq_true rfl) (x_checkLetter hb) ?_
    refine ev_aload_n i_Pr_countAfter_11 rfl ?_
    refine ev_aload i_Pr_countAfter_12 rfl ?_
    refine ev_iload_n i_Pr_countAfter_14 rfl ?_
    refine ev_callV2 i_Pr_countAfter_15 rfl h.1 (Nat.le_of_ble_eq_true rfl) (m1 _) ?_
    refine ev_aload_n i_Pr_countAfter_18 rfl ?_
    refine ev_get i_Pr_countAfter_19 i1.1 rfl ?_
    refine ev_get i_Pr_countAfter_22 o1 rfl ?_
    refine ev_iload_n i_Pr_countAfter_25 rfl ?_
    refine ev_laldN i_Pr_countAfter_26 w1 hb (by decide) ?_
    rw [cF_at hb]
    exact ev_lret i_Pr_countAfter_27 rfl
  · obtain ⟨S1, m1, i1, f1⟩ := (x_advG (scr := scr) (l := l) h ht hn hf).2 hok
    refine ⟨S1, fun d => ?_, i1, f1⟩
    refine MetA.of rfl (by decide +kernel) (Nat.le_of_ble_eq_true rfl) ?_
    refine ev_aload_n i_Pr_countAfter_0 rfl ?_
    refine ev_iload_n i_Pr_countAfter_1 rfl ?_
    refine ev_callV1 i_Pr_countAfter_2 rfl h.1 (Nat.le_of_ble_eq_true rfl) (x_tableAt h ht) ?_
    refine ev_ast_4 i_Pr_countAfter_5 rfl ?_
    refine ev_iload_n i_Pr_countAfter_7 rfl ?_
    refine ev_callS1 i_Pr_countAfter_8 rfl (Nat.le_of_ble_eq_true rfl) (x_checkLetter hb) ?_
    refine ev_aload_n i_Pr_countAfter_11 rfl ?_
    refine ev_aload i_Pr_countAfter_12 rfl ?_
    refine ev_iload_n i_Pr_countAfter_14 rfl ?_
    exact ev_callV2x rfl i_Pr_countAfter_15 rfl h.1 (Nat.le_of_ble_eq_true rfl) (m1 _)
theorem x_cntAfter_3 {scr : Scr} {l : Launch} {S : Sto} {σ : Sg} {t n b : Nat} (h : XInv σ S) (ht : t < 3) (hn : n < 1001) (hb : b < 6) (hf : ¬ fitT (σ.2.1.1 t)) : XThr scr l 4 M_Pr_countAfter [.ref 0, .int (nI t), .int (nI n), .int (nI b)] S xIse σ := by
  refine XThr.of h (fun d => ?_)
  refine MetA.of rfl (by decide +kernel) (Nat.le_of_ble_eq_true rfl) ?_
  refine ev_aload_n i_Pr_countAfter_0 rfl ?_
  refine ev_iload_n i_Pr_countAfter_1 rfl ?_
  refine ev_callV1 i_Pr_countAfter_2 rfl h.1 (Nat.le_of_ble_eq_true rfl) (x_tableAt h ht) ?_
  refine ev_ast_4 i_Pr_countAfter_5 rfl ?_
  refine ev_iload_n i_Pr_countAfter_7 rfl ?_
  refine ev_callS1 i_Pr_countAfter_8 rfl (Nat.le_of_ble_eq_true rfl) (x_checkLetter hb) ?_
  refine ev_aload_n i_Pr_countAfter_11 rfl ?_
  refine ev_aload i_Pr_countAfter_12 rfl ?_
  refine ev_iload_n i_Pr_countAfter_14 rfl ?_
  exact ev_callV2x rfl i_Pr_countAfter_15 rfl h.1 (Nat.le_of_ble_eq_true rfl) (x_advG_3 h ht hn hf)
theorem x_cntAfter_2 {scr : Scr} {l : Launch} {S : Sto} {σ : Sg} {t b : Nat} {q : Int32} (h : XInv σ S) (ht : t < 3) (hq : ¬ inR 1001 q) (hb : b < 6) : XThr scr l 4 M_Pr_countAfter [.ref 0, .int (nI t), .int q, .int (nI b)] S xIae σ := by
  refine XThr.of h (fun d => ?_)
  refine MetA.of rfl (by decide +kernel) (Nat.le_of_ble_eq_true rfl) ?_
  refine ev_aload_n i_Pr_countAfter_0 rfl ?_
  refine ev_iload_n i_Pr_countAfter_1 rfl ?_
  refine ev_callV1 i_Pr_countAfter_2 rfl h.1 (Nat.le_of_ble_eq_true rfl) (x_tableAt h ht) ?_
  refine ev_ast_4 i_Pr_countAfter_5 rfl ?_
  refine ev_iload_n i_Pr_countAfter_7 rfl ?_
  refine ev_callS1 i_Pr_countAfter_8 rfl (Nat.le_of_ble_eq_true rfl) (x_checkLetter hb) ?_
  refine ev_aload_n i_Pr_countAfter_11 rfl ?_
  refine ev_aload i_Pr_countAfter_12 rfl ?_
  refine ev_iload_n i_Pr_countAfter_14 rfl ?_
  exact ev_callV2x rfl i_Pr_countAfter_15 rfl h.1 (Nat.le_of_ble_eq_true rfl) (x_advG_2 hq)
theorem x_cntAfter_1 {scr : Scr} {l : Launch} {S : Sto} {σ : Sg} {p q r : Int32} (h : XInv σ S) (hp : ¬ inR 3 p) : XThr scr l 4 M_Pr_countAfter [.ref 0, .int p, .int q, .int r] S xIob σ := by
  refine XThr.of h (fun d => ?_)
  refine MetA.of rfl (by decide +kernel) (Nat.le_of_ble_eq_true rfl) ?_
  refine ev_aload_n i_Pr_countAfter_0 rfl ?_
  refine ev_iload_n i_Pr_countAfter_1 rfl ?_
  exact ev_callV1x rfl i_Pr_countAfter_2 rfl h.1 (Nat.le_of_ble_eq_true rfl) (x_tableAt_no hp)
theorem x_cntAfter_1l {scr : Scr} {l : Launch} {S : Sto} {σ : Sg} {t : Nat} {n q : Int32} (h : XInv σ S) (ht : t < 3) (hq : ¬ inR 6 q) : XThr scr l 4 M_Pr_countAfter [.ref 0, .int (nI t), .int n, .int q] S xIob σ := by
  refine XThr.of h (fun d => ?_)
  refine MetA.of rfl (by decide +kernel) (Nat.le_of_ble_eq_true rfl) ?_
  refine ev_aload_n i_Pr_countAfter_0 rfl ?_
  refine ev_iload_n i_Pr_countAfter_1 rfl ?_
  refine ev_callV1 i_Pr_countAfter_2 rfl h.1 (Nat.le_of_ble_eq_true rfl) (x_tableAt h ht) ?_
  refine ev_ast_4 i_Pr_countAfter_5 rfl ?_
  refine ev_iload_n i_Pr_countAfter_7 rfl ?_
  exact ev_callS1x rfl i_Pr_countAfter_8 rfl (Nat.le_of_ble_eq_true rfl) (x_checkLetter_no hq)

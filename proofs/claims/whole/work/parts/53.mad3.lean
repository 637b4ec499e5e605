/-! the model m: adultWords -/
/-- the word of n letters that a number spells -/
def dgF (n c j : Nat) : Nat := c / 6 ^ (n - 1 - j) % 6
def dg (n c : Nat) : List Nat := (List.range n).map (dgF n c)
theorem dg_len (n c : Nat) : (dg n c).length = n := by unfold dg; rw [List.length_map, List.length_range]
theorem dg_get {n c j : Nat} (h : j < n) : (dg n c).getD j 0 = dgF n c j := by
  unfold dg
  rw [List.getD_eq_getElem?_getD, List.getElem?_map, List.getElem?_range h]
  rfl
theorem sumN_block {f : Nat → Nat} {b : Nat} : ∀ m, sumN f (m * b) = sumN (fun a => sumN (fun c => f (a * b + c)) b) m := by
  intro m
  induction m with
  | zero => rw [Nat.zero_mul]; rfl
  | succ m ih =>
    rw [Nat.succ_mul, sumN_add, ih]
    rfl
theorem dg_cons {n a c : Nat} (ha : a < 6) (hc : c < 6 ^ n) : dg (n + 1) (a * 6 ^ n + c) = a :: dg n c := by
  refine list_ext (by rw [List.length_cons, dg_len, dg_len]) (fun j hj => ?_)
  rw [dg_len] at hj
  rw [dg_get hj]
  cases j with
  | zero =>
    show (a * 6 ^ n + c) / 6 ^ (n + 1 - 1 - 0) % 6 = a
    have hp : 0 < 6 ^ n := Nat.pow_pos (by decide)
    rw [show n + 1 - 1 - 0 = n from by omega, Nat.mul_comm, Nat.mul_add_div hp, Nat.div_eq_of_lt hc, Nat.add_zero, Nat.mod_eq_of_lt ha]
  | succ j =>
    show (a * 6 ^ n + c) / 6 ^ (n + 1 - 1 - (j + 1)) % 6 = (dg n c).getD j 0
    rw [dg_get (by omega)]
    unfold dgF
    have hp : 0 < 6 ^ (n - 1 - j) := Nat.pow_pos (by decide)
    have e : a * 6 ^ n = 6 ^ (n - 1 - j) * (6 * (a * 6 ^ j)) := by
      rw [show n = (n - 1 - j) + (j + 1) from by omega, Nat.pow_add, Nat.pow_succ]
      rw [show (n - 1 - j) + (j + 1) - 1 - j = n - 1 - j from by omega]
      simp [Nat.mul_comm, Nat.mul_left_comm, Nat.mul_assoc]
    rw [show n + 1 - 1 - (j + 1) = n - 1 - j from by omega, e, Nat.mul_add_div hp, Nat.mul_add_mod]
theorem cntA_sum {T : TabV} : ∀ (n : Nat) (w : List Nat), cntA T n w = sumN (fun c => bI (adB T (w ++ dg n c))) (6 ^ n) := by
  intro n
  induction n with
  | zero =>
    intro w
    show bI (adB T w) = 0 + bI (adB T (w ++ []))
    rw [List.append_nil, Nat.zero_add]
  | succ n ih =>
    intro w
    rw [Nat.pow_succ, Nat.mul_comm, sumN_block]
    show sumN (fun a => cntA T n (w ++ [a])) 6 = _
    refine sumN_congr (fun a ha => ?_)
    rw [ih]
    refine sumN_congr (fun c hc => ?_)
    rw [dg_cons ha hc, List.append_assoc]
    rfl
theorem cntA_dg {T : TabV} {n : Nat} : cntA T n [] = sumN (fun c => bI (adB T (dg n c))) (6 ^ n) := cntA_sum n []
/-- the digits written from the right -/
def digF (f : Nat → Int32) (n c s : Nat) : Nat → Int32 := fun p => if n - s < p ∧ p ≤ n then nI (c / 6 ^ (n - p) % 6) else f p
theorem digF_0 (f : Nat → Int32) (n c : Nat) : digF f n c 0 = f := by
  funext p
  unfold digF
  rw [if_neg (by omega)]
theorem digF_s {f : Nat → Int32} {n c s : Nat} (h : s < n) : upd (digF f n c s) (n - s) (nI (c / 6 ^ s % 6)) = digF f n c (s + 1) := by
  funext p
  unfold upd digF
  by_cases z : p = n - s
  · rw [if_pos z, if_pos (by omega), z, show n - (n - s) = s from by omega]
  · rw [if_neg z]
    by_cases q : n - s < p ∧ p ≤ n
    · rw [if_pos q, if_pos (by omega)]
    · rw [if_neg q, if_neg (by omega)]
theorem digF_row {f : Nat → Int32} {n c : Nat} (hn : n ≤ 60) (h0 : f 0 = nI n) : RowW (digF f n c n) 0 (dg n c) := by
  refine ⟨?_, by rw [dg_len]; exact hn, fun j hj => ?_⟩
  · unfold digF
    rw [if_neg (by omega), h0, dg_len]
  · rw [dg_len] at hj
    unfold digF
    rw [if_pos (by omega), dg_get hj]
    unfold dgF
    rw [show n - (0 + 1 + j) = n - 1 - j from by omega]
    exact ⟨rfl, Nat.mod_lt _ (by decide)⟩
theorem nI_dec {a : Nat} (h : 1 ≤ a) : nI a + Int32.ofInt (-1) = nI (a - 1) := by
  have e : Int32.ofInt (-1) = - nI 1 := by decide
  rw [← nI_sub h, e, ← Int32.sub_eq_add_neg]
theorem pow6 {n : Nat} (h : n ≤ 4) : 6 ^ n ≤ 1296 := Nat.le_trans (Nat.pow_le_pow_right (by decide) h) (by decide)
theorem m_adWords_1 {scr : Scr} {l : Launch} {S : Sto} {σ : Sg} {th : Nat} {x y : Int32} (h : MInv th σ S) (hx : ¬ inR 3 x) : MRun scr l 6 M_Md_adultWords [.ref 105, .int x, .int y] S (some (.int (nI 0))) 1 σ := by
  refine MRun.th h (fun dr mo sc h0 d => ?_)
  have o1 : (S.put 105 (mO 1 σ dr mo sc)).1[105]? = _ := put_self h0
  refine MetA.of rfl (by decide +kernel) (Nat.le_of_ble_eq_true rfl) ?_
  refine ev_aload_n i_Md_adultWords_0 rfl ?_
  refine ev_iload_n i_Md_adultWords_1 rfl ?_
  refine ev_callS1 i_Md_adultWords_2 rfl (Nat.le_of_ble_eq_true rfl) (m_isTable.2 hx) ?_
  refine ev_if_neN i_Md_adultWords_5 (by omega) (fun hc_5 => ?_) (fun hc_5 => ?_)
  · skip
    exfalso; omega
  · skip
    refine ev_iconstN (v := 1) i_Md_adultWords_8 (by decide) ?_
    refine ev_goto i_Md_adultWords_9 ?_
    refine ev_mput_thrown i_Md_adultWords_26 h0 ?_
    refine ev_aload_n i_Md_adultWords_29 rfl ?_
    refine ev_get i_Md_adultWords_30 o1 rfl ?_
    refine ev_if_leN i_Md_adultWords_33 (by omega) (fun hc_33 => ?_) (fun hc_33 => ?_)
    · skip
      exfalso; omega
    · skip
      refine ev_iconstN (v := 0) i_Md_adultWords_36 (by decide) ?_
      exact ev_iret i_Md_adultWords_37 rfl (by first | rfl | decide)
theorem m_adWords_2 {scr : Scr} {l : Launch} {S : Sto} {σ : Sg} {th : Nat} {t : Nat} {y : Int32} (h : MInv th σ S) (ht : t < 3) (hy : ¬ inR 5 y) : MRun scr l 6 M_Md_adultWords [.ref 105, .int (nI t), .int y] S (some (.int (nI 0))) 2 σ := by
  refine MRun.th h (fun dr mo sc h0 d => ?_)
  have o1 : (S.put 105 (mO 2 σ dr mo sc)).1[105]? = _ := put_self h0
  refine MetA.of rfl (by decide +kernel) (Nat.le_of_ble_eq_true rfl) ?_
  refine ev_aload_n i_Md_adultWords_0 rfl ?_
  refine ev_iload_n i_Md_adultWords_1 rfl ?_
  refine ev_callS1 i_Md_adultWords_2 rfl (Nat.le_of_ble_eq_true rfl) (m_isTable.1 (inR.of (by decide) ht)) ?_
  refine ev_if_neN i_Md_adultWords_5 (by omega) (fun hc_5 => ?_) (fun hc_5 => ?_)
  · skip
    refine ev_iload_n i_Md_adultWords_12 rfl ?_
    refine ev_iconstN (v := 0) i_Md_adultWords_13 (by decide) ?_
    refine ev_iconstN (v := 4) i_Md_adultWords_14 (by decide) ?_
    refine ev_callS3 i_Md_adultWords_15 rfl (Nat.le_of_ble_eq_true rfl) (m_in.2 (fun z => hy ((inR_inB (by decide) (by decide)).mpr z))) ?_
    refine ev_if_neN i_Md_adultWords_18 (by omega) (fun hc_18 => ?_) (fun hc_18 => ?_)
    · skip
      exfalso; omega
    · skip
      refine ev_iconstN (v := 2) i_Md_adultWords_21 (by decide) ?_
      refine ev_goto i_Md_adultWords_22 ?_
      refine ev_mput_thrown i_Md_adultWords_26 h0 ?_
      refine ev_aload_n i_Md_adultWords_29 rfl ?_
      refine ev_get i_Md_adultWords_30 o1 rfl ?_
      refine ev_if_leN i_Md_adultWords_33 (by omega) (fun hc_33 => ?_) (fun hc_33 => ?_)
      · skip
        exfalso; omega
      · skip
        refine ev_iconstN (v := 0) i_Md_adultWords_36 (by decide) ?_
        exact ev_iret i_Md_adultWords_37 rfl (by first | rfl | decide)
  · skip
    exfalso; omega
theorem lp_mWords {scr : Scr} {l : Launch} {S : Sto} {σ : Sg} {t n : Nat} (ht : t < 3) (hn : n ≤ 4) : ∀ (k c : Nat), c + k = 6 ^ n → ∀ (u6 u7 : Option Value) (S2 : Sto), MInv 0 σ S2 → (∃ f, S2.1[125]? = some (aI 61 f) ∧ f 0 = nI n) → Fr trK S S2 → ∃ S3, (∀ d, Ev scr l (d + 6) M_Md_adultWords 73 [some (.ref 105), some (.int (nI t)), some (.int (nI n)), some (.int (nI (6 ^ n))), some (.int (nI (sumN (fun c => bI (adB (σ.2.1.1 t) (dg n c))) c))), some (.int (nI c)), u6, u7] [] S2 (.inl (some (.int (nI (sumN (fun c => bI (adB (σ.2.1.1 t) (dg n c))) (6 ^ n))))), S3)) ∧ MInv 0 σ S3 ∧ Fr trK S S3 := by
  have h6 := pow6 hn
  have hsl : ∀ c, c ≤ 6 ^ n → (sumN (fun c => bI (adB (σ.2.1.1 t) (dg n c))) c) ≤ 1296 := fun c hc => Nat.le_trans (sumN_le (b := 1) (fun i _ => bI_le _)) (by omega)
  intro k
  induction k with
  | zero =>
    intro c hc u6 u7 S2 h2 hf hF
    have z : c = 6 ^ n := by omega
    rw [z]
    refine ⟨S2, fun d => ?_, h2, hF⟩
    refine ev_iload i_Md_adultWords_73 rfl ?_
    refine ev_iload_n i_Md_adultWords_75 rfl ?_
    refine ev_icmp_geN i_Md_adultWords_76 (by omega) (by omega) (fun hc_76 => ?_) (fun hc_76 => ?_)
    · skip
      refine ev_iload i_Md_adultWords_144 rfl ?_
      exact ev_iret i_Md_adultWords_146 rfl (by first | rfl | decide)
    · skip
      exfalso; omega
  | succ k ih =>
    intro c hc u6 u7 S2 h2 hf hF
    obtain ⟨f, t2, f0⟩ := hf
    obtain ⟨dr, mo, sc, o2⟩ := h2.get
    have hrow := digF_row (c := c) (show n ≤ 60 by omega) f0
    have h3 := h2.putTrial (f' := digF f n c n) t2
    have o3 : (S2.put 125 (aI 61 (digF f n c n))).1[105]? = _ := put_at o2 (by decide)
    obtain ⟨S4, m4, ⟨x4, s4⟩, F4⟩ := m_adult (scr := scr) (l := l) ht (by decide) (h3.st3t o3 ht ⟨_, put_self t2, hrow⟩)
    have h4 : MInv 0 σ S4 := h3.ofst F4 s4
    have t4 := F4.at (put_self (c := aI 61 (digF f n c n)) t2) (by decide)
    obtain ⟨S5, m5, r5⟩ := ih (c + 1) (by omega) (some (.int (nI (c / 6 ^ n)))) (some (.int (nI 0))) S4 h4 ⟨_, t4, by unfold digF; rw [if_neg (by omega)]; exact f0⟩ ((hF.tr (Fr.put _ _ (by simp))).tr (F4.mono (by simp)))
    refine ⟨S5, fun d => ?_, r5⟩
    have := hsl c (by omega)
    cases hb : adB (σ.2.1.1 t) (dg n c) with
    | false =>
      have eb : (sumN (fun c => bI (adB (σ.2.1.1 t) (dg n c))) (c + 1)) = (sumN (fun c => bI (adB (σ.2.1.1 t) (dg n c))) c) + 0 := by show (sumN (fun c => bI (adB (σ.2.1.1 t) (dg n c))) c) + bI (adB (σ.2.1.1 t) (dg n c)) = _; rw [hb]; rfl
      refine ev_iload i_Md_adultWords_73 rfl ?_
      refine ev_iload_n i_Md_adultWords_75 rfl ?_
      refine ev_icmp_geN i_Md_adultWords_76 (by omega) (by omega) (fun hc_76 => ?_) (fun hc_76 => ?_)
      · skip
        exfalso; omega
      · skip
        refine ev_iload i_Md_adultWords_79 rfl ?_
        refine ev_ist_6 i_Md_adultWords_81 rfl ?_
        refine ev_iload_n i_Md_adultWords_83 rfl ?_
        refine ev_ist_7 i_Md_adultWords_84 rfl ?_
        refine ev_eqS (S1 := S2.put 125 (aI 61 (digF f n c 0))) (by rw [digF_0]; exact put_same t2) ?_
        refine ev_eqL (L1 := [some (.ref 105), some (.int (nI t)), some (.int (nI n)), some (.int (nI (6 ^ n))), some (.int (nI (sumN (fun c => bI (adB (σ.2.1.1 t) (dg n c))) c))), some (.int (nI c)), some (.int (nI (c / 6 ^ 0))), some (.int (nI (n - 0)))]) (by rw [Nat.pow_zero, Nat.div_one, Nat.sub_zero]) ?_
        refine ev_loop (n := n) (fun s => [some (.ref 105), some (.int (nI t)), some (.int (nI n)), some (.int (nI (6 ^ n))), some (.int (nI (sumN (fun c => bI (adB (σ.2.1.1 t) (dg n c))) c))), some (.int (nI c)), some (.int (nI (c / 6 ^ s))), some (.int (nI (n - s)))]) (fun s => (S2.put 125 (aI 61 (digF f n c s)))) (fun s hs ks => ?_) ?_
        · try dsimp only at ks ⊢
          have hcs : c / 6 ^ s ≤ c := Nat.div_le_self _ _
          refine ev_iload i_Md_adultWords_86 rfl ?_
          refine ev_if_leN i_Md_adultWords_88 (by omega) (fun hc_88 => ?_) (fun hc_88 => ?_)
          · skip
            exfalso; omega
          · skip
            refine ev_aload_n i_Md_adultWords_91 rfl ?_
            refine ev_get i_Md_adultWords_92 (put_at o2 (by decide)) rfl ?_
            refine ev_iload i_Md_adultWords_95 rfl ?_
            refine ev_iload i_Md_adultWords_97 rfl ?_
            refine ev_bipushN (v := 6) i_Md_adultWords_99 (by decide) ?_
            refine ev_iremN i_Md_adultWords_101 (by decide) (by omega) (by decide) ?_
            refine ev_iastN i_Md_adultWords_102 (put_self t2) (by omega) (by decide) ?_
            rw [put_put, digF_s hs]
            refine ev_iload i_Md_adultWords_103 rfl ?_
            refine ev_bipushN (v := 6) i_Md_adultWords_105 (by decide) ?_
            refine ev_idivN i_Md_adultWords_107 (by decide) (by omega) (by decide) ?_
            rw [Nat.div_div_eq_div_mul, ← Nat.pow_succ]
            refine ev_ist_6 i_Md_adultWords_108 rfl ?_
            refine ev_iinc_7 i_Md_adultWords_110 rfl ?_
            rw [nI_dec (by omega), show n - s - 1 = n - (s + 1) from by omega]
            refine ev_goto i_Md_adultWords_113 ?_
            exact ks
        · try dsimp only
          rw [Nat.sub_self]
          refine ev_iload i_Md_adultWords_86 rfl ?_
          refine ev_if_leN i_Md_adultWords_88 (by omega) (fun hc_88 => ?_) (fun hc_88 => ?_)
          · skip
            refine ev_iload i_Md_adultWords_116 rfl ?_
            refine ev_aload_n i_Md_adultWords_118 rfl ?_
            refine ev_iload_n i_Md_adultWords_119 rfl ?_
            refine ev_aload_n i_Md_adultWords_120 rfl ?_
            refine ev_get i_Md_adultWords_121 o3 rfl ?_
            refine ev_callV2 i_Md_adultWords_124 rfl o3 (Nat.le_of_ble_eq_true rfl) (m4 _) ?_
            rw [hb, bI_f]
            refine ev_if_eqN i_Md_adultWords_127 (by omega) (fun hc_127 => ?_) (fun hc_127 => ?_)
            · skip
              refine ev_iconstN (v := 0) i_Md_adultWords_134 (by decide) ?_
              first | refine ev_iaddN i_Md_adultWords_135 ?_ | refine ev_iadd i_Md_adultWords_135 ?_
              refine ev_ist_4 i_Md_adultWords_136 rfl ?_
              refine ev_iincN_5 (c := 1) i_Md_adultWords_138 (by decide) rfl ?_
              refine ev_goto i_Md_adultWords_141 ?_
              have m5 := m5 d
              rw [eb] at m5
              exact m5
            · skip
              exfalso; omega
          · skip
            exfalso; omega
    | true =>
      have eb : (sumN (fun c => bI (adB (σ.2.1.1 t) (dg n c))) (c + 1)) = (sumN (fun c => bI (adB (σ.2.1.1 t) (dg n c))) c) + 1 := by show (sumN (fun c => bI (adB (σ.2.1.1 t) (dg n c))) c) + bI (adB (σ.2.1.1 t) (dg n c)) = _; rw [hb]; rfl
      refine ev_iload i_Md_adultWords_73 rfl ?_
      refine ev_iload_n i_Md_adultWords_75 rfl ?_
      refine ev_icmp_geN i_Md_adultWords_76 (by omega) (by omega) (fun hc_76 => ?_) (fun hc_76 => ?_)
      · skip
        exfalso; omega
      · skip
        refine ev_iload i_Md_adultWords_79 rfl ?_
        refine ev_ist_6 i_Md_adultWords_81 rfl ?_
        refine ev_iload_n i_Md_adultWords_83 rfl ?_
        refine ev_ist_7 i_Md_adultWords_84 rfl ?_
        refine ev_eqS (S1 := S2.put 125 (aI 61 (digF f n c 0))) (by rw [digF_0]; exact put_same t2) ?_
        refine ev_eqL (L1 := [some (.ref 105), some (.int (nI t)), some (.int (nI n)), some (.int (nI (6 ^ n))), some (.int (nI (sumN (fun c => bI (adB (σ.2.1.1 t) (dg n c))) c))), some (.int (nI c)), some (.int (nI (c / 6 ^ 0))), some (.int (nI (n - 0)))]) (by rw [Nat.pow_zero, Nat.div_one, Nat.sub_zero]) ?_
        refine ev_loop (n := n) (fun s => [some (.ref 105), some (.int (nI t)), some (.int (nI n)), some (.int (nI (6 ^ n))), some (.int (nI (sumN (fun c => bI (adB (σ.2.1.1 t) (dg n c))) c))), some (.int (nI c)), some (.int (nI (c / 6 ^ s))), some (.int (nI (n - s)))]) (fun s => (S2.put 125 (aI 61 (digF f n c s)))) (fun s hs ks => ?_) ?_
        · try dsimp only at ks ⊢
          have hcs : c / 6 ^ s ≤ c := Nat.div_le_self _ _
          refine ev_iload i_Md_adultWords_86 rfl ?_
          refine ev_if_leN i_Md_adultWords_88 (by omega) (fun hc_88 => ?_) (fun hc_88 => ?_)
          · skip
            exfalso; omega
          · skip
            refine ev_aload_n i_Md_adultWords_91 rfl ?_
            refine ev_get i_Md_adultWords_92 (put_at o2 (by decide)) rfl ?_
            refine ev_iload i_Md_adultWords_95 rfl ?_
            refine ev_iload i_Md_adultWords_97 rfl ?_
            refine ev_bipushN (v := 6) i_Md_adultWords_99 (by decide) ?_
            refine ev_iremN i_Md_adultWords_101 (by decide) (by omega) (by decide) ?_
            refine ev_iastN i_Md_adultWords_102 (put_self t2) (by omega) (by decide) ?_
            rw [put_put, digF_s hs]
            refine ev_iload i_Md_adultWords_103 rfl ?_
            refine ev_bipushN (v := 6) i_Md_adultWords_105 (by decide) ?_
            refine ev_idivN i_Md_adultWords_107 (by decide) (by omega) (by decide) ?_
            rw [Nat.div_div_eq_div_mul, ← Nat.pow_succ]
            refine ev_ist_6 i_Md_adultWords_108 rfl ?_
            refine ev_iinc_7 i_Md_adultWords_110 rfl ?_
            rw [nI_dec (by omega), show n - s - 1 = n - (s + 1) from by omega]
            refine ev_goto i_Md_adultWords_113 ?_
            exact ks
        · try dsimp only
          rw [Nat.sub_self]
          refine ev_iload i_Md_adultWords_86 rfl ?_
          refine ev_if_leN i_Md_adultWords_88 (by omega) (fun hc_88 => ?_) (fun hc_88 => ?_)
          · skip
            refine ev_iload i_Md_adultWords_116 rfl ?_
            refine ev_aload_n i_Md_adultWords_118 rfl ?_
            refine ev_iload_n i_Md_adultWords_119 rfl ?_
            refine ev_aload_n i_Md_adultWords_120 rfl ?_
            refine ev_get i_Md_adultWords_121 o3 rfl ?_
            refine ev_callV2 i_Md_adultWords_124 rfl o3 (Nat.le_of_ble_eq_true rfl) (m4 _) ?_
            rw [hb, bI_t]
            refine ev_if_eqN i_Md_adultWords_127 (by omega) (fun hc_127 => ?_) (fun hc_127 => ?_)
            · skip
              exfalso; omega
            · skip
              refine ev_iconstN (v := 1) i_Md_adultWords_130 (by decide) ?_
              refine ev_goto i_Md_adultWords_131 ?_
              first | refine ev_iaddN i_Md_adultWords_135 ?_ | refine ev_iadd i_Md_adultWords_135 ?_
              refine ev_ist_4 i_Md_adultWords_136 rfl ?_
              refine ev_iincN_5 (c := 1) i_Md_adultWords_138 (by decide) rfl ?_
              refine ev_goto i_Md_adultWords_141 ?_
              have m5 := m5 d
              rw [eb] at m5
              exact m5
          · skip
            exfalso; omega
theorem m_adWords {scr : Scr} {l : Launch} {S : Sto} {σ : Sg} {th : Nat} {t n : Nat} (h : MInv th σ S) (ht : t < 3) (hn : n < 5) : MRun scr l 6 M_Md_adultWords [.ref 105, .int (nI t), .int (nI n)] S (some (.int (nI (cntA (σ.2.1.1 t) n [])))) 0 σ := by
  obtain ⟨dr, mo, sc, h0⟩ := h.get
  obtain ⟨ft, t1⟩ := h.trial
  rw [cntA_dg]
  have o1 : (S.put 105 (mO 0 σ dr mo sc)).1[105]? = _ := put_self h0
  have h1 : MInv 0 σ (S.put 105 (mO 0 σ dr mo sc)) := h.th h0
  have t2 : (S.put 105 (mO 0 σ dr mo sc)).1[125]? = _ := put_at t1 (by decide)
  have h2 := h1.putTrial (f' := upd ft 0 (nI n)) t2
  have hF : Fr trK S ((S.put 105 (mO 0 σ dr mo sc)).put 125 (aI 61 (upd ft 0 (nI n)))) := (Fr.put _ _ (by simp)).tr (Fr.put _ _ (by simp))
  obtain ⟨S3, m3, i3, f3⟩ := lp_mWords (scr := scr) (l := l) (S := S) ht (show n ≤ 4 by omega) (6 ^ n) 0 (by omega) none none _ h2 ⟨_, put_self t2, upd_self⟩ hF
  refine ⟨S3, fun d => ?_, i3, f3.m (by decide)⟩
  refine MetA.of rfl (by decide +kernel) (Nat.le_of_ble_eq_true rfl) ?_
  refine ev_aload_n i_Md_adultWords_0 rfl ?_
  refine ev_iload_n i_Md_adultWords_1 rfl ?_
  refine ev_callS1 i_Md_adultWords_2 rfl (Nat.le_of_ble_eq_true rfl) (m_isTable.1 (inR.of (by decide) ht)) ?_
  refine ev_if_neN i_Md_adultWords_5 (by omega) (fun hc_5 => ?_) (fun hc_5 => ?_)
  · skip
    refine ev_iload_n i_Md_adultWords_12 rfl ?_
    refine ev_iconstN (v := 0) i_Md_adultWords_13 (by decide) ?_
    refine ev_iconstN (v := 4) i_Md_adultWords_14 (by decide) ?_
    refine ev_callS3 i_Md_adultWords_15 rfl (Nat.le_of_ble_eq_true rfl) (m_in.1 ((inR_inB (n := 5) (by decide) (by decide)).mp (inR.of (by decide) hn))) ?_
    refine ev_if_neN i_Md_adultWords_18 (by omega) (fun hc_18 => ?_) (fun hc_18 => ?_)
    · skip
      refine ev_iconstN (v := 0) i_Md_adultWords_25 (by decide) ?_
      refine ev_mput_thrown i_Md_adultWords_26 h0 ?_
      refine ev_aload_n i_Md_adultWords_29 rfl ?_
      refine ev_get i_Md_adultWords_30 o1 rfl ?_
      refine ev_if_leN i_Md_adultWords_33 (by omega) (fun hc_33 => ?_) (fun hc_33 => ?_)
      · skip
        refine ev_iconstN (v := 1) i_Md_adultWords_38 (by decide) ?_
        refine ev_ist_n_3 i_Md_adultWords_39 rfl ?_
        refine ev_iconstN (v := 0) i_Md_adultWords_40 (by decide) ?_
        refine ev_ist_4 i_Md_adultWords_41 rfl ?_
        refine ev_loop (n := n) (fun i => [some (.ref 105), some (.int (nI t)), some (.int (nI n)), some (.int (nI (6 ^ i))), some (.int (nI i)), none, none, none]) (fun i => (S.put 105 (mO 0 σ dr mo sc))) (fun i hi ki => ?_) ?_
        · try dsimp only at ki ⊢
          refine ev_iload i_Md_adultWords_43 rfl ?_
          refine ev_iload_n i_Md_adultWords_45 rfl ?_
          refine ev_icmp_geN i_Md_adultWords_46 (by omega) (by omega) (fun hc_46 => ?_) (fun hc_46 => ?_)
          · skip
            exfalso; omega
          · skip
            refine ev_iload_n i_Md_adultWords_49 rfl ?_
            refine ev_bipushN (v := 6) i_Md_adultWords_50 (by decide) ?_
            refine ev_imulN i_Md_adultWords_52 ?_
            rw [← Nat.pow_succ]
            refine ev_ist_n_3 i_Md_adultWords_53 rfl ?_
            refine ev_iincN_4 (c := 1) i_Md_adultWords_54 (by decide) rfl ?_
            refine ev_goto i_Md_adultWords_57 ?_
            exact ki
        · try dsimp only
          refine ev_iload i_Md_adultWords_43 rfl ?_
          refine ev_iload_n i_Md_adultWords_45 rfl ?_
          refine ev_icmp_geN i_Md_adultWords_46 (by omega) (by omega) (fun hc_46 => ?_) (fun hc_46 => ?_)
          · skip
            refine ev_iconstN (v := 0) i_Md_adultWords_60 (by decide) ?_
            refine ev_ist_4 i_Md_adultWords_61 rfl ?_
            refine ev_aload_n i_Md_adultWords_63 rfl ?_
            refine ev_get i_Md_adultWords_64 o1 rfl ?_
            refine ev_iconstN (v := 0) i_Md_adultWords_67 (by decide) ?_
            refine ev_iload_n i_Md_adultWords_68 rfl ?_
            refine ev_iastN i_Md_adultWords_69 (put_at t1 (by decide)) (by decide) (by decide) ?_
            refine ev_iconstN (v := 0) i_Md_adultWords_70 (by decide) ?_
            refine ev_ist_5 i_Md_adultWords_71 rfl ?_
            exact m3 d
          · skip
            exfalso; omega
      · skip
        exfalso; omega
    · skip
      exfalso; omega
  · skip
    exfalso; omega

/-! the class Recurrence: Berlekamp and Massey -/
theorem ff_add_v (a b : FF) : (a + b).val = (a.val + b.val) % 10007 := Fin.val_add a b
theorem ff_mul_v (a b : FF) : (a * b).val = a.val * b.val % 10007 := Fin.val_mul a b
theorem ff_mac (a b c : FF) : (a.val + b.val * c.val) % 10007 = (a + b * c).val := by
  rw [ff_add_v, ff_mul_v, Nat.add_mod_mod]
theorem ff_sub_v (a b : FF) : (a.val + 10007 - b.val) % 10007 = (a - b).val := by
  rw [Fin.val_sub]
  have := b.isLt
  rw [show a.val + 10007 - b.val = 10007 - b.val + a.val by omega]
theorem ff_neg_v (a : FF) : (10007 - a.val) % 10007 = (- a).val := rfl
theorem ff_mul_lt (a b : FF) : a.val * b.val < 2 ^ 30 := by
  have h1 := a.isLt
  have h2 := b.isLt
  have h3 : a.val * b.val ≤ 10006 * 10006 := Nat.mul_le_mul (by omega) (by omega)
  omega
theorem and1 {n : Nat} (h : n < 2 ^ 31) : nI n &&& nI 1 = nI (n % 2) := by
  apply Int32.toBitVec_inj.mp
  show BitVec.ofNat 32 n &&& BitVec.ofNat 32 1 = BitVec.ofNat 32 (n % 2)
  apply BitVec.eq_of_toNat_eq
  rw [BitVec.toNat_and, BitVec.toNat_ofNat, BitVec.toNat_ofNat, BitVec.toNat_ofNat, Nat.mod_eq_of_lt (show n < 2 ^ 32 by omega), Nat.mod_eq_of_lt (show 1 < 2 ^ 32 by omega), Nat.mod_eq_of_lt (show n % 2 < 2 ^ 32 by omega)]
  exact Nat.and_one_is_mod n
theorem shr1_all : ∀ i, i < 128 → ∀ j, j < 128 → nI (128 * i + j) >>> (nI 1 &&& 31) = nI ((128 * i + j) / 2) := by decide +kernel
theorem shr1 : ∀ n, n < 16384 → nI n >>> (nI 1 &&& 31) = nI (n / 2) := by
  intro n h
  have := shr1_all (n / 128) (by omega) (n % 128) (by omega)
  rw [show 128 * (n / 128) + n % 128 = n by omega] at this
  exact this
theorem lp_inv {scr : Scr} {l : Launch} {S : Sto} {d : Nat} {u0 : Int32} : ∀ (k e p s : Nat), e < 2 ^ k → k ≤ 14 → p < 10007 → s < 10007 → Ev scr l d M_Re_inverse 8 [some (.int u0), some (.int (nI p)), some (.int (nI s)), some (.int (nI e))] [] S (.inl (some (.int (nI (fpw k p s e)))), S) := by
  intro k
  induction k with
  | zero =>
    intro e p s he _ hp hs
    have z : e = 0 := by simpa using he
    subst z
    unfold fpw
    refine ev_iload_n i_Re_inverse_8 rfl ?_
    refine ev_if_leN i_Re_inverse_9 (by omega) (fun hc_9 => ?_) (fun hc_9 => ?_)
    · skip
      refine ev_iload_n i_Re_inverse_41 rfl ?_
      exact ev_iret i_Re_inverse_42 rfl (by first | rfl | decide)
    · skip
      exfalso; omega
  | succ k ih =>
    intro e p s he hk hp hs
    have hpow : 2 ^ (k + 1) ≤ 2 ^ 14 := Nat.pow_le_pow_right (by decide) hk
    have he14 : e < 16384 := by omega
    have hps : p * s < 2 ^ 31 := by
      have : p * s ≤ 10006 * 10006 := Nat.mul_le_mul (by omega) (by omega)
      omega
    have hss : s * s < 2 ^ 31 := by
      have : s * s ≤ 10006 * 10006 := Nat.mul_le_mul (by omega) (by omega)
      omega
    by_cases z : e = 0
    · subst z
      rw [fpw_0]
      refine ev_iload_n i_Re_inverse_8 rfl ?_
      refine ev_if_leN i_Re_inverse_9 (by omega) (fun hc_9 => ?_) (fun hc_9 => ?_)
      · skip
        refine ev_iload_n i_Re_inverse_41 rfl ?_
        exact ev_iret i_Re_inverse_42 rfl (by first | rfl | decide)
      · skip
        exfalso; omega
    · unfold fpw
      by_cases q : e % 2 = 1
      · rw [if_pos q]
        have ihk := ih (e / 2) (p * s % 10007) (s * s % 10007) (by omega) (by omega) (Nat.mod_lt _ (by decide)) (Nat.mod_lt _ (by decide))
        refine ev_iload_n i_Re_inverse_8 rfl ?_
        refine ev_if_leN i_Re_inverse_9 (by omega) (fun hc_9 => ?_) (fun hc_9 => ?_)
        · skip
          exfalso; omega
        · skip
          refine ev_iload_n i_Re_inverse_12 rfl ?_
          refine ev_iconstN (v := 1) i_Re_inverse_13 (by decide) ?_
          refine ev_iand i_Re_inverse_14 ?_
          rw [and1 (by omega)]
          refine ev_if_eqN i_Re_inverse_15 (by omega) (fun hc_15 => ?_) (fun hc_15 => ?_)
          · skip
            exfalso; omega
          · skip
            refine ev_iload_n i_Re_inverse_18 rfl ?_
            refine ev_iload_n i_Re_inverse_19 rfl ?_
            first | refine ev_imulN i_Re_inverse_20 ?_ | refine ev_imul i_Re_inverse_20 ?_
            refine ev_sipushN (v := 10007) i_Re_inverse_21 (by decide) ?_
            refine ev_iremN i_Re_inverse_24 (by decide) hps (by decide) ?_
            refine ev_ist_n_1 i_Re_inverse_25 rfl ?_
            refine ev_iload_n i_Re_inverse_26 rfl ?_
            refine ev_iload_n i_Re_inverse_27 rfl ?_
            first | refine ev_imulN i_Re_inverse_28 ?_ | refine ev_imul i_Re_inverse_28 ?_
            refine ev_sipushN (v := 10007) i_Re_inverse_29 (by decide) ?_
            refine ev_iremN i_Re_inverse_32 (by decide) hss (by decide) ?_
            refine ev_ist_n_2 i_Re_inverse_33 rfl ?_
            refine ev_iload_n i_Re_inverse_34 rfl ?_
            refine ev_iconstN (v := 1) i_Re_inverse_35 (by decide) ?_
            refine ev_ishr i_Re_inverse_36 ?_
            rw [shr1 e (by omega)]
            refine ev_ist_n_3 i_Re_inverse_37 rfl ?_
            refine ev_goto i_Re_inverse_38 ?_
            exact ihk
      · rw [if_neg q]
        have ihk := ih (e / 2) p (s * s % 10007) (by omega) (by omega) hp (Nat.mod_lt _ (by decide))
        refine ev_iload_n i_Re_inverse_8 rfl ?_
        refine ev_if_leN i_Re_inverse_9 (by omega) (fun hc_9 => ?_) (fun hc_9 => ?_)
        · skip
          exfalso; omega
        · skip
          refine ev_iload_n i_Re_inverse_12 rfl ?_
          refine ev_iconstN (v := 1) i_Re_inverse_13 (by decide) ?_
          refine ev_iand i_Re_inverse_14 ?_
          rw [and1 (by omega)]
          refine ev_if_eqN i_Re_inverse_15 (by omega) (fun hc_15 => ?_) (fun hc_15 => ?_)
          · skip
            refine ev_iload_n i_Re_inverse_26 rfl ?_
            refine ev_iload_n i_Re_inverse_27 rfl ?_
            first | refine ev_imulN i_Re_inverse_28 ?_ | refine ev_imul i_Re_inverse_28 ?_
            refine ev_sipushN (v := 10007) i_Re_inverse_29 (by decide) ?_
            refine ev_iremN i_Re_inverse_32 (by decide) hss (by decide) ?_
            refine ev_ist_n_2 i_Re_inverse_33 rfl ?_
            refine ev_iload_n i_Re_inverse_34 rfl ?_
            refine ev_iconstN (v := 1) i_Re_inverse_35 (by decide) ?_
            refine ev_ishr i_Re_inverse_36 ?_
            rw [shr1 e (by omega)]
            refine ev_ist_n_3 i_Re_inverse_37 rfl ?_
            refine ev_goto i_Re_inverse_38 ?_
            exact ihk
          · skip
            exfalso; omega
theorem r_inv {scr : Scr} {l : Launch} {S : Sto} {d : Nat} (a : FF) : MetA scr l d M_Re_inverse [.int (nI a.val)] S (.inl (some (.int (nI (ivF a).val))), S) := by
  rw [ivF_val]
  refine MetA.of rfl (by decide +kernel) (Nat.le_of_ble_eq_true rfl) ?_
  refine ev_iconstN (v := 1) i_Re_inverse_0 (by decide) ?_
  refine ev_ist_n_1 i_Re_inverse_1 rfl ?_
  refine ev_iload_n i_Re_inverse_2 rfl ?_
  refine ev_ist_n_2 i_Re_inverse_3 rfl ?_
  refine ev_sipushN (v := 10005) i_Re_inverse_4 (by decide) ?_
  refine ev_ist_n_3 i_Re_inverse_7 rfl ?_
  exact lp_inv 14 10005 1 a.val (by decide) (by decide) (by decide) a.isLt
theorem r_miss {scr : Scr} {l : Launch} {S : Sto} {n L sh p2 p3 c1 c2 : Nat} {C s : Nat → FF} {b : Int32} {ge gc : Nat → Int32} (ho : S.1[66]? = some (reO c1 c2 p2 p3 (nI L) (nI sh) b)) (he : S.1[67]? = some (aI 12 (kG (fun j => (s j).val) ge 12))) (hc : S.1[70]? = some (aI 13 (kG (fun j => (C j).val) gc 13))) (h0 : C 0 = 1) (hC : ∀ i, L < i → C i = 0) (hn : n < 12) (hL : L ≤ n) {d : Nat} : MetA scr l d M_Re_missAt [.ref 66, .int (nI n)] S (.inl (some (.int (nI (cv C s n).val))), S) := by
  rw [show cv C s n = sumF (fun j => C j * s (n - j)) (L + 1) from sumF_cut (by omega) (fun i h1 h2 => by rw [hC i (by omega)]; grind)]
  refine MetA.of rfl (by decide +kernel) (Nat.le_of_ble_eq_true rfl) ?_
  refine ev_aload_n i_Re_missAt_0 rfl ?_
  refine ev_get i_Re_missAt_1 ho rfl ?_
  refine ev_iload_n i_Re_missAt_4 rfl ?_
  refine ev_ialdN i_Re_missAt_5 he hn (by decide) ?_
  rw [kN_at hn, show s n = sumF (fun j => C j * s (n - j)) (0 + 1) from by show s n = 0 + C 0 * s (n - 0); rw [h0, Nat.sub_zero]; grind]
  refine ev_ist_n_2 i_Re_missAt_6 rfl ?_
  refine ev_iconstN (v := 1) i_Re_missAt_7 (by decide) ?_
  refine ev_ist_n_3 i_Re_missAt_8 rfl ?_
  refine ev_loop (n := L) (fun i => [some (.ref 66), some (.int (nI n)), some (.int (nI (sumF (fun j => C j * s (n - j)) (i + 1)).val)), some (.int (nI (i + 1)))]) (fun i => S) (fun i hi ki => ?_) ?_
  · try dsimp only at ki ⊢
    refine ev_iload_n i_Re_missAt_9 rfl ?_
    refine ev_aload_n i_Re_missAt_10 rfl ?_
    refine ev_get i_Re_missAt_11 ho rfl ?_
    refine ev_icmp_gtN i_Re_missAt_14 (by omega) (by omega) (fun hc_14 => ?_) (fun hc_14 => ?_)
    · skip
      exfalso; omega
    · skip
      refine ev_iload_n i_Re_missAt_17 rfl ?_
      refine ev_iload_n i_Re_missAt_18 rfl ?_
      refine ev_icmp_gtN i_Re_missAt_19 (by omega) (by omega) (fun hc_19 => ?_) (fun hc_19 => ?_)
      · skip
        exfalso; omega
      · skip
        refine ev_iload_n i_Re_missAt_22 rfl ?_
        refine ev_aload_n i_Re_missAt_23 rfl ?_
        refine ev_get i_Re_missAt_24 ho rfl ?_
        refine ev_iload_n i_Re_missAt_27 rfl ?_
        refine ev_ialdN i_Re_missAt_28 hc (by omega) (by decide) ?_
        rw [kN_at (by omega)]
        refine ev_aload_n i_Re_missAt_29 rfl ?_
        refine ev_get i_Re_missAt_30 ho rfl ?_
        refine ev_iload_n i_Re_missAt_33 rfl ?_
        refine ev_iload_n i_Re_missAt_34 rfl ?_
        first | refine ev_isubN i_Re_missAt_35 (by omega) ?_ | refine ev_isub i_Re_missAt_35 ?_
        refine ev_ialdN i_Re_missAt_36 he (by omega) (by decide) ?_
        rw [kN_at (by omega)]
        first | refine ev_imulN i_Re_missAt_37 ?_ | refine ev_imul i_Re_missAt_37 ?_
        first | refine ev_iaddN i_Re_missAt_38 ?_ | refine ev_iadd i_Re_missAt_38 ?_
        refine ev_sipushN (v := 10007) i_Re_missAt_39 (by decide) ?_
        refine ev_iremN i_Re_missAt_42 (by decide) (by have := ff_mul_lt (C (i + 1)) (s (n - (i + 1))); have := (sumF (fun j => C j * s (n - j)) (i + 1)).isLt; omega) (by decide) ?_
        rw [ff_mac]
        refine ev_ist_n_2 i_Re_missAt_43 rfl ?_
        refine ev_iincN_3 (c := 1) i_Re_missAt_44 (by decide) rfl ?_
        refine ev_goto i_Re_missAt_47 ?_
        exact ki
  · try dsimp only
    refine ev_iload_n i_Re_missAt_9 rfl ?_
    refine ev_aload_n i_Re_missAt_10 rfl ?_
    refine ev_get i_Re_missAt_11 ho rfl ?_
    refine ev_icmp_gtN i_Re_missAt_14 (by omega) (by omega) (fun hc_14 => ?_) (fun hc_14 => ?_)
    · skip
      refine ev_iload_n i_Re_missAt_50 rfl ?_
      exact ev_iret i_Re_missAt_51 rfl (by first | rfl | decide)
    · skip
      exfalso; omega
theorem lp_corr {scr : Scr} {l : Launch} {S : Sto} {n L sh p2 p3 c1 c2 : Nat} {C B : Nat → FF} {b m : FF} {gc gb gs : Nat → Int32} (hp : (p2 = 71 ∧ p3 = 72) ∨ (p2 = 72 ∧ p3 = 71)) (ho : S.1[66]? = some (reO c1 c2 p2 p3 (nI L) (nI sh) (nI b.val))) (hc : S.1[70]? = some (aI 13 (kG (fun j => (C j).val) gc 13))) (hb : S.1[p2]? = some (aI 13 (kG (fun j => (B j).val) gb 13))) (hs : S.1[p3]? = some (aI 13 gs)) (hn : n < 12) (hL : L ≤ n) (hsh : sh ≤ 13) {d : Nat} {r : Res} (hk : ∀ u5, Ev scr l (d + 1) M_Re_correct 106 [some (.ref 66), some (.int (nI n)), some (.int (nI m.val)), some (.int (nI (m * ivF b).val)), some (.int (nI (13 - sh))), u5] [] ((S.put p3 (aI 13 (kG (fun j => (C j).val) gs 13))).put 70 (aI 13 (kG (fun j => (if sh ≤ j ∧ j < sh + (13 - sh) then C j - (m * ivF b) * B (j - sh) else C j).val) gc 13))) r) : ∀ (k i : Nat), i + k = 13 - sh → ∀ u5, Ev scr l (d + 1) M_Re_correct 35 [some (.ref 66), some (.int (nI n)), some (.int (nI m.val)), some (.int (nI (m * ivF b).val)), some (.int (nI i)), u5] [] ((S.put p3 (aI 13 (kG (fun j => (C j).val) gs 13))).put 70 (aI 13 (kG (fun j => (if sh ≤ j ∧ j < sh + i then C j - (m * ivF b) * B (j - sh) else C j).val) gc 13))) r := by
  have hN : p3 ≠ 66 ∧ p3 ≠ 70 ∧ p3 ≠ p2 ∧ 70 ≠ p2 := by rcases hp with q | q <;> omega
  have o1 : (S.put p3 (aI 13 (kG (fun j => (C j).val) gs 13))).1[66]? = _ := put_at ho hN.1
  have c1 : (S.put p3 (aI 13 (kG (fun j => (C j).val) gs 13))).1[70]? = _ := put_at hc hN.2.1
  have b1 : (S.put p3 (aI 13 (kG (fun j => (C j).val) gs 13))).1[p2]? = _ := put_at hb hN.2.2.1
  intro k
  induction k with
  | zero =>
    intro i hik u5
    have z : i = 13 - sh := by omega
    subst z
    have oj : ((S.put p3 (aI 13 (kG (fun j => (C j).val) gs 13))).put 70 (aI 13 (kG (fun j => (if sh ≤ j ∧ j < sh + (13 - sh) then C j - (m * ivF b) * B (j - sh) else C j).val) gc 13))).1[66]? = _ := put_at o1 (by decide)
    have cj : ((S.put p3 (aI 13 (kG (fun j => (C j).val) gs 13))).put 70 (aI 13 (kG (fun j => (if sh ≤ j ∧ j < sh + (13 - sh) then C j - (m * ivF b) * B (j - sh) else C j).val) gc 13))).1[70]? = _ := put_self c1
    have bj : ((S.put p3 (aI 13 (kG (fun j => (C j).val) gs 13))).put 70 (aI 13 (kG (fun j => (if sh ≤ j ∧ j < sh + (13 - sh) then C j - (m * ivF b) * B (j - sh) else C j).val) gc 13))).1[p2]? = _ := put_at b1 hN.2.2.2
    refine ev_iload i_Re_correct_35 rfl ?_
    refine ev_aload_n i_Re_correct_37 rfl ?_
    refine ev_get i_Re_correct_38 oj rfl ?_
    first | refine ev_iaddN i_Re_correct_41 ?_ | refine ev_iadd i_Re_correct_41 ?_
    refine ev_aload_n i_Re_correct_42 rfl ?_
    refine ev_get i_Re_correct_43 oj rfl ?_
    refine ev_alenN i_Re_correct_46 cj ?_
    refine ev_icmp_geN i_Re_correct_47 (by omega) (by omega) (fun hc_47 => ?_) (fun hc_47 => ?_)
    · skip
      exact hk _
    · skip
      exfalso; omega
  | succ k ih =>
    intro i hik u5
    have oj : ((S.put p3 (aI 13 (kG (fun j => (C j).val) gs 13))).put 70 (aI 13 (kG (fun j => (if sh ≤ j ∧ j < sh + i then C j - (m * ivF b) * B (j - sh) else C j).val) gc 13))).1[66]? = _ := put_at o1 (by decide)
    have cj : ((S.put p3 (aI 13 (kG (fun j => (C j).val) gs 13))).put 70 (aI 13 (kG (fun j => (if sh ≤ j ∧ j < sh + i then C j - (m * ivF b) * B (j - sh) else C j).val) gc 13))).1[70]? = _ := put_self c1
    have bj : ((S.put p3 (aI 13 (kG (fun j => (C j).val) gs 13))).put 70 (aI 13 (kG (fun j => (if sh ≤ j ∧ j < sh + i then C j - (m * ivF b) * B (j - sh) else C j).val) gc 13))).1[p2]? = _ := put_at b1 hN.2.2.2
    refine ev_iload i_Re_correct_35 rfl ?_
    refine ev_aload_n i_Re_correct_37 rfl ?_
    refine ev_get i_Re_correct_38 oj rfl ?_
    first | refine ev_iaddN i_Re_correct_41 ?_ | refine ev_iadd i_Re_correct_41 ?_
    refine ev_aload_n i_Re_correct_42 rfl ?_
    refine ev_get i_Re_correct_43 oj rfl ?_
    refine ev_alenN i_Re_correct_46 cj ?_
    refine ev_icmp_geN i_Re_correct_47 (by omega) (by omega) (fun hc_47 => ?_) (fun hc_47 => ?_)
    · skip
      exfalso; omega
    · skip
      refine ev_iload_n i_Re_correct_50 rfl ?_
      refine ev_aload_n i_Re_correct_51 rfl ?_
      refine ev_get i_Re_correct_52 oj rfl ?_
      refine ev_iload i_Re_correct_55 rfl ?_
      refine ev_ialdN i_Re_correct_57 bj (by omega) (by decide) ?_
      rw [kN_at (by omega)]
      first | refine ev_imulN i_Re_correct_58 ?_ | refine ev_imul i_Re_correct_58 ?_
      refine ev_sipushN (v := 10007) i_Re_correct_59 (by decide) ?_
      refine ev_iremN i_Re_correct_62 (by decide) (by have := ff_mul_lt (m * ivF b) (B i); omega) (by decide) ?_
      rw [← ff_mul_v]
      refine ev_ist_5 i_Re_correct_63 rfl ?_
      refine ev_aload_n i_Re_correct_65 rfl ?_
      refine ev_get i_Re_correct_66 oj rfl ?_
      refine ev_iload i_Re_correct_69 rfl ?_
      refine ev_aload_n i_Re_correct_71 rfl ?_
      refine ev_get i_Re_correct_72 oj rfl ?_
      first | refine ev_iaddN i_Re_correct_75 ?_ | refine ev_iadd i_Re_correct_75 ?_
      refine ev_aload_n i_Re_correct_76 rfl ?_
      refine ev_get i_Re_correct_77 oj rfl ?_
      refine ev_iload i_Re_correct_80 rfl ?_
      refine ev_aload_n i_Re_correct_82 rfl ?_
      refine ev_get i_Re_correct_83 oj rfl ?_
      first | refine ev_iaddN i_Re_correct_86 ?_ | refine ev_iadd i_Re_correct_86 ?_
      refine ev_ialdN i_Re_correct_87 cj (by omega) (by decide) ?_
      rw [kN_at (by omega), if_neg (by omega)]
      refine ev_sipushN (v := 10007) i_Re_correct_88 (by decide) ?_
      first | refine ev_iaddN i_Re_correct_91 ?_ | refine ev_iadd i_Re_correct_91 ?_
      refine ev_iload i_Re_correct_92 rfl ?_
      refine ev_isubN i_Re_correct_94 (by have := ((m * ivF b) * B i).isLt; omega) ?_
      refine ev_sipushN (v := 10007) i_Re_correct_95 (by decide) ?_
      refine ev_iremN i_Re_correct_98 (by decide) (by have := (C (i + sh)).isLt; omega) (by decide) ?_
      rw [ff_sub_v]
      refine ev_iastN i_Re_correct_99 cj (by omega) (by decide) ?_
      rw [put_put, kN_upd (by omega), kN_congr (g := gc) (ch' := (fun j => (if sh ≤ j ∧ j < sh + (i + 1) then C j - (m * ivF b) * B (j - sh) else C j).val)) (fun j _ => by
        show (if j = i + sh then (C (i + sh) - (m * ivF b) * B i).val else (if sh ≤ j ∧ j < sh + i then C j - (m * ivF b) * B (j - sh) else C j).val) = (if sh ≤ j ∧ j < sh + (i + 1) then C j - (m * ivF b) * B (j - sh) else C j).val
        by_cases z : j = i + sh
        · rw [if_pos z, if_pos (by omega), z, show i + sh - sh = i by omega]
        · rw [if_neg z]
          by_cases q : sh ≤ j ∧ j < sh + i
          · rw [if_pos q, if_pos (by omega)]
          · rw [if_neg q, if_neg (by omega)])]
      refine ev_iincN_4 (c := 1) i_Re_correct_100 (by decide) rfl ?_
      refine ev_goto i_Re_correct_103 ?_
      exact ih (i + 1) (by omega) _
theorem r_corr_n {scr : Scr} {l : Launch} {S : Sto} {n L sh p2 p3 c1 c2 : Nat} {C B : Nat → FF} {b m : FF} {gc gb gs : Nat → Int32} (hp : (p2 = 71 ∧ p3 = 72) ∨ (p2 = 72 ∧ p3 = 71)) (ho : S.1[66]? = some (reO c1 c2 p2 p3 (nI L) (nI sh) (nI b.val))) (hc : S.1[70]? = some (aI 13 (kG (fun j => (C j).val) gc 13))) (hb : S.1[p2]? = some (aI 13 (kG (fun j => (B j).val) gb 13))) (hs : S.1[p3]? = some (aI 13 gs)) (hn : n < 12) (hL : L ≤ n) (hsh : sh ≤ 13) {d : Nat} (hl : ¬ 2 * L ≤ n) : MetA scr l (d + 1) M_Re_correct [.ref 66, .int (nI n), .int (nI m.val)] S (.inl none, ((S.put p3 (aI 13 (kG (fun j => (C j).val) gs 13))).put 70 (aI 13 (kG (fun j => (upC C B sh (m * ivF b) j).val) gc 13)))) := by
  have hN : p3 ≠ 66 ∧ p3 ≠ 70 ∧ p3 ≠ p2 ∧ 70 ≠ p2 := by rcases hp with q | q <;> omega
  have o1 : (S.put p3 (aI 13 (kG (fun j => (C j).val) gs 13))).1[66]? = _ := put_at ho hN.1
  have c1' : (S.put p3 (aI 13 (kG (fun j => (C j).val) gs 13))).1[70]? = _ := put_at hc hN.2.1
  have oj : ((S.put p3 (aI 13 (kG (fun j => (C j).val) gs 13))).put 70 (aI 13 (kG (fun j => (upC C B sh (m * ivF b) j).val) gc 13))).1[66]? = _ := put_at o1 (by decide)
  have hup : ∀ j, j < 13 → (upC C B sh (m * ivF b) j).val = (if sh ≤ j ∧ j < sh + (13 - sh) then C j - (m * ivF b) * B (j - sh) else C j).val := fun j hj => by
    unfold upC
    by_cases q : sh ≤ j
    · rw [if_pos q, if_pos (by omega)]
    · rw [if_neg q, if_neg (by omega)]
      congr 1
      grind
  refine MetA.of rfl (by decide +kernel) (Nat.le_of_ble_eq_true rfl) ?_
  refine ev_iload_n i_Re_correct_0 rfl ?_
  refine ev_aload_n i_Re_correct_1 rfl ?_
  refine ev_get i_Re_correct_2 ho rfl ?_
  refine ev_callS1 i_Re_correct_5 rfl (Nat.le_of_ble_eq_true rfl) (r_inv b) ?_
  first | refine ev_imulN i_Re_correct_8 ?_ | refine ev_imul i_Re_correct_8 ?_
  refine ev_sipushN (v := 10007) i_Re_correct_9 (by decide) ?_
  refine ev_iremN i_Re_correct_12 (by decide) (by have := ff_mul_lt m (ivF b); omega) (by decide) ?_
  rw [← ff_mul_v]
  refine ev_ist_n_3 i_Re_correct_13 rfl ?_
  refine ev_aload_n i_Re_correct_14 rfl ?_
  refine ev_get i_Re_correct_15 ho rfl ?_
  refine ev_iconstN (v := 0) i_Re_correct_18 (by decide) ?_
  refine ev_aload_n i_Re_correct_19 rfl ?_
  refine ev_get i_Re_correct_20 ho rfl ?_
  refine ev_iconstN (v := 0) i_Re_correct_23 (by decide) ?_
  refine ev_aload_n i_Re_correct_24 rfl ?_
  refine ev_get i_Re_correct_25 ho rfl ?_
  refine ev_alenN i_Re_correct_28 hc ?_
  refine ev_cpyI i_Re_correct_29 rfl (Nat.le_of_ble_eq_true rfl) hc hs (by decide) (by decide) (by decide) (by decide) (by decide) ?_
  refine ev_eqS (S1 := (S.put p3 (aI 13 (kG (fun j => (C j).val) gs 13)))) (by rw [← kN_cpy (g := gc)]; rfl) ?_
  refine ev_iconstN (v := 0) i_Re_correct_32 (by decide) ?_
  refine ev_ist_4 i_Re_correct_33 rfl ?_
  refine ev_eqS (S1 := ((S.put p3 (aI 13 (kG (fun j => (C j).val) gs 13))).put 70 (aI 13 (kG (fun j => (if sh ≤ j ∧ j < sh + 0 then C j - (m * ivF b) * B (j - sh) else C j).val) gc 13)))) (by rw [kN_congr (g := gc) (fun j _ => show (if sh ≤ j ∧ j < sh + 0 then C j - (m * ivF b) * B (j - sh) else C j).val = (C j).val by rw [if_neg (by omega)])]; exact put_same c1') ?_
  refine lp_corr hp ho hc hb hs hn hL hsh (fun u5 => ?_) (13 - sh) 0 (by omega) _
  refine ev_eqS (S1 := ((S.put p3 (aI 13 (kG (fun j => (C j).val) gs 13))).put 70 (aI 13 (kG (fun j => (upC C B sh (m * ivF b) j).val) gc 13)))) (by rw [kN_congr (g := gc) (fun j hj => hup j hj)]) ?_
  refine ev_iconstN (v := 2) i_Re_correct_106 (by decide) ?_
  refine ev_aload_n i_Re_correct_107 rfl ?_
  refine ev_get i_Re_correct_108 oj rfl ?_
  first | refine ev_imulN i_Re_correct_111 ?_ | refine ev_imul i_Re_correct_111 ?_
  refine ev_iload_n i_Re_correct_112 rfl ?_
  refine ev_icmp_gtN i_Re_correct_113 (by omega) (by omega) (fun hc_113 => ?_) (fun hc_113 => ?_)
  · skip
    exact ev_vret i_Re_correct_158 rfl
  · skip
    exfalso; omega
theorem r_corr_y {scr : Scr} {l : Launch} {S : Sto} {n L sh p2 p3 c1 c2 : Nat} {C B : Nat → FF} {b m : FF} {gc gb gs : Nat → Int32} (hp : (p2 = 71 ∧ p3 = 72) ∨ (p2 = 72 ∧ p3 = 71)) (ho : S.1[66]? = some (reO c1 c2 p2 p3 (nI L) (nI sh) (nI b.val))) (hc : S.1[70]? = some (aI 13 (kG (fun j => (C j).val) gc 13))) (hb : S.1[p2]? = some (aI 13 (kG (fun j => (B j).val) gb 13))) (hs : S.1[p3]? = some (aI 13 gs)) (hn : n < 12) (hL : L ≤ n) (hsh : sh ≤ 13) {d : Nat} (hl : 2 * L ≤ n) : MetA scr l (d + 1) M_Re_correct [.ref 66, .int (nI n), .int (nI m.val)] S (.inl none, ((S.put p3 (aI 13 (kG (fun j => (C j).val) gs 13))).put 70 (aI 13 (kG (fun j => (upC C B sh (m * ivF b) j).val) gc 13))).put 66 (reO c1 c2 p3 p2 (nI (n + 1 - L)) (nI 0) (nI m.val))) := by
  have hN : p3 ≠ 66 ∧ p3 ≠ 70 ∧ p3 ≠ p2 ∧ 70 ≠ p2 := by rcases hp with q | q <;> omega
  have o1 : (S.put p3 (aI 13 (kG (fun j => (C j).val) gs 13))).1[66]? = _ := put_at ho hN.1
  have c1' : (S.put p3 (aI 13 (kG (fun j => (C j).val) gs 13))).1[70]? = _ := put_at hc hN.2.1
  have oj : ((S.put p3 (aI 13 (kG (fun j => (C j).val) gs 13))).put 70 (aI 13 (kG (fun j => (upC C B sh (m * ivF b) j).val) gc 13))).1[66]? = _ := put_at o1 (by decide)
  have hup : ∀ j, j < 13 → (upC C B sh (m * ivF b) j).val = (if sh ≤ j ∧ j < sh + (13 - sh) then C j - (m * ivF b) * B (j - sh) else C j).val := fun j hj => by
    unfold upC
    by_cases q : sh ≤ j
    · rw [if_pos q, if_pos (by omega)]
    · rw [if_neg q, if_neg (by omega)]
      congr 1
      grind
  have w1 : (((S.put p3 (aI 13 (kG (fun j => (C j).val) gs 13))).put 70 (aI 13 (kG (fun j => (upC C B sh (m * ivF b) j).val) gc 13))).put 66 (reO c1 c2 p2 p3 (nI (n + 1 - L)) (nI sh) (nI b.val))).1[66]? = _ := put_self oj
  have w2 : (((S.put p3 (aI 13 (kG (fun j => (C j).val) gs 13))).put 70 (aI 13 (kG (fun j => (upC C B sh (m * ivF b) j).val) gc 13))).put 66 (reO c1 c2 p3 p3 (nI (n + 1 - L)) (nI sh) (nI b.val))).1[66]? = _ := put_self oj
  have w3 : (((S.put p3 (aI 13 (kG (fun j => (C j).val) gs 13))).put 70 (aI 13 (kG (fun j => (upC C B sh (m * ivF b) j).val) gc 13))).put 66 (reO c1 c2 p3 p2 (nI (n + 1 - L)) (nI sh) (nI b.val))).1[66]? = _ := put_self oj
  have w4 : (((S.put p3 (aI 13 (kG (fun j => (C j).val) gs 13))).put 70 (aI 13 (kG (fun j => (upC C B sh (m * ivF b) j).val) gc 13))).put 66 (reO c1 c2 p3 p2 (nI (n + 1 - L)) (nI sh) (nI m.val))).1[66]? = _ := put_self oj
  refine MetA.of rfl (by decide +kernel) (Nat.le_of_ble_eq_true rfl) ?_
  refine ev_iload_n i_Re_correct_0 rfl ?_
  refine ev_aload_n i_Re_correct_1 rfl ?_
  refine ev_get i_Re_correct_2 ho rfl ?_
  refine ev_callS1 i_Re_correct_5 rfl (Nat.le_of_ble_eq_true rfl) (r_inv b) ?_
  first | refine ev_imulN i_Re_correct_8 ?_ | refine ev_imul i_Re_correct_8 ?_
  refine ev_sipushN (v := 10007) i_Re_correct_9 (by decide) ?_
  refine ev_iremN i_Re_correct_12 (by decide) (by have := ff_mul_lt m (ivF b); omega) (by decide) ?_
  rw [← ff_mul_v]
  refine ev_ist_n_3 i_Re_correct_13 rfl ?_
  refine ev_aload_n i_Re_correct_14 rfl ?_
  refine ev_get i_Re_correct_15 ho rfl ?_
  refine ev_iconstN (v := 0) i_Re_correct_18 (by decide) ?_
  refine ev_aload_n i_Re_correct_19 rfl ?_
  refine ev_get i_Re_correct_20 ho rfl ?_
  refine ev_iconstN (v := 0) i_Re_correct_23 (by decide) ?_
  refine ev_aload_n i_Re_correct_24 rfl ?_
  refine ev_get i_Re_correct_25 ho rfl ?_
  refine ev_alenN i_Re_correct_28 hc ?_
  refine ev_cpyI i_Re_correct_29 rfl (Nat.le_of_ble_eq_true rfl) hc hs (by decide) (by decide) (by decide) (by decide) (by decide) ?_
  refine ev_eqS (S1 := (S.put p3 (aI 13 (kG (fun j => (C j).val) gs 13)))) (by rw [← kN_cpy (g := gc)]; rfl) ?_
  refine ev_iconstN (v := 0) i_Re_correct_32 (by decide) ?_
  refine ev_ist_4 i_Re_correct_33 rfl ?_
  refine ev_eqS (S1 := ((S.put p3 (aI 13 (kG (fun j => (C j).val) gs 13))).put 70 (aI 13 (kG (fun j => (if sh ≤ j ∧ j < sh + 0 then C j - (m * ivF b) * B (j - sh) else C j).val) gc 13)))) (by rw [kN_congr (g := gc) (fun j _ => show (if sh ≤ j ∧ j < sh + 0 then C j - (m * ivF b) * B (j - sh) else C j).val = (C j).val by rw [if_neg (by omega)])]; exact put_same c1') ?_
  refine lp_corr hp ho hc hb hs hn hL hsh (fun u5 => ?_) (13 - sh) 0 (by omega) _
  refine ev_eqS (S1 := ((S.put p3 (aI 13 (kG (fun j => (C j).val) gs 13))).put 70 (aI 13 (kG (fun j => (upC C B sh (m * ivF b) j).val) gc 13)))) (by rw [kN_congr (g := gc) (fun j hj => hup j hj)]) ?_
  refine ev_iconstN (v := 2) i_Re_correct_106 (by decide) ?_
  refine ev_aload_n i_Re_correct_107 rfl ?_
  refine ev_get i_Re_correct_108 oj rfl ?_
  first | refine ev_imulN i_Re_correct_111 ?_ | refine ev_imul i_Re_correct_111 ?_
  refine ev_iload_n i_Re_correct_112 rfl ?_
  refine ev_icmp_gtN i_Re_correct_113 (by omega) (by omega) (fun hc_113 => ?_) (fun hc_113 => ?_)
  · skip
    exfalso; omega
  · skip
    refine ev_aload_n i_Re_correct_116 rfl ?_
    refine ev_iload_n i_Re_correct_117 rfl ?_
    refine ev_iconstN (v := 1) i_Re_correct_118 (by decide) ?_
    first | refine ev_iaddN i_Re_correct_119 ?_ | refine ev_iadd i_Re_correct_119 ?_
    refine ev_aload_n i_Re_correct_120 rfl ?_
    refine ev_get i_Re_correct_121 oj rfl ?_
    first | refine ev_isubN i_Re_correct_124 (by omega) ?_ | refine ev_isub i_Re_correct_124 ?_
    refine ev_put i_Re_correct_125 oj (Nat.le_of_ble_eq_true rfl) rfl rfl ?_
    refine ev_eqS (S1 := ((S.put p3 (aI 13 (kG (fun j => (C j).val) gs 13))).put 70 (aI 13 (kG (fun j => (upC C B sh (m * ivF b) j).val) gc 13))).put 66 (reO c1 c2 p2 p3 (nI (n + 1 - L)) (nI sh) (nI b.val))) (by first | rfl | (rw [put_put]; rfl)) ?_
    refine ev_aload_n i_Re_correct_128 rfl ?_
    refine ev_get i_Re_correct_129 w1 rfl ?_
    refine ev_ast_4 i_Re_correct_132 rfl ?_
    refine ev_aload_n i_Re_correct_134 rfl ?_
    refine ev_aload_n i_Re_correct_135 rfl ?_
    refine ev_get i_Re_correct_136 w1 rfl ?_
    refine ev_put i_Re_correct_139 w1 (Nat.le_of_ble_eq_true rfl) rfl rfl ?_
    refine ev_eqS (S1 := ((S.put p3 (aI 13 (kG (fun j => (C j).val) gs 13))).put 70 (aI 13 (kG (fun j => (upC C B sh (m * ivF b) j).val) gc 13))).put 66 (reO c1 c2 p3 p3 (nI (n + 1 - L)) (nI sh) (nI b.val))) (by first | rfl | (rw [put_put]; rfl)) ?_
    refine ev_aload_n i_Re_correct_142 rfl ?_
    refine ev_aload i_Re_correct_143 rfl ?_
    refine ev_put i_Re_correct_145 w2 (Nat.le_of_ble_eq_true rfl) rfl rfl ?_
    refine ev_eqS (S1 := ((S.put p3 (aI 13 (kG (fun j => (C j).val) gs 13))).put 70 (aI 13 (kG (fun j => (upC C B sh (m * ivF b) j).val) gc 13))).put 66 (reO c1 c2 p3 p2 (nI (n + 1 - L)) (nI sh) (nI b.val))) (by first | rfl | (rw [put_put]; rfl)) ?_
    refine ev_aload_n i_Re_correct_148 rfl ?_
    refine ev_iload_n i_Re_correct_149 rfl ?_
    refine ev_put i_Re_correct_150 w3 (Nat.le_of_ble_eq_true rfl) rfl rfl ?_
    refine ev_eqS (S1 := ((S.put p3 (aI 13 (kG (fun j => (C j).val) gs 13))).put 70 (aI 13 (kG (fun j => (upC C B sh (m * ivF b) j).val) gc 13))).put 66 (reO c1 c2 p3 p2 (nI (n + 1 - L)) (nI sh) (nI m.val))) (by first | rfl | (rw [put_put]; rfl)) ?_
    refine ev_aload_n i_Re_correct_153 rfl ?_
    refine ev_iconstN (v := 0) i_Re_correct_154 (by decide) ?_
    refine ev_put i_Re_correct_155 w4 (Nat.le_of_ble_eq_true rfl) rfl rfl ?_
    refine ev_eqS (S1 := ((S.put p3 (aI 13 (kG (fun j => (C j).val) gs 13))).put 70 (aI 13 (kG (fun j => (upC C B sh (m * ivF b) j).val) gc 13))).put 66 (reO c1 c2 p3 p2 (nI (n + 1 - L)) (nI 0) (nI m.val))) (by first | rfl | (rw [put_put]; rfl)) ?_
    exact ev_vret i_Re_correct_158 rfl

/-! the model: terms of the recurrence, inverse -/
def lG (W : Nat → Nat) (g : Nat → Int64) (n : Nat) : Nat → Int64 := fun j => if j < n then nL (W j) else g j
theorem lN_at {W : Nat → Nat} {g : Nat → Int64} {n j : Nat} (h : j < n) : lG W g n j = nL (W j) := if_pos h
theorem lN_congr {W W' : Nat → Nat} {g : Nat → Int64} {n : Nat} (h : ∀ j, j < n → W j = W' j) : lG W g n = lG W' g n := by
  funext j
  unfold lG
  by_cases q : j < n
  · rw [if_pos q, if_pos q, h j q]
  · rw [if_neg q, if_neg q]
theorem lN_upd {W : Nat → Nat} {g : Nat → Int64} {n a v : Nat} (ha : a < n) : vp_updL (lG W g n) a (nL v) = lG (fun j => if j = a then v else W j) g n := by
  funext j
  unfold vp_updL lG
  by_cases z : j = a
  · rw [if_pos z, if_pos (by omega)]
    show nL v = nL (if j = a then v else W j)
    rw [if_pos z]
  · rw [if_neg z]
    by_cases q : j < n
    · rw [if_pos q, if_pos q]
      show nL (W j) = nL (if j = a then v else W j)
      rw [if_neg z]
    · rw [if_neg q, if_neg q]
theorem lN_ext {W : Nat → Nat} {g : Nat → Int64} {n v : Nat} : vp_updL (lG W g n) n (nL v) = lG (fun j => if j = n then v else W j) g (n + 1) := by
  funext j
  unfold vp_updL lG
  by_cases z : j = n
  · rw [if_pos z, if_pos (by omega)]
    show nL v = nL (if j = n then v else W j)
    rw [if_pos z]
  · rw [if_neg z]
    by_cases q : j < n
    · rw [if_pos q, if_pos (by omega)]
      show nL (W j) = nL (if j = n then v else W j)
      rw [if_neg z]
    · rw [if_neg q, if_neg (by omega)]
theorem lN_0 {W : Nat → Nat} {g : Nat → Int64} : lG W g 0 = g := by
  funext j; exact if_neg (by omega)
theorem lN_cpy {W : Nat → Nat} {g f : Nat → Int64} {n : Nat} : va_cpy (lG W g n) f 0 0 n = lG W f n := by
  rw [cpy_fill]
  funext j
  unfold lG
  by_cases q : j < n
  · rw [fill_at q, if_pos q, if_pos q]
  · unfold fillF
    rw [if_neg (by omega), if_neg q]
theorem lN_cpyW {W W' : Nat → Nat} {g f : Nat → Int64} {n : Nat} : va_cpy (lG W g n) (lG W' f n) 0 0 n = lG W f n := by
  rw [lN_cpy]
  funext j
  unfold lG
  by_cases q : j < n
  · rw [if_pos q, if_pos q]
  · rw [if_neg q, if_neg q, if_neg q]
theorem nL_sub {a b : Nat} (h : b ≤ a) : nL a - nL b = nL (a - b) := by
  have h1 : nL (a - b) + nL b = nL a := by rw [nL_add, Nat.sub_add_cancel h]
  rw [← h1, Int64.add_sub_cancel]
theorem nL_div {a b : Nat} (ha : a < 2 ^ 63) (hb : b < 2 ^ 63) : nL a / nL b = nL (a / b) := by
  apply Int64.toInt_inj.mp
  have hq : a / b ≤ a := Nat.div_le_self a b
  rw [Int64.toInt_div, nL_toInt ha, nL_toInt hb, nL_toInt (by omega)]
  rw [show ((a : Int).tdiv (b : Int)) = ((a / b : Nat) : Int) from by simp [Int.ofNat_tdiv]]
  generalize a / b = q at hq ⊢
  apply Int.bmod_eq_of_le <;> omega
theorem nL_mod {a b : Nat} (ha : a < 2 ^ 63) (hb : b < 2 ^ 63) : nL a - nL a / nL b * nL b = nL (a % b) := by
  rw [nL_div ha hb, nL_mul, nL_sub (Nat.div_mul_le_self a b)]
  congr 1
  have := Nat.div_add_mod a b
  rw [Nat.mul_comm] at this
  omega
theorem nL_modP {a : Nat} (ha : a < 2 ^ 63) : nL a - nL a / 10007 * 10007 = nL (a % 10007) := nL_mod (b := 10007) ha (by decide)
theorem l2i_nL {n : Nat} (h : n < 2 ^ 31) : (nL n).toInt32 = nI n := by
  apply Int32.toInt_inj.mp
  rw [Int64.toInt_toInt32, nL_toInt (by omega), nI_toInt h]
  apply Int.bmod_eq_of_le <;> omega
def PS (T : TabV) (C : Nat → Nat) (b a : Nat) : Nat := sumN (fun u => occ (prd T u) b * C u) a % 10007
theorem PS_0 (T : TabV) (C : Nat → Nat) (b : Nat) : (0 : Int64) = nL (PS T C b 0) := rfl
theorem PS_s (T : TabV) (C : Nat → Nat) (b a : Nat) : (PS T C b a + occ (prd T a) b * C a) % 10007 = PS T C b (a + 1) := by
  unfold PS
  show (sumN (fun u => occ (prd T u) b * C u) a % 10007 + occ (prd T a) b * C a) % 10007 = (sumN (fun u => occ (prd T u) b * C u) a + occ (prd T a) b * C a) % 10007
  rw [Nat.mod_add_mod]
theorem PS_lt (T : TabV) (C : Nat → Nat) (b a : Nat) : PS T C b a < 10007 := Nat.mod_lt _ (by decide)
theorem PS_cw {T : TabV} {xs : List Nat} {n b : Nat} : PS T (fun u => cw T xs n u % 10007) b 6 = cw T xs (n + 1) b % 10007 := summod 6
theorem m_inverse {scr : Scr} {l : Launch} {S : Sto} {d : Nat} (a : FF) : MetA scr l d M_Md_inverse [.int (nI a.val)] S (.inl (some (.int (nI (ivF a).val))), S) := by
  rw [ivF_pw]
  refine MetA.of rfl (by decide +kernel) (Nat.le_of_ble_eq_true rfl) ?_
  refine ev_iconstN (v := 1) i_Md_inverse_0 (by decide) ?_
  refine ev_ist_n_1 i_Md_inverse_1 rfl ?_
  refine ev_iconstN (v := 0) i_Md_inverse_2 (by decide) ?_
  refine ev_ist_n_2 i_Md_inverse_3 rfl ?_
  refine ev_loop (n := 10005) (fun i => [some (.int (nI a.val)), some (.int (nI (pw a i).val)), some (.int (nI i))]) (fun i => S) (fun i hi ki => ?_) ?_
  · try dsimp only at ki ⊢
    refine ev_iload_n i_Md_inverse_4 rfl ?_
    refine ev_sipushN (v := 10005) i_Md_inverse_5 (by decide) ?_
    refine ev_icmp_geN i_Md_inverse_8 (by omega) (by omega) (fun hc_8 => ?_) (fun hc_8 => ?_)
    · skip
      exfalso; omega
    · skip
      refine ev_iload_n i_Md_inverse_11 rfl ?_
      refine ev_iload_n i_Md_inverse_12 rfl ?_
      first | refine ev_imulN i_Md_inverse_13 ?_ | refine ev_imul i_Md_inverse_13 ?_
      refine ev_sipushN (v := 10007) i_Md_inverse_14 (by decide) ?_
      refine ev_iremN i_Md_inverse_17 (by decide) (by have := ff_mul_lt (pw a i) a; omega) (by decide) ?_
      rw [← ff_mul_v]
      refine ev_ist_n_1 i_Md_inverse_18 rfl ?_
      refine ev_iincN_2 (c := 1) i_Md_inverse_19 (by decide) rfl ?_
      refine ev_goto i_Md_inverse_22 ?_
      exact ki
  · try dsimp only
    refine ev_iload_n i_Md_inverse_4 rfl ?_
    refine ev_sipushN (v := 10005) i_Md_inverse_5 (by decide) ?_
    refine ev_icmp_geN i_Md_inverse_8 (by omega) (by omega) (fun hc_8 => ?_) (fun hc_8 => ?_)
    · skip
      refine ev_iload_n i_Md_inverse_25 rfl ?_
      exact ev_iret i_Md_inverse_26 rfl (by first | rfl | decide)
    · skip
      exfalso; omega
theorem lp_fta {scr : Scr} {l : Launch} {S : Sto} {t n d : Nat} {g : Nat → Int32} {T : TabV} {C : Nat → Nat} {g1 g2 : Nat → Int64} {r : Res} {q1 q2 q3 q4 q5 q6 q7 : Int32} (h0 : S.1[105]? = some (mObj q1 q2 q3 q4 q5 q6 q7)) (hg : S.1[106]? = some (aI 417 g)) (hT : MTab g t T) (ht : t < 3) (hc : S.1[117]? = some (aJ 6 (lG C g1 6))) (hn2 : S.1[118]? = some (aJ 6 g2)) (hC : ∀ u, u < 6 → C u < 10007) {b : Nat} {sm : Int64} (hb : b < 6) (hk : Ev scr l (d + 2) M_Md_findTerms 95 [some (.ref 105), some (.int (nI t)), some (.int (nI n)), some (.long sm), none, some (.int (nI b)), some (.int (nI 6))] [] (S.put 118 (aJ 6 (lG (fun j => if j = b then PS T C b 6 else PS T C j 6) g2 (b + 1)))) r) : ∀ (k a : Nat), a + k = 6 → Ev scr l (d + 2) M_Md_findTerms 45 [some (.ref 105), some (.int (nI t)), some (.int (nI n)), some (.long sm), none, some (.int (nI b)), some (.int (nI a))] [] (S.put 118 (aJ 6 (lG (fun j => if j = b then PS T C b a else PS T C j 6) g2 (b + 1)))) r := by
  intro k
  induction k with
  | zero =>
    intro a hak
    have z : a = 6 := by omega
    subst z
    refine ev_iload i_Md_findTerms_45 rfl ?_
    refine ev_bipushN (v := 6) i_Md_findTerms_47 (by decide) ?_
    refine ev_icmp_geN i_Md_findTerms_49 (by omega) (by omega) (fun hc_49 => ?_) (fun hc_49 => ?_)
    · skip
      exact hk
    · skip
      exfalso; omega
  | succ k ih =>
    intro a hak
    have o1 : (S.put 118 (aJ 6 (lG (fun j => if j = b then PS T C b a else PS T C j 6) g2 (b + 1)))).1[105]? = _ := put_at h0 (by decide)
    have y1 : (S.put 118 (aJ 6 (lG (fun j => if j = b then PS T C b a else PS T C j 6) g2 (b + 1)))).1[106]? = _ := put_at hg (by decide)
    have c1 : (S.put 118 (aJ 6 (lG (fun j => if j = b then PS T C b a else PS T C j 6) g2 (b + 1)))).1[117]? = _ := put_at hc (by decide)
    have x1 : (S.put 118 (aJ 6 (lG (fun j => if j = b then PS T C b a else PS T C j 6) g2 (b + 1)))).1[118]? = _ := put_self hn2
    have hoc : occ (prd T a) b ≤ 4 := Nat.le_trans (occN_le _ _ _) (prd_okM hT ht (a := a) (by omega)).1
    have hca := hC a (by omega)
    have hps := PS_lt T C b a
    have hmm : occ (prd T a) b * C a ≤ 4 * 10006 := Nat.mul_le_mul hoc (by omega)
    refine ev_iload i_Md_findTerms_45 rfl ?_
    refine ev_bipushN (v := 6) i_Md_findTerms_47 (by decide) ?_
    refine ev_icmp_geN i_Md_findTerms_49 (by omega) (by omega) (fun hc_49 => ?_) (fun hc_49 => ?_)
    · skip
      exfalso; omega
    · skip
      refine ev_aload_n i_Md_findTerms_52 rfl ?_
      refine ev_get i_Md_findTerms_53 o1 rfl ?_
      refine ev_iload i_Md_findTerms_56 rfl ?_
      refine ev_aload_n i_Md_findTerms_58 rfl ?_
      refine ev_get i_Md_findTerms_59 o1 rfl ?_
      refine ev_iload i_Md_findTerms_62 rfl ?_
      refine ev_laldN i_Md_findTerms_64 x1 (by omega) (by decide) ?_
      rw [lN_at (by omega), if_pos rfl]
      refine ev_aload_n i_Md_findTerms_65 rfl ?_
      refine ev_iload_n i_Md_findTerms_66 rfl ?_
      refine ev_iload i_Md_findTerms_67 rfl ?_
      refine ev_iload i_Md_findTerms_69 rfl ?_
      refine ev_callV3 i_Md_findTerms_71 rfl o1 (Nat.le_of_ble_eq_true rfl) (m_occurs o1 y1 hT ht (by omega) hb) ?_
      refine ev_i2l i_Md_findTerms_74 ?_
      rw [i2l_nI (by omega)]
      refine ev_aload_n i_Md_findTerms_75 rfl ?_
      refine ev_get i_Md_findTerms_76 o1 rfl ?_
      refine ev_iload i_Md_findTerms_79 rfl ?_
      refine ev_laldN i_Md_findTerms_81 c1 (by omega) (by decide) ?_
      rw [lN_at (by omega)]
      refine ev_lmul i_Md_findTerms_82 ?_
      rw [nL_mul]
      refine ev_ladd i_Md_findTerms_83 ?_
      rw [nL_add]
      refine ev_LdcL i_Md_findTerms_84 ?_
      refine ev_lrem i_Md_findTerms_87 (by decide) ?_
      rw [nL_modP (by omega), PS_s]
      refine ev_lastN i_Md_findTerms_88 x1 (by omega) (by decide) ?_
      rw [put_put, lN_upd (by omega), lN_congr (g := g2) (W' := fun j => if j = b then PS T C b (a + 1) else PS T C j 6) (fun j _ => by
        by_cases z : j = b
        · rw [if_pos z, if_pos z]
        · rw [if_neg z, if_neg z, if_neg z])]
      refine ev_iincN_6 (c := 1) i_Md_findTerms_89 (by decide) rfl ?_
      refine ev_goto i_Md_findTerms_92 ?_
      exact ih (a + 1) (by omega)
theorem lp_ftb {scr : Scr} {l : Launch} {S : Sto} {t n d : Nat} {g : Nat → Int32} {T : TabV} {C : Nat → Nat} {g1 g2 : Nat → Int64} {r : Res} {q1 q2 q3 q4 q5 q6 q7 : Int32} (h0 : S.1[105]? = some (mObj q1 q2 q3 q4 q5 q6 q7)) (hg : S.1[106]? = some (aI 417 g)) (hT : MTab g t T) (ht : t < 3) (hc : S.1[117]? = some (aJ 6 (lG C g1 6))) (hn2 : S.1[118]? = some (aJ 6 g2)) (hC : ∀ u, u < 6 → C u < 10007) (hk : ∀ u6, Ev scr l (d + 2) M_Md_findTerms 101 [some (.ref 105), some (.int (nI t)), some (.int (nI n)), some (.long (nL (sumN C 6))), none, some (.int (nI 6)), u6] [] (S.put 118 (aJ 6 (lG (fun j => PS T C j 6) g2 6))) r) : ∀ (k b : Nat), b + k = 6 → ∀ u6, Ev scr l (d + 2) M_Md_findTerms 17 [some (.ref 105), some (.int (nI t)), some (.int (nI n)), some (.long (nL (sumN C b))), none, some (.int (nI b)), u6] [] (S.put 118 (aJ 6 (lG (fun j => PS T C j 6) g2 b))) r := by
  intro k
  induction k with
  | zero =>
    intro b hbk u6
    have z : b = 6 := by omega
    subst z
    refine ev_iload i_Md_findTerms_17 rfl ?_
    refine ev_bipushN (v := 6) i_Md_findTerms_19 (by decide) ?_
    refine ev_icmp_geN i_Md_findTerms_21 (by omega) (by omega) (fun hc_21 => ?_) (fun hc_21 => ?_)
    · skip
      exact hk _
    · skip
      exfalso; omega
  | succ k ih =>
    intro b hbk u6
    have o1 : (S.put 118 (aJ 6 (lG (fun j => PS T C j 6) g2 b))).1[105]? = _ := put_at h0 (by decide)
    have y1 : (S.put 118 (aJ 6 (lG (fun j => PS T C j 6) g2 b))).1[106]? = _ := put_at hg (by decide)
    have c1 : (S.put 118 (aJ 6 (lG (fun j => PS T C j 6) g2 b))).1[117]? = _ := put_at hc (by decide)
    have x1 : (S.put 118 (aJ 6 (lG (fun j => PS T C j 6) g2 b))).1[118]? = _ := put_self hn2
    refine ev_iload i_Md_findTerms_17 rfl ?_
    refine ev_bipushN (v := 6) i_Md_findTerms_19 (by decide) ?_
    refine ev_icmp_geN i_Md_findTerms_21 (by omega) (by omega) (fun hc_21 => ?_) (fun hc_21 => ?_)
    · skip
      exfalso; omega
    · skip
      refine ev_lload_n i_Md_findTerms_24 rfl ?_
      refine ev_aload_n i_Md_findTerms_25 rfl ?_
      refine ev_get i_Md_findTerms_26 o1 rfl ?_
      refine ev_iload i_Md_findTerms_29 rfl ?_
      refine ev_laldN i_Md_findTerms_31 c1 (by omega) (by decide) ?_
      rw [lN_at (by omega)]
      refine ev_ladd i_Md_findTerms_32 ?_
      rw [nL_add]
      refine ev_lst_n_3 i_Md_findTerms_33 rfl ?_
      refine ev_aload_n i_Md_findTerms_34 rfl ?_
      refine ev_get i_Md_findTerms_35 o1 rfl ?_
      refine ev_iload i_Md_findTerms_38 rfl ?_
      refine ev_lconst (v := 0) i_Md_findTerms_40 (by decide) ?_
      refine ev_lastN i_Md_findTerms_41 x1 (by omega) (by decide) ?_
      rw [put_put, PS_0 T C b, lN_ext]
      refine ev_iconstN (v := 0) i_Md_findTerms_42 (by decide) ?_
      refine ev_ist_6 i_Md_findTerms_43 rfl ?_
      refine lp_fta h0 hg hT ht hc hn2 hC (show b < 6 by omega) ?_ 6 0 (by omega)
      refine ev_iincN_5 (c := 1) i_Md_findTerms_95 (by decide) rfl ?_
      refine ev_goto i_Md_findTerms_98 ?_
      rw [lN_congr (g := g2) (W' := fun j => PS T C j 6) (fun j _ => by
        by_cases z : j = b
        · rw [if_pos z, z]
        · rw [if_neg z])]
      exact ih (b + 1) (by omega) _
def FtS (T : TabV) (xs : List Nat) (S : Sto) (n : Nat) : Prop := ∃ g1 g2 ft, S.1[117]? = some (aJ 6 (lG (fun b => cw T xs n b % 10007) g1 6)) ∧ S.1[118]? = some (aJ 6 g2) ∧ S.1[122]? = some (aI 18 (kG (fun j => (sq0 T xs j).val) ft n))
theorem sum6_mt {C : Nat → Nat} (h : ∀ u, u < 6 → C u < 10007) : sumN C 6 < 2 ^ 31 := Nat.lt_of_le_of_lt (sumN_le (b := 10007) (fun i hi => Nat.le_of_lt (h i hi))) (by decide)
theorem lp_ftn {scr : Scr} {l : Launch} {S : Sto} {t : Nat} {g : Nat → Int32} {T : TabV} {xs : List Nat} {q1 q2 q3 q4 q5 q6 q7 : Int32} (h0 : S.1[105]? = some (mObj q1 q2 q3 q4 q5 q6 q7)) (hg : S.1[106]? = some (aI 417 g)) (hT : MTab g t T) (ht : t < 3) : ∀ (k n : Nat), n + k = 18 → ∀ S2, FtS T xs S2 n → Fr [117, 118, 122] S S2 → ∃ S3, (∀ d u3 u4 u5 u6, Ev scr l (d + 2) M_Md_findTerms 6 [some (.ref 105), some (.int (nI t)), some (.int (nI n)), u3, u4, u5, u6] [] S2 (.inl none, S3)) ∧ FtS T xs S3 18 ∧ Fr [117, 118, 122] S S3 := by
  intro k
  induction k with
  | zero =>
    intro n hn S2 hS hF
    have z : n = 18 := by omega
    subst z
    refine ⟨S2, fun d u3 u4 u5 u6 => ?_, hS, hF⟩
    refine ev_iload_n i_Md_findTerms_6 rfl ?_
    refine ev_bipushN (v := 18) i_Md_findTerms_7 (by decide) ?_
    refine ev_icmp_geN i_Md_findTerms_9 (by omega) (by omega) (fun hc_9 => ?_) (fun hc_9 => ?_)
    · skip
      exact ev_vret i_Md_findTerms_134 rfl
    · skip
      exfalso; omega
  | succ k ih =>
    intro n hn S2 hS hF
    obtain ⟨g1, g2, ft, c2, x2, t2⟩ := hS
    have o2 := hF.at h0 (show 105 ∉ [117, 118, 122] by decide)
    have y2 := hF.at hg (show 106 ∉ [117, 118, 122] by decide)
    have hC : ∀ u, u < 6 → (fun b => cw T xs n b % 10007) u < 10007 := fun u _ => Nat.mod_lt _ (by decide)
    have hs6 := sum6_mt hC
    have htm : sumN (fun b => cw T xs n b % 10007) 6 % 10007 = (sq0 T xs n).val := summod1 6
    have o3 : (S2.put 118 (aJ 6 (lG (fun j => PS T (fun b => cw T xs n b % 10007) j 6) g2 6))).1[105]? = _ := put_at o2 (by decide)
    have x3 : (S2.put 118 (aJ 6 (lG (fun j => PS T (fun b => cw T xs n b % 10007) j 6) g2 6))).1[118]? = _ := put_self x2
    have c3 : (S2.put 118 (aJ 6 (lG (fun j => PS T (fun b => cw T xs n b % 10007) j 6) g2 6))).1[117]? = _ := put_at c2 (by decide)
    have t3 : (S2.put 118 (aJ 6 (lG (fun j => PS T (fun b => cw T xs n b % 10007) j 6) g2 6))).1[122]? = _ := put_at t2 (by decide)
    have o4 : ((S2.put 118 (aJ 6 (lG (fun j => PS T (fun b => cw T xs n b % 10007) j 6) g2 6))).put 122 (aI 18 (kG (fun j => (sq0 T xs j).val) ft (n + 1)))).1[105]? = _ := put_at o3 (by decide)
    have x4 : ((S2.put 118 (aJ 6 (lG (fun j => PS T (fun b => cw T xs n b % 10007) j 6) g2 6))).put 122 (aI 18 (kG (fun j => (sq0 T xs j).val) ft (n + 1)))).1[118]? = _ := put_at x3 (by decide)
    have c4 : ((S2.put 118 (aJ 6 (lG (fun j => PS T (fun b => cw T xs n b % 10007) j 6) g2 6))).put 122 (aI 18 (kG (fun j => (sq0 T xs j).val) ft (n + 1)))).1[117]? = _ := put_at c3 (by decide)
    have t4 : ((S2.put 118 (aJ 6 (lG (fun j => PS T (fun b => cw T xs n b % 10007) j 6) g2 6))).put 122 (aI 18 (kG (fun j => (sq0 T xs j).val) ft (n + 1)))).1[122]? = _ := put_self t3
    obtain ⟨S6, m5, r5⟩ := ih (n + 1) (by omega) (((S2.put 118 (aJ 6 (lG (fun j => PS T (fun b => cw T xs n b % 10007) j 6) g2 6))).put 122 (aI 18 (kG (fun j => (sq0 T xs j).val) ft (n + 1)))).put 117 (aJ 6 (lG (fun b => cw T xs (n + 1) b % 10007) g1 6))) ⟨g1, _, ft, put_self c4, put_at x4 (by decide), put_at t4 (by decide)⟩ (((hF.tr (Fr.put _ _ (by simp))).tr (Fr.put _ _ (by simp))).tr (Fr.put _ _ (by simp)))
    refine ⟨S6, fun d u3 u4 u5 u6 => ?_, r5⟩
    refine ev_iload_n i_Md_findTerms_6 rfl ?_
    refine ev_bipushN (v := 18) i_Md_findTerms_7 (by decide) ?_
    refine ev_icmp_geN i_Md_findTerms_9 (by omega) (by omega) (fun hc_9 => ?_) (fun hc_9 => ?_)
    · skip
      exfalso; omega
    · skip
      refine ev_lconst (v := 0) i_Md_findTerms_12 (by decide) ?_
      refine ev_lst_n_3 i_Md_findTerms_13 rfl ?_
      refine ev_iconstN (v := 0) i_Md_findTerms_14 (by decide) ?_
      refine ev_ist_5 i_Md_findTerms_15 rfl ?_
      refine ev_eqS (S1 := S2.put 118 (aJ 6 (lG (fun j => PS T (fun b => cw T xs n b % 10007) j 6) g2 0))) (by rw [lN_0]; exact put_same x2) ?_
      refine lp_ftb o2 y2 hT ht c2 x2 hC (fun u6 => ?_) 6 0 (by omega) _
      refine ev_aload_n i_Md_findTerms_101 rfl ?_
      refine ev_get i_Md_findTerms_102 o3 rfl ?_
      refine ev_iload_n i_Md_findTerms_105 rfl ?_
      refine ev_lload_n i_Md_findTerms_106 rfl ?_
      refine ev_LdcL i_Md_findTerms_107 ?_
      refine ev_lrem i_Md_findTerms_110 (by decide) ?_
      rw [nL_modP (by omega), htm]
      refine ev_l2i i_Md_findTerms_111 ?_
      rw [l2i_nL (by have := (sq0 T xs n).isLt; omega)]
      refine ev_iastN i_Md_findTerms_112 t3 (by omega) (by decide) ?_
      refine ev_eqS (S1 := ((S2.put 118 (aJ 6 (lG (fun j => PS T (fun b => cw T xs n b % 10007) j 6) g2 6))).put 122 (aI 18 (kG (fun j => (sq0 T xs j).val) ft (n + 1))))) (by rw [← kG_s]) ?_
      refine ev_aload_n i_Md_findTerms_113 rfl ?_
      refine ev_get i_Md_findTerms_114 o4 rfl ?_
      refine ev_iconstN (v := 0) i_Md_findTerms_117 (by decide) ?_
      refine ev_aload_n i_Md_findTerms_118 rfl ?_
      refine ev_get i_Md_findTerms_119 o4 rfl ?_
      refine ev_iconstN (v := 0) i_Md_findTerms_122 (by decide) ?_
      refine ev_bipushN (v := 6) i_Md_findTerms_123 (by decide) ?_
      refine ev_cpyLN i_Md_findTerms_125 rfl (Nat.le_of_ble_eq_true rfl) x4 c4 (by decide) (by decide) (by decide) (by decide) ?_
      refine ev_eqS (S1 := (((S2.put 118 (aJ 6 (lG (fun j => PS T (fun b => cw T xs n b % 10007) j 6) g2 6))).put 122 (aI 18 (kG (fun j => (sq0 T xs j).val) ft (n + 1)))).put 117 (aJ 6 (lG (fun b => cw T xs (n + 1) b % 10007) g1 6)))) (by rw [lN_cpyW, lN_congr (g := g1) (fun j _ => PS_cw)]) ?_
      refine ev_iincN_2 (c := 1) i_Md_findTerms_128 (by decide) rfl ?_
      refine ev_goto i_Md_findTerms_131 ?_
      exact m5 d _ _ _ _
theorem m_terms {scr : Scr} {l : Launch} {S : Sto} {t : Nat} {g : Nat → Int32} {T : TabV} {xs : List Nat} {q1 q2 q3 q4 q5 q6 q7 : Int32} (h0 : S.1[105]? = some (mObj q1 q2 q3 q4 q5 q6 q7)) (hg : S.1[106]? = some (aI 417 g)) (hT : MTab g t T) (ht : t < 3) {gw ft : Nat → Int32} {f1 f2 : Nat → Int64} (hw : S.1[107]? = some (aI 61 gw)) (hx : RowW gw 0 xs) (hc : S.1[117]? = some (aJ 6 f1)) (hn2 : S.1[118]? = some (aJ 6 f2)) (he : S.1[122]? = some (aI 18 ft)) : ∃ S3, (∀ d, MetA scr l (d + 2) M_Md_findTerms [.ref 105, .int (nI t)] S (.inl none, S3)) ∧ FtS T xs S3 18 ∧ Fr [117, 118, 122] S S3 := by
  have h60 := hx.2.1
  have hE : cF (fun b => occ xs b) f1 = lG (fun b => cw T xs 0 b % 10007) f1 6 := lN_congr (fun j _ => (Nat.mod_eq_of_lt (Nat.lt_of_le_of_lt (occN_le _ _ _) (by omega))).symm)
  obtain ⟨S3, m3, r3⟩ := lp_ftn (scr := scr) (l := l) (xs := xs) h0 hg hT ht 18 0 (by omega) (S.put 117 (aJ 6 (cF (fun b => occ xs b) f1))) ⟨f1, f2, ft, by rw [hE]; exact put_self hc, put_at hn2 (by decide), by rw [kG_0]; exact put_at he (by decide)⟩ (Fr.put _ _ (by simp))
  refine ⟨S3, fun d => ?_, r3⟩
  refine MetA.of rfl (by decide +kernel) (Nat.le_of_ble_eq_true rfl) ?_
  refine ev_aload_n i_Md_findTerms_0 rfl ?_
  refine ev_callV0 i_Md_findTerms_1 rfl h0 (Nat.le_of_ble_eq_true rfl) (m_countWord h0 hw hx hc) ?_
  refine ev_iconstN (v := 0) i_Md_findTerms_4 (by decide) ?_
  refine ev_ist_n_2 i_Md_findTerms_5 rfl ?_
  exact m3 d _ _ _ _

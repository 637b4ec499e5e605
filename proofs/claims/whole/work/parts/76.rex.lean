/-! the class Recurrence: elements -/
abbrev reO (c1 c2 p2 p3 : Nat) (x y z : Int32) : ACell := oB 6 [.ref 67, .ref c1, .ref c2, .ref 70, .ref p2, .ref p3, .int x, .int y, .int z]
theorem kN_at {ch : Nat → Nat} {g : Nat → Int32} {n j : Nat} (h : j < n) : kG ch g n j = nI (ch j) := if_pos h
theorem kN_congr {ch ch' : Nat → Nat} {g : Nat → Int32} {n : Nat} (h : ∀ j, j < n → ch j = ch' j) : kG ch g n = kG ch' g n := by
  funext j
  unfold kG
  by_cases q : j < n
  · rw [if_pos q, if_pos q, h j q]
  · rw [if_neg q, if_neg q]
theorem kN_upd {ch : Nat → Nat} {g : Nat → Int32} {n a v : Nat} (ha : a < n) : upd (kG ch g n) a (nI v) = kG (fun j => if j = a then v else ch j) g n := by
  funext j
  unfold upd kG
  by_cases z : j = a
  · rw [if_pos z, if_pos (by omega)]
    show nI v = nI (if j = a then v else ch j)
    rw [if_pos z]
  · rw [if_neg z]
    by_cases q : j < n
    · rw [if_pos q, if_pos q]
      show nI (ch j) = nI (if j = a then v else ch j)
      rw [if_neg z]
    · rw [if_neg q, if_neg q]
theorem kN_fill {g : Nat → Int32} {n : Nat} : fillF g 0 (fun _ => nI 0) n = kG (fun _ => 0) g n := by
  funext j
  unfold fillF kG
  by_cases q : j < n
  · rw [if_pos (by omega), if_pos q]
  · rw [if_neg (by omega), if_neg q]
theorem kN_cpy {ch : Nat → Nat} {g f : Nat → Int32} {n : Nat} : va_cpy (kG ch g n) f 0 0 n = kG ch f n := by
  rw [cpy_fill]
  funext j
  unfold kG
  by_cases q : j < n
  · rw [fill_at q, if_pos q, if_pos q]
  · unfold fillF
    rw [if_neg (by omega), if_neg q]
theorem summod {o c : Nat → Nat} : ∀ n, sumN (fun a => o a * (c a % 10007)) n % 10007 = sumN (fun a => o a * c a) n % 10007 := by
  intro n
  induction n with
  | zero => rfl
  | succ n ih =>
    show (sumN (fun a => o a * (c a % 10007)) n + o n * (c n % 10007)) % 10007 = (sumN (fun a => o a * c a) n + o n * c n) % 10007
    rw [Nat.add_mod, ih, Nat.add_mod (sumN (fun a => o a * c a) n), Nat.mul_mod (o n) (c n % 10007), Nat.mod_mod, ← Nat.mul_mod]
theorem summod1 {c : Nat → Nat} : ∀ n, sumN (fun a => c a % 10007) n % 10007 = sumN c n % 10007 := by
  intro n
  induction n with
  | zero => rfl
  | succ n ih =>
    show (sumN (fun a => c a % 10007) n + c n % 10007) % 10007 = (sumN c n + c n) % 10007
    rw [Nat.add_mod, ih, Nat.mod_mod, ← Nat.add_mod]
theorem cw_mod {T : TabV} {xs : List Nat} {n b : Nat} : NX T (fun u => cw T xs n u % 10007) 6 0 b % 10007 = cw T xs (n + 1) b % 10007 := by
  unfold NX
  show (_ + 0 * _) % 10007 = _
  rw [Nat.zero_mul, Nat.add_zero]
  exact summod 6
theorem NXm_s {T : TabV} {C : Nat → Nat} {a i b : Nat} : NX T C a (i + 1) b % 10007 = if b = (prd T a).getD i 0 then (NX T C a i ((prd T a).getD i 0) % 10007 + C a) % 10007 else NX T C a i b % 10007 := by
  rw [NX_s]
  by_cases z : b = (prd T a).getD i 0
  · rw [if_pos z, if_pos z, Nat.mod_add_mod]
  · rw [if_neg z, if_neg z]
theorem lp_radv1 {scr : Scr} {l : Launch} {S : Sto} {t c1 c2 p2 p3 : Nat} {T : TabV} {C : Nat → Nat} {g1 g2 : Nat → Int32} {x y z : Int32} (ht : TabAt S t T) (hd : isDet T) (hc : (c1 = 68 ∧ c2 = 69) ∨ (c1 = 69 ∧ c2 = 68)) (ho : S.1[66]? = some (reO c1 c2 p2 p3 x y z)) (h1 : S.1[c1]? = some (aI 6 (kG C g1 6))) (h2 : S.1[c2]? = some (aI 6 g2)) (hoff : tabOff t [66, 67, 68, 69]) (hC : ∀ u, u < 6 → C u < 10007) {d a : Nat} {r : Res} (ha : a < 6) (hk : ∀ u3 u4 u5, Ev scr l (d + 1) M_Re_advanceCounts 10 [some (.ref 66), some (.ref t), some (.int (nI (a + 1))), u3, u4, u5] [] (S.put c2 (aI 6 (kG (fun b => NX T C (a + 1) 0 b % 10007) g2 6))) r) : ∀ (k i : Nat), i + k = (prd T a).length → ∀ u5, Ev scr l (d + 1) M_Re_advanceCounts 25 [some (.ref 66), some (.ref t), some (.int (nI a)), some (.int (nI (a * 3 + 0))), some (.int (nI i)), u5] [] (S.put c2 (aI 6 (kG (fun b => NX T C a i b % 10007) g2 6))) r := by
  obtain ⟨rc, fs, fl, fe, hT, hR⟩ := ht
  have hn : c2 ≠ 66 ∧ c2 ≠ c1 ∧ 66 ≠ c1 := by rcases hc with q | q <;> omega
  have hcn : c2 ∈ [66, 67, 68, 69] := by rcases hc with q | q <;> (rw [q.2]; simp)
  have hsl := (hR.1 a (by omega)).2.2.2 0 (by rw [hd _ (by omega)]; omega)
  have hok : PrOK (prd T a) := hsl.2
  have hsl : SlotR fl fe (a * 3 + 0) (prd T a) := hsl.1
  have hl4 := hok.1
  have hCa := hC a ha
  intro k
  induction k with
  | zero =>
    intro i hik u5
    have z : i = (prd T a).length := by omega
    subst z
    have oj : (S.put c2 (aI 6 (kG (fun b => NX T C a (prd T a).length b % 10007) g2 6))).1[66]? = _ := put_at ho hn.1
    have w1 : (S.put c2 (aI 6 (kG (fun b => NX T C a (prd T a).length b % 10007) g2 6))).1[c1]? = _ := put_at h1 hn.2.1
    have n1 : (S.put c2 (aI 6 (kG (fun b => NX T C a (prd T a).length b % 10007) g2 6))).1[c2]? = _ := put_self h2
    have hFj : Fr [66, 67, 68, 69] S (S.put c2 (aI 6 (kG (fun b => NX T C a (prd T a).length b % 10007) g2 6))) := Fr.put _ _ hcn
    have tj := hT.fr hFj hoff
    have hk2 := hk
    rw [kN_congr (fun b _ => show NX T C (a + 1) 0 b % 10007 = NX T C a (prd T a).length b % 10007 by rw [NX_e])] at hk2
    refine ev_iload i_Re_advanceCounts_25 rfl ?_
    refine ev_aload_n i_Re_advanceCounts_27 rfl ?_
    refine ev_get i_Re_advanceCounts_28 tj.1 rfl ?_
    refine ev_iload_n i_Re_advanceCounts_31 rfl ?_
    refine ev_ialdN i_Re_advanceCounts_32 tj.2.2.1 (by omega) (by decide) ?_
    rw [hsl.1]
    refine ev_icmp_geN i_Re_advanceCounts_33 (by omega) (by omega) (fun hc_33 => ?_) (fun hc_33 => ?_)
    · skip
      refine ev_iincN_2 (c := 1) i_Re_advanceCounts_76 (by decide) rfl ?_
      refine ev_goto i_Re_advanceCounts_79 ?_
      exact hk2 _ _ _
    · skip
      exfalso; omega
  | succ k ih2 =>
    intro i hik u5
    have oj : (S.put c2 (aI 6 (kG (fun b => NX T C a i b % 10007) g2 6))).1[66]? = _ := put_at ho hn.1
    have w1 : (S.put c2 (aI 6 (kG (fun b => NX T C a i b % 10007) g2 6))).1[c1]? = _ := put_at h1 hn.2.1
    have n1 : (S.put c2 (aI 6 (kG (fun b => NX T C a i b % 10007) g2 6))).1[c2]? = _ := put_self h2
    have hFj : Fr [66, 67, 68, 69] S (S.put c2 (aI 6 (kG (fun b => NX T C a i b % 10007) g2 6))) := Fr.put _ _ hcn
    have tj := hT.fr hFj hoff
    have hnx : NX T C a i ((prd T a).getD i 0) % 10007 < 10007 := Nat.mod_lt _ (by decide)
    refine ev_iload i_Re_advanceCounts_25 rfl ?_
    refine ev_aload_n i_Re_advanceCounts_27 rfl ?_
    refine ev_get i_Re_advanceCounts_28 tj.1 rfl ?_
    refine ev_iload_n i_Re_advanceCounts_31 rfl ?_
    refine ev_ialdN i_Re_advanceCounts_32 tj.2.2.1 (by omega) (by decide) ?_
    rw [hsl.1]
    refine ev_icmp_geN i_Re_advanceCounts_33 (by omega) (by omega) (fun hc_33 => ?_) (fun hc_33 => ?_)
    · skip
      exfalso; omega
    · skip
      refine ev_aload_n i_Re_advanceCounts_36 rfl ?_
      refine ev_iload_n i_Re_advanceCounts_37 rfl ?_
      refine ev_iload i_Re_advanceCounts_38 rfl ?_
      refine ev_callV2 i_Re_advanceCounts_40 rfl tj.1 (Nat.le_of_ble_eq_true rfl) (c_Tb_letterOf tj (by omega) (by omega)) ?_
      rw [hsl.2 i (by omega)]
      refine ev_ist_5 i_Re_advanceCounts_43 rfl ?_
      refine ev_aload_n i_Re_advanceCounts_45 rfl ?_
      refine ev_get i_Re_advanceCounts_46 oj rfl ?_
      refine ev_iload i_Re_advanceCounts_49 rfl ?_
      refine ev_aload_n i_Re_advanceCounts_51 rfl ?_
      refine ev_get i_Re_advanceCounts_52 oj rfl ?_
      refine ev_iload i_Re_advanceCounts_55 rfl ?_
      refine ev_ialdN i_Re_advanceCounts_57 n1 (hok.2 i (by omega)) (by decide) ?_
      rw [kN_at (hok.2 i (by omega))]
      refine ev_aload_n i_Re_advanceCounts_58 rfl ?_
      refine ev_get i_Re_advanceCounts_59 oj rfl ?_
      refine ev_iload_n i_Re_advanceCounts_62 rfl ?_
      refine ev_ialdN i_Re_advanceCounts_63 w1 (by omega) (by decide) ?_
      rw [kN_at (by omega)]
      first | refine ev_iaddN i_Re_advanceCounts_64 ?_ | refine ev_iadd i_Re_advanceCounts_64 ?_
      refine ev_sipushN (v := 10007) i_Re_advanceCounts_65 (by decide) ?_
      refine ev_iremN i_Re_advanceCounts_68 (by decide) (by omega) (by decide) ?_
      refine ev_iastN i_Re_advanceCounts_69 n1 (hok.2 i (by omega)) (by decide) ?_
      rw [put_put, kN_upd (hok.2 i (by omega)), ← kN_congr (fun b _ => NXm_s)]
      refine ev_iincN_4 (c := 1) i_Re_advanceCounts_70 (by decide) rfl ?_
      refine ev_goto i_Re_advanceCounts_73 ?_
      exact ih2 (i + 1) (by omega) _
theorem lp_radv2 {scr : Scr} {l : Launch} {S : Sto} {t c1 c2 p2 p3 : Nat} {T : TabV} {C : Nat → Nat} {g1 g2 : Nat → Int32} {x y z : Int32} (ht : TabAt S t T) (hd : isDet T) (hc : (c1 = 68 ∧ c2 = 69) ∨ (c1 = 69 ∧ c2 = 68)) (ho : S.1[66]? = some (reO c1 c2 p2 p3 x y z)) (h1 : S.1[c1]? = some (aI 6 (kG C g1 6))) (h2 : S.1[c2]? = some (aI 6 g2)) (hoff : tabOff t [66, 67, 68, 69]) (hC : ∀ u, u < 6 → C u < 10007) {d : Nat} {r : Res} (hk : ∀ u3 u4 u5, Ev scr l (d + 1) M_Re_advanceCounts 82 [some (.ref 66), some (.ref t), some (.int (nI 6)), u3, u4, u5] [] (S.put c2 (aI 6 (kG (fun b => NX T C 6 0 b % 10007) g2 6))) r) : ∀ (k a : Nat), a + k = 6 → ∀ u3 u4 u5, Ev scr l (d + 1) M_Re_advanceCounts 10 [some (.ref 66), some (.ref t), some (.int (nI a)), u3, u4, u5] [] (S.put c2 (aI 6 (kG (fun b => NX T C a 0 b % 10007) g2 6))) r := by
  intro k
  induction k with
  | zero =>
    intro a hak u3 u4 u5
    have z : a = 6 := by omega
    subst z
    refine ev_iload_n i_Re_advanceCounts_10 rfl ?_
    refine ev_bipushN (v := 6) i_Re_advanceCounts_11 (by decide) ?_
    refine ev_icmp_geN i_Re_advanceCounts_13 (by omega) (by omega) (fun hc_13 => ?_) (fun hc_13 => ?_)
    · skip
      exact hk _ _ _
    · skip
      exfalso; omega
  | succ k ih =>
    intro a hak u3 u4 u5
    refine ev_iload_n i_Re_advanceCounts_10 rfl ?_
    refine ev_bipushN (v := 6) i_Re_advanceCounts_11 (by decide) ?_
    refine ev_icmp_geN i_Re_advanceCounts_13 (by omega) (by omega) (fun hc_13 => ?_) (fun hc_13 => ?_)
    · skip
      exfalso; omega
    · skip
      refine ev_iload_n i_Re_advanceCounts_16 rfl ?_
      refine ev_iconstN (v := 0) i_Re_advanceCounts_17 (by decide) ?_
      refine ev_callS2 i_Re_advanceCounts_18 rfl (Nat.le_of_ble_eq_true rfl) c_Tb_listSlot ?_
      refine ev_ist_n_3 i_Re_advanceCounts_21 rfl ?_
      refine ev_iconstN (v := 0) i_Re_advanceCounts_22 (by decide) ?_
      refine ev_ist_4 i_Re_advanceCounts_23 rfl ?_
      exact lp_radv1 ht hd hc ho h1 h2 hoff hC (by omega) (fun u3 u4 u5 => ih (a + 1) (by omega) _ _ _) (prd T a).length 0 (by omega) _
theorem r_adv {scr : Scr} {l : Launch} {S : Sto} {t c1 c2 p2 p3 : Nat} {T : TabV} {C : Nat → Nat} {g1 g2 : Nat → Int32} {x y z : Int32} (ht : TabAt S t T) (hd : isDet T) (hc : (c1 = 68 ∧ c2 = 69) ∨ (c1 = 69 ∧ c2 = 68)) (ho : S.1[66]? = some (reO c1 c2 p2 p3 x y z)) (h1 : S.1[c1]? = some (aI 6 (kG C g1 6))) (h2 : S.1[c2]? = some (aI 6 g2)) (hoff : tabOff t [66, 67, 68, 69]) (hC : ∀ u, u < 6 → C u < 10007) {d : Nat} : MetA scr l (d + 1) M_Re_advanceCounts [.ref 66, .ref t] S (.inl none, (S.put c2 (aI 6 (kG (fun b => NX T C 6 0 b % 10007) g2 6))).put 66 (reO c2 c1 p2 p3 x y z)) := by
  have hn : c2 ≠ 66 ∧ c2 ≠ c1 ∧ 66 ≠ c1 := by rcases hc with q | q <;> omega
  have hcn : c2 ∈ [66, 67, 68, 69] := by rcases hc with q | q <;> (rw [q.2]; simp)
  have o6 : (S.put c2 (aI 6 (kG (fun b => NX T C 6 0 b % 10007) g2 6))).1[66]? = _ := put_at ho hn.1
  have o7 : ((S.put c2 (aI 6 (kG (fun b => NX T C 6 0 b % 10007) g2 6))).put 66 (reO c2 c2 p2 p3 x y z)).1[66]? = _ := put_self o6
  refine MetA.of rfl (by decide +kernel) (Nat.le_of_ble_eq_true rfl) ?_
  refine ev_aload_n i_Re_advanceCounts_0 rfl ?_
  refine ev_get i_Re_advanceCounts_1 ho rfl ?_
  refine ev_iconstN (v := 0) i_Re_advanceCounts_4 (by decide) ?_
  refine ev_callS2 i_Re_advanceCounts_5 rfl (Nat.le_of_ble_eq_true rfl) (c_Ar_fillI h2 (by decide)) ?_
  rw [kN_fill]
  refine ev_iconstN (v := 0) i_Re_advanceCounts_8 (by decide) ?_
  refine ev_ist_n_2 i_Re_advanceCounts_9 rfl ?_
  refine ev_eqS (S1 := (S.put c2 (aI 6 (kG (fun b => NX T C 0 0 b % 10007) g2 6)))) (by rw [kN_congr (fun b _ => show NX T C 0 0 b % 10007 = 0 by rw [NX_00])]) ?_
  refine lp_radv2 ht hd hc ho h1 h2 hoff hC (fun u3 u4 u5 => ?_) 6 0 (by omega) _ _ _
  refine ev_aload_n i_Re_advanceCounts_82 rfl ?_
  refine ev_get i_Re_advanceCounts_83 o6 rfl ?_
  refine ev_ast_n_2 i_Re_advanceCounts_86 rfl ?_
  refine ev_aload_n i_Re_advanceCounts_87 rfl ?_
  refine ev_aload_n i_Re_advanceCounts_88 rfl ?_
  refine ev_get i_Re_advanceCounts_89 o6 rfl ?_
  refine ev_put i_Re_advanceCounts_92 o6 (Nat.le_of_ble_eq_true rfl) rfl rfl ?_
  refine ev_eqS (S1 := (S.put c2 (aI 6 (kG (fun b => NX T C 6 0 b % 10007) g2 6))).put 66 (reO c2 c2 p2 p3 x y z)) rfl ?_
  refine ev_aload_n i_Re_advanceCounts_95 rfl ?_
  refine ev_aload_n i_Re_advanceCounts_96 rfl ?_
  refine ev_put i_Re_advanceCounts_97 o7 (Nat.le_of_ble_eq_true rfl) rfl rfl ?_
  refine ev_eqS (S1 := (S.put c2 (aI 6 (kG (fun b => NX T C 6 0 b % 10007) g2 6))).put 66 (reO c2 c1 p2 p3 x y z)) (by rw [put_put]; rfl) ?_
  exact ev_vret i_Re_advanceCounts_100 rfl
def FilS (T : TabV) (xs : List Nat) (p2 p3 : Nat) (x y z : Int32) (S : Sto) (n : Nat) : Prop := ∃ (c1 c2 : Nat) (g1 f2 fe : Nat → Int32), ((c1 = 68 ∧ c2 = 69) ∨ (c1 = 69 ∧ c2 = 68)) ∧ S.1[66]? = some (reO c1 c2 p2 p3 x y z) ∧ S.1[c1]? = some (aI 6 (kG (fun b => cw T xs n b % 10007) g1 6)) ∧ S.1[c2]? = some (aI 6 f2) ∧ S.1[67]? = some (aI 12 (kG (fun j => (sq0 T xs j).val) fe n))
theorem sum6_lt {c : Nat → Nat} {i : Nat} (hi : i ≤ 6) : sumN (fun b => c b % 10007) i < 2 ^ 30 := by
  have := sumN_le (f := fun b => c b % 10007) (b := 10006) (n := i) (fun b _ => by have := Nat.mod_lt (c b) (show 0 < 10007 by decide); omega)
  omega
theorem lp_fil {scr : Scr} {l : Launch} {S : Sto} {t w a p2 p3 : Nat} {T : TabV} {xs : List Nat} {x y z : Int32} (ht : TabAt S t T) (hd : isDet T) (hx : WordAt S w a xs) (hoff : tabOff t [66, 67, 68, 69]) (hw : w ∉ [66, 67, 68, 69] ∧ a ∉ [66, 67, 68, 69]) : ∀ (k n : Nat), n + k = 12 → ∀ S2, FilS T xs p2 p3 x y z S2 n → Fr [66, 67, 68, 69] S S2 → ∃ S3, (∀ d u4 u5, Ev scr l (d + 2) M_Re_fillElements 41 [some (.ref 66), some (.ref t), some (.ref w), some (.int (nI n)), u4, u5] [] S2 (.inl none, S3)) ∧ FilS T xs p2 p3 x y z S3 12 ∧ Fr [66, 67, 68, 69] S S3 := by
  intro k
  induction k with
  | zero =>
    intro n hn S2 hS hF
    have z : n = 12 := by omega
    subst z
    refine ⟨S2, fun d u4 u5 => ?_, hS, hF⟩
    refine ev_iload_n i_Re_fillElements_41 rfl ?_
    refine ev_bipushN (v := 12) i_Re_fillElements_42 (by decide) ?_
    refine ev_icmp_geN i_Re_fillElements_44 (by omega) (by omega) (fun hc_44 => ?_) (fun hc_44 => ?_)
    · skip
      exact ev_vret i_Re_fillElements_101 rfl
    · skip
      exfalso; omega
  | succ k ih =>
    intro n hn S2 hS hF
    obtain ⟨c1, c2, g1, f2, fe, hc, o2, c3, n3, e3⟩ := hS
    have hN : c2 ≠ 66 ∧ c2 ≠ c1 ∧ 66 ≠ c1 ∧ 67 ≠ c1 ∧ 67 ≠ c2 := by rcases hc with q | q <;> omega
    have hcn : c2 ∈ [66, 67, 68, 69] := by rcases hc with q | q <;> (rw [q.2]; simp)
    have o4 : (S2.put 67 (aI 12 (kG (fun j => (sq0 T xs j).val) fe (n + 1)))).1[66]? = _ := put_at o2 (by decide)
    have c4 : (S2.put 67 (aI 12 (kG (fun j => (sq0 T xs j).val) fe (n + 1)))).1[c1]? = _ := put_at c3 hN.2.2.2.1
    have n4 : (S2.put 67 (aI 12 (kG (fun j => (sq0 T xs j).val) fe (n + 1)))).1[c2]? = _ := put_at n3 hN.2.2.2.2
    have e4 : (S2.put 67 (aI 12 (kG (fun j => (sq0 T xs j).val) fe (n + 1)))).1[67]? = _ := put_self e3
    have F4 : Fr [66, 67, 68, 69] S (S2.put 67 (aI 12 (kG (fun j => (sq0 T xs j).val) fe (n + 1)))) := hF.tr (Fr.put _ _ (by simp))
    obtain ⟨S5, m5, r5⟩ := ih (n + 1) (by omega) (((S2.put 67 (aI 12 (kG (fun j => (sq0 T xs j).val) fe (n + 1)))).put c2 (aI 6 (kG (fun b => NX T (fun u => cw T xs n u % 10007) 6 0 b % 10007) f2 6))).put 66 (reO c2 c1 p2 p3 x y z)) ⟨c2, c1, f2, _, fe, by rcases hc with q | q <;> omega, put_self (put_at o4 hN.1), by rw [← kN_congr (fun b _ => cw_mod)]; exact put_at (put_self n4) hN.1.symm, put_at (put_at c4 hN.2.1) hN.2.2.1, put_at (put_at e4 hN.2.2.2.2.symm) (by decide)⟩ ((F4.tr (Fr.put _ _ hcn)).tr (Fr.put _ _ (by simp)))
    refine ⟨S5, fun d u4 u5 => ?_, r5⟩
    refine ev_iload_n i_Re_fillElements_41 rfl ?_
    refine ev_bipushN (v := 12) i_Re_fillElements_42 (by decide) ?_
    refine ev_icmp_geN i_Re_fillElements_44 (by omega) (by omega) (fun hc_44 => ?_) (fun hc_44 => ?_)
    · skip
      exfalso; omega
    · skip
      refine ev_iconstN (v := 0) i_Re_fillElements_47 (by decide) ?_
      refine ev_ist_4 i_Re_fillElements_48 rfl ?_
      refine ev_iconstN (v := 0) i_Re_fillElements_50 (by decide) ?_
      refine ev_ist_5 i_Re_fillElements_51 rfl ?_
      refine ev_loop (n := 6) (fun i => [some (.ref 66), some (.ref t), some (.ref w), some (.int (nI n)), some (.int (nI (sumN (fun b => cw T xs n b % 10007) i))), some (.int (nI i))]) (fun i => S2) (fun i hi ki => ?_) ?_
      · try dsimp only at ki ⊢
        have hs6 := sum6_lt (c := cw T xs n) (i := i) (by omega)
        refine ev_iload i_Re_fillElements_53 rfl ?_
        refine ev_bipushN (v := 6) i_Re_fillElements_55 (by decide) ?_
        refine ev_icmp_geN i_Re_fillElements_57 (by omega) (by omega) (fun hc_57 => ?_) (fun hc_57 => ?_)
        · skip
          exfalso; omega
        · skip
          refine ev_iload i_Re_fillElements_60 rfl ?_
          refine ev_aload_n i_Re_fillElements_62 rfl ?_
          refine ev_get i_Re_fillElements_63 o2 rfl ?_
          refine ev_iload i_Re_fillElements_66 rfl ?_
          refine ev_ialdN i_Re_fillElements_68 c3 (by omega) (by decide) ?_
          rw [kN_at (by omega)]
          first | refine ev_iaddN i_Re_fillElements_69 ?_ | refine ev_iadd i_Re_fillElements_69 ?_
          refine ev_ist_4 i_Re_fillElements_70 rfl ?_
          refine ev_iincN_5 (c := 1) i_Re_fillElements_72 (by decide) rfl ?_
          refine ev_goto i_Re_fillElements_75 ?_
          exact ki
      · try dsimp only
        refine ev_iload i_Re_fillElements_53 rfl ?_
        refine ev_bipushN (v := 6) i_Re_fillElements_55 (by decide) ?_
        refine ev_icmp_geN i_Re_fillElements_57 (by omega) (by omega) (fun hc_57 => ?_) (fun hc_57 => ?_)
        · skip
          refine ev_aload_n i_Re_fillElements_78 rfl ?_
          refine ev_get i_Re_fillElements_79 o2 rfl ?_
          refine ev_iload_n i_Re_fillElements_82 rfl ?_
          refine ev_iload i_Re_fillElements_83 rfl ?_
          refine ev_sipushN (v := 10007) i_Re_fillElements_85 (by decide) ?_
          refine ev_iremN i_Re_fillElements_88 (by decide) (Nat.lt_trans (sum6_lt (Nat.le_refl 6)) (by decide)) (by decide) ?_
          rw [summod1]
          refine ev_iastN i_Re_fillElements_89 e3 (by omega) (by decide) ?_
          refine ev_eqS (S1 := S2.put 67 (aI 12 (kG (fun j => (sq0 T xs j).val) fe (n + 1)))) (by rw [← kG_s]; rfl) ?_
          refine ev_aload_n i_Re_fillElements_90 rfl ?_
          refine ev_aload_n i_Re_fillElements_91 rfl ?_
          refine ev_callV1 i_Re_fillElements_92 rfl o4 (Nat.le_of_ble_eq_true rfl) (r_adv (ht.fr F4 hoff) hd hc o4 c4 n4 hoff (fun u _ => Nat.mod_lt _ (by decide))) ?_
          refine ev_iincN_3 (c := 1) i_Re_fillElements_95 (by decide) rfl ?_
          refine ev_goto i_Re_fillElements_98 ?_
          exact m5 d _ _
        · skip
          exfalso; omega
theorem r_fill {scr : Scr} {l : Launch} {S : Sto} {t w a p2 p3 : Nat} {T : TabV} {xs : List Nat} {x y z : Int32} (ht : TabAt S t T) (hd : isDet T) (hx : WordAt S w a xs) (hoff : tabOff t [66, 67, 68, 69]) (hw : w ∉ [66, 67, 68, 69] ∧ a ∉ [66, 67, 68, 69]) {c1 c2 : Nat} {f g fe : Nat → Int32} (hc : (c1 = 68 ∧ c2 = 69) ∨ (c1 = 69 ∧ c2 = 68)) (ho : S.1[66]? = some (reO c1 c2 p2 p3 x y z)) (h1 : S.1[c1]? = some (aI 6 f)) (h2 : S.1[c2]? = some (aI 6 g)) (he : S.1[67]? = some (aI 12 fe)) : ∃ S3, (∀ d, MetA scr l (d + 2) M_Re_fillElements [.ref 66, .ref t, .ref w] S (.inl none, S3)) ∧ FilS T xs p2 p3 x y z S3 12 ∧ Fr [66, 67, 68, 69] S S3 := by
  have hcn : c1 ∈ [66, 67, 68, 69] := by rcases hc with q | q <;> (rw [q.1]; simp)
  have hN : c1 ≠ 66 ∧ c1 ≠ c2 ∧ c1 ≠ 67 := by rcases hc with q | q <;> omega
  have h60 := hx.2.1
  obtain ⟨S3, m3, r3⟩ := lp_fil (scr := scr) (l := l) (p2 := p2) (p3 := p3) (x := x) (y := y) (z := z) ht hd hx hoff hw 12 0 (by omega) (S.put c1 (aI 6 (kG (fun b => occN xs b xs.length) f 6))) ⟨c1, c2, f, g, fe, hc, put_at ho hN.1, by rw [kN_congr (fun b _ => show cw T xs 0 b % 10007 = occN xs b xs.length from Nat.mod_eq_of_lt (Nat.lt_of_le_of_lt (occN_le xs b xs.length) (by omega)))]; exact put_self h1, put_at h2 hN.2.1, by rw [kG_0]; exact put_at he hN.2.2⟩ (Fr.put _ _ hcn)
  refine ⟨S3, fun d => ?_, r3⟩
  refine MetA.of rfl (by decide +kernel) (Nat.le_of_ble_eq_true rfl) ?_
  refine ev_aload_n i_Re_fillElements_0 rfl ?_
  refine ev_get i_Re_fillElements_1 ho rfl ?_
  refine ev_iconstN (v := 0) i_Re_fillElements_4 (by decide) ?_
  refine ev_callS2 i_Re_fillElements_5 rfl (Nat.le_of_ble_eq_true rfl) (c_Ar_fillI h1 (by decide)) ?_
  rw [kN_fill]
  refine ev_iconstN (v := 0) i_Re_fillElements_8 (by decide) ?_
  refine ev_ist_n_3 i_Re_fillElements_9 rfl ?_
  refine ev_eqS (S1 := (S.put c1 (aI 6 (kG (fun b => occN xs b 0) f 6)))) rfl ?_
  refine ev_loop (n := xs.length) (fun i => [some (.ref 66), some (.ref t), some (.ref w), some (.int (nI i)), none, none]) (fun i => (S.put c1 (aI 6 (kG (fun b => occN xs b i) f 6)))) (fun i hi ki => ?_) ?_
  · try dsimp only at ki ⊢
    have oj : (S.put c1 (aI 6 (kG (fun b => occN xs b i) f 6))).1[66]? = _ := put_at ho hN.1
    have w1 : (S.put c1 (aI 6 (kG (fun b => occN xs b i) f 6))).1[c1]? = _ := put_self h1
    have hFj : Fr [66, 67, 68, 69] S (S.put c1 (aI 6 (kG (fun b => occN xs b i) f 6))) := Fr.put _ _ hcn
    have xj := hx.fr hFj hw
    obtain ⟨-, -, x3, fx, x4, x5⟩ := id xj
    refine ev_iload_n i_Re_fillElements_10 rfl ?_
    refine ev_aload_n i_Re_fillElements_11 rfl ?_
    refine ev_get i_Re_fillElements_12 xj.1 rfl ?_
    refine ev_icmp_geN i_Re_fillElements_15 (by omega) (by omega) (fun hc_15 => ?_) (fun hc_15 => ?_)
    · skip
      exfalso; omega
    · skip
      refine ev_aload_n i_Re_fillElements_18 rfl ?_
      refine ev_get i_Re_fillElements_19 oj rfl ?_
      refine ev_aload_n i_Re_fillElements_22 rfl ?_
      refine ev_get i_Re_fillElements_23 xj.1 rfl ?_
      refine ev_iload_n i_Re_fillElements_26 rfl ?_
      refine ev_ialdN i_Re_fillElements_27 x4 (by omega) (by decide) ?_
      rw [x5 i (by omega)]
      refine ev_dup2_11 i_Re_fillElements_28 rfl rfl ?_
      refine ev_ialdN i_Re_fillElements_29 w1 (x3 i (by omega)) (by decide) ?_
      rw [kN_at (x3 i (by omega))]
      refine ev_iconstN (v := 1) i_Re_fillElements_30 (by decide) ?_
      first | refine ev_iaddN i_Re_fillElements_31 ?_ | refine ev_iadd i_Re_fillElements_31 ?_
      refine ev_iastN i_Re_fillElements_32 w1 (x3 i (by omega)) (by decide) ?_
      rw [kN_upd (x3 i (by omega)), put_put]
      refine ev_iincN_3 (c := 1) i_Re_fillElements_33 (by decide) rfl ?_
      refine ev_goto i_Re_fillElements_36 ?_
      have e : ∀ b, b < 6 → occN xs b (i + 1) = if b = xs.getD i 0 then occN xs (xs.getD i 0) i + 1 else occN xs b i := fun b _ => by
        rw [occN_s]
        by_cases z : b = xs.getD i 0
        · rw [if_pos z, if_pos z.symm, z]
        · rw [if_neg z, if_neg (fun q => z q.symm), Nat.add_zero]
      rw [kN_congr e] at ki
      exact ki
  · try dsimp only
    have oj : (S.put c1 (aI 6 (kG (fun b => occN xs b xs.length) f 6))).1[66]? = _ := put_at ho hN.1
    have w1 : (S.put c1 (aI 6 (kG (fun b => occN xs b xs.length) f 6))).1[c1]? = _ := put_self h1
    have hFj : Fr [66, 67, 68, 69] S (S.put c1 (aI 6 (kG (fun b => occN xs b xs.length) f 6))) := Fr.put _ _ hcn
    have xj := hx.fr hFj hw
    obtain ⟨-, -, x3, fx, x4, x5⟩ := id xj
    refine ev_iload_n i_Re_fillElements_10 rfl ?_
    refine ev_aload_n i_Re_fillElements_11 rfl ?_
    refine ev_get i_Re_fillElements_12 xj.1 rfl ?_
    refine ev_icmp_geN i_Re_fillElements_15 (by omega) (by omega) (fun hc_15 => ?_) (fun hc_15 => ?_)
    · skip
      refine ev_iconstN (v := 0) i_Re_fillElements_39 (by decide) ?_
      refine ev_ist_n_3 i_Re_fillElements_40 rfl ?_
      exact m3 d _ _
    · skip
      exfalso; omega

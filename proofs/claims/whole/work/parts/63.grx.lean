/-! growth of lengths: what it is, the class Growth -/
/-- how often a letter stands among the first i of a word -/
def occN (p : List Nat) (b i : Nat) : Nat := sumN (fun u => if p.getD u 0 = b then 1 else 0) i
def occ (p : List Nat) (b : Nat) : Nat := occN p b p.length
/-- the only production of a letter -/
def prd (T : TabV) (a : Nat) : List Nat := (T.1 a).getD 0 []
/-- how often a letter stands in the word after n steps -/
def cw (T : TabV) (xs : List Nat) : Nat → Nat → Nat
  | 0, b => occ xs b
  | n + 1, b => sumN (fun a => occ (prd T a) b * cw T xs n a) 6
def tot (T : TabV) (xs : List Nat) (n : Nat) : Nat := sumN (cw T xs n) 6
theorem occN_s (p : List Nat) (b i : Nat) : occN p b (i + 1) = occN p b i + (if p.getD i 0 = b then 1 else 0) := rfl
theorem sum_ind {x n : Nat} : sumN (fun b => if x = b then 1 else 0) n = if x < n then 1 else 0 := by
  induction n with
  | zero => rfl
  | succ n ih =>
    show sumN (fun b => if x = b then 1 else 0) n + (if x = n then 1 else 0) = _
    rw [ih]
    by_cases h1 : x < n
    · rw [if_pos h1, if_neg (by omega), if_pos (by omega)]
    · by_cases h2 : x = n
      · rw [if_neg h1, if_pos h2, if_pos (by omega)]
      · rw [if_neg h1, if_neg h2, if_neg (by omega)]
theorem occ_sum {p : List Nat} : ∀ {i : Nat}, (∀ u, u < i → p.getD u 0 < 6) → sumN (fun b => occN p b i) 6 = i := by
  intro i
  induction i with
  | zero => intro _; exact sumN_zero (fun _ _ => rfl)
  | succ i ih =>
    intro h
    have e : sumN (fun b => occN p b (i + 1)) 6 = sumN (fun b => occN p b i + (if p.getD i 0 = b then 1 else 0)) 6 := sumN_congr (fun b _ => occN_s p b i)
    rw [e, sumN_addf, ih (fun u hu => h u (by omega)), sum_ind, if_pos (h i (by omega))]
theorem tot_s {T : TabV} {xs : List Nat} {n : Nat} (h : ∀ a, a < 6 → PrOK (prd T a)) : tot T xs (n + 1) = sumN (fun a => (prd T a).length * cw T xs n a) 6 := by
  unfold tot
  show sumN (fun b => sumN (fun a => occ (prd T a) b * cw T xs n a) 6) 6 = _
  rw [sumN_comm]
  refine sumN_congr (fun a ha => ?_)
  rw [← sumN_mulr]
  congr 1
  exact occ_sum (h a ha).2
theorem tot_0 {T : TabV} {xs : List Nat} (h : ∀ u, u < xs.length → xs.getD u 0 < 6) : tot T xs 0 = xs.length := occ_sum h
theorem cw_le_tot {T : TabV} {xs : List Nat} {n a : Nat} (ha : a < 6) : cw T xs n a ≤ tot T xs n := by
  unfold tot
  have h1 := sumN_mono (f := cw T xs n) (show a + 1 ≤ 6 by omega)
  have h2 : cw T xs n a ≤ sumN (cw T xs n) (a + 1) := Nat.le_add_left _ _
  omega
/-- no word on the way is too long -/
def okG (T : TabV) (xs : List Nat) (n : Nat) : Prop := ∀ m, m ≤ n → tot T xs m < 2 ^ 63
/-- a row of six longs -/
def cF (W : Nat → Nat) (g : Nat → Int64) : Nat → Int64 := fun j => if j < 6 then nL (W j) else g j
theorem cF_at {W : Nat → Nat} {g : Nat → Int64} {j : Nat} (h : j < 6) : cF W g j = nL (W j) := if_pos h
theorem cF_upd {W : Nat → Nat} {g : Nat → Int64} {k v : Nat} (h : k < 6) : vp_updL (cF W g) k (nL v) = cF (fun j => if j = k then v else W j) g := by
  funext j
  unfold vp_updL cF
  by_cases z : j = k
  · rw [if_pos z, if_pos (by omega)]
    show nL v = nL (if j = k then v else W j)
    rw [if_pos z]
  · rw [if_neg z]
    by_cases q : j < 6
    · rw [if_pos q, if_pos q]
      show nL (W j) = nL (if j = k then v else W j)
      rw [if_neg z]
    · rw [if_neg q, if_neg q]
theorem cF_fill (g : Nat → Int64) : fillF g 0 (fun _ => (0 : Int64)) 6 = cF (fun _ => 0) g := by
  funext j
  unfold fillF cF
  by_cases q : j < 6
  · rw [if_pos (by omega), if_pos q]; rfl
  · rw [if_neg (by omega), if_neg q]
theorem cF_congr {W W' : Nat → Nat} {g : Nat → Int64} (h : ∀ j, j < 6 → W j = W' j) : cF W g = cF W' g := by
  funext j
  unfold cF
  by_cases q : j < 6
  · rw [if_pos q, if_pos q, h j q]
  · rw [if_neg q, if_neg q]
theorem put_comm {S : Sto} {k j : Nat} {c e : ACell} (h : k ≠ j) : (S.put k c).put j e = (S.put j e).put k c := by
  show ((S.1.set k c).set j e, S.2) = ((S.1.set j e).set k c, S.2)
  rw [List.set_comm _ _ h]
abbrev grO (c1 c2 : Nat) (t : Int64) : ACell := oB 4 [.ref c1, .ref c2, .long t, .ref 64, .ref 65]
/-- behind a letters and i places -/
def NX (T : TabV) (C : Nat → Nat) (a i b : Nat) : Nat := sumN (fun u => occ (prd T u) b * C u) a + occN (prd T a) b i * C a
def TT (T : TabV) (C : Nat → Nat) (a i : Nat) : Nat := sumN (fun u => (prd T u).length * C u) a + i * C a
theorem NX_s {T : TabV} {C : Nat → Nat} {a i b : Nat} : NX T C a (i + 1) b = if b = (prd T a).getD i 0 then NX T C a i ((prd T a).getD i 0) + C a else NX T C a i b := by
  unfold NX
  rw [occN_s]
  by_cases z : b = (prd T a).getD i 0
  · rw [if_pos z, if_pos z.symm, z, Nat.add_mul, Nat.one_mul]
    omega
  · rw [if_neg z, if_neg (fun q => z q.symm), Nat.add_zero]
theorem NX_e {T : TabV} {C : Nat → Nat} {a b : Nat} : NX T C a (prd T a).length b = NX T C (a + 1) 0 b := by
  unfold NX
  show sumN (fun u => occ (prd T u) b * C u) a + occ (prd T a) b * C a = (sumN (fun u => occ (prd T u) b * C u) a + occ (prd T a) b * C a) + 0 * _
  rw [Nat.zero_mul, Nat.add_zero]
theorem TT_e {T : TabV} {C : Nat → Nat} {a : Nat} : TT T C a (prd T a).length = TT T C (a + 1) 0 := by
  unfold TT
  show _ = (sumN (fun u => (prd T u).length * C u) a + (prd T a).length * C a) + 0 * _
  rw [Nat.zero_mul, Nat.add_zero]
theorem TT_s {T : TabV} {C : Nat → Nat} {a i : Nat} : TT T C a (i + 1) = TT T C a i + C a := by
  unfold TT
  rw [Nat.succ_mul]
  omega
theorem TT_mono {T : TabV} {C : Nat → Nat} {a i j : Nat} (h : i ≤ j) : TT T C a i ≤ TT T C a j := by
  unfold TT
  have := Nat.mul_le_mul_right (C a) h
  omega
theorem TT_le {T : TabV} {C : Nat → Nat} {a b i : Nat} (hab : a < b) (h : i ≤ (prd T a).length) : TT T C a i ≤ TT T C b 0 := by
  have h1 := TT_mono (T := T) (C := C) (a := a) h
  rw [TT_e] at h1
  unfold TT at h1 ⊢
  have h2 := sumN_mono (f := fun u => (prd T u).length * C u) (show a + 1 ≤ b from hab)
  rw [Nat.zero_mul, Nat.add_zero] at h1 ⊢
  omega
theorem lp_advO {scr : Scr} {l : Launch} {S : Sto} {t c1 c2 : Nat} {T : TabV} {C : Nat → Nat} {g1 g2 : Nat → Int64} {x0 : Int64} (ht : TabAt S t T) (hd : isDet T) (hc : (c1 = 62 ∧ c2 = 63) ∨ (c1 = 63 ∧ c2 = 62)) (ho : S.1[61]? = some (grO c1 c2 x0)) (h1 : S.1[c1]? = some (aJ 6 (cF C g1))) (h2 : S.1[c2]? = some (aJ 6 g2)) (hoff : tabOff t [61, 62, 63]) {d : Nat} {r : Res} {n : Nat} (hn6 : n ≤ 6) (hlim0 : TT T C n 0 < 2 ^ 63) (hC : ∀ a, a < 6 → C a < 2 ^ 63) (hk : ∀ u3 u4, Ev scr l (d + 1) M_Gr_advanceOnce 15 [some (.ref 61), some (.ref t), some (.int (nI n)), u3, u4] [] ((S.put c2 (aJ 6 (cF (NX T C n 0) g2))).put 61 (grO c1 c2 (nL (TT T C n 0)))) r) : ∀ (k a : Nat), a + k = n → ∀ u3 u4, Ev scr l (d + 1) M_Gr_advanceOnce 15 [some (.ref 61), some (.ref t), some (.int (nI a)), u3, u4] [] ((S.put c2 (aJ 6 (cF (NX T C a 0) g2))).put 61 (grO c1 c2 (nL (TT T C a 0)))) r := by
  obtain ⟨rc, fs, fl, fe, hT, hR⟩ := ht
  have hn : c2 ≠ 61 ∧ c2 ≠ c1 ∧ 61 ≠ c1 := by rcases hc with q | q <;> omega
  have hcn : c2 ∈ [61, 62, 63] := by rcases hc with q | q <;> (rw [q.2]; simp)
  intro k
  induction k with
  | zero =>
    intro a hak u3 u4
    have z : a = n := by omega
    subst z
    exact hk u3 u4
  | succ k ih =>
    intro a hak u3 u4
    have hsl := (hR.1 a (by omega)).2.2.2 0 (by rw [hd _ (by omega)]; omega)
    have hok : PrOK (prd T a) := hsl.2
    have hsl : SlotR fl fe (a * 3 + 0) (prd T a) := hsl.1
    have hl4 := hok.1
    have hCa := hC a (by omega)
    have hlimA : ∀ i, i < (prd T a).length → TT T C a (i + 1) < 2 ^ 63 := fun i hi => Nat.lt_of_le_of_lt (TT_le (show a < n by omega) hi) hlim0
    refine ev_iload_n i_Gr_advanceOnce_15 rfl ?_
    refine ev_bipushN (v := 6) i_Gr_advanceOnce_16 (by decide) ?_
    refine ev_icmp_geN i_Gr_advanceOnce_18 (by omega) (by omega) (fun hc_18 => ?_) (fun hc_18 => ?_)
    · skip
      exfalso; omega
    · skip
      refine ev_iload_n i_Gr_advanceOnce_21 rfl ?_
      refine ev_iconstN (v := 0) i_Gr_advanceOnce_22 (by decide) ?_
      refine ev_callS2 i_Gr_advanceOnce_23 rfl (Nat.le_of_ble_eq_true rfl) c_Tb_listSlot ?_
      refine ev_ist_n_3 i_Gr_advanceOnce_26 rfl ?_
      refine ev_iconstN (v := 0) i_Gr_advanceOnce_27 (by decide) ?_
      refine ev_ist_4 i_Gr_advanceOnce_28 rfl ?_
      refine ev_eqS (S1 := ((S.put c2 (aJ 6 (cF (NX T C a 0) g2))).put 61 (grO c1 c2 (nL (TT T C a 0))))) rfl ?_
      refine ev_loop (n := (prd T a).length) (fun i => [some (.ref 61), some (.ref t), some (.int (nI a)), some (.int (nI (a * 3 + 0))), some (.int (nI i))]) (fun i => ((S.put c2 (aJ 6 (cF (NX T C a i) g2))).put 61 (grO c1 c2 (nL (TT T C a i))))) (fun i hi ki => ?_) ?_
      · try dsimp only at ki ⊢
        have oj : ((S.put c2 (aJ 6 (cF (NX T C a i) g2))).put 61 (grO c1 c2 (nL (TT T C a i)))).1[61]? = _ := put_self (put_at ho hn.1)
        have w1 : ((S.put c2 (aJ 6 (cF (NX T C a i) g2))).put 61 (grO c1 c2 (nL (TT T C a i)))).1[c1]? = _ := put_at (put_at h1 hn.2.1) hn.2.2
        have n1 : ((S.put c2 (aJ 6 (cF (NX T C a i) g2))).put 61 (grO c1 c2 (nL (TT T C a i)))).1[c2]? = _ := put_at (put_self h2) hn.1.symm
        have hFj : Fr [61, 62, 63] S ((S.put c2 (aJ 6 (cF (NX T C a i) g2))).put 61 (grO c1 c2 (nL (TT T C a i)))) := (Fr.put _ _ hcn).tr (Fr.put _ _ (by simp))
        have tj := hT.fr hFj hoff
        have o2 : ((S.put c2 (aJ 6 (cF (NX T C a i) g2))).put 61 (grO c1 c2 (nL (TT T C a (i + 1))))).1[61]? = _ := put_self (put_at ho hn.1)
        have w2 : ((S.put c2 (aJ 6 (cF (NX T C a i) g2))).put 61 (grO c1 c2 (nL (TT T C a (i + 1))))).1[c1]? = _ := put_at (put_at h1 hn.2.1) hn.2.2
        have n2 : ((S.put c2 (aJ 6 (cF (NX T C a i) g2))).put 61 (grO c1 c2 (nL (TT T C a (i + 1))))).1[c2]? = _ := put_at (put_self h2) hn.1.symm
        have hFk : Fr [61, 62, 63] S ((S.put c2 (aJ 6 (cF (NX T C a i) g2))).put 61 (grO c1 c2 (nL (TT T C a (i + 1))))) := (Fr.put _ _ hcn).tr (Fr.put _ _ (by simp))
        have hlim := hlimA i (by omega)
        rw [TT_s] at hlim
        refine ev_iload i_Gr_advanceOnce_30 rfl ?_
        refine ev_aload_n i_Gr_advanceOnce_32 rfl ?_
        refine ev_get i_Gr_advanceOnce_33 tj.1 rfl ?_
        refine ev_iload_n i_Gr_advanceOnce_36 rfl ?_
        refine ev_ialdN i_Gr_advanceOnce_37 tj.2.2.1 (by omega) (by decide) ?_
        rw [hsl.1]
        refine ev_icmp_geN i_Gr_advanceOnce_38 (by omega) (by omega) (fun hc_38 => ?_) (fun hc_38 => ?_)
        · skip
          exfalso; omega
        · skip
          refine ev_aload_n i_Gr_advanceOnce_41 rfl ?_
          refine ev_get i_Gr_advanceOnce_42 oj rfl ?_
          refine ev_iload_n i_Gr_advanceOnce_45 rfl ?_
          refine ev_laldN i_Gr_advanceOnce_46 w1 (by omega) (by decide) ?_
          rw [cF_at (by omega)]
          refine ev_LdcL i_Gr_advanceOnce_47 ?_
          refine ev_aload_n i_Gr_advanceOnce_50 rfl ?_
          refine ev_get i_Gr_advanceOnce_51 oj rfl ?_
          refine ev_lsub i_Gr_advanceOnce_54 ?_
          rw [max_sub (by omega)]
          refine ev_lif_le i_Gr_advanceOnce_55 i_Gr_advanceOnce_56 (fun hc_56 => ?_) (fun hc_56 => ?_)
          · skip
            refine ev_aload_n i_Gr_advanceOnce_61 rfl ?_
            refine ev_dup i_Gr_advanceOnce_62 rfl ?_
            refine ev_get i_Gr_advanceOnce_63 oj rfl ?_
            refine ev_aload_n i_Gr_advanceOnce_66 rfl ?_
            refine ev_get i_Gr_advanceOnce_67 oj rfl ?_
            refine ev_iload_n i_Gr_advanceOnce_70 rfl ?_
            refine ev_laldN i_Gr_advanceOnce_71 w1 (by omega) (by decide) ?_
            rw [cF_at (by omega)]
            refine ev_ladd i_Gr_advanceOnce_72 ?_
            rw [nL_add, ← TT_s]
            refine ev_put i_Gr_advanceOnce_73 oj (Nat.le_of_ble_eq_true rfl) rfl rfl ?_
            refine ev_eqS (S1 := (S.put c2 (aJ 6 (cF (NX T C a i) g2))).put 61 (grO c1 c2 (nL (TT T C a (i + 1))))) (by rw [put_put]; rfl) ?_
            refine ev_aload_n i_Gr_advanceOnce_76 rfl ?_
            refine ev_get i_Gr_advanceOnce_77 o2 rfl ?_
            refine ev_aload_n i_Gr_advanceOnce_80 rfl ?_
            refine ev_iload_n i_Gr_advanceOnce_81 rfl ?_
            refine ev_iload i_Gr_advanceOnce_82 rfl ?_
            refine ev_callV2 i_Gr_advanceOnce_84 rfl (hT.fr hFk hoff).1 (Nat.le_of_ble_eq_true rfl) (c_Tb_letterOf (hT.fr hFk hoff) (by omega) (by omega)) ?_
            rw [hsl.2 i (by omega)]
            refine ev_dup2_11 i_Gr_advanceOnce_87 rfl rfl ?_
            refine ev_laldN i_Gr_advanceOnce_88 n2 (hok.2 _ (by omega)) (by decide) ?_
            rw [cF_at (hok.2 _ (by omega))]
            refine ev_aload_n i_Gr_advanceOnce_89 rfl ?_
            refine ev_get i_Gr_advanceOnce_90 o2 rfl ?_
            refine ev_iload_n i_Gr_advanceOnce_93 rfl ?_
            refine ev_laldN i_Gr_advanceOnce_94 w2 (by omega) (by decide) ?_
            rw [cF_at (by omega)]
            refine ev_ladd i_Gr_advanceOnce_95 ?_
            rw [nL_add]
            refine ev_lastN i_Gr_advanceOnce_96 n2 (hok.2 _ (by omega)) (by decide) ?_
            rw [cF_upd (hok.2 _ (by omega)), put_comm (by omega), put_put, ← cF_congr (fun b _ => NX_s)]
            refine ev_iincN_4 (c := 1) i_Gr_advanceOnce_97 (by decide) rfl ?_
            refine ev_goto i_Gr_advanceOnce_100 ?_
            exact ki
          · skip
            rw [nL_lt_iff (by omega) (by omega)] at hc_56
            exfalso; omega
      · try dsimp only
        have oj : ((S.put c2 (aJ 6 (cF (NX T C a (prd T a).length) g2))).put 61 (grO c1 c2 (nL (TT T C a (prd T a).length)))).1[61]? = _ := put_self (put_at ho hn.1)
        have w1 : ((S.put c2 (aJ 6 (cF (NX T C a (prd T a).length) g2))).put 61 (grO c1 c2 (nL (TT T C a (prd T a).length)))).1[c1]? = _ := put_at (put_at h1 hn.2.1) hn.2.2
        have n1 : ((S.put c2 (aJ 6 (cF (NX T C a (prd T a).length) g2))).put 61 (grO c1 c2 (nL (TT T C a (prd T a).length)))).1[c2]? = _ := put_at (put_self h2) hn.1.symm
        have hFj : Fr [61, 62, 63] S ((S.put c2 (aJ 6 (cF (NX T C a (prd T a).length) g2))).put 61 (grO c1 c2 (nL (TT T C a (prd T a).length)))) := (Fr.put _ _ hcn).tr (Fr.put _ _ (by simp))
        have tj := hT.fr hFj hoff
        refine ev_iload i_Gr_advanceOnce_30 rfl ?_
        refine ev_aload_n i_Gr_advanceOnce_32 rfl ?_
        refine ev_get i_Gr_advanceOnce_33 tj.1 rfl ?_
        refine ev_iload_n i_Gr_advanceOnce_36 rfl ?_
        refine ev_ialdN i_Gr_advanceOnce_37 tj.2.2.1 (by omega) (by decide) ?_
        rw [hsl.1]
        refine ev_icmp_geN i_Gr_advanceOnce_38 (by omega) (by omega) (fun hc_38 => ?_) (fun hc_38 => ?_)
        · skip
          refine ev_iincN_2 (c := 1) i_Gr_advanceOnce_103 (by decide) rfl ?_
          refine ev_goto i_Gr_advanceOnce_106 ?_
          rw [cF_congr (fun b _ => NX_e), TT_e]
          exact ih (a + 1) (by omega) _ _
        · skip
          exfalso; omega
theorem NX_00 {T : TabV} {C : Nat → Nat} {b : Nat} : NX T C 0 0 b = 0 := by
  unfold NX
  show 0 + 0 * _ = 0
  rw [Nat.zero_mul]
theorem TT_00 {T : TabV} {C : Nat → Nat} : TT T C 0 0 = 0 := by
  unfold TT
  show 0 + 0 * _ = 0
  rw [Nat.zero_mul]
theorem g_once {scr : Scr} {l : Launch} {S : Sto} {t c1 c2 : Nat} {T : TabV} {C : Nat → Nat} {g1 g2 : Nat → Int64} {x0 : Int64} (ht : TabAt S t T) (hd : isDet T) (hc : (c1 = 62 ∧ c2 = 63) ∨ (c1 = 63 ∧ c2 = 62)) (ho : S.1[61]? = some (grO c1 c2 x0)) (h1 : S.1[c1]? = some (aJ 6 (cF C g1))) (h2 : S.1[c2]? = some (aJ 6 g2)) (hoff : tabOff t [61, 62, 63]) {d : Nat} (hlim : TT T C 6 0 < 2 ^ 63) (hC : ∀ a, a < 6 → C a < 2 ^ 63) : MetA scr l (d + 1) M_Gr_advanceOnce [.ref 61, .ref t] S (.inl (some (.int (nI 1))), (S.put c2 (aJ 6 (cF (NX T C 6 0) g2))).put 61 (grO c2 c1 (nL (TT T C 6 0)))) := by
  have hn : c2 ≠ 61 ∧ c2 ≠ c1 ∧ 61 ≠ c1 := by rcases hc with q | q <;> omega
  have hcn : c2 ∈ [61, 62, 63] := by rcases hc with q | q <;> (rw [q.2]; simp)
  have o6 : ((S.put c2 (aJ 6 (cF (NX T C 6 0) g2))).put 61 (grO c1 c2 (nL (TT T C 6 0)))).1[61]? = _ := put_self (put_at ho hn.1)
  have o7 : ((S.put c2 (aJ 6 (cF (NX T C 6 0) g2))).put 61 (grO c2 c2 (nL (TT T C 6 0)))).1[61]? = _ := put_self (put_at ho hn.1)
  refine MetA.of rfl (by decide +kernel) (Nat.le_of_ble_eq_true rfl) ?_
  refine ev_aload_n i_Gr_advanceOnce_0 rfl ?_
  refine ev_get i_Gr_advanceOnce_1 ho rfl ?_
  refine ev_lconst (v := 0) i_Gr_advanceOnce_4 (by decide) ?_
  refine ev_callS2 i_Gr_advanceOnce_5 rfl (Nat.le_of_ble_eq_true rfl) (c_Ar_fillJ h2 (by decide)) ?_
  rw [cF_fill]
  refine ev_aload_n i_Gr_advanceOnce_8 rfl ?_
  refine ev_lconst (v := 0) i_Gr_advanceOnce_9 (by decide) ?_
  refine ev_put i_Gr_advanceOnce_10 (put_at ho hn.1) (Nat.le_of_ble_eq_true rfl) rfl rfl ?_
  refine ev_eqS (S1 := ((S.put c2 (aJ 6 (cF (NX T C 0 0) g2))).put 61 (grO c1 c2 (nL (TT T C 0 0))))) (by rw [cF_congr (fun b _ => NX_00), TT_00]; rfl) ?_
  refine ev_iconstN (v := 0) i_Gr_advanceOnce_13 (by decide) ?_
  refine ev_ist_n_2 i_Gr_advanceOnce_14 rfl ?_
  exact lp_advO ht hd hc ho h1 h2 hoff (Nat.le_refl 6) hlim hC (fun u3 u4 => by
    refine ev_iload_n i_Gr_advanceOnce_15 rfl ?_
    refine ev_bipushN (v := 6) i_Gr_advanceOnce_16 (by decide) ?_
    refine ev_icmp_geN i_Gr_advanceOnce_18 (by omega) (by omega) (fun hc_18 => ?_) (fun hc_18 => ?_)
    · skip
      refine ev_aload_n i_Gr_advanceOnce_109 rfl ?_
      refine ev_get i_Gr_advanceOnce_110 o6 rfl ?_
      refine ev_ast_n_2 i_Gr_advanceOnce_113 rfl ?_
      refine ev_aload_n i_Gr_advanceOnce_114 rfl ?_
      refine ev_aload_n i_Gr_advanceOnce_115 rfl ?_
      refine ev_get i_Gr_advanceOnce_116 o6 rfl ?_
      refine ev_put i_Gr_advanceOnce_119 o6 (Nat.le_of_ble_eq_true rfl) rfl rfl ?_
      refine ev_eqS (S1 := (S.put c2 (aJ 6 (cF (NX T C 6 0) g2))).put 61 (grO c2 c2 (nL (TT T C 6 0)))) (by rw [put_put]; rfl) ?_
      refine ev_aload_n i_Gr_advanceOnce_122 rfl ?_
      refine ev_aload_n i_Gr_advanceOnce_123 rfl ?_
      refine ev_put i_Gr_advanceOnce_124 o7 (Nat.le_of_ble_eq_true rfl) rfl rfl ?_
      refine ev_eqS (S1 := (S.put c2 (aJ 6 (cF (NX T C 6 0) g2))).put 61 (grO c2 c1 (nL (TT T C 6 0)))) (by rw [put_put]; rfl) ?_
      refine ev_iconstN (v := 1) i_Gr_advanceOnce_127 (by decide) ?_
      exact ev_iret i_Gr_advanceOnce_128 rfl (by first | rfl | decide)
    · skip
      exfalso; omega) 6 0 (by omega) _ _
theorem g_once_no {scr : Scr} {l : Launch} {S : Sto} {t c1 c2 : Nat} {T : TabV} {C : Nat → Nat} {g1 g2 : Nat → Int64} {x0 : Int64} (ht : TabAt S t T) (hd : isDet T) (hc : (c1 = 62 ∧ c2 = 63) ∨ (c1 = 63 ∧ c2 = 62)) (ho : S.1[61]? = some (grO c1 c2 x0)) (h1 : S.1[c1]? = some (aJ 6 (cF C g1))) (h2 : S.1[c2]? = some (aJ 6 g2)) (hoff : tabOff t [61, 62, 63]) (hlim : ¬ TT T C 6 0 < 2 ^ 63) (hC : ∀ a, a < 6 → C a < 2 ^ 63) : ∃ S1, (∀ d, MetA scr l (d + 1) M_Gr_advanceOnce [.ref 61, .ref t] S (.inl (some (.int (nI 0))), S1)) ∧ (∃ f2 x, S1.1[61]? = some (grO c1 c2 x) ∧ S1.1[c1]? = some (aJ 6 (cF C g1)) ∧ S1.1[c2]? = some (aJ 6 f2)) ∧ Fr [61, 62, 63] S S1 := by
  have hn : c2 ≠ 61 ∧ c2 ≠ c1 ∧ 61 ≠ c1 := by rcases hc with q | q <;> omega
  have hcn : c2 ∈ [61, 62, 63] := by rcases hc with q | q <;> (rw [q.2]; simp)
  rcases first_or (fun a => decide (¬ TT T C (a + 1) 0 < 2 ^ 63)) 6 with hf | ⟨a0, ha0, hov, hf⟩
  · exact absurd (by simpa using hf 5 (by omega)) hlim
  have hov : ¬ TT T C (a0 + 1) 0 < 2 ^ 63 := by simpa using hov
  have hl0 : TT T C a0 0 < 2 ^ 63 := by
    cases a0 with
    | zero => unfold TT; rw [Nat.zero_mul]; exact Nat.two_pow_pos 63
    | succ a => simpa using hf a (by omega)
  rcases first_or (fun i => decide (¬ TT T C a0 (i + 1) < 2 ^ 63)) (prd T a0).length with hg | ⟨i0, hi0, hov2, hg⟩
  · exfalso
    rw [← TT_e] at hov
    cases hp : (prd T a0).length with
    | zero => rw [hp] at hov; exact hov hl0
    | succ n => rw [hp] at hov hg; exact hov (by simpa using hg n (by omega))
  have hov2 : ¬ TT T C a0 (i0 + 1) < 2 ^ 63 := by simpa using hov2
  have hi00 : TT T C a0 i0 < 2 ^ 63 := by
    cases i0 with
    | zero => exact hl0
    | succ i => simpa using hg i (by omega)
  have hlimA : ∀ i, i < i0 → TT T C a0 (i + 1) < 2 ^ 63 := fun i hi => by simpa using hg i hi
  have hCa := hC a0 ha0
  refine ⟨((S.put c2 (aJ 6 (cF (NX T C a0 i0) g2))).put 61 (grO c1 c2 (nL (TT T C a0 i0)))), fun d => ?_, ⟨_, _, put_self (put_at ho hn.1), put_at (put_at h1 hn.2.1) hn.2.2, put_at (put_self h2) hn.1.symm⟩, (Fr.put _ _ hcn).tr (Fr.put _ _ (by simp))⟩
  obtain ⟨rc, fs, fl, fe, hT, hR⟩ := id ht
  have hsl := (hR.1 a0 (by omega)).2.2.2 0 (by rw [hd _ (by omega)]; omega)
  have hok : PrOK (prd T a0) := hsl.2
  have hsl : SlotR fl fe (a0 * 3 + 0) (prd T a0) := hsl.1
  have hl4 := hok.1
  refine MetA.of rfl (by decide +kernel) (Nat.le_of_ble_eq_true rfl) ?_
  refine ev_aload_n i_Gr_advanceOnce_0 rfl ?_
  refine ev_get i_Gr_advanceOnce_1 ho rfl ?_
  refine ev_lconst (v := 0) i_Gr_advanceOnce_4 (by decide) ?_
  refine ev_callS2 i_Gr_advanceOnce_5 rfl (Nat.le_of_ble_eq_true rfl) (c_Ar_fillJ h2 (by decide)) ?_
  rw [cF_fill]
  refine ev_aload_n i_Gr_advanceOnce_8 rfl ?_
  refine ev_lconst (v := 0) i_Gr_advanceOnce_9 (by decide) ?_
  refine ev_put i_Gr_advanceOnce_10 (put_at ho hn.1) (Nat.le_of_ble_eq_true rfl) rfl rfl ?_
  refine ev_eqS (S1 := ((S.put c2 (aJ 6 (cF (NX T C 0 0) g2))).put 61 (grO c1 c2 (nL (TT T C 0 0))))) (by rw [cF_congr (fun b _ => NX_00), TT_00]; rfl) ?_
  refine ev_iconstN (v := 0) i_Gr_advanceOnce_13 (by decide) ?_
  refine ev_ist_n_2 i_Gr_advanceOnce_14 rfl ?_
  exact lp_advO ht hd hc ho h1 h2 hoff (show a0 ≤ 6 by omega) hl0 hC (fun u3 u4 => by
    refine ev_iload_n i_Gr_advanceOnce_15 rfl ?_
    refine ev_bipushN (v := 6) i_Gr_advanceOnce_16 (by decide) ?_
    refine ev_icmp_geN i_Gr_advanceOnce_18 (by omega) (by omega) (fun hc_18 => ?_) (fun hc_18 => ?_)
    · skip
      exfalso; omega
    · skip
      refine ev_iload_n i_Gr_advanceOnce_21 rfl ?_
      refine ev_iconstN (v := 0) i_Gr_advanceOnce_22 (by decide) ?_
      refine ev_callS2 i_Gr_advanceOnce_23 rfl (Nat.le_of_ble_eq_true rfl) c_Tb_listSlot ?_
      refine ev_ist_n_3 i_Gr_advanceOnce_26 rfl ?_
      refine ev_iconstN (v := 0) i_Gr_advanceOnce_27 (by decide) ?_
      refine ev_ist_4 i_Gr_advanceOnce_28 rfl ?_
      refine ev_eqS (S1 := ((S.put c2 (aJ 6 (cF (NX T C a0 0) g2))).put 61 (grO c1 c2 (nL (TT T C a0 0))))) rfl ?_
      refine ev_loop (n := i0) (fun i => [some (.ref 61), some (.ref t), some (.int (nI a0)), some (.int (nI (a0 * 3 + 0))), some (.int (nI i))]) (fun i => ((S.put c2 (aJ 6 (cF (NX T C a0 i) g2))).put 61 (grO c1 c2 (nL (TT T C a0 i))))) (fun i hi ki => ?_) ?_
      · try dsimp only at ki ⊢
        have oj : ((S.put c2 (aJ 6 (cF (NX T C a0 i) g2))).put 61 (grO c1 c2 (nL (TT T C a0 i)))).1[61]? = _ := put_self (put_at ho hn.1)
        have w1 : ((S.put c2 (aJ 6 (cF (NX T C a0 i) g2))).put 61 (grO c1 c2 (nL (TT T C a0 i)))).1[c1]? = _ := put_at (put_at h1 hn.2.1) hn.2.2
        have n1 : ((S.put c2 (aJ 6 (cF (NX T C a0 i) g2))).put 61 (grO c1 c2 (nL (TT T C a0 i)))).1[c2]? = _ := put_at (put_self h2) hn.1.symm
        have hFj : Fr [61, 62, 63] S ((S.put c2 (aJ 6 (cF (NX T C a0 i) g2))).put 61 (grO c1 c2 (nL (TT T C a0 i)))) := (Fr.put _ _ hcn).tr (Fr.put _ _ (by simp))
        have tj := hT.fr hFj hoff
        have o2 : ((S.put c2 (aJ 6 (cF (NX T C a0 i) g2))).put 61 (grO c1 c2 (nL (TT T C a0 (i + 1))))).1[61]? = _ := put_self (put_at ho hn.1)
        have w2 : ((S.put c2 (aJ 6 (cF (NX T C a0 i) g2))).put 61 (grO c1 c2 (nL (TT T C a0 (i + 1))))).1[c1]? = _ := put_at (put_at h1 hn.2.1) hn.2.2
        have n2 : ((S.put c2 (aJ 6 (cF (NX T C a0 i) g2))).put 61 (grO c1 c2 (nL (TT T C a0 (i + 1))))).1[c2]? = _ := put_at (put_self h2) hn.1.symm
        have hFk : Fr [61, 62, 63] S ((S.put c2 (aJ 6 (cF (NX T C a0 i) g2))).put 61 (grO c1 c2 (nL (TT T C a0 (i + 1))))) := (Fr.put _ _ hcn).tr (Fr.put _ _ (by simp))
        have hlim := hlimA i (by omega)
        rw [TT_s] at hlim
        refine ev_iload i_Gr_advanceOnce_30 rfl ?_
        refine ev_aload_n i_Gr_advanceOnce_32 rfl ?_
        refine ev_get i_Gr_advanceOnce_33 tj.1 rfl ?_
        refine ev_iload_n i_Gr_advanceOnce_36 rfl ?_
        refine ev_ialdN i_Gr_advanceOnce_37 tj.2.2.1 (by omega) (by decide) ?_
        rw [hsl.1]
        refine ev_icmp_geN i_Gr_advanceOnce_38 (by omega) (by omega) (fun hc_38 => ?_) (fun hc_38 => ?_)
        · skip
          exfalso; omega
        · skip
          refine ev_aload_n i_Gr_advanceOnce_41 rfl ?_
          refine ev_get i_Gr_advanceOnce_42 oj rfl ?_
          refine ev_iload_n i_Gr_advanceOnce_45 rfl ?_
          refine ev_laldN i_Gr_advanceOnce_46 w1 (by omega) (by decide) ?_
          rw [cF_at (by omega)]
          refine ev_LdcL i_Gr_advanceOnce_47 ?_
          refine ev_aload_n i_Gr_advanceOnce_50 rfl ?_
          refine ev_get i_Gr_advanceOnce_51 oj rfl ?_
          refine ev_lsub i_Gr_advanceOnce_54 ?_
          rw [max_sub (by omega)]
          refine ev_lif_le i_Gr_advanceOnce_55 i_Gr_advanceOnce_56 (fun hc_56 => ?_) (fun hc_56 => ?_)
          · skip
            refine ev_aload_n i_Gr_advanceOnce_61 rfl ?_
            refine ev_dup i_Gr_advanceOnce_62 rfl ?_
            refine ev_get i_Gr_advanceOnce_63 oj rfl ?_
            refine ev_aload_n i_Gr_advanceOnce_66 rfl ?_
            refine ev_get i_Gr_advanceOnce_67 oj rfl ?_
            refine ev_iload_n i_Gr_advanceOnce_70 rfl ?_
            refine ev_laldN i_Gr_advanceOnce_71 w1 (by omega) (by decide) ?_
            rw [cF_at (by omega)]
            refine ev_ladd i_Gr_advanceOnce_72 ?_
            rw [nL_add, ← TT_s]
            refine ev_put i_Gr_advanceOnce_73 oj (Nat.le_of_ble_eq_true rfl) rfl rfl ?_
            refine ev_eqS (S1 := (S.put c2 (aJ 6 (cF (NX T C a0 i) g2))).put 61 (grO c1 c2 (nL (TT T C a0 (i + 1))))) (by rw [put_put]; rfl) ?_
            refine ev_aload_n i_Gr_advanceOnce_76 rfl ?_
            refine ev_get i_Gr_advanceOnce_77 o2 rfl ?_
            refine ev_aload_n i_Gr_advanceOnce_80 rfl ?_
            refine ev_iload_n i_Gr_advanceOnce_81 rfl ?_
            refine ev_iload i_Gr_advanceOnce_82 rfl ?_
            refine ev_callV2 i_Gr_advanceOnce_84 rfl (hT.fr hFk hoff).1 (Nat.le_of_ble_eq_true rfl) (c_Tb_letterOf (hT.fr hFk hoff) (by omega) (by omega)) ?_
            rw [hsl.2 i (by omega)]
            refine ev_dup2_11 i_Gr_advanceOnce_87 rfl rfl ?_
            refine ev_laldN i_Gr_advanceOnce_88 n2 (hok.2 _ (by omega)) (by decide) ?_
            rw [cF_at (hok.2 _ (by omega))]
            refine ev_aload_n i_Gr_advanceOnce_89 rfl ?_
            refine ev_get i_Gr_advanceOnce_90 o2 rfl ?_
            refine ev_iload_n i_Gr_advanceOnce_93 rfl ?_
            refine ev_laldN i_Gr_advanceOnce_94 w2 (by omega) (by decide) ?_
            rw [cF_at (by omega)]
            refine ev_ladd i_Gr_advanceOnce_95 ?_
            rw [nL_add]
            refine ev_lastN i_Gr_advanceOnce_96 n2 (hok.2 _ (by omega)) (by decide) ?_
            rw [cF_upd (hok.2 _ (by omega)), put_comm (by omega), put_put, ← cF_congr (fun b _ => NX_s)]
            refine ev_iincN_4 (c := 1) i_Gr_advanceOnce_97 (by decide) rfl ?_
            refine ev_goto i_Gr_advanceOnce_100 ?_
            exact ki
          · skip
            rw [nL_lt_iff (by omega) (by omega)] at hc_56
            exfalso; omega
      · try dsimp only
        have oj : ((S.put c2 (aJ 6 (cF (NX T C a0 i0) g2))).put 61 (grO c1 c2 (nL (TT T C a0 i0)))).1[61]? = _ := put_self (put_at ho hn.1)
        have w1 : ((S.put c2 (aJ 6 (cF (NX T C a0 i0) g2))).put 61 (grO c1 c2 (nL (TT T C a0 i0)))).1[c1]? = _ := put_at (put_at h1 hn.2.1) hn.2.2
        have n1 : ((S.put c2 (aJ 6 (cF (NX T C a0 i0) g2))).put 61 (grO c1 c2 (nL (TT T C a0 i0)))).1[c2]? = _ := put_at (put_self h2) hn.1.symm
        have hFj : Fr [61, 62, 63] S ((S.put c2 (aJ 6 (cF (NX T C a0 i0) g2))).put 61 (grO c1 c2 (nL (TT T C a0 i0)))) := (Fr.put _ _ hcn).tr (Fr.put _ _ (by simp))
        have tj := hT.fr hFj hoff
        have hl0 := hov2
        rw [TT_s] at hl0
        refine ev_iload i_Gr_advanceOnce_30 rfl ?_
        refine ev_aload_n i_Gr_advanceOnce_32 rfl ?_
        refine ev_get i_Gr_advanceOnce_33 tj.1 rfl ?_
        refine ev_iload_n i_Gr_advanceOnce_36 rfl ?_
        refine ev_ialdN i_Gr_advanceOnce_37 tj.2.2.1 (by omega) (by decide) ?_
        rw [hsl.1]
        refine ev_icmp_geN i_Gr_advanceOnce_38 (by omega) (by omega) (fun hc_38 => ?_) (fun hc_38 => ?_)
        · skip
          exfalso; omega
        · skip
          refine ev_aload_n i_Gr_advanceOnce_41 rfl ?_
          refine ev_get i_Gr_advanceOnce_42 oj rfl ?_
          refine ev_iload_n i_Gr_advanceOnce_45 rfl ?_
          refine ev_laldN i_Gr_advanceOnce_46 w1 (by omega) (by decide) ?_
          rw [cF_at (by omega)]
          refine ev_LdcL i_Gr_advanceOnce_47 ?_
          refine ev_aload_n i_Gr_advanceOnce_50 rfl ?_
          refine ev_get i_Gr_advanceOnce_51 oj rfl ?_
          refine ev_lsub i_Gr_advanceOnce_54 ?_
          rw [max_sub (by omega)]
          refine ev_lif_le i_Gr_advanceOnce_55 i_Gr_advanceOnce_56 (fun hc_56 => ?_) (fun hc_56 => ?_)
          · skip
            rw [nL_lt_iff (by omega) (by omega)] at hc_56
            exfalso; omega
          · skip
            refine ev_iconstN (v := 0) i_Gr_advanceOnce_59 (by decide) ?_
            exact ev_iret i_Gr_advanceOnce_60 rfl (by first | rfl | decide)) a0 0 (by omega) _ _

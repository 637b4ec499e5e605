/-! the class Growth: kinds of growth -/
/-- six bits -/
def mskB (a0 a1 a2 a3 a4 a5 : Bool) : Nat := bI a0 + 2 * bI a1 + 4 * bI a2 + 8 * bI a3 + 16 * bI a4 + 32 * bI a5
def msk (f : Nat → Bool) : Nat := mskB (f 0) (f 1) (f 2) (f 3) (f 4) (f 5)
theorem msk_lt (f : Nat → Bool) : msk f < 64 := by
  have h0 := bI_le (f 0)
  have h1 := bI_le (f 1)
  have h2 := bI_le (f 2)
  have h3 := bI_le (f 3)
  have h4 := bI_le (f 4)
  have h5 := bI_le (f 5)
  unfold msk mskB
  omega
theorem mskB_or : ∀ a0 a1 a2 a3 a4 a5 b0 b1 b2 b3 b4 b5 : Bool, nI (mskB a0 a1 a2 a3 a4 a5) ||| nI (mskB b0 b1 b2 b3 b4 b5) = nI (mskB (a0 || b0) (a1 || b1) (a2 || b2) (a3 || b3) (a4 || b4) (a5 || b5)) := by decide +kernel
theorem mskB_get : ∀ a0 a1 a2 a3 a4 a5 : Bool, (nI (mskB a0 a1 a2 a3 a4 a5) >>> (nI 0 &&& 31)) &&& nI 1 = nI (bI a0) ∧ (nI (mskB a0 a1 a2 a3 a4 a5) >>> (nI 1 &&& 31)) &&& nI 1 = nI (bI a1) ∧ (nI (mskB a0 a1 a2 a3 a4 a5) >>> (nI 2 &&& 31)) &&& nI 1 = nI (bI a2) ∧ (nI (mskB a0 a1 a2 a3 a4 a5) >>> (nI 3 &&& 31)) &&& nI 1 = nI (bI a3) ∧ (nI (mskB a0 a1 a2 a3 a4 a5) >>> (nI 4 &&& 31)) &&& nI 1 = nI (bI a4) ∧ (nI (mskB a0 a1 a2 a3 a4 a5) >>> (nI 5 &&& 31)) &&& nI 1 = nI (bI a5) := by decide +kernel
theorem msk_or (f g : Nat → Bool) : nI (msk f) ||| nI (msk g) = nI (msk (fun j => f j || g j)) := mskB_or _ _ _ _ _ _ _ _ _ _ _ _
theorem six {P : Nat → Prop} (h0 : P 0) (h1 : P 1) (h2 : P 2) (h3 : P 3) (h4 : P 4) (h5 : P 5) : ∀ j, j < 6 → P j := fun j hj => match j, hj with
  | 0, _ => h0
  | 1, _ => h1
  | 2, _ => h2
  | 3, _ => h3
  | 4, _ => h4
  | 5, _ => h5
  | n + 6, q => absurd q (by omega)
theorem msk_get (f : Nat → Bool) : ∀ j, j < 6 → (nI (msk f) >>> (nI j &&& 31)) &&& nI 1 = nI (bI (f j)) := by
  have h := mskB_get (f 0) (f 1) (f 2) (f 3) (f 4) (f 5)
  exact six h.1 h.2.1 h.2.2.1 h.2.2.2.1 h.2.2.2.2.1 h.2.2.2.2.2
theorem msk_one : ∀ j, j < 6 → nI 1 <<< (nI j &&& 31) = nI (msk (fun b => decide (j = b))) := six (by decide) (by decide) (by decide) (by decide) (by decide) (by decide)
theorem msk_congr {f g : Nat → Bool} (h : ∀ j, j < 6 → f j = g j) : msk f = msk g := by
  unfold msk
  rw [h 0 (by omega), h 1 (by omega), h 2 (by omega), h 3 (by omega), h 4 (by omega), h 5 (by omega)]
theorem msk_zero : nI 0 = nI (msk (fun _ => false)) := rfl
/-- rows of bits, rows of numbers: the first n are new -/
def rG (R : Nat → Nat → Bool) (g : Nat → Int32) (n : Nat) : Nat → Int32 := fun j => if j < n then nI (msk (R j)) else g j
def kG (ch : Nat → Nat) (g : Nat → Int32) (n : Nat) : Nat → Int32 := fun j => if j < n then nI (ch j) else g j
theorem upd_upd {f : Nat → Int32} {a : Nat} {v w : Int32} : upd (upd f a v) a w = upd f a w := by
  funext j
  unfold upd
  by_cases z : j = a
  · rw [if_pos z, if_pos z]
  · rw [if_neg z, if_neg z, if_neg z]
theorem rG_s {R : Nat → Nat → Bool} {g : Nat → Int32} {a : Nat} : upd (rG R g a) a (nI (msk (R a))) = rG R g (a + 1) := by
  funext j
  unfold upd rG
  by_cases z : j = a
  · rw [if_pos z, if_pos (by omega), z]
  · rw [if_neg z]
    by_cases q : j < a
    · rw [if_pos q, if_pos (by omega)]
    · rw [if_neg q, if_neg (by omega)]
theorem kG_s {ch : Nat → Nat} {g : Nat → Int32} {a : Nat} : upd (kG ch g a) a (nI (ch a)) = kG ch g (a + 1) := by
  funext j
  unfold upd kG
  by_cases z : j = a
  · rw [if_pos z, if_pos (by omega), z]
  · rw [if_neg z]
    by_cases q : j < a
    · rw [if_pos q, if_pos (by omega)]
    · rw [if_neg q, if_neg (by omega)]
theorem rG_0 {R : Nat → Nat → Bool} {g : Nat → Int32} : rG R g 0 = g := by
  funext j; exact if_neg (by omega)
theorem kG_0 {ch : Nat → Nat} {g : Nat → Int32} : kG ch g 0 = g := by
  funext j; exact if_neg (by omega)
theorem rG_at {R : Nat → Nat → Bool} {g : Nat → Int32} {j : Nat} (h : j < 6) : rG R g 6 j = nI (msk (R j)) := if_pos h
theorem kG_at {ch : Nat → Nat} {g : Nat → Int32} {j : Nat} (h : j < 6) : kG ch g 6 j = nI (ch j) := if_pos h
theorem rG_congr {R R' : Nat → Nat → Bool} {g : Nat → Int32} (h : ∀ j, j < 6 → ∀ b, b < 6 → R j b = R' j b) : rG R g 6 = rG R' g 6 := by
  funext j
  unfold rG
  by_cases q : j < 6
  · rw [if_pos q, if_pos q, msk_congr (h j q)]
  · rw [if_neg q, if_neg q]
theorem kG_congr {ch ch' : Nat → Nat} {g : Nat → Int32} (h : ∀ j, j < 6 → ch j = ch' j) : kG ch g 6 = kG ch' g 6 := by
  funext j
  unfold kG
  by_cases q : j < 6
  · rw [if_pos q, if_pos q, h j q]
  · rw [if_neg q, if_neg q]
theorem rG_upd {R : Nat → Nat → Bool} {g : Nat → Int32} {a : Nat} {f : Nat → Bool} (ha : a < 6) : upd (rG R g 6) a (nI (msk f)) = rG (fun j => if j = a then f else R j) g 6 := by
  funext j
  unfold upd rG
  by_cases z : j = a
  · rw [if_pos z, if_pos (by omega)]
    show nI (msk f) = nI (msk (if j = a then f else R j))
    rw [if_pos z]
  · rw [if_neg z]
    by_cases q : j < 6
    · rw [if_pos q, if_pos q]
      show nI (msk (R j)) = nI (msk (if j = a then f else R j))
      rw [if_neg z]
    · rw [if_neg q, if_neg q]
theorem kG_upd {ch : Nat → Nat} {g : Nat → Int32} {a v : Nat} (ha : a < 6) : upd (kG ch g 6) a (nI v) = kG (fun j => if j = a then v else ch j) g 6 := by
  funext j
  unfold upd kG
  by_cases z : j = a
  · rw [if_pos z, if_pos (by omega)]
    show nI v = nI (if j = a then v else ch j)
    rw [if_pos z]
  · rw [if_neg z]
    by_cases q : j < 6
    · rw [if_pos q, if_pos q]
      show nI (ch j) = nI (if j = a then v else ch j)
      rw [if_neg z]
    · rw [if_neg q, if_neg q]
theorem c_con_y {scr : Scr} {l : Launch} {S : Sto} {d j : Nat} {f : Nat → Bool} (hj : j < 6) (h : f j = true) : MetA scr l d M_Gr_contains [.int (nI (msk f)), .int (nI j)] S (.inl (some (.int (nI 1))), S) := by
  refine MetA.of rfl (by decide +kernel) (Nat.le_of_ble_eq_true rfl) ?_
  refine ev_iload_n i_Gr_contains_0 rfl ?_
  refine ev_iload_n i_Gr_contains_1 rfl ?_
  refine ev_ishr i_Gr_contains_2 ?_
  refine ev_iconstN (v := 1) i_Gr_contains_3 (by decide) ?_
  refine ev_iand i_Gr_contains_4 ?_
  rw [msk_get f j hj, h, bI_t]
  refine ev_if_eqN i_Gr_contains_5 (by omega) (fun hc_5 => ?_) (fun hc_5 => ?_)
  · skip
    exfalso; omega
  · skip
    refine ev_iconstN (v := 1) i_Gr_contains_8 (by decide) ?_
    refine ev_goto i_Gr_contains_9 ?_
    exact ev_iret i_Gr_contains_13 rfl (by first | rfl | decide)
theorem c_con_n {scr : Scr} {l : Launch} {S : Sto} {d j : Nat} {f : Nat → Bool} (hj : j < 6) (h : f j = false) : MetA scr l d M_Gr_contains [.int (nI (msk f)), .int (nI j)] S (.inl (some (.int (nI 0))), S) := by
  refine MetA.of rfl (by decide +kernel) (Nat.le_of_ble_eq_true rfl) ?_
  refine ev_iload_n i_Gr_contains_0 rfl ?_
  refine ev_iload_n i_Gr_contains_1 rfl ?_
  refine ev_ishr i_Gr_contains_2 ?_
  refine ev_iconstN (v := 1) i_Gr_contains_3 (by decide) ?_
  refine ev_iand i_Gr_contains_4 ?_
  rw [msk_get f j hj, h, bI_f]
  refine ev_if_eqN i_Gr_contains_5 (by omega) (fun hc_5 => ?_) (fun hc_5 => ?_)
  · skip
    refine ev_iconstN (v := 0) i_Gr_contains_12 (by decide) ?_
    exact ev_iret i_Gr_contains_13 rfl (by first | rfl | decide)
  · skip
    exfalso; omega
theorem occN_pos (p : List Nat) (b i : Nat) : decide (0 < occN p b (i + 1)) = (decide (0 < occN p b i) || decide (p.getD i 0 = b)) := by
  rw [occN_s, Bool.eq_iff_iff, Bool.or_eq_true, decide_eq_true_iff, decide_eq_true_iff, decide_eq_true_iff]
  by_cases z : p.getD i 0 = b
  · rw [if_pos z]; exact ⟨fun _ => Or.inr z, fun _ => by omega⟩
  · rw [if_neg z, Nat.add_zero]
    exact ⟨Or.inl, fun q => q.elim id (fun y => absurd y z)⟩
theorem lp_reach1 {scr : Scr} {l : Launch} {S : Sto} {t c1 c2 : Nat} {T : TabV} {g1 : Nat → Int32} {x0 : Int64} (ht : TabAt S t T) (hd : isDet T) (ho : S.1[61]? = some (grO c1 c2 x0)) (h1 : S.1[64]? = some (aI 6 g1)) (hoff : tabOff t [64]) {d : Nat} {r : Res} (hk : ∀ u3 u4, Ev scr l (d + 1) M_Gr_findReach 65 [some (.ref 61), some (.ref t), some (.int (nI 6)), u3, u4] [] (S.put 64 (aI 6 (rG (ed T) g1 6))) r) : ∀ (k a : Nat), a + k = 6 → ∀ u3 u4, Ev scr l (d + 1) M_Gr_findReach 2 [some (.ref 61), some (.ref t), some (.int (nI a)), u3, u4] [] (S.put 64 (aI 6 (rG (ed T) g1 a))) r := by
  obtain ⟨rc, fs, fl, fe, hT, hR⟩ := ht
  intro k
  induction k with
  | zero =>
    intro a hak u3 u4
    have z : a = 6 := by omega
    subst z
    refine ev_iload_n i_Gr_findReach_2 rfl ?_
    refine ev_bipushN (v := 6) i_Gr_findReach_3 (by decide) ?_
    refine ev_icmp_geN i_Gr_findReach_5 (by omega) (by omega) (fun hc_5 => ?_) (fun hc_5 => ?_)
    · skip
      exact hk _ _
    · skip
      exfalso; omega
  | succ k ih =>
    intro a hak u3 u4
    have hsl := (hR.1 a (by omega)).2.2.2 0 (by rw [hd _ (by omega)]; omega)
    have hok : PrOK (prd T a) := hsl.2
    have hsl : SlotR fl fe (a * 3 + 0) (prd T a) := hsl.1
    have hl4 := hok.1
    have oj : (S.put 64 (aI 6 (rG (ed T) g1 a))).1[61]? = _ := put_at ho (by decide)
    have rj : (S.put 64 (aI 6 (rG (ed T) g1 a))).1[64]? = _ := put_self h1
    have hFj : Fr [64] S (S.put 64 (aI 6 (rG (ed T) g1 a))) := Fr.put _ _ (by simp)
    have tj := hT.fr hFj hoff
    refine ev_iload_n i_Gr_findReach_2 rfl ?_
    refine ev_bipushN (v := 6) i_Gr_findReach_3 (by decide) ?_
    refine ev_icmp_geN i_Gr_findReach_5 (by omega) (by omega) (fun hc_5 => ?_) (fun hc_5 => ?_)
    · skip
      exfalso; omega
    · skip
      refine ev_iload_n i_Gr_findReach_8 rfl ?_
      refine ev_iconstN (v := 0) i_Gr_findReach_9 (by decide) ?_
      refine ev_callS2 i_Gr_findReach_10 rfl (Nat.le_of_ble_eq_true rfl) c_Tb_listSlot ?_
      refine ev_ist_n_3 i_Gr_findReach_13 rfl ?_
      refine ev_aload_n i_Gr_findReach_14 rfl ?_
      refine ev_get i_Gr_findReach_15 oj rfl ?_
      refine ev_iload_n i_Gr_findReach_18 rfl ?_
      refine ev_iconstN (v := 0) i_Gr_findReach_19 (by decide) ?_
      refine ev_iastN i_Gr_findReach_20 rj (by omega) (by decide) ?_
      rw [put_put]
      refine ev_iconstN (v := 0) i_Gr_findReach_21 (by decide) ?_
      refine ev_ist_4 i_Gr_findReach_22 rfl ?_
      refine ev_eqS (S1 := (S.put 64 (aI 6 (upd (rG (ed T) g1 a) a (nI (msk (fun j => decide (0 < occN (prd T a) j 0)))))))) rfl ?_
      refine ev_loop (n := (prd T a).length) (fun i => [some (.ref 61), some (.ref t), some (.int (nI a)), some (.int (nI (a * 3 + 0))), some (.int (nI i))]) (fun i => (S.put 64 (aI 6 (upd (rG (ed T) g1 a) a (nI (msk (fun j => decide (0 < occN (prd T a) j i)))))))) (fun i hi ki => ?_) ?_
      · try dsimp only at ki ⊢
        have oj : (S.put 64 (aI 6 (upd (rG (ed T) g1 a) a (nI (msk (fun j => decide (0 < occN (prd T a) j i))))))).1[61]? = _ := put_at ho (by decide)
        have rj : (S.put 64 (aI 6 (upd (rG (ed T) g1 a) a (nI (msk (fun j => decide (0 < occN (prd T a) j i))))))).1[64]? = _ := put_self h1
        have hFj : Fr [64] S (S.put 64 (aI 6 (upd (rG (ed T) g1 a) a (nI (msk (fun j => decide (0 < occN (prd T a) j i))))))) := Fr.put _ _ (by simp)
        have tj := hT.fr hFj hoff
        refine ev_iload i_Gr_findReach_24 rfl ?_
        refine ev_aload_n i_Gr_findReach_26 rfl ?_
        refine ev_get i_Gr_findReach_27 tj.1 rfl ?_
        refine ev_iload_n i_Gr_findReach_30 rfl ?_
        refine ev_ialdN i_Gr_findReach_31 tj.2.2.1 (by omega) (by decide) ?_
        rw [hsl.1]
        refine ev_icmp_geN i_Gr_findReach_32 (by omega) (by omega) (fun hc_32 => ?_) (fun hc_32 => ?_)
        · skip
          exfalso; omega
        · skip
          refine ev_aload_n i_Gr_findReach_35 rfl ?_
          refine ev_get i_Gr_findReach_36 oj rfl ?_
          refine ev_iload_n i_Gr_findReach_39 rfl ?_
          refine ev_dup2_11 i_Gr_findReach_40 rfl rfl ?_
          refine ev_ialdN i_Gr_findReach_41 rj (by omega) (by decide) ?_
          rw [upd_self]
          refine ev_iconstN (v := 1) i_Gr_findReach_42 (by decide) ?_
          refine ev_aload_n i_Gr_findReach_43 rfl ?_
          refine ev_iload_n i_Gr_findReach_44 rfl ?_
          refine ev_iload i_Gr_findReach_45 rfl ?_
          refine ev_callV2 i_Gr_findReach_47 rfl tj.1 (Nat.le_of_ble_eq_true rfl) (c_Tb_letterOf tj (by omega) (by omega)) ?_
          rw [hsl.2 i (by omega)]
          refine ev_ishl i_Gr_findReach_50 ?_
          rw [msk_one _ (hok.2 i (by omega))]
          refine ev_ior i_Gr_findReach_51 ?_
          rw [msk_or]
          refine ev_iastN i_Gr_findReach_52 rj (by omega) (by decide) ?_
          rw [put_put, upd_upd, ← msk_congr (fun b _ => occN_pos (prd T a) b i)]
          refine ev_iincN_4 (c := 1) i_Gr_findReach_53 (by decide) rfl ?_
          refine ev_goto i_Gr_findReach_56 ?_
          exact ki
      · try dsimp only
        have oj : (S.put 64 (aI 6 (upd (rG (ed T) g1 a) a (nI (msk (fun j => decide (0 < occN (prd T a) j (prd T a).length))))))).1[61]? = _ := put_at ho (by decide)
        have rj : (S.put 64 (aI 6 (upd (rG (ed T) g1 a) a (nI (msk (fun j => decide (0 < occN (prd T a) j (prd T a).length))))))).1[64]? = _ := put_self h1
        have hFj : Fr [64] S (S.put 64 (aI 6 (upd (rG (ed T) g1 a) a (nI (msk (fun j => decide (0 < occN (prd T a) j (prd T a).length))))))) := Fr.put _ _ (by simp)
        have tj := hT.fr hFj hoff
        refine ev_iload i_Gr_findReach_24 rfl ?_
        refine ev_aload_n i_Gr_findReach_26 rfl ?_
        refine ev_get i_Gr_findReach_27 tj.1 rfl ?_
        refine ev_iload_n i_Gr_findReach_30 rfl ?_
        refine ev_ialdN i_Gr_findReach_31 tj.2.2.1 (by omega) (by decide) ?_
        rw [hsl.1]
        refine ev_icmp_geN i_Gr_findReach_32 (by omega) (by omega) (fun hc_32 => ?_) (fun hc_32 => ?_)
        · skip
          refine ev_iincN_2 (c := 1) i_Gr_findReach_59 (by decide) rfl ?_
          refine ev_goto i_Gr_findReach_62 ?_
          refine ev_eqS (S1 := (S.put 64 (aI 6 (rG (ed T) g1 (a + 1))))) (by rw [← rG_s]; rfl) ?_
          exact ih (a + 1) (by omega) _ _
        · skip
          exfalso; omega
def mixW (E : Nat → Nat → Bool) (k a : Nat) : Nat → Nat → Bool := fun j b => if j < a then wsh E (k + 1) j b else wsh E k j b
theorem wsh_row {E : Nat → Nat → Bool} {k b : Nat} : wsh E (k + 1) k b = wsh E k k b := by
  show (wsh E k k b || (wsh E k k k && wsh E k k b)) = wsh E k k b
  cases wsh E k k b <;> cases wsh E k k k <;> rfl
theorem mixW_row {E : Nat → Nat → Bool} {k a b : Nat} : mixW E k a k b = wsh E k k b := by
  unfold mixW
  split
  · exact wsh_row
  · rfl
theorem mixW_a {E : Nat → Nat → Bool} {k a b : Nat} : mixW E k a a b = wsh E k a b := if_neg (by omega)
theorem mixW_s {E : Nat → Nat → Bool} {k a j b : Nat} : mixW E k (a + 1) j b = if j = a then wsh E (k + 1) a b else mixW E k a j b := by
  unfold mixW
  by_cases z : j = a
  · rw [if_pos z, if_pos (by omega), z]
  · rw [if_neg z]
    by_cases q : j < a
    · rw [if_pos q, if_pos (by omega)]
    · rw [if_neg q, if_neg (by omega)]
theorem mixW_end {E : Nat → Nat → Bool} {k j b : Nat} (h : j < 6) : mixW E k 6 j b = mixW E (k + 1) 0 j b := by
  unfold mixW
  rw [if_pos h, if_neg (by omega)]
theorem mixW_0 {E : Nat → Nat → Bool} {j b : Nat} : mixW E 0 0 j b = E j b := if_neg (by omega)
theorem mixW_n {E : Nat → Nat → Bool} {k j b : Nat} : mixW E k 0 j b = wsh E k j b := if_neg (by omega)
theorem lp_reach2 {scr : Scr} {l : Launch} {S : Sto} {t c1 c2 : Nat} {T : TabV} {g1 : Nat → Int32} {x0 : Int64} (ho : S.1[61]? = some (grO c1 c2 x0)) (h1 : S.1[64]? = some (aI 6 g1)) {d : Nat} : ∀ (n k : Nat), k + n = 6 → ∀ u3 u4, Ev scr l (d + 1) M_Gr_findReach 67 [some (.ref 61), some (.ref t), some (.int (nI k)), u3, u4] [] (S.put 64 (aI 6 (rG (mixW (ed T) k 0) g1 6))) (.inl none, (S.put 64 (aI 6 (rG (RT T) g1 6)))) := by
  intro n
  induction n with
  | zero =>
    intro k hk u3 u4
    have z : k = 6 := by omega
    subst z
    rw [rG_congr (fun j _ b _ => mixW_n (E := ed T) (k := 6))]
    refine ev_iload_n i_Gr_findReach_67 rfl ?_
    refine ev_bipushN (v := 6) i_Gr_findReach_68 (by decide) ?_
    refine ev_icmp_geN i_Gr_findReach_70 (by omega) (by omega) (fun hc_70 => ?_) (fun hc_70 => ?_)
    · skip
      exact ev_vret i_Gr_findReach_121 rfl
    · skip
      exfalso; omega
  | succ n ih' =>
    intro k hk u3 u4
    have ih : ∀ k, k + n = 6 → ∀ u3, Ev scr l (d + 1) M_Gr_findReach 67 [some (.ref 61), some (.ref t), some (.int (nI k)), u3, u4] [] (S.put 64 (aI 6 (rG (mixW (ed T) k 0) g1 6))) (.inl none, (S.put 64 (aI 6 (rG (RT T) g1 6)))) := fun k hk u3 => ih' k hk u3 u4
    refine ev_iload_n i_Gr_findReach_67 rfl ?_
    refine ev_bipushN (v := 6) i_Gr_findReach_68 (by decide) ?_
    refine ev_icmp_geN i_Gr_findReach_70 (by omega) (by omega) (fun hc_70 => ?_) (fun hc_70 => ?_)
    · skip
      exfalso; omega
    · skip
      refine ev_iconstN (v := 0) i_Gr_findReach_73 (by decide) ?_
      refine ev_ist_n_3 i_Gr_findReach_74 rfl ?_
      refine ev_loop (n := 6) (fun a => [some (.ref 61), some (.ref t), some (.int (nI k)), some (.int (nI a)), u4]) (fun a => (S.put 64 (aI 6 (rG (mixW (ed T) k a) g1 6)))) (fun a ha ka => ?_) ?_
      · try dsimp only at ka ⊢
        have oj : (S.put 64 (aI 6 (rG (mixW (ed T) k a) g1 6))).1[61]? = _ := put_at ho (by decide)
        have rj : (S.put 64 (aI 6 (rG (mixW (ed T) k a) g1 6))).1[64]? = _ := put_self h1
        cases hcn : mixW (ed T) k a a k with
        | true =>
          refine ev_iload_n i_Gr_findReach_75 rfl ?_
          refine ev_bipushN (v := 6) i_Gr_findReach_76 (by decide) ?_
          refine ev_icmp_geN i_Gr_findReach_78 (by omega) (by omega) (fun hc_78 => ?_) (fun hc_78 => ?_)
          · skip
            exfalso; omega
          · skip
            refine ev_aload_n i_Gr_findReach_81 rfl ?_
            refine ev_get i_Gr_findReach_82 oj rfl ?_
            refine ev_iload_n i_Gr_findReach_85 rfl ?_
            refine ev_ialdN i_Gr_findReach_86 rj (by omega) (by decide) ?_
            rw [rG_at (by omega)]
            refine ev_iload_n i_Gr_findReach_87 rfl ?_
            refine ev_callS2 i_Gr_findReach_88 rfl (Nat.le_of_ble_eq_true rfl) (c_con_y (show k < 6 by omega) hcn) ?_
            refine ev_if_eqN i_Gr_findReach_91 (by omega) (fun hc_91 => ?_) (fun hc_91 => ?_)
            · skip
              exfalso; omega
            · skip
              refine ev_aload_n i_Gr_findReach_94 rfl ?_
              refine ev_get i_Gr_findReach_95 oj rfl ?_
              refine ev_iload_n i_Gr_findReach_98 rfl ?_
              refine ev_dup2_11 i_Gr_findReach_99 rfl rfl ?_
              refine ev_ialdN i_Gr_findReach_100 rj (by omega) (by decide) ?_
              rw [rG_at (by omega)]
              refine ev_aload_n i_Gr_findReach_101 rfl ?_
              refine ev_get i_Gr_findReach_102 oj rfl ?_
              refine ev_iload_n i_Gr_findReach_105 rfl ?_
              refine ev_ialdN i_Gr_findReach_106 rj (by omega) (by decide) ?_
              rw [rG_at (by omega)]
              refine ev_ior i_Gr_findReach_107 ?_
              rw [msk_or]
              refine ev_iastN i_Gr_findReach_108 rj (by omega) (by decide) ?_
              rw [put_put, rG_upd (by omega)]
              refine ev_iincN_3 (c := 1) i_Gr_findReach_109 (by decide) rfl ?_
              refine ev_goto i_Gr_findReach_112 ?_
              have e : ∀ j, j < 6 → ∀ b, b < 6 → (if j = a then (fun b => mixW (ed T) k a a b || mixW (ed T) k a k b) else mixW (ed T) k a j) b = mixW (ed T) k (a + 1) j b := fun j _ b _ => by
                rw [mixW_s]
                by_cases z : j = a
                · rw [if_pos z, if_pos z]
                  show (mixW (ed T) k a a b || mixW (ed T) k a k b) = (wsh (ed T) k a b || (wsh (ed T) k a k && wsh (ed T) k k b))
                  rw [mixW_a, mixW_row, ← mixW_a (a := a) (b := k), hcn, Bool.true_and]
                · rw [if_neg z, if_neg z]
              rw [rG_congr e]
              exact ka
        | false =>
          refine ev_iload_n i_Gr_findReach_75 rfl ?_
          refine ev_bipushN (v := 6) i_Gr_findReach_76 (by decide) ?_
          refine ev_icmp_geN i_Gr_findReach_78 (by omega) (by omega) (fun hc_78 => ?_) (fun hc_78 => ?_)
          · skip
            exfalso; omega
          · skip
            refine ev_aload_n i_Gr_findReach_81 rfl ?_
            refine ev_get i_Gr_findReach_82 oj rfl ?_
            refine ev_iload_n i_Gr_findReach_85 rfl ?_
            refine ev_ialdN i_Gr_findReach_86 rj (by omega) (by decide) ?_
            rw [rG_at (by omega)]
            refine ev_iload_n i_Gr_findReach_87 rfl ?_
            refine ev_callS2 i_Gr_findReach_88 rfl (Nat.le_of_ble_eq_true rfl) (c_con_n (show k < 6 by omega) hcn) ?_
            refine ev_if_eqN i_Gr_findReach_91 (by omega) (fun hc_91 => ?_) (fun hc_91 => ?_)
            · skip
              refine ev_iincN_3 (c := 1) i_Gr_findReach_109 (by decide) rfl ?_
              refine ev_goto i_Gr_findReach_112 ?_
              have e : ∀ j, j < 6 → ∀ b, b < 6 → mixW (ed T) k a j b = mixW (ed T) k (a + 1) j b := fun j _ b _ => by
                rw [mixW_s]
                by_cases z : j = a
                · rw [if_pos z, z]
                  show _ = (wsh (ed T) k a b || (wsh (ed T) k a k && wsh (ed T) k k b))
                  rw [mixW_a, ← mixW_a (a := a) (b := k), hcn, Bool.false_and, Bool.or_false]
                · rw [if_neg z]
              rw [rG_congr e]
              exact ka
            · skip
              exfalso; omega
      · try dsimp only
        refine ev_iload_n i_Gr_findReach_75 rfl ?_
        refine ev_bipushN (v := 6) i_Gr_findReach_76 (by decide) ?_
        refine ev_icmp_geN i_Gr_findReach_78 (by omega) (by omega) (fun hc_78 => ?_) (fun hc_78 => ?_)
        · skip
          refine ev_iincN_2 (c := 1) i_Gr_findReach_115 (by decide) rfl ?_
          refine ev_goto i_Gr_findReach_118 ?_
          rw [rG_congr (fun j hj b _ => mixW_end hj)]
          exact ih (k + 1) (by omega) _
        · skip
          exfalso; omega
theorem g_reach {scr : Scr} {l : Launch} {S : Sto} {t c1 c2 : Nat} {T : TabV} {g1 : Nat → Int32} {x0 : Int64} (ht : TabAt S t T) (hd : isDet T) (ho : S.1[61]? = some (grO c1 c2 x0)) (h1 : S.1[64]? = some (aI 6 g1)) (hoff : tabOff t [64]) {d : Nat} : MetA scr l (d + 1) M_Gr_findReach [.ref 61, .ref t] S (.inl none, (S.put 64 (aI 6 (rG (RT T) g1 6)))) := by
  refine MetA.of rfl (by decide +kernel) (Nat.le_of_ble_eq_true rfl) ?_
  refine ev_iconstN (v := 0) i_Gr_findReach_0 (by decide) ?_
  refine ev_ist_n_2 i_Gr_findReach_1 rfl ?_
  refine ev_eqS (S1 := (S.put 64 (aI 6 (rG (ed T) g1 0)))) (by rw [rG_0]; exact put_same h1) ?_
  refine lp_reach1 ht hd ho h1 hoff (fun u3 u4 => ?_) 6 0 (by omega) _ _
  refine ev_iconstN (v := 0) i_Gr_findReach_65 (by decide) ?_
  refine ev_ist_n_2 i_Gr_findReach_66 rfl ?_
  refine ev_eqS (S1 := (S.put 64 (aI 6 (rG (mixW (ed T) 0 0) g1 6)))) (by rw [rG_congr (fun j _ b _ => mixW_0)]) ?_
  exact lp_reach2 ho h1 6 0 (by omega) _ _

/-! the model: the equations of the recurrence solved -/
theorem ev_ixor {scr : Scr} {l : Launch} {d : Nat} {M : Mth} {pc : Nat} {L : List (Option Value)} {st : List Value} {S : Sto} {r : Res} {x y : Int32} (h : iIns M pc .ixor 1) (k : Ev scr l d M (pc + 1) L (.int (x ^^^ y) :: st) S r) : Ev scr l d M pc L (.int y :: .int x :: st) S r := by
  refine ⟨k.1, fun p e R s m args below meth c ρ dC dI A ws0 mc ms Q hC hR hE H locs cells slots ws tys ls st0 hW hL hS hc hs => ?_⟩
  obtain ⟨v0, r0, rfl, hv0, hS⟩ := hS
  have hv0 : v0 = .int y := hv0
  subst hv0
  obtain ⟨v1, r1, rfl, hv1, hS⟩ := hS
  have hv1 : v1 = .int x := hv1
  subst hv1
  exact lv_ixor hC.1 hC.2.1 h  (k.2 p e R s m args below meth c ρ dC dI A ws0 mc ms Q hC hR hE H locs cells slots ws tys ls _ hW hL ⟨_, _, rfl, rfl, hS⟩ hc hs)
theorem xor_neg (x : Int32) : (x ^^^ nI 10007) < 0 ↔ x < 0 := by
  have h1 : ∀ y : Int32, y < 0 ↔ y.toBitVec.msb = true := fun y => by
    rw [Int32.lt_iff_toInt_lt, BitVec.msb_eq_toInt, decide_eq_true_eq]
    exact Iff.rfl
  rw [h1, h1, Int32.toBitVec_xor, BitVec.msb_xor, show (nI 10007).toBitVec.msb = false from by decide, Bool.xor_false]
theorem nI_neg_div {c : Nat} (hc : c < 2 ^ 31) : (- nI c) / nI 10007 = - nI (c / 10007) := by
  apply Int32.toInt_inj.mp
  have hq : c / 10007 ≤ c := Nat.div_le_self c _
  have e1 : ∀ n : Nat, n < 2 ^ 31 → (- nI n).toInt = - (n : Int) := fun n hn => by
    rw [Int32.toInt_neg, nI_toInt hn]
    apply Int.bmod_eq_of_le <;> omega
  rw [Int32.toInt_div, e1 c hc, nI_toInt (by decide), e1 _ (by omega)]
  rw [Int.neg_tdiv, show ((c : Int).tdiv ((10007 : Nat) : Int)) = ((c / 10007 : Nat) : Int) from by simp [Int.ofNat_tdiv]]
  generalize c / 10007 = q at hq ⊢
  apply Int.bmod_eq_of_le <;> omega
theorem nI_neg_mod {c : Nat} (hc : c < 2 ^ 31) : (- nI c) - (- nI c) / nI 10007 * nI 10007 = - nI (c % 10007) := by
  rw [nI_neg_div hc, ← nI_mod hc (b := 10007) (by decide), nI_div hc (by decide)]
  rw [Int32.neg_mul, Int32.sub_neg, Int32.neg_sub, Int32.add_comm, Int32.sub_eq_add_neg]
theorem nI_nsub {a b : Nat} (h : a ≤ b) : nI a - nI b = - nI (b - a) := by
  rw [← nI_sub h, Int32.neg_sub]
theorem nI_nlt0 {c : Nat} (h0 : 0 < c) (hc : c < 2 ^ 31) : - nI c < 0 := by
  rw [Int32.lt_iff_toInt_lt, Int32.toInt_neg, nI_toInt hc]
  rw [Int.bmod_eq_of_le (by omega) (by omega)]
  show - (c : Int) < 0
  omega
theorem nI_negz {c : Nat} (h : - nI c = 0) : nI c = 0 := by
  have := congrArg (fun y : Int32 => - y) h
  simpa using this
theorem i32_nle {x : Int32} : ¬ 0 ≤ x ↔ x < 0 := by
  rw [Int32.le_iff_toInt_le, Int32.lt_iff_toInt_lt]
  omega
theorem c_floorMod {scr : Scr} {l : Launch} {S : Sto} {d a b : Nat} (ha : a < 10007) (hb : b < 2 ^ 30) : MetA scr l d M_Ma_floorMod [.int (nI a - nI b), .int (nI 10007)] S (.inl (some (.int (nI ((a + 10007 - b % 10007) % 10007)))), S) := by
  by_cases h : b ≤ a
  · rw [nI_sub h, show (a + 10007 - b % 10007) % 10007 = (a - b) % 10007 by omega]
    refine MetA.ofF rfl (by decide +kernel) (Nat.le_of_ble_eq_true rfl) ?_
    refine ev_iload_n i_Ma_floorMod_0 rfl ?_
    refine ev_iload_n i_Ma_floorMod_1 rfl ?_
    refine ev_iremN i_Ma_floorMod_2 (by decide) (by omega) (by decide) ?_
    refine ev_ist_n_2 i_Ma_floorMod_3 rfl ?_
    refine ev_iload_n i_Ma_floorMod_4 rfl ?_
    refine ev_iload_n i_Ma_floorMod_5 rfl ?_
    refine ev_ixor i_Ma_floorMod_6 ?_
    refine ev_if_ge i_Ma_floorMod_7 (fun hc_7 => ?_) (fun hc_7 => ?_)
    · skip
      refine ev_iload_n i_Ma_floorMod_18 rfl ?_
      exact ev_iret i_Ma_floorMod_19 rfl (by first | rfl | decide)
    · skip
      exact absurd ((xor_neg _).mp (i32_nle.mp hc_7)) (nI_pos (by omega))
  · rw [nI_nsub (by omega)]
    by_cases hz : (b - a) % 10007 = 0
    · rw [show (a + 10007 - b % 10007) % 10007 = 0 by omega]
      refine MetA.ofF rfl (by decide +kernel) (Nat.le_of_ble_eq_true rfl) ?_
      refine ev_iload_n i_Ma_floorMod_0 rfl ?_
      refine ev_iload_n i_Ma_floorMod_1 rfl ?_
      refine ev_irem i_Ma_floorMod_2 (by decide) ?_
      rw [nI_neg_mod (by omega), hz, show - nI 0 = nI 0 from by decide]
      refine ev_ist_n_2 i_Ma_floorMod_3 rfl ?_
      refine ev_iload_n i_Ma_floorMod_4 rfl ?_
      refine ev_iload_n i_Ma_floorMod_5 rfl ?_
      refine ev_ixor i_Ma_floorMod_6 ?_
      refine ev_if_ge i_Ma_floorMod_7 (fun hc_7 => ?_) (fun hc_7 => ?_)
      · skip
        exact absurd ((xor_neg _).mpr (nI_nlt0 (by omega) (by omega))) (fun q => i32_nle.mpr q hc_7)
      · skip
        refine ev_iload_n i_Ma_floorMod_10 rfl ?_
        refine ev_if_eqN i_Ma_floorMod_11 (by omega) (fun hc_11 => ?_) (fun hc_11 => ?_)
        · skip
          refine ev_iload_n i_Ma_floorMod_18 rfl ?_
          exact ev_iret i_Ma_floorMod_19 rfl (by first | rfl | decide)
        · skip
          exfalso; omega
    · have he : 10007 - (b - a) % 10007 = (a + 10007 - b % 10007) % 10007 := by omega
      refine MetA.ofF rfl (by decide +kernel) (Nat.le_of_ble_eq_true rfl) ?_
      refine ev_iload_n i_Ma_floorMod_0 rfl ?_
      refine ev_iload_n i_Ma_floorMod_1 rfl ?_
      refine ev_irem i_Ma_floorMod_2 (by decide) ?_
      rw [nI_neg_mod (by omega)]
      refine ev_ist_n_2 i_Ma_floorMod_3 rfl ?_
      refine ev_iload_n i_Ma_floorMod_4 rfl ?_
      refine ev_iload_n i_Ma_floorMod_5 rfl ?_
      refine ev_ixor i_Ma_floorMod_6 ?_
      refine ev_if_ge i_Ma_floorMod_7 (fun hc_7 => ?_) (fun hc_7 => ?_)
      · skip
        exact absurd ((xor_neg _).mpr (nI_nlt0 (by omega) (by omega))) (fun q => i32_nle.mpr q hc_7)
      · skip
        refine ev_iload_n i_Ma_floorMod_10 rfl ?_
        refine ev_if_eq i_Ma_floorMod_11 (fun hc_11 => ?_) (fun hc_11 => ?_)
        · skip
          exact absurd hc_11 (fun q => hz (nI_inj (by omega) (by omega) ((nI_negz q).trans nI_0.symm)))
        · skip
          refine ev_iload_n i_Ma_floorMod_14 rfl ?_
          refine ev_iload_n i_Ma_floorMod_15 rfl ?_
          refine ev_iadd i_Ma_floorMod_16 ?_
          rw [Int32.add_comm, ← Int32.sub_eq_add_neg, nI_sub (by omega), he]
          exact ev_iret i_Ma_floorMod_17 rfl (by first | rfl | decide)
def EvX (scr : Scr) (l : Launch) (K : Nat) (M : Mth) (pc : Nat) (L : List (Option Value)) (S : Sto) (v : Option Value) (Post : Sto → Prop) : Prop := ∃ S3, (∀ d, Ev scr l (d + K) M pc L [] S (.inl v, S3)) ∧ Post S3
theorem EvX.go {scr : Scr} {l : Launch} {K : Nat} {M : Mth} {pc pc' : Nat} {L L' : List (Option Value)} {S S' : Sto} {v : Option Value} {Post : Sto → Prop} (h : EvX scr l K M pc' L' S' v Post) (k : ∀ d r, Ev scr l (d + K) M pc' L' [] S' r → Ev scr l (d + K) M pc L [] S r) : EvX scr l K M pc L S v Post := by
  obtain ⟨S3, m3, p3⟩ := h
  exact ⟨S3, fun d => k d _ (m3 d), p3⟩
def MatIs (F : Nat → Int32) (A : Nat → Nat → FF) (o : Nat) : Prop := ∀ e k, e < 12 → k ≤ o → F (7 * e + k) = nI (A e k).val
theorem updN_at (F : Nat → Int32) (i : Nat) (x : Int32) : upd F i x i = x := by unfold upd; exact if_pos rfl
theorem updN_ne {F : Nat → Int32} {i j : Nat} {x : Int32} (h : j ≠ i) : upd F i x j = F j := by unfold upd; exact if_neg h
theorem MatIs.upd {F : Nat → Int32} {A : Nat → Nat → FF} {o e k : Nat} {v : FF} (h : MatIs F A o) (hk : k ≤ 6) (ho : o ≤ 6) : MatIs (upd F (7 * e + k) (nI v.val)) (fun e' k' => if e' = e ∧ k' = k then v else A e' k') o := fun e' k' he' hk' => by
  show _ = nI (if e' = e ∧ k' = k then v else A e' k').val
  by_cases z : e' = e ∧ k' = k
  · rw [if_pos z, z.1, z.2, updN_at]
  · rw [if_neg z, updN_ne (by omega)]
    exact h e' k' he' hk'
theorem MatIs.congr {F : Nat → Int32} {A A' : Nat → Nat → FF} {o : Nat} (h : MatIs F A o) (hA : ∀ e k, e < 12 → k ≤ o → A e k = A' e k) : MatIs F A' o := fun e k he hk => by rw [← hA e k he hk]; exact h e k he hk
def PaIs (F : Nat → Int32) (A : Nat → Nat → FF) (o e i : Nat) : Prop := ∀ e' k', e' < 12 → k' ≤ o → (e' < e ∨ (e' = e ∧ k' + 1 < i)) → F (7 * e' + k') = nI (A e' k').val
def elX (B : Nat → Nat → FF) (c e k : Nat) : Nat → Nat → FF := fun e' k' => if e' < e ∨ (e' = e ∧ k' < k) then elM B c c e' k' else B e' k'
theorem elX_row {B : Nat → Nat → FF} {c e k k' : Nat} : elX B c e k c k' = B c k' := by
  unfold elX
  split
  · unfold elM
    rw [if_pos rfl]; grind
  · rfl
theorem lp_sa1 {scr : Scr} {l : Launch} {S : Sto} {o : Nat} {s : Nat → FF} {ft : Nat → Int32} {q1 q2 q3 q4 q5 q6 q7 : Int32} {v : Option Value} {Post : Sto → Prop} (h0 : S.1[105]? = some (mObj q1 q2 q3 q4 q5 q6 q7)) (ht : S.1[122]? = some (aI 18 (kG (fun j => (s j).val) ft 18))) {F0 G0 : Nat → Int32} (hq : S.1[123]? = some (aI 84 F0)) (hg : S.1[124]? = some (aI 7 G0)) (ho : o ≤ 6) {e : Nat} (he : e < 12) (hk : ∀ F, PaIs F (eqA s o) o e (o + 1) → EvX scr l 1 M_Md_solve 44 [some (.ref 105), some (.int (nI o)), some (.int (nI e)), some (.int (nI (o + 1))), none, none, none, none, none] (S.put 123 (aI 84 F)) v Post) : ∀ (k i : Nat), i + k = o + 1 → 1 ≤ i → ∀ F, PaIs F (eqA s o) o e i → EvX scr l 1 M_Md_solve 10 [some (.ref 105), some (.int (nI o)), some (.int (nI e)), some (.int (nI i)), none, none, none, none, none] (S.put 123 (aI 84 F)) v Post := by
  intro k
  induction k with
  | zero =>
    intro i hik h1 F hF
    have z : i = o + 1 := by omega
    subst z
    have o1 : (S.put 123 (aI 84 F)).1[105]? = _ := put_at h0 (by decide)
    have t1 : (S.put 123 (aI 84 F)).1[122]? = _ := put_at ht (by decide)
    have x1 : (S.put 123 (aI 84 F)).1[123]? = _ := put_self hq
    refine EvX.go (hk F hF) (fun d r kx => ?_)
    refine ev_iload_n i_Md_solve_10 rfl ?_
    refine ev_iload_n i_Md_solve_11 rfl ?_
    refine ev_icmp_gtN i_Md_solve_12 (by omega) (by omega) (fun hc_12 => ?_) (fun hc_12 => ?_)
    · skip
      exact kx
    · skip
      exfalso; omega
  | succ k ih =>
    intro i hik h1 F hF
    have o1 : (S.put 123 (aI 84 F)).1[105]? = _ := put_at h0 (by decide)
    have t1 : (S.put 123 (aI 84 F)).1[122]? = _ := put_at ht (by decide)
    have x1 : (S.put 123 (aI 84 F)).1[123]? = _ := put_self hq
    refine EvX.go (ih (i + 1) (by omega) (by omega) (upd F (7 * e + i - 1) (nI (s (o + e - i)).val)) (fun e' k' h2 h3 h4 => ?_)) (fun d r kx => ?_)
    · by_cases z : e' = e ∧ k' = i - 1
      · rw [z.1, z.2, show 7 * e + (i - 1) = 7 * e + i - 1 by omega, updN_at]
        unfold eqA
        rw [if_pos (by omega), show o + e - (i - 1 + 1) = o + e - i by omega]
      · rw [updN_ne (by omega)]
        exact hF e' k' h2 h3 (by omega)
    · skip
      refine ev_iload_n i_Md_solve_10 rfl ?_
      refine ev_iload_n i_Md_solve_11 rfl ?_
      refine ev_icmp_gtN i_Md_solve_12 (by omega) (by omega) (fun hc_12 => ?_) (fun hc_12 => ?_)
      · skip
        exfalso; omega
      · skip
        refine ev_aload_n i_Md_solve_15 rfl ?_
        refine ev_get i_Md_solve_16 o1 rfl ?_
        refine ev_bipushN (v := 7) i_Md_solve_19 (by decide) ?_
        refine ev_iload_n i_Md_solve_21 rfl ?_
        first | refine ev_imulN i_Md_solve_22 ?_ | refine ev_imul i_Md_solve_22 ?_
        refine ev_iload_n i_Md_solve_23 rfl ?_
        first | refine ev_iaddN i_Md_solve_24 ?_ | refine ev_iadd i_Md_solve_24 ?_
        refine ev_iconstN (v := 1) i_Md_solve_25 (by decide) ?_
        first | refine ev_isubN i_Md_solve_26 (by omega) ?_ | refine ev_isub i_Md_solve_26 ?_
        refine ev_aload_n i_Md_solve_27 rfl ?_
        refine ev_get i_Md_solve_28 o1 rfl ?_
        refine ev_iload_n i_Md_solve_31 rfl ?_
        refine ev_iload_n i_Md_solve_32 rfl ?_
        first | refine ev_iaddN i_Md_solve_33 ?_ | refine ev_iadd i_Md_solve_33 ?_
        refine ev_iload_n i_Md_solve_34 rfl ?_
        first | refine ev_isubN i_Md_solve_35 (by omega) ?_ | refine ev_isub i_Md_solve_35 ?_
        refine ev_ialdN i_Md_solve_36 t1 (by omega) (by decide) ?_
        rw [kN_at (by omega)]
        refine ev_iastN i_Md_solve_37 x1 (by omega) (by decide) ?_
        rw [put_put]
        refine ev_iincN_3 (c := 1) i_Md_solve_38 (by decide) rfl ?_
        refine ev_goto i_Md_solve_41 ?_
        exact kx
theorem lp_sa {scr : Scr} {l : Launch} {S : Sto} {o : Nat} {s : Nat → FF} {ft : Nat → Int32} {q1 q2 q3 q4 q5 q6 q7 : Int32} {v : Option Value} {Post : Sto → Prop} (h0 : S.1[105]? = some (mObj q1 q2 q3 q4 q5 q6 q7)) (ht : S.1[122]? = some (aI 18 (kG (fun j => (s j).val) ft 18))) {F0 G0 : Nat → Int32} (hq : S.1[123]? = some (aI 84 F0)) (hg : S.1[124]? = some (aI 7 G0)) (ho : o ≤ 6) (hk : ∀ F, MatIs F (eqA s o) o → ∀ u3, EvX scr l 1 M_Md_solve 69 [some (.ref 105), some (.int (nI o)), some (.int (nI 12)), u3, none, none, none, none, none] (S.put 123 (aI 84 F)) v Post) : ∀ (k e : Nat), e + k = 12 → ∀ F, PaIs F (eqA s o) o e 1 → ∀ u3, EvX scr l 1 M_Md_solve 2 [some (.ref 105), some (.int (nI o)), some (.int (nI e)), u3, none, none, none, none, none] (S.put 123 (aI 84 F)) v Post := by
  intro k
  induction k with
  | zero =>
    intro e hek F hF u3
    have z : e = 12 := by omega
    subst z
    refine EvX.go (hk F (fun e k h1 h2 => hF e k h1 h2 (by omega)) u3) (fun d r kx => ?_)
    refine ev_iload_n i_Md_solve_2 rfl ?_
    refine ev_bipushN (v := 12) i_Md_solve_3 (by decide) ?_
    refine ev_icmp_geN i_Md_solve_5 (by omega) (by omega) (fun hc_5 => ?_) (fun hc_5 => ?_)
    · skip
      exact kx
    · skip
      exfalso; omega
  | succ k ih =>
    intro e hek F hF u3
    refine EvX.go (lp_sa1 h0 ht hq hg ho (show e < 12 by omega) (fun F hF => ?_) o 1 (by omega) (by omega) F hF) (fun d r kx => ?_)
    · skip
      have o1 : (S.put 123 (aI 84 F)).1[105]? = _ := put_at h0 (by decide)
      have t1 : (S.put 123 (aI 84 F)).1[122]? = _ := put_at ht (by decide)
      have x1 : (S.put 123 (aI 84 F)).1[123]? = _ := put_self hq
      refine EvX.go (ih (e + 1) (by omega) (upd F (7 * e + o) (nI (s (o + e)).val)) (fun e' k' h2 h3 h4 => ?_) (some (.int (nI (o + 1))))) (fun d r kx => ?_)
      · by_cases z : e' = e ∧ k' = o
        · rw [z.1, z.2, updN_at]
          unfold eqA
          rw [if_neg (by omega)]
        · rw [updN_ne (by omega)]
          exact hF e' k' h2 h3 (by omega)
      · skip
        refine ev_aload_n i_Md_solve_44 rfl ?_
        refine ev_get i_Md_solve_45 o1 rfl ?_
        refine ev_bipushN (v := 7) i_Md_solve_48 (by decide) ?_
        refine ev_iload_n i_Md_solve_50 rfl ?_
        first | refine ev_imulN i_Md_solve_51 ?_ | refine ev_imul i_Md_solve_51 ?_
        refine ev_iload_n i_Md_solve_52 rfl ?_
        first | refine ev_iaddN i_Md_solve_53 ?_ | refine ev_iadd i_Md_solve_53 ?_
        refine ev_aload_n i_Md_solve_54 rfl ?_
        refine ev_get i_Md_solve_55 o1 rfl ?_
        refine ev_iload_n i_Md_solve_58 rfl ?_
        refine ev_iload_n i_Md_solve_59 rfl ?_
        first | refine ev_iaddN i_Md_solve_60 ?_ | refine ev_iadd i_Md_solve_60 ?_
        refine ev_ialdN i_Md_solve_61 t1 (by omega) (by decide) ?_
        rw [kN_at (by omega)]
        refine ev_iastN i_Md_solve_62 x1 (by omega) (by decide) ?_
        rw [put_put]
        refine ev_iincN_2 (c := 1) i_Md_solve_63 (by decide) rfl ?_
        refine ev_goto i_Md_solve_66 ?_
        exact kx
    · skip
      refine ev_iload_n i_Md_solve_2 rfl ?_
      refine ev_bipushN (v := 12) i_Md_solve_3 (by decide) ?_
      refine ev_icmp_geN i_Md_solve_5 (by omega) (by omega) (fun hc_5 => ?_) (fun hc_5 => ?_)
      · skip
        exfalso; omega
      · skip
        refine ev_iconstN (v := 1) i_Md_solve_8 (by decide) ?_
        refine ev_ist_n_3 i_Md_solve_9 rfl ?_
        exact kx
theorem lp_piv {scr : Scr} {l : Launch} {S : Sto} {o : Nat} {s : Nat → FF} {ft : Nat → Int32} {q1 q2 q3 q4 q5 q6 q7 : Int32} {v : Option Value} {Post : Sto → Prop} (h0 : S.1[105]? = some (mObj q1 q2 q3 q4 q5 q6 q7)) (ht : S.1[122]? = some (aI 18 (kG (fun j => (s j).val) ft 18))) {F0 G0 : Nat → Int32} (hq : S.1[123]? = some (aI 84 F0)) (hg : S.1[124]? = some (aI 7 G0)) (ho : o ≤ 6) {A : Nat → Nat → FF} {F : Nat → Int32} {c pv0 : Nat} {u5 u6 u7 u8 : Option Value} (hM : MatIs F A o) (hc : c < o) (hp0 : pv0 < 12) (hne : A pv0 c ≠ 0) (hk : ∀ pv, c ≤ pv → pv < 12 → A pv c ≠ 0 → EvX scr l 1 M_Md_solve 109 [some (.ref 105), some (.int (nI o)), some (.int (nI c)), some (.int (nI c)), some (.int (nI pv)), u5, u6, u7, u8] (S.put 123 (aI 84 F)) v Post) : ∀ (k p : Nat), p + k = pv0 → c ≤ p → EvX scr l 1 M_Md_solve 81 [some (.ref 105), some (.int (nI o)), some (.int (nI c)), some (.int (nI c)), some (.int (nI p)), u5, u6, u7, u8] (S.put 123 (aI 84 F)) v Post := by
  have o1 : (S.put 123 (aI 84 F)).1[105]? = _ := put_at h0 (by decide)
  have t1 : (S.put 123 (aI 84 F)).1[122]? = _ := put_at ht (by decide)
  have x1 : (S.put 123 (aI 84 F)).1[123]? = _ := put_self hq
  intro k
  induction k with
  | zero =>
    intro p hpk hcp
    have z : p = pv0 := by omega
    subst z
    have hz0 : (A p c).val ≠ 0 := fun q => hne (ff_z.mp q)
    have hlt := (A p c).isLt
    refine EvX.go (hk p hcp hp0 hne) (fun d r kx => ?_)
    refine ev_iload i_Md_solve_81 rfl ?_
    refine ev_bipushN (v := 12) i_Md_solve_83 (by decide) ?_
    refine ev_icmp_geN i_Md_solve_85 (by omega) (by omega) (fun hc_85 => ?_) (fun hc_85 => ?_)
    · skip
      exfalso; omega
    · skip
      refine ev_aload_n i_Md_solve_88 rfl ?_
      refine ev_get i_Md_solve_89 o1 rfl ?_
      refine ev_bipushN (v := 7) i_Md_solve_92 (by decide) ?_
      refine ev_iload i_Md_solve_94 rfl ?_
      first | refine ev_imulN i_Md_solve_96 ?_ | refine ev_imul i_Md_solve_96 ?_
      refine ev_iload_n i_Md_solve_97 rfl ?_
      first | refine ev_iaddN i_Md_solve_98 ?_ | refine ev_iadd i_Md_solve_98 ?_
      refine ev_ialdN i_Md_solve_99 x1 (by omega) (by decide) ?_
      rw [hM p c (by omega) (by omega)]
      refine ev_if_neN i_Md_solve_100 (by omega) (fun hc_100 => ?_) (fun hc_100 => ?_)
      · skip
        exact kx
      · skip
        exfalso; omega
  | succ k ih =>
    intro p hpk hcp
    have hlt := (A p c).isLt
    by_cases hz : A p c = 0
    · have hz0 : (A p c).val = 0 := ff_z.mpr hz
      refine EvX.go (ih (p + 1) (by omega) (by omega)) (fun d r kx => ?_)
      refine ev_iload i_Md_solve_81 rfl ?_
      refine ev_bipushN (v := 12) i_Md_solve_83 (by decide) ?_
      refine ev_icmp_geN i_Md_solve_85 (by omega) (by omega) (fun hc_85 => ?_) (fun hc_85 => ?_)
      · skip
        exfalso; omega
      · skip
        refine ev_aload_n i_Md_solve_88 rfl ?_
        refine ev_get i_Md_solve_89 o1 rfl ?_
        refine ev_bipushN (v := 7) i_Md_solve_92 (by decide) ?_
        refine ev_iload i_Md_solve_94 rfl ?_
        first | refine ev_imulN i_Md_solve_96 ?_ | refine ev_imul i_Md_solve_96 ?_
        refine ev_iload_n i_Md_solve_97 rfl ?_
        first | refine ev_iaddN i_Md_solve_98 ?_ | refine ev_iadd i_Md_solve_98 ?_
        refine ev_ialdN i_Md_solve_99 x1 (by omega) (by decide) ?_
        rw [hM p c (by omega) (by omega)]
        refine ev_if_neN i_Md_solve_100 (by omega) (fun hc_100 => ?_) (fun hc_100 => ?_)
        · skip
          exfalso; omega
        · skip
          refine ev_iincN_4 (c := 1) i_Md_solve_103 (by decide) rfl ?_
          refine ev_goto i_Md_solve_106 ?_
          exact kx
    · have hz0 : (A p c).val ≠ 0 := fun q => hz (ff_z.mp q)
      refine EvX.go (hk p hcp (by omega) hz) (fun d r kx => ?_)
      refine ev_iload i_Md_solve_81 rfl ?_
      refine ev_bipushN (v := 12) i_Md_solve_83 (by decide) ?_
      refine ev_icmp_geN i_Md_solve_85 (by omega) (by omega) (fun hc_85 => ?_) (fun hc_85 => ?_)
      · skip
        exfalso; omega
      · skip
        refine ev_aload_n i_Md_solve_88 rfl ?_
        refine ev_get i_Md_solve_89 o1 rfl ?_
        refine ev_bipushN (v := 7) i_Md_solve_92 (by decide) ?_
        refine ev_iload i_Md_solve_94 rfl ?_
        first | refine ev_imulN i_Md_solve_96 ?_ | refine ev_imul i_Md_solve_96 ?_
        refine ev_iload_n i_Md_solve_97 rfl ?_
        first | refine ev_iaddN i_Md_solve_98 ?_ | refine ev_iadd i_Md_solve_98 ?_
        refine ev_ialdN i_Md_solve_99 x1 (by omega) (by decide) ?_
        rw [hM p c (by omega) (by omega)]
        refine ev_if_neN i_Md_solve_100 (by omega) (fun hc_100 => ?_) (fun hc_100 => ?_)
        · skip
          exact kx
        · skip
          exfalso; omega
theorem lp_swp {scr : Scr} {l : Launch} {S : Sto} {o : Nat} {s : Nat → FF} {ft : Nat → Int32} {q1 q2 q3 q4 q5 q6 q7 : Int32} {v : Option Value} {Post : Sto → Prop} (h0 : S.1[105]? = some (mObj q1 q2 q3 q4 q5 q6 q7)) (ht : S.1[122]? = some (aI 18 (kG (fun j => (s j).val) ft 18))) {F0 G0 : Nat → Int32} (hq : S.1[123]? = some (aI 84 F0)) (hg : S.1[124]? = some (aI 7 G0)) (ho : o ≤ 6) {A : Nat → Nat → FF} {c pv : Nat} {f : FF} {u8 : Option Value} (hc : c < o) (hpv : pv < 12) (hk : ∀ F, MatIs F (swpM A pv c f) o → ∀ u7, EvX scr l 1 M_Md_solve 221 [some (.ref 105), some (.int (nI o)), some (.int (nI c)), some (.int (nI c)), some (.int (nI pv)), some (.int (nI f.val)), some (.int (nI (o + 1))), u7, u8] (S.put 123 (aI 84 F)) v Post) : ∀ (k i : Nat), i + k = o + 1 → ∀ F, MatIs F (fun e k' => if k' < i then swpM A pv c f e k' else A e k') o → ∀ u7, EvX scr l 1 M_Md_solve 148 [some (.ref 105), some (.int (nI o)), some (.int (nI c)), some (.int (nI c)), some (.int (nI pv)), some (.int (nI f.val)), some (.int (nI i)), u7, u8] (S.put 123 (aI 84 F)) v Post := by
  intro k
  induction k with
  | zero =>
    intro i hik F hM u7
    have z : i = o + 1 := by omega
    subst z
    refine EvX.go (hk F (hM.congr (fun e k _ h2 => if_pos (by omega))) u7) (fun d r kx => ?_)
    refine ev_iload i_Md_solve_148 rfl ?_
    refine ev_iload_n i_Md_solve_150 rfl ?_
    refine ev_icmp_gtN i_Md_solve_151 (by omega) (by omega) (fun hc_151 => ?_) (fun hc_151 => ?_)
    · skip
      exact kx
    · skip
      exfalso; omega
  | succ k ih =>
    intro i hik F hM u7
    have o1 : (S.put 123 (aI 84 F)).1[105]? = _ := put_at h0 (by decide)
    have t1 : (S.put 123 (aI 84 F)).1[122]? = _ := put_at ht (by decide)
    have x1 : (S.put 123 (aI 84 F)).1[123]? = _ := put_self hq
    have o2 : (S.put 123 (aI 84 (upd F (7 * pv + i) (nI (A c i).val)))).1[105]? = _ := put_at h0 (by decide)
    have t2 : (S.put 123 (aI 84 (upd F (7 * pv + i) (nI (A c i).val)))).1[122]? = _ := put_at ht (by decide)
    have x2 : (S.put 123 (aI 84 (upd F (7 * pv + i) (nI (A c i).val)))).1[123]? = _ := put_self hq
    have hA : ∀ e, e < 12 → F (7 * e + i) = nI (A e i).val := fun e he => by
      rw [hM e i he (by omega)]
      show nI (if i < i then swpM A pv c f e i else A e i).val = _
      rw [if_neg (by omega)]
    refine EvX.go (ih (i + 1) (by omega) (upd (upd F (7 * pv + i) (nI (A c i).val)) (7 * c + i) (nI (A pv i * f).val)) (((hM.upd (e := pv) (k := i) (v := A c i) (by omega) ho).upd (e := c) (k := i) (v := A pv i * f) (by omega) ho).congr (fun e k' he hk' => ?_)) (some (.int (nI (A pv i * f).val)))) (fun d r kx => ?_)
    · show (if e = c ∧ k' = i then A pv i * f else if e = pv ∧ k' = i then A c i else if k' < i then swpM A pv c f e k' else A e k') = if k' < i + 1 then swpM A pv c f e k' else A e k'
      by_cases z : k' = i
      · subst z
        rw [if_pos (show k' < k' + 1 by omega)]
        unfold swpM
        by_cases q1 : e = c
        · rw [if_pos ⟨q1, rfl⟩, if_pos q1]
        · rw [if_neg (fun q => q1 q.1), if_neg q1]
          by_cases q2 : e = pv
          · rw [if_pos ⟨q2, rfl⟩, if_pos q2]
          · rw [if_neg (fun q => q2 q.1), if_neg q2, if_neg (by omega)]
      · rw [if_neg (fun q => z q.2), if_neg (fun q => z q.2)]
        by_cases q : k' < i
        · rw [if_pos q, if_pos (by omega)]
        · rw [if_neg q, if_neg (by omega)]
    · skip
      refine ev_iload i_Md_solve_148 rfl ?_
      refine ev_iload_n i_Md_solve_150 rfl ?_
      refine ev_icmp_gtN i_Md_solve_151 (by omega) (by omega) (fun hc_151 => ?_) (fun hc_151 => ?_)
      · skip
        exfalso; omega
      · skip
        refine ev_aload_n i_Md_solve_154 rfl ?_
        refine ev_get i_Md_solve_155 o1 rfl ?_
        refine ev_bipushN (v := 7) i_Md_solve_158 (by decide) ?_
        refine ev_iload i_Md_solve_160 rfl ?_
        first | refine ev_imulN i_Md_solve_162 ?_ | refine ev_imul i_Md_solve_162 ?_
        refine ev_iload i_Md_solve_163 rfl ?_
        first | refine ev_iaddN i_Md_solve_165 ?_ | refine ev_iadd i_Md_solve_165 ?_
        refine ev_ialdN i_Md_solve_166 x1 (by omega) (by decide) ?_
        rw [hA pv (by omega)]
        refine ev_iload i_Md_solve_167 rfl ?_
        first | refine ev_imulN i_Md_solve_169 ?_ | refine ev_imul i_Md_solve_169 ?_
        refine ev_sipushN (v := 10007) i_Md_solve_170 (by decide) ?_
        refine ev_iremN i_Md_solve_173 (by decide) (by have := ff_mul_lt (A pv i) f; omega) (by decide) ?_
        rw [← ff_mul_v]
        refine ev_ist_7 i_Md_solve_174 rfl ?_
        refine ev_aload_n i_Md_solve_176 rfl ?_
        refine ev_get i_Md_solve_177 o1 rfl ?_
        refine ev_bipushN (v := 7) i_Md_solve_180 (by decide) ?_
        refine ev_iload i_Md_solve_182 rfl ?_
        first | refine ev_imulN i_Md_solve_184 ?_ | refine ev_imul i_Md_solve_184 ?_
        refine ev_iload i_Md_solve_185 rfl ?_
        first | refine ev_iaddN i_Md_solve_187 ?_ | refine ev_iadd i_Md_solve_187 ?_
        refine ev_aload_n i_Md_solve_188 rfl ?_
        refine ev_get i_Md_solve_189 o1 rfl ?_
        refine ev_bipushN (v := 7) i_Md_solve_192 (by decide) ?_
        refine ev_iload_n i_Md_solve_194 rfl ?_
        first | refine ev_imulN i_Md_solve_195 ?_ | refine ev_imul i_Md_solve_195 ?_
        refine ev_iload i_Md_solve_196 rfl ?_
        first | refine ev_iaddN i_Md_solve_198 ?_ | refine ev_iadd i_Md_solve_198 ?_
        refine ev_ialdN i_Md_solve_199 x1 (by omega) (by decide) ?_
        rw [hA c (by omega)]
        refine ev_iastN i_Md_solve_200 x1 (by omega) (by decide) ?_
        rw [put_put]
        refine ev_aload_n i_Md_solve_201 rfl ?_
        refine ev_get i_Md_solve_202 o2 rfl ?_
        refine ev_bipushN (v := 7) i_Md_solve_205 (by decide) ?_
        refine ev_iload_n i_Md_solve_207 rfl ?_
        first | refine ev_imulN i_Md_solve_208 ?_ | refine ev_imul i_Md_solve_208 ?_
        refine ev_iload i_Md_solve_209 rfl ?_
        first | refine ev_iaddN i_Md_solve_211 ?_ | refine ev_iadd i_Md_solve_211 ?_
        refine ev_iload i_Md_solve_212 rfl ?_
        refine ev_iastN i_Md_solve_214 x2 (by omega) (by decide) ?_
        rw [put_put]
        refine ev_iincN_6 (c := 1) i_Md_solve_215 (by decide) rfl ?_
        refine ev_goto i_Md_solve_218 ?_
        exact kx
theorem lp_el1 {scr : Scr} {l : Launch} {S : Sto} {o : Nat} {s : Nat → FF} {ft : Nat → Int32} {q1 q2 q3 q4 q5 q6 q7 : Int32} {v : Option Value} {Post : Sto → Prop} (h0 : S.1[105]? = some (mObj q1 q2 q3 q4 q5 q6 q7)) (ht : S.1[122]? = some (aI 18 (kG (fun j => (s j).val) ft 18))) {F0 G0 : Nat → Int32} (hq : S.1[123]? = some (aI 84 F0)) (hg : S.1[124]? = some (aI 7 G0)) (ho : o ≤ 6) {B : Nat → Nat → FF} {c e : Nat} {x4 x5 : Int32} (hc : c < o) (he : e < 12) (hk : ∀ F, MatIs F (elX B c e (o + 1)) o → EvX scr l 1 M_Md_solve 318 [some (.ref 105), some (.int (nI o)), some (.int (nI c)), some (.int (nI c)), some (.int x4), some (.int x5), some (.int (nI e)), some (.int (nI (if e = c then 0 else B e c).val)), some (.int (nI (o + 1)))] (S.put 123 (aI 84 F)) v Post) : ∀ (k i : Nat), i + k = o + 1 → ∀ F, MatIs F (elX B c e i) o → EvX scr l 1 M_Md_solve 258 [some (.ref 105), some (.int (nI o)), some (.int (nI c)), some (.int (nI c)), some (.int x4), some (.int x5), some (.int (nI e)), some (.int (nI (if e = c then 0 else B e c).val)), some (.int (nI i))] (S.put 123 (aI 84 F)) v Post := by
  intro k
  induction k with
  | zero =>
    intro i hik F hM
    have z : i = o + 1 := by omega
    subst z
    refine EvX.go (hk F hM) (fun d r kx => ?_)
    refine ev_iload i_Md_solve_258 rfl ?_
    refine ev_iload_n i_Md_solve_260 rfl ?_
    refine ev_icmp_gtN i_Md_solve_261 (by omega) (by omega) (fun hc_261 => ?_) (fun hc_261 => ?_)
    · skip
      exact kx
    · skip
      exfalso; omega
  | succ k ih =>
    intro i hik F hM
    have o1 : (S.put 123 (aI 84 F)).1[105]? = _ := put_at h0 (by decide)
    have t1 : (S.put 123 (aI 84 F)).1[122]? = _ := put_at ht (by decide)
    have x1 : (S.put 123 (aI 84 F)).1[123]? = _ := put_self hq
    refine EvX.go (ih (i + 1) (by omega) (upd F (7 * e + i) (nI (B e i - (if e = c then 0 else B e c) * B c i).val)) ((hM.upd (e := e) (k := i) (v := B e i - (if e = c then 0 else B e c) * B c i) (by omega) ho).congr (fun e' k' he' hk' => ?_))) (fun d r kx => ?_)
    · show (if e' = e ∧ k' = i then B e i - (if e = c then 0 else B e c) * B c i else elX B c e i e' k') = elX B c e (i + 1) e' k'
      by_cases z : e' = e ∧ k' = i
      · rw [if_pos z, z.1, z.2]
        unfold elX
        rw [if_pos (Or.inr ⟨rfl, by omega⟩)]
        rfl
      · rw [if_neg z]
        unfold elX
        by_cases q : e' < e ∨ (e' = e ∧ k' < i)
        · rw [if_pos q, if_pos (by omega)]
        · rw [if_neg q, if_neg (by omega)]
    · skip
      refine ev_iload i_Md_solve_258 rfl ?_
      refine ev_iload_n i_Md_solve_260 rfl ?_
      refine ev_icmp_gtN i_Md_solve_261 (by omega) (by omega) (fun hc_261 => ?_) (fun hc_261 => ?_)
      · skip
        exfalso; omega
      · skip
        refine ev_aload_n i_Md_solve_264 rfl ?_
        refine ev_get i_Md_solve_265 o1 rfl ?_
        refine ev_bipushN (v := 7) i_Md_solve_268 (by decide) ?_
        refine ev_iload i_Md_solve_270 rfl ?_
        first | refine ev_imulN i_Md_solve_272 ?_ | refine ev_imul i_Md_solve_272 ?_
        refine ev_iload i_Md_solve_273 rfl ?_
        first | refine ev_iaddN i_Md_solve_275 ?_ | refine ev_iadd i_Md_solve_275 ?_
        refine ev_aload_n i_Md_solve_276 rfl ?_
        refine ev_get i_Md_solve_277 o1 rfl ?_
        refine ev_bipushN (v := 7) i_Md_solve_280 (by decide) ?_
        refine ev_iload i_Md_solve_282 rfl ?_
        first | refine ev_imulN i_Md_solve_284 ?_ | refine ev_imul i_Md_solve_284 ?_
        refine ev_iload i_Md_solve_285 rfl ?_
        first | refine ev_iaddN i_Md_solve_287 ?_ | refine ev_iadd i_Md_solve_287 ?_
        refine ev_ialdN i_Md_solve_288 x1 (by omega) (by decide) ?_
        rw [hM e i (by omega) (by omega), show elX B c e i e i = B e i from if_neg (by omega)]
        refine ev_iload i_Md_solve_289 rfl ?_
        refine ev_aload_n i_Md_solve_291 rfl ?_
        refine ev_get i_Md_solve_292 o1 rfl ?_
        refine ev_bipushN (v := 7) i_Md_solve_295 (by decide) ?_
        refine ev_iload_n i_Md_solve_297 rfl ?_
        first | refine ev_imulN i_Md_solve_298 ?_ | refine ev_imul i_Md_solve_298 ?_
        refine ev_iload i_Md_solve_299 rfl ?_
        first | refine ev_iaddN i_Md_solve_301 ?_ | refine ev_iadd i_Md_solve_301 ?_
        refine ev_ialdN i_Md_solve_302 x1 (by omega) (by decide) ?_
        rw [hM c i (by omega) (by omega), elX_row]
        first | refine ev_imulN i_Md_solve_303 ?_ | refine ev_imul i_Md_solve_303 ?_
        refine ev_isub i_Md_solve_304 ?_
        refine ev_sipushN (v := 10007) i_Md_solve_305 (by decide) ?_
        refine ev_callS2 i_Md_solve_308 rfl (Nat.le_of_ble_eq_true rfl) (c_floorMod (B e i).isLt (ff_mul_lt _ _)) ?_
        rw [← ff_mul_v, ff_sub_v]
        refine ev_iastN i_Md_solve_311 x1 (by omega) (by decide) ?_
        rw [put_put]
        refine ev_iincN_8 (c := 1) i_Md_solve_312 (by decide) rfl ?_
        refine ev_goto i_Md_solve_315 ?_
        exact kx
theorem lp_el2 {scr : Scr} {l : Launch} {S : Sto} {o : Nat} {s : Nat → FF} {ft : Nat → Int32} {q1 q2 q3 q4 q5 q6 q7 : Int32} {v : Option Value} {Post : Sto → Prop} (h0 : S.1[105]? = some (mObj q1 q2 q3 q4 q5 q6 q7)) (ht : S.1[122]? = some (aI 18 (kG (fun j => (s j).val) ft 18))) {F0 G0 : Nat → Int32} (hq : S.1[123]? = some (aI 84 F0)) (hg : S.1[124]? = some (aI 7 G0)) (ho : o ≤ 6) {B : Nat → Nat → FF} {c : Nat} {x4 x5 : Int32} (hc : c < o) (hk : ∀ F, MatIs F (elM B c c) o → ∀ u7 u8, EvX scr l 1 M_Md_solve 324 [some (.ref 105), some (.int (nI o)), some (.int (nI c)), some (.int (nI c)), some (.int x4), some (.int x5), some (.int (nI 12)), u7, u8] (S.put 123 (aI 84 F)) v Post) : ∀ (k e : Nat), e + k = 12 → ∀ F, MatIs F (elX B c e 0) o → ∀ u7 u8, EvX scr l 1 M_Md_solve 224 [some (.ref 105), some (.int (nI o)), some (.int (nI c)), some (.int (nI c)), some (.int x4), some (.int x5), some (.int (nI e)), u7, u8] (S.put 123 (aI 84 F)) v Post := by
  intro k
  induction k with
  | zero =>
    intro e hek F hM u7 u8
    have z : e = 12 := by omega
    subst z
    refine EvX.go (hk F (hM.congr (fun e k h1 _ => if_pos (Or.inl h1))) u7 u8) (fun d r kx => ?_)
    refine ev_iload i_Md_solve_224 rfl ?_
    refine ev_bipushN (v := 12) i_Md_solve_226 (by decide) ?_
    refine ev_icmp_geN i_Md_solve_228 (by omega) (by omega) (fun hc_228 => ?_) (fun hc_228 => ?_)
    · skip
      exact kx
    · skip
      exfalso; omega
  | succ k ih =>
    intro e hek F hM u7 u8
    have o1 : (S.put 123 (aI 84 F)).1[105]? = _ := put_at h0 (by decide)
    have t1 : (S.put 123 (aI 84 F)).1[122]? = _ := put_at ht (by decide)
    have x1 : (S.put 123 (aI 84 F)).1[123]? = _ := put_self hq
    refine EvX.go (lp_el1 h0 ht hq hg ho (B := B) (x4 := x4) (x5 := x5) hc (show e < 12 by omega) (fun F hM => ?_) (o + 1) 0 (by omega) F hM) (fun d r kx => ?_)
    · refine EvX.go (ih (e + 1) (by omega) F (hM.congr (fun e' k' h1 h2 => ?_)) (some (.int (nI (if e = c then 0 else B e c).val))) (some (.int (nI (o + 1))))) (fun d r kx => ?_)
      · unfold elX
        by_cases q : e' < e ∨ (e' = e ∧ k' < o + 1)
        · rw [if_pos q, if_pos (by omega)]
        · rw [if_neg q, if_neg (by omega)]
      · refine ev_iincN_6 (c := 1) i_Md_solve_318 (by decide) rfl ?_
        refine ev_goto i_Md_solve_321 ?_
        exact kx
    · by_cases hec : e = c
      · skip
        refine ev_iload i_Md_solve_224 rfl ?_
        refine ev_bipushN (v := 12) i_Md_solve_226 (by decide) ?_
        refine ev_icmp_geN i_Md_solve_228 (by omega) (by omega) (fun hc_228 => ?_) (fun hc_228 => ?_)
        · skip
          exfalso; omega
        · skip
          refine ev_iload i_Md_solve_231 rfl ?_
          refine ev_iload_n i_Md_solve_233 rfl ?_
          refine ev_icmp_neN i_Md_solve_234 (by omega) (by omega) (fun hc_234 => ?_) (fun hc_234 => ?_)
          · skip
            exfalso; omega
          · skip
            refine ev_iconstN (v := 0) i_Md_solve_237 (by decide) ?_
            refine ev_goto i_Md_solve_238 ?_
            rw [show nI 0 = nI (if e = c then 0 else B e c).val from by rw [if_pos hec]; rfl]
            refine ev_ist_7 i_Md_solve_253 rfl ?_
            refine ev_iconstN (v := 0) i_Md_solve_255 (by decide) ?_
            refine ev_ist_8 i_Md_solve_256 rfl ?_
            exact kx
      · skip
        refine ev_iload i_Md_solve_224 rfl ?_
        refine ev_bipushN (v := 12) i_Md_solve_226 (by decide) ?_
        refine ev_icmp_geN i_Md_solve_228 (by omega) (by omega) (fun hc_228 => ?_) (fun hc_228 => ?_)
        · skip
          exfalso; omega
        · skip
          refine ev_iload i_Md_solve_231 rfl ?_
          refine ev_iload_n i_Md_solve_233 rfl ?_
          refine ev_icmp_neN i_Md_solve_234 (by omega) (by omega) (fun hc_234 => ?_) (fun hc_234 => ?_)
          · skip
            refine ev_aload_n i_Md_solve_241 rfl ?_
            refine ev_get i_Md_solve_242 o1 rfl ?_
            refine ev_bipushN (v := 7) i_Md_solve_245 (by decide) ?_
            refine ev_iload i_Md_solve_247 rfl ?_
            first | refine ev_imulN i_Md_solve_249 ?_ | refine ev_imul i_Md_solve_249 ?_
            refine ev_iload_n i_Md_solve_250 rfl ?_
            first | refine ev_iaddN i_Md_solve_251 ?_ | refine ev_iadd i_Md_solve_251 ?_
            refine ev_ialdN i_Md_solve_252 x1 (by omega) (by decide) ?_
            rw [hM e c (by omega) (by omega), show elX B c e 0 e c = (if e = c then 0 else B e c) from by rw [if_neg hec]; exact if_neg (by omega)]
            refine ev_ist_7 i_Md_solve_253 rfl ?_
            refine ev_iconstN (v := 0) i_Md_solve_255 (by decide) ?_
            refine ev_ist_8 i_Md_solve_256 rfl ?_
            exact kx
          · skip
            exfalso; omega
theorem lp_cols {scr : Scr} {l : Launch} {S : Sto} {o : Nat} {s : Nat → FF} {ft : Nat → Int32} {q1 q2 q3 q4 q5 q6 q7 : Int32} {v : Option Value} {Post : Sto → Prop} (h0 : S.1[105]? = some (mObj q1 q2 q3 q4 q5 q6 q7)) (ht : S.1[122]? = some (aI 18 (kG (fun j => (s j).val) ft 18))) {F0 G0 : Nat → Int32} (hq : S.1[123]? = some (aI 84 F0)) (hg : S.1[124]? = some (aI 7 G0)) (ho : o ≤ 6) (hker : ∀ z : Nat → FF, z o = 0 → Zer (eqA s o) o z → ∀ k, k < o → z k = 0) (hk : ∀ F A, MatIs F A o → unit A o → (∀ z, Zer A o z ↔ Zer (eqA s o) o z) → ∀ u4 u5 u6 u7 u8, EvX scr l 1 M_Md_solve 333 [some (.ref 105), some (.int (nI o)), some (.int (nI o)), some (.int (nI o)), u4, u5, u6, u7, u8] (S.put 123 (aI 84 F)) v Post) : ∀ (k c : Nat), c + k = o → ∀ F A, MatIs F A o → unit A c → (∀ z, Zer A o z ↔ Zer (eqA s o) o z) → ∀ u4 u5 u6 u7 u8, EvX scr l 1 M_Md_solve 73 [some (.ref 105), some (.int (nI o)), some (.int (nI c)), some (.int (nI c)), u4, u5, u6, u7, u8] (S.put 123 (aI 84 F)) v Post := by
  intro k
  induction k with
  | zero =>
    intro c hck F A hM hu hz u4 u5 u6 u7 u8
    have z : c = o := by omega
    subst z
    refine EvX.go (hk F A hM hu hz u4 u5 u6 u7 u8) (fun d r kx => ?_)
    refine ev_iload_n i_Md_solve_73 rfl ?_
    refine ev_iload_n i_Md_solve_74 rfl ?_
    refine ev_icmp_geN i_Md_solve_75 (by omega) (by omega) (fun hc_75 => ?_) (fun hc_75 => ?_)
    · skip
      exact kx
    · skip
      exfalso; omega
  | succ k ih =>
    intro c hck F A hM hu hz u4 u5 u6 u7 u8
    obtain ⟨pv0, p1, p2, p3⟩ := pivot_ex (show c < o by omega) ho hu (fun z a1 a2 => hker z a1 ((hz z).mp a2))
    refine EvX.go (lp_piv h0 ht hq hg ho (u5 := u5) (u6 := u6) (u7 := u7) (u8 := u8) hM (show c < o by omega) p2 p3 (fun pv v1 v2 v3 => ?_) (pv0 - c) c (by omega) (by omega)) (fun d r kx => ?_)
    · skip
      have o1 : (S.put 123 (aI 84 F)).1[105]? = _ := put_at h0 (by decide)
      have t1 : (S.put 123 (aI 84 F)).1[122]? = _ := put_at ht (by decide)
      have x1 : (S.put 123 (aI 84 F)).1[123]? = _ := put_self hq
      refine EvX.go (lp_swp h0 ht hq hg ho (A := A) (f := ivF (A pv c)) (u8 := u8) (show c < o by omega) v2 (fun F hM => fun u7 => ?_) (o + 1) 0 (by omega) F (hM.congr (fun e k _ _ => (if_neg (by omega)).symm)) u7) (fun d r kx => ?_)
      · refine EvX.go (lp_el2 h0 ht hq hg ho (x4 := nI pv) (x5 := nI (ivF (A pv c)).val) (B := swpM A pv c (ivF (A pv c))) (show c < o by omega) (fun F hM u7 u8 => ?_) 12 0 (by omega) F (hM.congr (fun e k _ _ => (if_neg (by omega)).symm)) u7 u8) (fun d r kx => ?_)
        · refine EvX.go (ih (c + 1) (by omega) F _ hM (el_unit (by omega) v1 v2 hu v3) (fun z => (zer_el (by omega)).trans ((zer_swp v2 (by omega) (ivF_ne v3)).trans (hz z))) (some (.int (nI pv))) (some (.int (nI (ivF (A pv c)).val))) (some (.int (nI 12))) u7 u8) (fun d r kx => ?_)
          refine ev_iincN_2 (c := 1) i_Md_solve_324 (by decide) rfl ?_
          refine ev_iincN_3 (c := 1) i_Md_solve_327 (by decide) rfl ?_
          refine ev_goto i_Md_solve_330 ?_
          exact kx
        · skip
          refine ev_iconstN (v := 0) i_Md_solve_221 (by decide) ?_
          refine ev_ist_6 i_Md_solve_222 rfl ?_
          exact kx
      · skip
        refine ev_iload i_Md_solve_109 rfl ?_
        refine ev_bipushN (v := 12) i_Md_solve_111 (by decide) ?_
        refine ev_icmp_neN i_Md_solve_113 (by omega) (by omega) (fun hc_113 => ?_) (fun hc_113 => ?_)
        · skip
          refine ev_aload_n i_Md_solve_128 rfl ?_
          refine ev_get i_Md_solve_129 o1 rfl ?_
          refine ev_bipushN (v := 7) i_Md_solve_132 (by decide) ?_
          refine ev_iload i_Md_solve_134 rfl ?_
          first | refine ev_imulN i_Md_solve_136 ?_ | refine ev_imul i_Md_solve_136 ?_
          refine ev_iload_n i_Md_solve_137 rfl ?_
          first | refine ev_iaddN i_Md_solve_138 ?_ | refine ev_iadd i_Md_solve_138 ?_
          refine ev_ialdN i_Md_solve_139 x1 (by omega) (by decide) ?_
          rw [hM pv c (by omega) (by omega)]
          refine ev_callS1 i_Md_solve_140 rfl (Nat.le_of_ble_eq_true rfl) (m_inverse (A pv c)) ?_
          refine ev_ist_5 i_Md_solve_143 rfl ?_
          refine ev_iconstN (v := 0) i_Md_solve_145 (by decide) ?_
          refine ev_ist_6 i_Md_solve_146 rfl ?_
          exact kx
        · skip
          exfalso; omega
    · skip
      refine ev_iload_n i_Md_solve_73 rfl ?_
      refine ev_iload_n i_Md_solve_74 rfl ?_
      refine ev_icmp_geN i_Md_solve_75 (by omega) (by omega) (fun hc_75 => ?_) (fun hc_75 => ?_)
      · skip
        exfalso; omega
      · skip
        refine ev_iload_n i_Md_solve_78 rfl ?_
        refine ev_ist_4 i_Md_solve_79 rfl ?_
        exact kx
theorem lp_can {scr : Scr} {l : Launch} {S : Sto} {o : Nat} {s : Nat → FF} {ft : Nat → Int32} {q1 q2 q3 q4 q5 q6 q7 : Int32} {v : Option Value} {Post : Sto → Prop} (h0 : S.1[105]? = some (mObj q1 q2 q3 q4 q5 q6 q7)) (ht : S.1[122]? = some (aI 18 (kG (fun j => (s j).val) ft 18))) {F0 G0 : Nat → Int32} (hq : S.1[123]? = some (aI 84 F0)) (hg : S.1[124]? = some (aI 7 G0)) (ho : o ≤ 6) {A : Nat → Nat → FF} {F : Nat → Int32} {u5 u6 u7 u8 : Option Value} (hM : MatIs F A o) (hk : EvX scr l 1 M_Md_solve 376 [some (.ref 105), some (.int (nI o)), some (.int (nI o)), some (.int (nI (bI (allB (fun j => decide (A (o + j) o = 0)) (12 - o))))), some (.int (nI 12)), u5, u6, u7, u8] (S.put 123 (aI 84 F)) v Post) : ∀ (k i : Nat), i + k = 12 - o → EvX scr l 1 M_Md_solve 338 [some (.ref 105), some (.int (nI o)), some (.int (nI o)), some (.int (nI (bI (allB (fun j => decide (A (o + j) o = 0)) i)))), some (.int (nI (o + i))), u5, u6, u7, u8] (S.put 123 (aI 84 F)) v Post := by
  have o1 : (S.put 123 (aI 84 F)).1[105]? = _ := put_at h0 (by decide)
  have t1 : (S.put 123 (aI 84 F)).1[122]? = _ := put_at ht (by decide)
  have x1 : (S.put 123 (aI 84 F)).1[123]? = _ := put_self hq
  intro k
  induction k with
  | zero =>
    intro i hik
    have z : i = 12 - o := by omega
    subst z
    refine EvX.go hk (fun d r kx => ?_)
    rw [show o + (12 - o) = 12 by omega]
    refine ev_iload i_Md_solve_338 rfl ?_
    refine ev_bipushN (v := 12) i_Md_solve_340 (by decide) ?_
    refine ev_icmp_geN i_Md_solve_342 (by omega) (by omega) (fun hc_342 => ?_) (fun hc_342 => ?_)
    · skip
      exact kx
    · skip
      exfalso; omega
  | succ k ih =>
    intro i hik
    have hlt := (A (o + i) o).isLt
    have es : allB (fun j => decide (A (o + j) o = 0)) (i + 1) = (allB (fun j => decide (A (o + j) o = 0)) i && decide (A (o + i) o = 0)) := rfl
    refine EvX.go (ih (i + 1) (by omega)) (fun d r kx => ?_)
    cases hb : allB (fun j => decide (A (o + j) o = 0)) i with
    | false =>
      rw [es, hb, Bool.false_and] at kx
      have z0 : bI false = 0 := rfl
      rw [z0] at kx ⊢
      refine ev_iload i_Md_solve_338 rfl ?_
      refine ev_bipushN (v := 12) i_Md_solve_340 (by decide) ?_
      refine ev_icmp_geN i_Md_solve_342 (by omega) (by omega) (fun hc_342 => ?_) (fun hc_342 => ?_)
      · skip
        exfalso; omega
      · skip
        refine ev_iload_n i_Md_solve_345 rfl ?_
        refine ev_if_eqN i_Md_solve_346 (by omega) (fun hc_346 => ?_) (fun hc_346 => ?_)
        · skip
          refine ev_iconstN (v := 0) i_Md_solve_368 (by decide) ?_
          refine ev_ist_n_3 i_Md_solve_369 rfl ?_
          refine ev_iincN_4 (c := 1) i_Md_solve_370 (by decide) rfl ?_
          refine ev_goto i_Md_solve_373 ?_
          exact kx
        · skip
          exfalso; omega
    | true =>
      rw [es, hb, Bool.true_and] at kx
      have z1 : bI true = 1 := rfl
      rw [z1]
      by_cases hz : A (o + i) o = 0
      · have hz0 : (A (o + i) o).val = 0 := ff_z.mpr hz
        rw [decide_eq_true hz, z1] at kx
        refine ev_iload i_Md_solve_338 rfl ?_
        refine ev_bipushN (v := 12) i_Md_solve_340 (by decide) ?_
        refine ev_icmp_geN i_Md_solve_342 (by omega) (by omega) (fun hc_342 => ?_) (fun hc_342 => ?_)
        · skip
          exfalso; omega
        · skip
          refine ev_iload_n i_Md_solve_345 rfl ?_
          refine ev_if_eqN i_Md_solve_346 (by omega) (fun hc_346 => ?_) (fun hc_346 => ?_)
          · skip
            exfalso; omega
          · skip
            refine ev_aload_n i_Md_solve_349 rfl ?_
            refine ev_get i_Md_solve_350 o1 rfl ?_
            refine ev_bipushN (v := 7) i_Md_solve_353 (by decide) ?_
            refine ev_iload i_Md_solve_355 rfl ?_
            first | refine ev_imulN i_Md_solve_357 ?_ | refine ev_imul i_Md_solve_357 ?_
            refine ev_iload_n i_Md_solve_358 rfl ?_
            first | refine ev_iaddN i_Md_solve_359 ?_ | refine ev_iadd i_Md_solve_359 ?_
            refine ev_ialdN i_Md_solve_360 x1 (by omega) (by decide) ?_
            rw [hM (o + i) o (by omega) (by omega)]
            refine ev_if_neN i_Md_solve_361 (by omega) (fun hc_361 => ?_) (fun hc_361 => ?_)
            · skip
              exfalso; omega
            · skip
              refine ev_iconstN (v := 1) i_Md_solve_364 (by decide) ?_
              refine ev_goto i_Md_solve_365 ?_
              refine ev_ist_n_3 i_Md_solve_369 rfl ?_
              refine ev_iincN_4 (c := 1) i_Md_solve_370 (by decide) rfl ?_
              refine ev_goto i_Md_solve_373 ?_
              exact kx
      · have hz0 : (A (o + i) o).val ≠ 0 := fun q => hz (ff_z.mp q)
        rw [decide_eq_false hz, show bI false = 0 from rfl] at kx
        refine ev_iload i_Md_solve_338 rfl ?_
        refine ev_bipushN (v := 12) i_Md_solve_340 (by decide) ?_
        refine ev_icmp_geN i_Md_solve_342 (by omega) (by omega) (fun hc_342 => ?_) (fun hc_342 => ?_)
        · skip
          exfalso; omega
        · skip
          refine ev_iload_n i_Md_solve_345 rfl ?_
          refine ev_if_eqN i_Md_solve_346 (by omega) (fun hc_346 => ?_) (fun hc_346 => ?_)
          · skip
            exfalso; omega
          · skip
            refine ev_aload_n i_Md_solve_349 rfl ?_
            refine ev_get i_Md_solve_350 o1 rfl ?_
            refine ev_bipushN (v := 7) i_Md_solve_353 (by decide) ?_
            refine ev_iload i_Md_solve_355 rfl ?_
            first | refine ev_imulN i_Md_solve_357 ?_ | refine ev_imul i_Md_solve_357 ?_
            refine ev_iload_n i_Md_solve_358 rfl ?_
            first | refine ev_iaddN i_Md_solve_359 ?_ | refine ev_iadd i_Md_solve_359 ?_
            refine ev_ialdN i_Md_solve_360 x1 (by omega) (by decide) ?_
            rw [hM (o + i) o (by omega) (by omega)]
            refine ev_if_neN i_Md_solve_361 (by omega) (fun hc_361 => ?_) (fun hc_361 => ?_)
            · skip
              refine ev_iconstN (v := 0) i_Md_solve_368 (by decide) ?_
              refine ev_ist_n_3 i_Md_solve_369 rfl ?_
              refine ev_iincN_4 (c := 1) i_Md_solve_370 (by decide) rfl ?_
              refine ev_goto i_Md_solve_373 ?_
              exact kx
            · skip
              exfalso; omega
theorem lp_coef {scr : Scr} {l : Launch} {S : Sto} {o : Nat} {s : Nat → FF} {ft : Nat → Int32} {q1 q2 q3 q4 q5 q6 q7 : Int32} {v : Option Value} {Post : Sto → Prop} (h0 : S.1[105]? = some (mObj q1 q2 q3 q4 q5 q6 q7)) (ht : S.1[122]? = some (aI 18 (kG (fun j => (s j).val) ft 18))) {F0 G0 : Nat → Int32} (hq : S.1[123]? = some (aI 84 F0)) (hg : S.1[124]? = some (aI 7 G0)) (ho : o ≤ 6) {A : Nat → Nat → FF} {F : Nat → Int32} {vb : Bool} {u5 u6 u7 u8 : Option Value} (hM : MatIs F A o) (hv : v = some (.int (nI (bI vb)))) (hP : ∀ G, (∀ j, j < o → G (j + 1) = nI (A j o).val) → Post ((S.put 123 (aI 84 F)).put 124 (aI 7 G))) : ∀ (k i : Nat), i + k = o → ∀ G, (∀ j, j < i → G (j + 1) = nI (A j o).val) → EvX scr l 1 M_Md_solve 379 [some (.ref 105), some (.int (nI o)), some (.int (nI o)), some (.int (nI (bI vb))), some (.int (nI i)), u5, u6, u7, u8] ((S.put 123 (aI 84 F)).put 124 (aI 7 G)) v Post := by
  intro k
  induction k with
  | zero =>
    intro i hik G hG
    have z : i = o := by omega
    subst z
    subst hv
    refine ⟨((S.put 123 (aI 84 F)).put 124 (aI 7 G)), fun d => ?_, hP G hG⟩
    refine ev_iload i_Md_solve_379 rfl ?_
    refine ev_iload_n i_Md_solve_381 rfl ?_
    refine ev_icmp_geN i_Md_solve_382 (by omega) (by omega) (fun hc_382 => ?_) (fun hc_382 => ?_)
    · skip
      refine ev_iload_n i_Md_solve_417 rfl ?_
      exact ev_iretB i_Md_solve_418 rfl
    · skip
      exfalso; omega
  | succ k ih =>
    intro i hik G hG
    have o2 : ((S.put 123 (aI 84 F)).put 124 (aI 7 G)).1[105]? = _ := put_at (put_at h0 (by decide)) (by decide)
    have x2 : ((S.put 123 (aI 84 F)).put 124 (aI 7 G)).1[123]? = _ := put_at (put_self hq) (by decide)
    have g2 : ((S.put 123 (aI 84 F)).put 124 (aI 7 G)).1[124]? = _ := put_self (put_at hg (by decide))
    refine EvX.go (ih (i + 1) (by omega) (upd G (i + 1) (nI (A i o).val)) (fun j hj => ?_)) (fun d r kx => ?_)
    · by_cases z : j = i
      · rw [z, updN_at]
      · rw [updN_ne (by omega)]
        exact hG j (by omega)
    · skip
      refine ev_iload i_Md_solve_379 rfl ?_
      refine ev_iload_n i_Md_solve_381 rfl ?_
      refine ev_icmp_geN i_Md_solve_382 (by omega) (by omega) (fun hc_382 => ?_) (fun hc_382 => ?_)
      · skip
        exfalso; omega
      · skip
        refine ev_iload_n i_Md_solve_385 rfl ?_
        refine ev_iload_n i_Md_solve_386 rfl ?_
        refine ev_icmp_neN i_Md_solve_387 (by omega) (by omega) (fun hc_387 => ?_) (fun hc_387 => ?_)
        · skip
          exfalso; omega
        · skip
          refine ev_aload_n i_Md_solve_390 rfl ?_
          refine ev_get i_Md_solve_391 o2 rfl ?_
          refine ev_iload i_Md_solve_394 rfl ?_
          refine ev_iconstN (v := 1) i_Md_solve_396 (by decide) ?_
          first | refine ev_iaddN i_Md_solve_397 ?_ | refine ev_iadd i_Md_solve_397 ?_
          refine ev_aload_n i_Md_solve_398 rfl ?_
          refine ev_get i_Md_solve_399 o2 rfl ?_
          refine ev_bipushN (v := 7) i_Md_solve_402 (by decide) ?_
          refine ev_iload i_Md_solve_404 rfl ?_
          first | refine ev_imulN i_Md_solve_406 ?_ | refine ev_imul i_Md_solve_406 ?_
          refine ev_iload_n i_Md_solve_407 rfl ?_
          first | refine ev_iaddN i_Md_solve_408 ?_ | refine ev_iadd i_Md_solve_408 ?_
          refine ev_ialdN i_Md_solve_409 x2 (by omega) (by decide) ?_
          rw [hM i o (by omega) (by omega)]
          refine ev_iastN i_Md_solve_410 g2 (by omega) (by decide) ?_
          rw [put_put]
          refine ev_iincN_4 (c := 1) i_Md_solve_411 (by decide) rfl ?_
          refine ev_goto i_Md_solve_414 ?_
          exact kx
theorem m_solve {scr : Scr} {l : Launch} {S : Sto} {o r : Nat} {s D : Nat → FF} {ft : Nat → Int32} {q1 q2 q3 q4 q5 q6 q7 : Int32} (h0 : S.1[105]? = some (mObj q1 q2 q3 q4 q5 q6 q7)) (ht : S.1[122]? = some (aI 18 (kG (fun j => (s j).val) ft 18))) {F0 G0 : Nat → Int32} (hq : S.1[123]? = some (aI 84 F0)) (hg : S.1[124]? = some (aI 7 G0)) (hR : RecS s r D) (hr : r ≤ 6) (hor : o ≤ r) : ∃ S3, (∀ d, MetA scr l (d + 1) M_Md_solve [.ref 105, .int (nI o)] S (.inl (some (.int (nI (bI (decide (o = r)))))), S3)) ∧ (Fr [123, 124] S S3 ∧ (∃ F, S3.1[123]? = some (aI 84 F)) ∧ ∃ G, S3.1[124]? = some (aI 7 G) ∧ (o = r → ∀ k, k < r → G (k + 1) = nI (- D (k + 1)).val)) := by
  have ho : o ≤ 6 := by omega
  have hx : EvX scr l 1 M_Md_solve 2 [some (.ref 105), some (.int (nI o)), some (.int (nI 0)), none, none, none, none, none, none] (S.put 123 (aI 84 F0)) (some (.int (nI (bI (decide (o = r)))))) (fun S3 => Fr [123, 124] S S3 ∧ (∃ F, S3.1[123]? = some (aI 84 F)) ∧ ∃ G, S3.1[124]? = some (aI 7 G) ∧ (o = r → ∀ k, k < r → G (k + 1) = nI (- D (k + 1)).val)) := by
    refine lp_sa h0 ht hq hg ho (fun F hM u3 => ?_) 12 0 (by omega) F0 (fun e k h1 h2 h3 => by omega) _
    refine EvX.go (lp_cols h0 ht hq hg ho (fun z a1 a2 => eqA_ker hR hr hor a1 a2) (fun F A hM hu hz u4 u5 u6 u7 u8 => ?_) o 0 (by omega) F (eqA s o) hM (fun j hj => by omega) (fun z => Iff.rfl) none none none none none) (fun d r kx => ?_)
    · have hv : allB (fun j => decide (A (o + j) o = 0)) (12 - o) = decide (o = r) := by
        by_cases z : o = r
        · rw [decide_eq_true z]
          subst z
          exact allB_iff.mpr (fun i hi => decide_eq_true ((el_yes hR hr hu hz).1 (o + i) (by omega) (by omega)))
        · rw [decide_eq_false z]
          cases hb : allB (fun j => decide (A (o + j) o = 0)) (12 - o) with
          | false => rfl
          | true =>
            refine absurd (fun e h1 h2 => ?_) (el_no hR hr (by omega) hu hz)
            have := of_decide_eq_true (allB_iff.mp hb (e - o) (by omega))
            rw [show o + (e - o) = e by omega] at this
            exact this
      refine EvX.go (lp_can h0 ht hq hg ho (u5 := u5) (u6 := u6) (u7 := u7) (u8 := u8) hM ?_ (12 - o) 0 (by omega)) (fun d r kx => ?_)
      · refine EvX.go (lp_coef h0 ht hq hg ho (vb := allB (fun j => decide (A (o + j) o = 0)) (12 - o)) (u5 := u5) (u6 := u6) (u7 := u7) (u8 := u8) hM (by rw [hv]) (fun G hG => ⟨(Fr.put _ _ (by simp)).tr (Fr.put _ _ (by simp)), ⟨F, put_at (put_self hq) (by decide)⟩, G, put_self (put_at hg (by decide)), fun z k hk => by
          subst z
          rw [hG k hk, (el_yes hR hr hu hz).2 k hk]⟩) o 0 (by omega) G0 (fun j hj => by omega)) (fun d r kx => ?_)
        · rw [put_same (put_at hg (by decide))] at kx
          refine ev_iconstN (v := 0) i_Md_solve_376 (by decide) ?_
          refine ev_ist_4 i_Md_solve_377 rfl ?_
          exact kx
      · skip
        refine ev_iconstN (v := 1) i_Md_solve_333 (by decide) ?_
        refine ev_ist_n_3 i_Md_solve_334 rfl ?_
        refine ev_iload_n i_Md_solve_335 rfl ?_
        refine ev_ist_4 i_Md_solve_336 rfl ?_
        exact kx
    · skip
      refine ev_iconstN (v := 0) i_Md_solve_69 (by decide) ?_
      refine ev_ist_n_2 i_Md_solve_70 rfl ?_
      refine ev_iconstN (v := 0) i_Md_solve_71 (by decide) ?_
      refine ev_ist_n_3 i_Md_solve_72 rfl ?_
      exact kx
  obtain ⟨S3, m3, p3⟩ := hx
  refine ⟨S3, fun d => ?_, p3⟩
  rw [put_same hq] at m3
  refine MetA.of rfl (by decide +kernel) (Nat.le_of_ble_eq_true rfl) ?_
  refine ev_iconstN (v := 0) i_Md_solve_0 (by decide) ?_
  refine ev_ist_n_2 i_Md_solve_1 rfl ?_
  exact m3 d

/-! the model m: numbers of derivations -/
theorem sumN_mulr {f : Nat → Nat} {c n : Nat} : sumN f n * c = sumN (fun i => f i * c) n := by
  induction n with
  | zero => exact Nat.zero_mul _
  | succ n ih => show (sumN f n + f n) * c = sumN (fun i => f i * c) n + f n * c; rw [Nat.add_mul, ih]
theorem sumN_mull {f : Nat → Nat} {c n : Nat} : c * sumN f n = sumN (fun i => c * f i) n := by
  induction n with
  | zero => exact Nat.mul_zero _
  | succ n ih => show c * (sumN f n + f n) = sumN (fun i => c * f i) n + c * f n; rw [Nat.mul_add, ih]
theorem sumN_addf {f g : Nat → Nat} {n : Nat} : sumN (fun i => f i + g i) n = sumN f n + sumN g n := by
  induction n with
  | zero => rfl
  | succ n ih => show sumN (fun i => f i + g i) n + (f n + g n) = (sumN f n + f n) + (sumN g n + g n); rw [ih]; omega
theorem sumN_comm {f : Nat → Nat → Nat} {a b : Nat} : sumN (fun i => sumN (f i) b) a = sumN (fun j => sumN (fun i => f i j) a) b := by
  induction a with
  | zero => exact (sumN_zero (fun _ _ => rfl)).symm
  | succ a ih =>
    show sumN (fun i => sumN (f i) b) a + sumN (f a) b = sumN (fun j => sumN (fun i => f i j) a + f a j) b
    rw [sumN_addf, ih]
theorem sumN_shift {g : Nat → Nat} {L N : Nat} : sumN (fun j => if L ≤ j then g (j - L) else 0) N = sumN (fun j => if j + L < N then g j else 0) N := by
  by_cases h : N ≤ L
  · rw [sumN_zero (fun i hi => if_neg (by omega)), sumN_zero (fun i hi => if_neg (by omega))]
  · obtain ⟨M, rfl⟩ := Nat.exists_eq_add_of_le (show L ≤ N by omega)
    rw [sumN_add, sumN_zero (fun i hi => if_neg (by omega)), Nat.zero_add, Nat.add_comm L M, sumN_add, sumN_zero (f := fun i => if M + i + L < M + L then g (M + i) else 0) (fun i hi => if_neg (by omega)), Nat.add_zero]
    refine sumN_congr (fun i hi => ?_)
    rw [if_pos (by omega), if_pos (by omega)]
    congr 1
    omega
/-- how often the last k letters become what follows the first letters of the target -/
def Bk (T : TabV) (xs ys : List Nat) : Nat → Nat → Nat
  | 0, a => if a = ys.length then 1 else 0
  | k + 1, a => sumN (fun u => if stB ys ((prodsOf T xs (xs.length - (k + 1))).getD u []) a = true then Bk T xs ys k (a + ((prodsOf T xs (xs.length - (k + 1))).getD u []).length) else 0) (prodsOf T xs (xs.length - (k + 1))).length
theorem stB_le {ys p : List Nat} {j : Nat} (h : stB ys p j = true) : j + p.length ≤ ys.length := by
  unfold stB at h
  rw [Bool.and_eq_true] at h
  exact of_decide_eq_true h.1
theorem fb_one {ys p : List Nat} {W B : Nat → Nat} : sumN (fun j => addT ys p W j * B j) (ys.length + 1) = sumN (fun j => W j * (if stB ys p j = true then B (j + p.length) else 0)) (ys.length + 1) := by
  have e1 : sumN (fun j => addT ys p W j * B j) (ys.length + 1) = sumN (fun j => if p.length ≤ j then (fun i => (if stB ys p i = true then W i else 0) * B (i + p.length)) (j - p.length) else 0) (ys.length + 1) := sumN_congr (fun j _ => by
    unfold addT
    by_cases h : p.length ≤ j
    · rw [if_pos h]
      dsimp only
      rw [Nat.sub_add_cancel h]
      by_cases q : stB ys p (j - p.length) = true
      · rw [if_pos ⟨h, q⟩, if_pos q]
      · rw [if_neg (fun z => q z.2), if_neg q]
    · rw [if_neg h, if_neg (fun z => h z.1), Nat.zero_mul])
  refine e1.trans ((sumN_shift (g := fun i => (if stB ys p i = true then W i else 0) * B (i + p.length))).trans (sumN_congr (fun j _ => ?_)))
  by_cases q : stB ys p j = true
  · have := stB_le q
    rw [if_pos (by omega), if_pos q, if_pos q]
  · rw [if_neg q, if_neg q, Nat.zero_mul, Nat.mul_zero]
    split <;> rfl
theorem fb_step {T : TabV} {xs ys : List Nat} {i k : Nat} (h : i + (k + 1) = xs.length) : sumN (fun j => Fw T xs ys (i + 1) j * Bk T xs ys k j) (ys.length + 1) = sumN (fun j => Fw T xs ys i j * Bk T xs ys (k + 1) j) (ys.length + 1) := by
  have hi : xs.length - (k + 1) = i := by omega
  have e1 : sumN (fun j => Fw T xs ys (i + 1) j * Bk T xs ys k j) (ys.length + 1) = sumN (fun j => sumN (fun u => addT ys ((prodsOf T xs i).getD u []) (Fw T xs ys i) j * Bk T xs ys k j) (prodsOf T xs i).length) (ys.length + 1) := sumN_congr (fun j _ => sumN_mulr)
  have e2 : sumN (fun j => Fw T xs ys i j * Bk T xs ys (k + 1) j) (ys.length + 1) = sumN (fun j => sumN (fun u => Fw T xs ys i j * (if stB ys ((prodsOf T xs i).getD u []) j = true then Bk T xs ys k (j + ((prodsOf T xs i).getD u []).length) else 0)) (prodsOf T xs i).length) (ys.length + 1) := sumN_congr (fun j _ => by
    show Fw T xs ys i j * sumN _ _ = _
    rw [hi, sumN_mull])
  rw [e1, e2, sumN_comm, sumN_comm (f := fun j u => Fw T xs ys i j * (if stB ys ((prodsOf T xs i).getD u []) j = true then Bk T xs ys k (j + ((prodsOf T xs i).getD u []).length) else 0))]
  exact sumN_congr (fun u _ => fb_one)
theorem fb_all {T : TabV} {xs ys : List Nat} : ∀ (k i : Nat), i + k = xs.length → sumN (fun j => Fw T xs ys i j * Bk T xs ys k j) (ys.length + 1) = Fw T xs ys xs.length ys.length := by
  intro k
  induction k with
  | zero =>
    intro i hi
    have z : i = xs.length := by omega
    subst z
    show sumN (fun j => Fw T xs ys xs.length j * Bk T xs ys 0 j) ys.length + Fw T xs ys xs.length ys.length * Bk T xs ys 0 ys.length = _
    rw [sumN_zero (fun j hj => by show _ * (if j = ys.length then 1 else 0) = 0; rw [if_neg (by omega), Nat.mul_zero])]
    show 0 + _ * (if ys.length = ys.length then 1 else 0) = _
    rw [if_pos rfl, Nat.mul_one, Nat.zero_add]
  | succ k ih =>
    intro i hi
    rw [← fb_step hi]
    exact ih (i + 1) (by omega)
/-- both counts agree -/
theorem fw_bk {T : TabV} {xs ys : List Nat} : Bk T xs ys xs.length 0 = Fw T xs ys xs.length ys.length := by
  have h := fb_all (T := T) (xs := xs) (ys := ys) xs.length 0 (by omega)
  rw [← h, Nat.add_comm ys.length 1, sumN_add]
  rw [sumN_zero (f := fun i => Fw T xs ys 0 (1 + i) * Bk T xs ys xs.length (1 + i)) (fun j _ => by show (if 1 + j = 0 then 1 else 0) * _ = 0; rw [if_neg (by omega), Nat.zero_mul])]
  show _ = 0 + (if 0 = 0 then 1 else 0) * _ + 0
  rw [if_pos rfl, Nat.one_mul, Nat.zero_add, Nat.add_zero]
theorem lp_stands0 {scr : Scr} {l : Launch} {S : Sto} {o j d : Nat} {g gt : Nat → Int32} {p ys : List Nat} {q1 q2 q3 q4 q5 q6 q7 : Int32} (h0 : S.1[105]? = some (mObj q1 q2 q3 q4 q5 q6 q7)) (hg : S.1[106]? = some (aI 417 g)) (hp : MProd g o p) (hp4 : PrOK p) (ho : o + 5 ≤ 417) (ht : S.1[108]? = some (aI 61 gt)) (hy : RowW gt 0 ys) (hj : j ≤ ys.length) {i : Nat} (hi : i ≤ 5) : Ev scr l d M_Md_stands 26 [some (.ref 105), some (.int (nI o)), some (.int (nI j)), some (.int (nI 0)), some (.int (nI i))] [] S (.inl (some (.int (nI 0))), S) := by
  have hl4 := hp4.1
  refine ev_iload i_Md_stands_26 rfl ?_
  refine ev_aload_n i_Md_stands_28 rfl ?_
  refine ev_get i_Md_stands_29 h0 rfl ?_
  refine ev_iload_n i_Md_stands_32 rfl ?_
  refine ev_ialdN i_Md_stands_33 hg (by omega) (by decide) ?_
  rw [hp.1]
  refine ev_icmp_geN i_Md_stands_34 (by omega) (by omega) (fun hc_34 => ?_) (fun hc_34 => ?_)
  · skip
    refine ev_iload_n i_Md_stands_78 rfl ?_
    exact ev_iret i_Md_stands_79 rfl (by first | rfl | decide)
  · skip
    refine ev_iload_n i_Md_stands_37 rfl ?_
    refine ev_if_eqN i_Md_stands_38 (by omega) (fun hc_38 => ?_) (fun hc_38 => ?_)
    · skip
      refine ev_iload_n i_Md_stands_78 rfl ?_
      exact ev_iret i_Md_stands_79 rfl (by first | rfl | decide)
    · skip
      exfalso; omega
theorem m_stands {scr : Scr} {l : Launch} {S : Sto} {o j d : Nat} {g gt : Nat → Int32} {p ys : List Nat} {q1 q2 q3 q4 q5 q6 q7 : Int32} (h0 : S.1[105]? = some (mObj q1 q2 q3 q4 q5 q6 q7)) (hg : S.1[106]? = some (aI 417 g)) (hp : MProd g o p) (hp4 : PrOK p) (ho : o + 5 ≤ 417) (ht : S.1[108]? = some (aI 61 gt)) (hy : RowW gt 0 ys) (hj : j ≤ ys.length) : MetA scr l d M_Md_stands [.ref 105, .int (nI o), .int (nI j)] S (.inl (some (.int (nI (bI (stB ys p j))))), S) := by
  have hl4 := hp4.1
  have h60 := hy.2.1
  unfold stB
  by_cases hjl : j + p.length ≤ ys.length
  · rw [decide_eq_true hjl, Bool.true_and]
    rcases first_or (fun u => decide (¬ p.getD u 0 = ys.getD (j + u) 0)) p.length with hf | ⟨m, hm, hne, hf⟩
    · have e : allB (fun u => decide (p.getD u 0 = ys.getD (j + u) 0)) p.length = true := allB_iff.mpr (fun i hi => by simpa using hf i hi)
      rw [e, bI_t]
      refine MetA.of rfl (by decide +kernel) (Nat.le_of_ble_eq_true rfl) ?_
      refine ev_iload_n i_Md_stands_0 rfl ?_
      refine ev_aload_n i_Md_stands_1 rfl ?_
      refine ev_get i_Md_stands_2 h0 rfl ?_
      refine ev_iload_n i_Md_stands_5 rfl ?_
      refine ev_ialdN i_Md_stands_6 hg (by omega) (by decide) ?_
      rw [hp.1]
      first | refine ev_iaddN i_Md_stands_7 ?_ | refine ev_iadd i_Md_stands_7 ?_
      refine ev_aload_n i_Md_stands_8 rfl ?_
      refine ev_get i_Md_stands_9 h0 rfl ?_
      refine ev_iconstN (v := 0) i_Md_stands_12 (by decide) ?_
      refine ev_ialdN i_Md_stands_13 ht (by decide) (by decide) ?_
      rw [hy.1]
      refine ev_icmp_gtN i_Md_stands_14 (by omega) (by omega) (fun hc_14 => ?_) (fun hc_14 => ?_)
      · skip
        exfalso; omega
      · skip
        refine ev_iconstN (v := 1) i_Md_stands_17 (by decide) ?_
        refine ev_goto i_Md_stands_18 ?_
        refine ev_ist_n_3 i_Md_stands_22 rfl ?_
        refine ev_iconstN (v := 0) i_Md_stands_23 (by decide) ?_
        refine ev_ist_4 i_Md_stands_24 rfl ?_
        refine ev_loop (n := p.length) (fun i => [some (.ref 105), some (.int (nI o)), some (.int (nI j)), some (.int (nI 1)), some (.int (nI i))]) (fun i => S) (fun i hi ki => ?_) ?_
        · try dsimp only at ki ⊢
          have h6a := hp4.2 i (by omega)
          have h6b := (hy.2.2 (j + i) (by omega)).2
          have he : p.getD i 0 = ys.getD (j + i) 0 := by simpa using hf i (by omega)
          refine ev_iload i_Md_stands_26 rfl ?_
          refine ev_aload_n i_Md_stands_28 rfl ?_
          refine ev_get i_Md_stands_29 h0 rfl ?_
          refine ev_iload_n i_Md_stands_32 rfl ?_
          refine ev_ialdN i_Md_stands_33 hg (by omega) (by decide) ?_
          rw [hp.1]
          refine ev_icmp_geN i_Md_stands_34 (by omega) (by omega) (fun hc_34 => ?_) (fun hc_34 => ?_)
          · skip
            exfalso; omega
          · skip
            refine ev_iload_n i_Md_stands_37 rfl ?_
            refine ev_if_eqN i_Md_stands_38 (by omega) (fun hc_38 => ?_) (fun hc_38 => ?_)
            · skip
              exfalso; omega
            · skip
              refine ev_aload_n i_Md_stands_41 rfl ?_
              refine ev_get i_Md_stands_42 h0 rfl ?_
              refine ev_iload_n i_Md_stands_45 rfl ?_
              refine ev_iconstN (v := 1) i_Md_stands_46 (by decide) ?_
              first | refine ev_iaddN i_Md_stands_47 ?_ | refine ev_iadd i_Md_stands_47 ?_
              refine ev_iload i_Md_stands_48 rfl ?_
              first | refine ev_iaddN i_Md_stands_50 ?_ | refine ev_iadd i_Md_stands_50 ?_
              refine ev_ialdN i_Md_stands_51 hg (by omega) (by decide) ?_
              rw [hp.2 i (by omega)]
              refine ev_aload_n i_Md_stands_52 rfl ?_
              refine ev_get i_Md_stands_53 h0 rfl ?_
              refine ev_iconstN (v := 1) i_Md_stands_56 (by decide) ?_
              refine ev_iload_n i_Md_stands_57 rfl ?_
              first | refine ev_iaddN i_Md_stands_58 ?_ | refine ev_iadd i_Md_stands_58 ?_
              refine ev_iload i_Md_stands_59 rfl ?_
              first | refine ev_iaddN i_Md_stands_61 ?_ | refine ev_iadd i_Md_stands_61 ?_
              refine ev_ialdN i_Md_stands_62 ht (by omega) (by decide) ?_
              rw [show 1 + j + i = 0 + 1 + (j + i) from by omega, (hy.2.2 (j + i) (by omega)).1]
              refine ev_icmp_neN i_Md_stands_63 (by omega) (by omega) (fun hc_63 => ?_) (fun hc_63 => ?_)
              · skip
                exfalso; omega
              · skip
                refine ev_iconstN (v := 1) i_Md_stands_66 (by decide) ?_
                refine ev_goto i_Md_stands_67 ?_
                refine ev_ist_n_3 i_Md_stands_71 rfl ?_
                refine ev_iincN_4 (c := 1) i_Md_stands_72 (by decide) rfl ?_
                refine ev_goto i_Md_stands_75 ?_
                exact ki
        · try dsimp only
          refine ev_iload i_Md_stands_26 rfl ?_
          refine ev_aload_n i_Md_stands_28 rfl ?_
          refine ev_get i_Md_stands_29 h0 rfl ?_
          refine ev_iload_n i_Md_stands_32 rfl ?_
          refine ev_ialdN i_Md_stands_33 hg (by omega) (by decide) ?_
          rw [hp.1]
          refine ev_icmp_geN i_Md_stands_34 (by omega) (by omega) (fun hc_34 => ?_) (fun hc_34 => ?_)
          · skip
            refine ev_iload_n i_Md_stands_78 rfl ?_
            exact ev_iret i_Md_stands_79 rfl (by first | rfl | decide)
          · skip
            exfalso; omega
    · have hne : ¬ p.getD m 0 = ys.getD (j + m) 0 := by simpa using hne
      have e : allB (fun u => decide (p.getD u 0 = ys.getD (j + u) 0)) p.length = false := by
        cases hz : allB (fun u => decide (p.getD u 0 = ys.getD (j + u) 0)) p.length with
        | false => rfl
        | true => exact absurd (of_decide_eq_true (allB_iff.mp hz m hm)) hne
      rw [e, bI_f]
      refine MetA.of rfl (by decide +kernel) (Nat.le_of_ble_eq_true rfl) ?_
      refine ev_iload_n i_Md_stands_0 rfl ?_
      refine ev_aload_n i_Md_stands_1 rfl ?_
      refine ev_get i_Md_stands_2 h0 rfl ?_
      refine ev_iload_n i_Md_stands_5 rfl ?_
      refine ev_ialdN i_Md_stands_6 hg (by omega) (by decide) ?_
      rw [hp.1]
      first | refine ev_iaddN i_Md_stands_7 ?_ | refine ev_iadd i_Md_stands_7 ?_
      refine ev_aload_n i_Md_stands_8 rfl ?_
      refine ev_get i_Md_stands_9 h0 rfl ?_
      refine ev_iconstN (v := 0) i_Md_stands_12 (by decide) ?_
      refine ev_ialdN i_Md_stands_13 ht (by decide) (by decide) ?_
      rw [hy.1]
      refine ev_icmp_gtN i_Md_stands_14 (by omega) (by omega) (fun hc_14 => ?_) (fun hc_14 => ?_)
      · skip
        exfalso; omega
      · skip
        refine ev_iconstN (v := 1) i_Md_stands_17 (by decide) ?_
        refine ev_goto i_Md_stands_18 ?_
        refine ev_ist_n_3 i_Md_stands_22 rfl ?_
        refine ev_iconstN (v := 0) i_Md_stands_23 (by decide) ?_
        refine ev_ist_4 i_Md_stands_24 rfl ?_
        refine ev_loop (n := m) (fun i => [some (.ref 105), some (.int (nI o)), some (.int (nI j)), some (.int (nI 1)), some (.int (nI i))]) (fun i => S) (fun i hi ki => ?_) ?_
        · try dsimp only at ki ⊢
          have h6a := hp4.2 i (by omega)
          have h6b := (hy.2.2 (j + i) (by omega)).2
          have he : p.getD i 0 = ys.getD (j + i) 0 := by simpa using hf i (by omega)
          refine ev_iload i_Md_stands_26 rfl ?_
          refine ev_aload_n i_Md_stands_28 rfl ?_
          refine ev_get i_Md_stands_29 h0 rfl ?_
          refine ev_iload_n i_Md_stands_32 rfl ?_
          refine ev_ialdN i_Md_stands_33 hg (by omega) (by decide) ?_
          rw [hp.1]
          refine ev_icmp_geN i_Md_stands_34 (by omega) (by omega) (fun hc_34 => ?_) (fun hc_34 => ?_)
          · skip
            exfalso; omega
          · skip
            refine ev_iload_n i_Md_stands_37 rfl ?_
            refine ev_if_eqN i_Md_stands_38 (by omega) (fun hc_38 => ?_) (fun hc_38 => ?_)
            · skip
              exfalso; omega
            · skip
              refine ev_aload_n i_Md_stands_41 rfl ?_
              refine ev_get i_Md_stands_42 h0 rfl ?_
              refine ev_iload_n i_Md_stands_45 rfl ?_
              refine ev_iconstN (v := 1) i_Md_stands_46 (by decide) ?_
              first | refine ev_iaddN i_Md_stands_47 ?_ | refine ev_iadd i_Md_stands_47 ?_
              refine ev_iload i_Md_stands_48 rfl ?_
              first | refine ev_iaddN i_Md_stands_50 ?_ | refine ev_iadd i_Md_stands_50 ?_
              refine ev_ialdN i_Md_stands_51 hg (by omega) (by decide) ?_
              rw [hp.2 i (by omega)]
              refine ev_aload_n i_Md_stands_52 rfl ?_
              refine ev_get i_Md_stands_53 h0 rfl ?_
              refine ev_iconstN (v := 1) i_Md_stands_56 (by decide) ?_
              refine ev_iload_n i_Md_stands_57 rfl ?_
              first | refine ev_iaddN i_Md_stands_58 ?_ | refine ev_iadd i_Md_stands_58 ?_
              refine ev_iload i_Md_stands_59 rfl ?_
              first | refine ev_iaddN i_Md_stands_61 ?_ | refine ev_iadd i_Md_stands_61 ?_
              refine ev_ialdN i_Md_stands_62 ht (by omega) (by decide) ?_
              rw [show 1 + j + i = 0 + 1 + (j + i) from by omega, (hy.2.2 (j + i) (by omega)).1]
              refine ev_icmp_neN i_Md_stands_63 (by omega) (by omega) (fun hc_63 => ?_) (fun hc_63 => ?_)
              · skip
                exfalso; omega
              · skip
                refine ev_iconstN (v := 1) i_Md_stands_66 (by decide) ?_
                refine ev_goto i_Md_stands_67 ?_
                refine ev_ist_n_3 i_Md_stands_71 rfl ?_
                refine ev_iincN_4 (c := 1) i_Md_stands_72 (by decide) rfl ?_
                refine ev_goto i_Md_stands_75 ?_
                exact ki
        · try dsimp only
          have h6a := hp4.2 m (by omega)
          have h6b := (hy.2.2 (j + m) (by omega)).2
          refine ev_iload i_Md_stands_26 rfl ?_
          refine ev_aload_n i_Md_stands_28 rfl ?_
          refine ev_get i_Md_stands_29 h0 rfl ?_
          refine ev_iload_n i_Md_stands_32 rfl ?_
          refine ev_ialdN i_Md_stands_33 hg (by omega) (by decide) ?_
          rw [hp.1]
          refine ev_icmp_geN i_Md_stands_34 (by omega) (by omega) (fun hc_34 => ?_) (fun hc_34 => ?_)
          · skip
            exfalso; omega
          · skip
            refine ev_iload_n i_Md_stands_37 rfl ?_
            refine ev_if_eqN i_Md_stands_38 (by omega) (fun hc_38 => ?_) (fun hc_38 => ?_)
            · skip
              exfalso; omega
            · skip
              refine ev_aload_n i_Md_stands_41 rfl ?_
              refine ev_get i_Md_stands_42 h0 rfl ?_
              refine ev_iload_n i_Md_stands_45 rfl ?_
              refine ev_iconstN (v := 1) i_Md_stands_46 (by decide) ?_
              first | refine ev_iaddN i_Md_stands_47 ?_ | refine ev_iadd i_Md_stands_47 ?_
              refine ev_iload i_Md_stands_48 rfl ?_
              first | refine ev_iaddN i_Md_stands_50 ?_ | refine ev_iadd i_Md_stands_50 ?_
              refine ev_ialdN i_Md_stands_51 hg (by omega) (by decide) ?_
              rw [hp.2 m (by omega)]
              refine ev_aload_n i_Md_stands_52 rfl ?_
              refine ev_get i_Md_stands_53 h0 rfl ?_
              refine ev_iconstN (v := 1) i_Md_stands_56 (by decide) ?_
              refine ev_iload_n i_Md_stands_57 rfl ?_
              first | refine ev_iaddN i_Md_stands_58 ?_ | refine ev_iadd i_Md_stands_58 ?_
              refine ev_iload i_Md_stands_59 rfl ?_
              first | refine ev_iaddN i_Md_stands_61 ?_ | refine ev_iadd i_Md_stands_61 ?_
              refine ev_ialdN i_Md_stands_62 ht (by omega) (by decide) ?_
              rw [show 1 + j + m = 0 + 1 + (j + m) from by omega, (hy.2.2 (j + m) (by omega)).1]
              refine ev_icmp_neN i_Md_stands_63 (by omega) (by omega) (fun hc_63 => ?_) (fun hc_63 => ?_)
              · skip
                refine ev_iconstN (v := 0) i_Md_stands_70 (by decide) ?_
                refine ev_ist_n_3 i_Md_stands_71 rfl ?_
                refine ev_iincN_4 (c := 1) i_Md_stands_72 (by decide) rfl ?_
                refine ev_goto i_Md_stands_75 ?_
                exact lp_stands0 h0 hg hp hp4 ho ht hy hj (by omega)
              · skip
                exfalso; omega
  · rw [decide_eq_false hjl, Bool.false_and, bI_f]
    refine MetA.of rfl (by decide +kernel) (Nat.le_of_ble_eq_true rfl) ?_
    refine ev_iload_n i_Md_stands_0 rfl ?_
    refine ev_aload_n i_Md_stands_1 rfl ?_
    refine ev_get i_Md_stands_2 h0 rfl ?_
    refine ev_iload_n i_Md_stands_5 rfl ?_
    refine ev_ialdN i_Md_stands_6 hg (by omega) (by decide) ?_
    rw [hp.1]
    first | refine ev_iaddN i_Md_stands_7 ?_ | refine ev_iadd i_Md_stands_7 ?_
    refine ev_aload_n i_Md_stands_8 rfl ?_
    refine ev_get i_Md_stands_9 h0 rfl ?_
    refine ev_iconstN (v := 0) i_Md_stands_12 (by decide) ?_
    refine ev_ialdN i_Md_stands_13 ht (by decide) (by decide) ?_
    rw [hy.1]
    refine ev_icmp_gtN i_Md_stands_14 (by omega) (by omega) (fun hc_14 => ?_) (fun hc_14 => ?_)
    · skip
      refine ev_iconstN (v := 0) i_Md_stands_21 (by decide) ?_
      refine ev_ist_n_3 i_Md_stands_22 rfl ?_
      refine ev_iconstN (v := 0) i_Md_stands_23 (by decide) ?_
      refine ev_ist_4 i_Md_stands_24 rfl ?_
      exact lp_stands0 h0 hg hp hp4 ho ht hy hj (by omega)
    · skip
      exfalso; omega

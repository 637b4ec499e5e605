/-! the class WayCounter: letters, counts; x.ways -/
theorem w_addLetter {scr : Scr} {l : Launch} {S : Sto} {d : Nat} {t w a v b c1 c2 i : Nat} {T : TabV} {xs ys : List Nat} {W : Nat → Nat} {g1 g2 : Nat → Int64} (ht : TabAt S t T) (hx : WordAt S v b xs) (hy : WordAt S w a ys) (hi : i < xs.length) (hc : (c1 = 79 ∧ c2 = 80) ∨ (c1 = 80 ∧ c2 = 79)) (ho : S.1[78]? = some (oB 11 [.ref c1, .ref c2])) (h1 : S.1[c1]? = some (aJ 61 (encF W g1))) (h2 : S.1[c2]? = some (aJ 61 (encF (fun _ => 0) g2))) (hoff : tabOff t [79, 80]) (hw : w ∉ [79, 80] ∧ a ∉ [79, 80]) (hv : v ∉ [79, 80] ∧ b ∉ [79, 80]) : MetA scr l (d + 3) M_Wy_addLetter [.ref 78, .ref t, .ref v, .int (nI i), .ref w] S (.inl none, S.put c2 (aJ 61 (encF (fun x => (sumN (fun u => addT ys ((prodsOf T xs i).getD u []) W x) (prodsOf T xs i).length)) g2))) := by
  obtain ⟨rc, fs, fl, fe, hT, hR⟩ := id ht
  obtain ⟨-, h60, x3, f, x4, x5⟩ := id hx
  have h6 := x3 i hi
  cases hr : ruleAt T xs i with
  | some p =>
    have hps : prodsOf T xs i = [p] := by unfold prodsOf; rw [hr]
    have hi0 : i ≠ 0 := fun z => by unfold ruleAt at hr; rw [if_pos z] at hr; cases hr
    have h6p := x3 (i - 1) (by omega)
    have hsl : SlotR fl fe (18 + xs.getD (i - 1) 0 * 6 + xs.getD i 0) p ∧ PrOK p := by
      unfold ruleAt at hr
      rw [if_neg hi0] at hr
      exact (hR.2.1 _ _ h6p h6).2 p hr
    rw [hps]
    have eF : encF (fun x => sumN (fun u => addT ys (([p] : List (List Nat)).getD u []) W x) ([p] : List (List Nat)).length) g2 = encF (fun x => 0 + addT ys p W x) g2 := rfl
    rw [eF]
    refine MetA.of rfl (by decide +kernel) (Nat.le_of_ble_eq_true rfl) ?_
    refine ev_aload_n i_Wy_addLetter_0 rfl ?_
    refine ev_aload_n i_Wy_addLetter_1 rfl ?_
    refine ev_iload_n i_Wy_addLetter_2 rfl ?_
    refine ev_callV2 i_Wy_addLetter_3 rfl hT.1 (Nat.le_of_ble_eq_true rfl) ((t_ruleAt ht hx hi).2 p hr _) ?_
    refine ev_ist_5 i_Wy_addLetter_6 rfl ?_
    refine ev_iload i_Wy_addLetter_8 rfl ?_
    refine ev_iconst (v := -1) i_Wy_addLetter_10 (by decide) ?_
    refine ev_icmp_eq i_Wy_addLetter_11 (fun hc_11 => ?_) (fun hc_11 => ?_)
    · skip
      exact absurd hc_11 (nI_ne_m1 (by omega))
    · skip
      refine ev_aload_n i_Wy_addLetter_14 rfl ?_
      refine ev_aload_n i_Wy_addLetter_15 rfl ?_
      refine ev_iload i_Wy_addLetter_16 rfl ?_
      refine ev_aload i_Wy_addLetter_18 rfl ?_
      refine ev_callV3 i_Wy_addLetter_20 rfl ho (Nat.le_of_ble_eq_true rfl) (w_addProd hT (by omega) hsl.1 hsl.2 hy hc ho h1 h2 hoff hw) ?_
      exact ev_vret i_Wy_addLetter_23 rfl
  | none =>
    have hps : prodsOf T xs i = T.1 (xs.getD i 0) := by unfold prodsOf; rw [hr]
    have hA := hR.1 _ h6
    have el : (prodsOf T xs i).length = (T.1 (xs.getD i 0)).length := by rw [hps]
    rw [el]
    refine MetA.of rfl (by decide +kernel) (Nat.le_of_ble_eq_true rfl) ?_
    refine ev_aload_n i_Wy_addLetter_0 rfl ?_
    refine ev_aload_n i_Wy_addLetter_1 rfl ?_
    refine ev_iload_n i_Wy_addLetter_2 rfl ?_
    refine ev_callV2 i_Wy_addLetter_3 rfl hT.1 (Nat.le_of_ble_eq_true rfl) ((t_ruleAt ht hx hi).1 hr _) ?_
    refine ev_ist_5 i_Wy_addLetter_6 rfl ?_
    refine ev_iload i_Wy_addLetter_8 rfl ?_
    refine ev_iconst (v := -1) i_Wy_addLetter_10 (by decide) ?_
    refine ev_icmp_eq i_Wy_addLetter_11 (fun hc_11 => ?_) (fun hc_11 => ?_)
    · skip
      refine ev_aload_n i_Wy_addLetter_24 rfl ?_
      refine ev_get i_Wy_addLetter_25 hx.1 rfl ?_
      refine ev_iload_n i_Wy_addLetter_28 rfl ?_
      refine ev_ialdN i_Wy_addLetter_29 x4 (by omega) (by decide) ?_
      rw [x5 i hi]
      refine ev_ist_6 i_Wy_addLetter_30 rfl ?_
      refine ev_iconstN (v := 0) i_Wy_addLetter_32 (by decide) ?_
      refine ev_ist_7 i_Wy_addLetter_33 rfl ?_
      refine ev_eqS (S1 := (S.put c2 (aJ 61 (encF (fun x => (sumN (fun u => addT ys ((prodsOf T xs i).getD u []) W x) 0)) g2)))) (put_same h2) ?_
      refine ev_loop (n := (T.1 (xs.getD i 0)).length) (fun u => [some (.ref 78), some (.ref t), some (.ref v), some (.int (nI i)), some (.ref w), some (.int (-1)), some (.int (nI (xs.getD i 0))), some (.int (nI u))]) (fun u => (S.put c2 (aJ 61 (encF (fun x => (sumN (fun u => addT ys ((prodsOf T xs i).getD u []) W x) u)) g2)))) (fun u hu ku => ?_) ?_
      · try dsimp only at ku ⊢
        have hcn : c2 ∈ [79, 80] := by rcases hc with q | q <;> (rw [q.2]; simp)
        have hFj : Fr [79, 80] S (S.put c2 (aJ 61 (encF (fun x => (sumN (fun u => addT ys ((prodsOf T xs i).getD u []) W x) u)) g2))) := Fr.put _ _ hcn
        have oj : (S.put c2 (aJ 61 (encF (fun x => (sumN (fun u => addT ys ((prodsOf T xs i).getD u []) W x) u)) g2))).1[78]? = _ := put_at ho (by rcases hc with q | q <;> omega)
        have w1 : (S.put c2 (aJ 61 (encF (fun x => (sumN (fun u => addT ys ((prodsOf T xs i).getD u []) W x) u)) g2))).1[c1]? = _ := put_at h1 (by rcases hc with q | q <;> omega)
        have n1 : (S.put c2 (aJ 61 (encF (fun x => (sumN (fun u => addT ys ((prodsOf T xs i).getD u []) W x) u)) g2))).1[c2]? = _ := put_self h2
        have yj := hy.fr hFj hw
        have tj := hT.fr hFj hoff
        refine ev_iload i_Wy_addLetter_35 rfl ?_
        refine ev_aload_n i_Wy_addLetter_37 rfl ?_
        refine ev_get i_Wy_addLetter_38 tj.1 rfl ?_
        refine ev_iload i_Wy_addLetter_41 rfl ?_
        refine ev_ialdN i_Wy_addLetter_43 tj.2.1 (by omega) (by decide) ?_
        rw [hA.1]
        refine ev_icmp_geN i_Wy_addLetter_44 (by omega) (by omega) (fun hc_44 => ?_) (fun hc_44 => ?_)
        · skip
          exfalso; omega
        · skip
          refine ev_aload_n i_Wy_addLetter_47 rfl ?_
          refine ev_aload_n i_Wy_addLetter_48 rfl ?_
          refine ev_iload i_Wy_addLetter_49 rfl ?_
          refine ev_iload i_Wy_addLetter_51 rfl ?_
          refine ev_callS2 i_Wy_addLetter_53 rfl (Nat.le_of_ble_eq_true rfl) c_Tb_listSlot ?_
          refine ev_aload i_Wy_addLetter_56 rfl ?_
          refine ev_callV3 i_Wy_addLetter_58 rfl oj (Nat.le_of_ble_eq_true rfl) (w_addProd tj (by omega) (hA.2.2.2 u (by omega)).1 (hA.2.2.2 u (by omega)).2 yj hc oj w1 n1 hoff hw) ?_
          rw [put_put]
          refine ev_iincN_7 (c := 1) i_Wy_addLetter_61 (by decide) rfl ?_
          refine ev_goto i_Wy_addLetter_64 ?_
          have eu : ∀ x, (sumN (fun u => addT ys ((prodsOf T xs i).getD u []) W x) (u + 1)) = (sumN (fun u => addT ys ((prodsOf T xs i).getD u []) W x) u) + addT ys ((T.1 (xs.getD i 0)).getD u []) W x := fun x => by rw [← hps]; rfl
          rw [encF_congr (fun x _ => eu x)] at ku
          exact ku
      · try dsimp only
        have hcn : c2 ∈ [79, 80] := by rcases hc with q | q <;> (rw [q.2]; simp)
        have hFj : Fr [79, 80] S (S.put c2 (aJ 61 (encF (fun x => (sumN (fun u => addT ys ((prodsOf T xs i).getD u []) W x) (T.1 (xs.getD i 0)).length)) g2))) := Fr.put _ _ hcn
        have oj : (S.put c2 (aJ 61 (encF (fun x => (sumN (fun u => addT ys ((prodsOf T xs i).getD u []) W x) (T.1 (xs.getD i 0)).length)) g2))).1[78]? = _ := put_at ho (by rcases hc with q | q <;> omega)
        have w1 : (S.put c2 (aJ 61 (encF (fun x => (sumN (fun u => addT ys ((prodsOf T xs i).getD u []) W x) (T.1 (xs.getD i 0)).length)) g2))).1[c1]? = _ := put_at h1 (by rcases hc with q | q <;> omega)
        have n1 : (S.put c2 (aJ 61 (encF (fun x => (sumN (fun u => addT ys ((prodsOf T xs i).getD u []) W x) (T.1 (xs.getD i 0)).length)) g2))).1[c2]? = _ := put_self h2
        have yj := hy.fr hFj hw
        have tj := hT.fr hFj hoff
        refine ev_iload i_Wy_addLetter_35 rfl ?_
        refine ev_aload_n i_Wy_addLetter_37 rfl ?_
        refine ev_get i_Wy_addLetter_38 tj.1 rfl ?_
        refine ev_iload i_Wy_addLetter_41 rfl ?_
        refine ev_ialdN i_Wy_addLetter_43 tj.2.1 (by omega) (by decide) ?_
        rw [hA.1]
        refine ev_icmp_geN i_Wy_addLetter_44 (by omega) (by omega) (fun hc_44 => ?_) (fun hc_44 => ?_)
        · skip
          exact ev_vret i_Wy_addLetter_67 rfl
        · skip
          exfalso; omega
    · skip
      exact absurd rfl hc_11
/-- the counter behind i letters -/
def WyS (S : Sto) (W : Nat → Nat) : Prop := ∃ (c1 c2 : Nat) (g1 f2 : Nat → Int64), ((c1 = 79 ∧ c2 = 80) ∨ (c1 = 80 ∧ c2 = 79)) ∧ S.1[78]? = some (oB 11 [.ref c1, .ref c2]) ∧ S.1[c1]? = some (aJ 61 (encF W g1)) ∧ S.1[c2]? = some (aJ 61 f2)
theorem WyS.ok {S : Sto} {W : Nat → Nat} (h : WyS S W) : WyOK S := by
  obtain ⟨c1, c2, g1, f2, hc, h1, h2, h3⟩ := h
  rcases hc with ⟨e1, e2⟩ | ⟨e1, e2⟩
  · subst e1 e2
    exact ⟨79, 80, _, _, Or.inl ⟨rfl, rfl⟩, h1, h2, h3⟩
  · subst e1 e2
    exact ⟨80, 79, _, _, Or.inr ⟨rfl, rfl⟩, h1, h3, h2⟩
theorem lp_count {scr : Scr} {l : Launch} {S : Sto} {t w a v b : Nat} {T : TabV} {xs ys : List Nat} (ht : TabAt S t T) (hx : WordAt S v b xs) (hy : WordAt S w a ys) (hoff : tabOff t [78, 79, 80]) (hw : w ∉ [78, 79, 80] ∧ a ∉ [78, 79, 80]) (hv : v ∉ [78, 79, 80] ∧ b ∉ [78, 79, 80]) : ∀ (k i : Nat), i + k = xs.length → ∀ (u5 : Option Value) (S2 : Sto), WyS S2 (Fw T xs ys i) → Fr [78, 79, 80] S S2 → ∃ S3, (∀ d, Ev scr l (d + 4) M_Wy_count 18 [some (.ref 78), some (.ref t), some (.ref v), some (.ref w), some (.int (nI i)), u5] [] S2 (.inl (some (.long (enc (Fw T xs ys xs.length ys.length)))), S3)) ∧ WyOK S3 ∧ Fr [78, 79, 80] S S3 := by
  have h60 := hx.2.1
  have h60y := hy.2.1
  intro k
  induction k with
  | zero =>
    intro i hi u5 S2 hS hF
    have z : i = xs.length := by omega
    subst z
    obtain ⟨c1, c2, g1, f2, hc, o2, w2, n2⟩ := id hS
    have x2 := hx.fr hF hv
    have y2 := hy.fr hF hw
    refine ⟨S2, fun d => ?_, hS.ok, hF⟩
    refine ev_iload i_Wy_count_18 rfl ?_
    refine ev_aload_n i_Wy_count_20 rfl ?_
    refine ev_get i_Wy_count_21 x2.1 rfl ?_
    refine ev_icmp_geN i_Wy_count_24 (by omega) (by omega) (fun hc_24 => ?_) (fun hc_24 => ?_)
    · skip
      refine ev_aload_n i_Wy_count_70 rfl ?_
      refine ev_get i_Wy_count_71 o2 rfl ?_
      refine ev_aload_n i_Wy_count_74 rfl ?_
      refine ev_get i_Wy_count_75 y2.1 rfl ?_
      refine ev_laldN i_Wy_count_78 w2 (by omega) (by decide) ?_
      rw [encF_at (by omega)]
      exact ev_lret i_Wy_count_79 rfl
    · skip
      exfalso; omega
  | succ k ih =>
    intro i hi u5 S2 hS hF
    obtain ⟨c1, c2, g1, f2, hc, o2, w2, n2⟩ := id hS
    have x2 := hx.fr hF hv
    have hcn : c2 ∈ [78, 79, 80] := by rcases hc with q | q <;> (rw [q.2]; simp)
    have hne : c2 ≠ 78 ∧ c2 ≠ c1 := by rcases hc with q | q <;> omega
    have f3 : Fr [78, 79, 80] S2 (S2.put c2 (aJ 61 (encF (fun _ => 0) f2))) := Fr.put _ _ hcn
    have o3 : (S2.put c2 (aJ 61 (encF (fun _ => 0) f2))).1[78]? = _ := put_at o2 hne.1
    have w3 : (S2.put c2 (aJ 61 (encF (fun _ => 0) f2))).1[c1]? = _ := put_at w2 hne.2
    have n3 : (S2.put c2 (aJ 61 (encF (fun _ => 0) f2))).1[c2]? = _ := put_self n2
    have F3 := hF.tr f3
    have x3 := hx.fr F3 hv
    have y3 := hy.fr F3 hw
    have t3 := ht.fr F3 hoff
    have o4 : ((S2.put c2 (aJ 61 (encF (fun _ => 0) f2))).put c2 (aJ 61 (encF (fun x => sumN (fun u => addT ys ((prodsOf T xs i).getD u []) (Fw T xs ys i) x) (prodsOf T xs i).length) f2))).1[78]? = _ := put_at o3 hne.1
    have w4 : ((S2.put c2 (aJ 61 (encF (fun _ => 0) f2))).put c2 (aJ 61 (encF (fun x => sumN (fun u => addT ys ((prodsOf T xs i).getD u []) (Fw T xs ys i) x) (prodsOf T xs i).length) f2))).1[c1]? = _ := put_at w3 hne.2
    have n4 : ((S2.put c2 (aJ 61 (encF (fun _ => 0) f2))).put c2 (aJ 61 (encF (fun x => sumN (fun u => addT ys ((prodsOf T xs i).getD u []) (Fw T xs ys i) x) (prodsOf T xs i).length) f2))).1[c2]? = _ := put_self n3
    have o5 : (((S2.put c2 (aJ 61 (encF (fun _ => 0) f2))).put c2 (aJ 61 (encF (fun x => sumN (fun u => addT ys ((prodsOf T xs i).getD u []) (Fw T xs ys i) x) (prodsOf T xs i).length) f2))).put 78 (oB 11 [.ref c2, .ref c2])).1[78]? = _ := put_self o4
    have o6 : ((((S2.put c2 (aJ 61 (encF (fun _ => 0) f2))).put c2 (aJ 61 (encF (fun x => sumN (fun u => addT ys ((prodsOf T xs i).getD u []) (Fw T xs ys i) x) (prodsOf T xs i).length) f2))).put 78 (oB 11 [.ref c2, .ref c2])).put 78 (oB 11 [.ref c2, .ref c1])).1[78]? = _ := put_self o5
    have F6 : Fr [78, 79, 80] S ((((S2.put c2 (aJ 61 (encF (fun _ => 0) f2))).put c2 (aJ 61 (encF (fun x => sumN (fun u => addT ys ((prodsOf T xs i).getD u []) (Fw T xs ys i) x) (prodsOf T xs i).length) f2))).put 78 (oB 11 [.ref c2, .ref c2])).put 78 (oB 11 [.ref c2, .ref c1])) := ((F3.tr (Fr.put _ _ hcn)).tr (Fr.put _ _ (by simp))).tr (Fr.put _ _ (by simp))
    obtain ⟨S7, m7, r7⟩ := ih (i + 1) (by omega) (some (.ref c1)) ((((S2.put c2 (aJ 61 (encF (fun _ => 0) f2))).put c2 (aJ 61 (encF (fun x => sumN (fun u => addT ys ((prodsOf T xs i).getD u []) (Fw T xs ys i) x) (prodsOf T xs i).length) f2))).put 78 (oB 11 [.ref c2, .ref c2])).put 78 (oB 11 [.ref c2, .ref c1])) ⟨c2, c1, f2, encF (Fw T xs ys i) g1, by rcases hc with q | q <;> omega, o6, put_at (put_at n4 (fun q => hne.1 q.symm)) (fun q => hne.1 q.symm), put_at (put_at w4 (by rcases hc with q | q <;> omega)) (by rcases hc with q | q <;> omega)⟩ F6
    refine ⟨S7, fun d => ?_, r7⟩
    refine ev_iload i_Wy_count_18 rfl ?_
    refine ev_aload_n i_Wy_count_20 rfl ?_
    refine ev_get i_Wy_count_21 x2.1 rfl ?_
    refine ev_icmp_geN i_Wy_count_24 (by omega) (by omega) (fun hc_24 => ?_) (fun hc_24 => ?_)
    · skip
      exfalso; omega
    · skip
      refine ev_aload_n i_Wy_count_27 rfl ?_
      refine ev_get i_Wy_count_28 o2 rfl ?_
      refine ev_lconst (v := 0) i_Wy_count_31 (by decide) ?_
      refine ev_callS2 i_Wy_count_32 rfl (Nat.le_of_ble_eq_true rfl) (c_Ar_fillJ n2 (by decide)) ?_
      rw [show (0 : Int64) = 0 from rfl, encF_fill]
      refine ev_aload_n i_Wy_count_35 rfl ?_
      refine ev_aload_n i_Wy_count_36 rfl ?_
      refine ev_aload_n i_Wy_count_37 rfl ?_
      refine ev_iload i_Wy_count_38 rfl ?_
      refine ev_aload_n i_Wy_count_40 rfl ?_
      refine ev_callV4 i_Wy_count_41 rfl o3 (Nat.le_of_ble_eq_true rfl) (w_addLetter t3 x3 y3 (by omega) hc o3 w3 n3 (hoff.mono (by simp)) ⟨fun q => hw.1 (by simp at q ⊢; omega), fun q => hw.2 (by simp at q ⊢; omega)⟩ ⟨fun q => hv.1 (by simp at q ⊢; omega), fun q => hv.2 (by simp at q ⊢; omega)⟩) ?_
      refine ev_aload_n i_Wy_count_44 rfl ?_
      refine ev_get i_Wy_count_45 o4 rfl ?_
      refine ev_ast_5 i_Wy_count_48 rfl ?_
      refine ev_aload_n i_Wy_count_50 rfl ?_
      refine ev_aload_n i_Wy_count_51 rfl ?_
      refine ev_get i_Wy_count_52 o4 rfl ?_
      refine ev_put i_Wy_count_55 o4 (Nat.le_of_ble_eq_true rfl) rfl rfl ?_
      refine ev_aload_n i_Wy_count_58 rfl ?_
      refine ev_aload i_Wy_count_59 rfl ?_
      refine ev_put i_Wy_count_61 o5 (Nat.le_of_ble_eq_true rfl) rfl rfl ?_
      refine ev_iincN_4 (c := 1) i_Wy_count_64 (by decide) rfl ?_
      refine ev_goto i_Wy_count_67 ?_
      exact m7 d
theorem w_count {scr : Scr} {l : Launch} {S : Sto} {t w a v b : Nat} {T : TabV} {xs ys : List Nat} (ht : TabAt S t T) (hx : WordAt S v b xs) (hy : WordAt S w a ys) (hoff : tabOff t [78, 79, 80]) (hw : w ∉ [78, 79, 80] ∧ a ∉ [78, 79, 80]) (hv : v ∉ [78, 79, 80] ∧ b ∉ [78, 79, 80]) (h : WyOK S) : ∃ S1, (∀ d, MetA scr l (d + 4) M_Wy_count [.ref 78, .ref t, .ref v, .ref w] S (.inl (some (.long (enc (Fw T xs ys xs.length ys.length)))), S1)) ∧ WyOK S1 ∧ Fr [78, 79, 80] S S1 := by
  obtain ⟨c1, c2, f1, f2, hc, o1, e1, e2⟩ := h
  obtain ⟨f, g, h1, h2⟩ : ∃ f g, S.1[c1]? = some (aJ 61 f) ∧ S.1[c2]? = some (aJ 61 g) := by
    rcases hc with ⟨q1, q2⟩ | ⟨q1, q2⟩
    · subst q1 q2; exact ⟨_, _, e1, e2⟩
    · subst q1 q2; exact ⟨_, _, e2, e1⟩
  have hcn : c1 ∈ [78, 79, 80] := by rcases hc with q | q <;> (rw [q.1]; simp)
  have hne : c1 ≠ 78 ∧ c1 ≠ c2 := by rcases hc with q | q <;> omega
  have oa : (S.put c1 (aJ 61 (encF (fun _ => 0) f))).1[78]? = _ := put_at o1 hne.1
  have wa : (S.put c1 (aJ 61 (encF (fun _ => 0) f))).1[c1]? = _ := put_self h1
  have F2 : Fr [78, 79, 80] S ((S.put c1 (aJ 61 (encF (fun _ => 0) f))).put c1 (aJ 61 (encF (fun j => if j = 0 then 1 else 0) f))) := (Fr.put _ _ hcn).tr (Fr.put _ _ hcn)
  obtain ⟨S2, m2, r2⟩ := lp_count (scr := scr) (l := l) ht hx hy hoff hw hv xs.length 0 (by omega) none _ ⟨c1, c2, f, g, hc, put_at oa hne.1, put_self wa, put_at (put_at h2 hne.2) hne.2⟩ F2
  refine ⟨S2, fun d => ?_, r2⟩
  refine MetA.of rfl (by decide +kernel) (Nat.le_of_ble_eq_true rfl) ?_
  refine ev_aload_n i_Wy_count_0 rfl ?_
  refine ev_get i_Wy_count_1 o1 rfl ?_
  refine ev_lconst (v := 0) i_Wy_count_4 (by decide) ?_
  refine ev_callS2 i_Wy_count_5 rfl (Nat.le_of_ble_eq_true rfl) (c_Ar_fillJ h1 (by decide)) ?_
  rw [encF_fill]
  refine ev_aload_n i_Wy_count_8 rfl ?_
  refine ev_get i_Wy_count_9 oa rfl ?_
  refine ev_iconstN (v := 0) i_Wy_count_12 (by decide) ?_
  refine ev_lconst (v := 1) i_Wy_count_13 (by decide) ?_
  refine ev_lastN i_Wy_count_14 wa (by decide) (by decide) ?_
  rw [show (1 : Int64) = enc 1 from rfl, encF_upd (by decide)]
  refine ev_iconstN (v := 0) i_Wy_count_15 (by decide) ?_
  refine ev_ist_4 i_Wy_count_16 rfl ?_
  exact m2 d
theorem XInv.wys {σ : Sg} {S : Sto} (h : XInv σ S) : WyOK S := h.2.2.2.2.2.2.2.2.2.1
theorem x_ways {scr : Scr} {l : Launch} {S : Sto} {σ : Sg} {t : Nat} (h : XInv σ S) (ht : t < 3) : ((Fw (σ.2.1.1 t) σ.2.1.2.1 σ.2.1.2.2.1 σ.2.1.2.1.length σ.2.1.2.2.1.length) < 2 ^ 63 → XRun scr l 5 M_Pr_ways [.ref 0, .int (nI t)] S (some (.long (nL (Fw (σ.2.1.1 t) σ.2.1.2.1 σ.2.1.2.2.1 σ.2.1.2.1.length σ.2.1.2.2.1.length)))) σ) ∧ (¬ (Fw (σ.2.1.1 t) σ.2.1.2.1 σ.2.1.2.2.1 σ.2.1.2.1.length σ.2.1.2.2.1.length) < 2 ^ 63 → XThr scr l 5 M_Pr_ways [.ref 0, .int (nI t)] S xAri σ) := by
  obtain ⟨S1, m1, w1, f1⟩ := w_count (scr := scr) (l := l) (live_tab h ht) (live_cur h) (live_tgt h) (live_off ht (by decide)) ⟨by decide, by decide⟩ ⟨by decide, by decide⟩ h.wys
  obtain ⟨c1, c2, ff1, ff2, hc, o1, -⟩ := id h.wys
  have h1 : XInv σ S1 := h.wy f1 (by decide) w1
  refine ⟨fun hn => ⟨S1, fun d => ?_, h1, f1.x (by decide)⟩, fun hn => ⟨S1, fun d => ?_, h1, f1.x (by decide)⟩⟩
  · rw [enc_lt hn] at m1
    refine MetA.of rfl (by decide +kernel) (Nat.le_of_ble_eq_true rfl) ?_
    refine ev_aload_n i_Pr_ways_0 rfl ?_
    refine ev_get i_Pr_ways_1 h.1 rfl ?_
    refine ev_aload_n i_Pr_ways_4 rfl ?_
    refine ev_iload_n i_Pr_ways_5 rfl ?_
    refine ev_callV1 i_Pr_ways_6 rfl h.1 (Nat.le_of_ble_eq_true rfl) (x_tableAt h ht) ?_
    refine ev_aload_n i_Pr_ways_9 rfl ?_
    refine ev_get i_Pr_ways_10 h.1 rfl ?_
    refine ev_get i_Pr_ways_13 h.2.2.1.1 rfl ?_
    refine ev_aload_n i_Pr_ways_16 rfl ?_
    refine ev_get i_Pr_ways_17 h.1 rfl ?_
    refine ev_get i_Pr_ways_20 h.2.2.1.1 rfl ?_
    refine ev_callV3 i_Pr_ways_23 rfl o1 (Nat.le_of_ble_eq_true rfl) (m1 _) ?_
    refine ev_lst_n_2 i_Pr_ways_26 rfl ?_
    refine ev_lload_n i_Pr_ways_27 rfl ?_
    refine ev_LdcL i_Pr_ways_28 ?_
    refine ev_lif_ne i_Pr_ways_31 i_Pr_ways_32 (fun hc_32 => ?_) (fun hc_32 => ?_)
    · skip
      refine ev_lload_n i_Pr_ways_46 rfl ?_
      exact ev_lret i_Pr_ways_47 rfl
    · skip
      exact absurd hc_32 (nL_ne_m1 hn)
  · rw [enc_ge hn] at m1
    refine MetA.of rfl (by decide +kernel) (Nat.le_of_ble_eq_true rfl) ?_
    refine ev_aload_n i_Pr_ways_0 rfl ?_
    refine ev_get i_Pr_ways_1 h.1 rfl ?_
    refine ev_aload_n i_Pr_ways_4 rfl ?_
    refine ev_iload_n i_Pr_ways_5 rfl ?_
    refine ev_callV1 i_Pr_ways_6 rfl h.1 (Nat.le_of_ble_eq_true rfl) (x_tableAt h ht) ?_
    refine ev_aload_n i_Pr_ways_9 rfl ?_
    refine ev_get i_Pr_ways_10 h.1 rfl ?_
    refine ev_get i_Pr_ways_13 h.2.2.1.1 rfl ?_
    refine ev_aload_n i_Pr_ways_16 rfl ?_
    refine ev_get i_Pr_ways_17 h.1 rfl ?_
    refine ev_get i_Pr_ways_20 h.2.2.1.1 rfl ?_
    refine ev_callV3 i_Pr_ways_23 rfl o1 (Nat.le_of_ble_eq_true rfl) (m1 _) ?_
    refine ev_lst_n_2 i_Pr_ways_26 rfl ?_
    refine ev_lload_n i_Pr_ways_27 rfl ?_
    refine ev_LdcL i_Pr_ways_28 ?_
    refine ev_lif_ne i_Pr_ways_31 i_Pr_ways_32 (fun hc_32 => ?_) (fun hc_32 => ?_)
    · skip
      exact absurd rfl hc_32
    · skip
      exact ev_throw i_Pr_ways_35 ex_Ari rfl rfl (Nat.le_of_ble_eq_true rfl)
theorem x_ways_1 {scr : Scr} {l : Launch} {S : Sto} {σ : Sg} {p : Int32} (h : XInv σ S) (hp : ¬ inR 3 p) : XThr scr l 5 M_Pr_ways [.ref 0, .int p] S xIob σ := by
  refine XThr.of h (fun d => ?_)
  obtain ⟨c1, c2, ff1, ff2, hc, o1, -⟩ := id h.wys
  refine MetA.of rfl (by decide +kernel) (Nat.le_of_ble_eq_true rfl) ?_
  refine ev_aload_n i_Pr_ways_0 rfl ?_
  refine ev_get i_Pr_ways_1 h.1 rfl ?_
  refine ev_aload_n i_Pr_ways_4 rfl ?_
  refine ev_iload_n i_Pr_ways_5 rfl ?_
  exact ev_callV1x rfl i_Pr_ways_6 rfl h.1 (Nat.le_of_ble_eq_true rfl) (x_tableAt_no hp)

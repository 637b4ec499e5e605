/-! the class Recurrence: find; x.recurrenceOrder, x.recurrenceCoefficient -/
noncomputable def recO (T : TabV) (xs : List Nat) : Nat := Classical.choose (rec_ex T xs)
noncomputable def recD (T : TabV) (xs : List Nat) : Nat → FF := Classical.choose (Classical.choose_spec (rec_ex T xs))
theorem rec_spec (T : TabV) (xs : List Nat) : recO T xs ≤ 6 ∧ RecS (sq0 T xs) (recO T xs) (recD T xs) := Classical.choose_spec (Classical.choose_spec (rec_ex T xs))
def BmS (T : TabV) (xs : List Nat) (r : Nat) (S : Sto) (n : Nat) : Prop := ∃ (c1 c2 p2 p3 L sh : Nat) (b : FF) (C B : Nat → FF) (f1 f2 fe gc gb gs : Nat → Int32), ((c1 = 68 ∧ c2 = 69) ∨ (c1 = 69 ∧ c2 = 68)) ∧ ((p2 = 71 ∧ p3 = 72) ∨ (p2 = 72 ∧ p3 = 71)) ∧ S.1[66]? = some (reO c1 c2 p2 p3 (nI L) (nI sh) (nI b.val)) ∧ S.1[c1]? = some (aI 6 f1) ∧ S.1[c2]? = some (aI 6 f2) ∧ S.1[67]? = some (aI 12 (kG (fun j => (sq0 T xs j).val) fe 12)) ∧ S.1[70]? = some (aI 13 (kG (fun j => (C j).val) gc 13)) ∧ S.1[p2]? = some (aI 13 (kG (fun j => (B j).val) gb 13)) ∧ S.1[p3]? = some (aI 13 gs) ∧ BMI (sq0 T xs) r n L C B sh b
theorem BmS.ok {T : TabV} {xs : List Nat} {r n : Nat} {S : Sto} (h : BmS T xs r S n) : RecOK S := by
  obtain ⟨c1, c2, p2, p3, L, sh, b, C, B, f1, f2, fe, gc, gb, gs, hc, hp, h0, h1, h2, h3, h4, h5, h6, -⟩ := h
  rcases hc with ⟨q1, q2⟩ | ⟨q1, q2⟩ <;> rcases hp with ⟨q3, q4⟩ | ⟨q3, q4⟩ <;> subst q1 q2 q3 q4
  · exact ⟨68, 69, 71, 72, _, _, _, _, _, _, _, _, _, Or.inl ⟨rfl, rfl⟩, Or.inl ⟨rfl, rfl⟩, h0, h3, h1, h2, h4, h5, h6⟩
  · exact ⟨68, 69, 72, 71, _, _, _, _, _, _, _, _, _, Or.inl ⟨rfl, rfl⟩, Or.inr ⟨rfl, rfl⟩, h0, h3, h1, h2, h4, h6, h5⟩
  · exact ⟨69, 68, 71, 72, _, _, _, _, _, _, _, _, _, Or.inr ⟨rfl, rfl⟩, Or.inl ⟨rfl, rfl⟩, h0, h3, h2, h1, h4, h5, h6⟩
  · exact ⟨69, 68, 72, 71, _, _, _, _, _, _, _, _, _, Or.inr ⟨rfl, rfl⟩, Or.inr ⟨rfl, rfl⟩, h0, h3, h2, h1, h4, h6, h5⟩
theorem lp_bm {scr : Scr} {l : Launch} {S : Sto} {t w r : Nat} {T : TabV} {xs : List Nat} {D : Nat → FF} (hD : Glb (sq0 T xs) r D) (hr : r ≤ 6) : ∀ (k n : Nat), n + k = 12 → ∀ S2, BmS T xs r S2 n → Fr [66, 67, 68, 69, 70, 71, 72] S S2 → ∃ S3, (∀ d u4, Ev scr l (d + 2) M_Re_find 53 [some (.ref 66), some (.ref t), some (.ref w), some (.int (nI n)), u4] [] S2 (.inl none, S3)) ∧ BmS T xs r S3 12 ∧ Fr [66, 67, 68, 69, 70, 71, 72] S S3 := by
  intro k
  induction k with
  | zero =>
    intro n hn S2 hS hF
    have z : n = 12 := by omega
    subst z
    refine ⟨S2, fun d u4 => ?_, hS, hF⟩
    refine ev_iload_n i_Re_find_53 rfl ?_
    refine ev_bipushN (v := 12) i_Re_find_54 (by decide) ?_
    refine ev_icmp_geN i_Re_find_56 (by omega) (by omega) (fun hc_56 => ?_) (fun hc_56 => ?_)
    · skip
      exact ev_vret i_Re_find_94 rfl
    · skip
      exfalso; omega
  | succ k ih =>
    intro n hn S2 hS hF
    obtain ⟨c1, c2, p2, p3, L, sh, b, C, B, f1, f2, fe, gc, gb, gs, hc, hp, o2, h1, h2, e2, k2, b2, s2, hB⟩ := hS
    obtain ⟨LB, hLB, -⟩ := hB.2.2.2.2.2
    have hsh1 := hB.2.2.2.2.1
    have hLr := hB.2.2.1
    have hcl := (cv C (sq0 T xs) n).isLt
    have hN : p3 ≠ 66 ∧ p3 ≠ 70 ∧ p3 ≠ p2 ∧ 70 ≠ p2 ∧ 66 ≠ p2 ∧ 66 ≠ p3 ∧ p3 ≠ 67 ∧ p3 ≠ c1 ∧ p3 ≠ c2 ∧ 66 ≠ c1 ∧ 66 ≠ c2 ∧ 70 ≠ c1 ∧ 70 ≠ c2 := by rcases hp with q | q <;> rcases hc with q2 | q2 <;> omega
    have hpn : p3 ∈ [66, 67, 68, 69, 70, 71, 72] := by rcases hp with q | q <;> (rw [q.2]; simp)
    by_cases hz : cv C (sq0 T xs) n = 0
    · have hz0 : (cv C (sq0 T xs) n).val = 0 := ff_z.mpr hz
      obtain ⟨S5, m5, r5⟩ := ih (n + 1) (by omega) (S2.put 66 (reO c1 c2 p2 p3 (nI L) (nI (sh + 1)) (nI b.val))) ⟨c1, c2, p2, p3, L, sh + 1, b, C, B, f1, f2, fe, gc, gb, gs, hc, hp, put_self o2, put_at h1 hN.2.2.2.2.2.2.2.2.2.1, put_at h2 hN.2.2.2.2.2.2.2.2.2.2.1, put_at e2 (by decide), put_at k2 (by decide), put_at b2 hN.2.2.2.2.1, put_at s2 hN.2.2.2.2.2.1, bm_same hB hz⟩ (hF.tr (Fr.put _ _ (by simp)))
      refine ⟨S5, fun d u4 => ?_, r5⟩
      refine ev_iload_n i_Re_find_53 rfl ?_
      refine ev_bipushN (v := 12) i_Re_find_54 (by decide) ?_
      refine ev_icmp_geN i_Re_find_56 (by omega) (by omega) (fun hc_56 => ?_) (fun hc_56 => ?_)
      · skip
        exfalso; omega
      · skip
        refine ev_aload_n i_Re_find_59 rfl ?_
        refine ev_iload_n i_Re_find_60 rfl ?_
        refine ev_callV1 i_Re_find_61 rfl o2 (Nat.le_of_ble_eq_true rfl) (r_miss o2 e2 k2 hB.1.1 hB.1.2.1 (by omega) hB.2.1) ?_
        refine ev_ist_4 i_Re_find_64 rfl ?_
        refine ev_iload i_Re_find_66 rfl ?_
        refine ev_if_eqN i_Re_find_68 (by omega) (fun hc_68 => ?_) (fun hc_68 => ?_)
        · skip
          refine ev_aload_n i_Re_find_78 rfl ?_
          refine ev_dup i_Re_find_79 rfl ?_
          refine ev_get i_Re_find_80 o2 rfl ?_
          refine ev_iconstN (v := 1) i_Re_find_83 (by decide) ?_
          first | refine ev_iaddN i_Re_find_84 ?_ | refine ev_iadd i_Re_find_84 ?_
          refine ev_put i_Re_find_85 o2 (Nat.le_of_ble_eq_true rfl) rfl rfl ?_
          refine ev_eqS (S1 := S2.put 66 (reO c1 c2 p2 p3 (nI L) (nI (sh + 1)) (nI b.val))) (by first | rfl | (rw [put_put]; rfl)) ?_
          refine ev_iincN_3 (c := 1) i_Re_find_88 (by decide) rfl ?_
          refine ev_goto i_Re_find_91 ?_
          exact m5 d _
        · skip
          exfalso; omega
    · have hz0 : (cv C (sq0 T xs) n).val ≠ 0 := fun q => hz (ff_z.mp q)
      have o4 : ((S2.put p3 (aI 13 (kG (fun j => (C j).val) gs 13))).put 70 (aI 13 (kG (fun j => (upC C B sh (cv C (sq0 T xs) n * ivF b) j).val) gc 13))).1[66]? = _ := put_at (put_at o2 hN.1) (by decide)
      have h14 : ((S2.put p3 (aI 13 (kG (fun j => (C j).val) gs 13))).put 70 (aI 13 (kG (fun j => (upC C B sh (cv C (sq0 T xs) n * ivF b) j).val) gc 13))).1[c1]? = _ := put_at (put_at h1 hN.2.2.2.2.2.2.2.1) hN.2.2.2.2.2.2.2.2.2.2.2.1
      have h24 : ((S2.put p3 (aI 13 (kG (fun j => (C j).val) gs 13))).put 70 (aI 13 (kG (fun j => (upC C B sh (cv C (sq0 T xs) n * ivF b) j).val) gc 13))).1[c2]? = _ := put_at (put_at h2 hN.2.2.2.2.2.2.2.2.1) hN.2.2.2.2.2.2.2.2.2.2.2.2
      have e4 : ((S2.put p3 (aI 13 (kG (fun j => (C j).val) gs 13))).put 70 (aI 13 (kG (fun j => (upC C B sh (cv C (sq0 T xs) n * ivF b) j).val) gc 13))).1[67]? = _ := put_at (put_at e2 hN.2.2.2.2.2.2.1) (by decide)
      have k4 : ((S2.put p3 (aI 13 (kG (fun j => (C j).val) gs 13))).put 70 (aI 13 (kG (fun j => (upC C B sh (cv C (sq0 T xs) n * ivF b) j).val) gc 13))).1[70]? = _ := put_self (put_at k2 hN.2.1)
      have b4 : ((S2.put p3 (aI 13 (kG (fun j => (C j).val) gs 13))).put 70 (aI 13 (kG (fun j => (upC C B sh (cv C (sq0 T xs) n * ivF b) j).val) gc 13))).1[p2]? = _ := put_at (put_at b2 hN.2.2.1) hN.2.2.2.1
      have s4 : ((S2.put p3 (aI 13 (kG (fun j => (C j).val) gs 13))).put 70 (aI 13 (kG (fun j => (upC C B sh (cv C (sq0 T xs) n * ivF b) j).val) gc 13))).1[p3]? = _ := put_at (put_self s2) (fun q => hN.2.1 q.symm)
      have F4 : Fr [66, 67, 68, 69, 70, 71, 72] S ((S2.put p3 (aI 13 (kG (fun j => (C j).val) gs 13))).put 70 (aI 13 (kG (fun j => (upC C B sh (cv C (sq0 T xs) n * ivF b) j).val) gc 13))) := (hF.tr (Fr.put _ _ hpn)).tr (Fr.put _ _ (by simp))
      by_cases hl : 2 * L ≤ n
      · have o5 : (((S2.put p3 (aI 13 (kG (fun j => (C j).val) gs 13))).put 70 (aI 13 (kG (fun j => (upC C B sh (cv C (sq0 T xs) n * ivF b) j).val) gc 13))).put 66 (reO c1 c2 p3 p2 (nI (n + 1 - L)) (nI 0) (nI (cv C (sq0 T xs) n).val))).1[66]? = _ := put_self o4
        obtain ⟨S5, m5, r5⟩ := ih (n + 1) (by omega) (((S2.put p3 (aI 13 (kG (fun j => (C j).val) gs 13))).put 70 (aI 13 (kG (fun j => (upC C B sh (cv C (sq0 T xs) n * ivF b) j).val) gc 13))).put 66 (reO c1 c2 p3 p2 (nI (n + 1 - L)) (nI (0 + 1)) (nI (cv C (sq0 T xs) n).val))) ⟨c1, c2, p3, p2, n + 1 - L, 0 + 1, cv C (sq0 T xs) n, _, C, f1, f2, fe, gc, gs, _, hc, by rcases hp with q | q <;> omega, put_self o4, put_at h14 hN.2.2.2.2.2.2.2.2.2.1, put_at h24 hN.2.2.2.2.2.2.2.2.2.2.1, put_at e4 (by decide), put_at k4 (by decide), put_at s4 hN.2.2.2.2.2.1, put_at b4 hN.2.2.2.2.1, bm_grow hD hB hl hz⟩ (F4.tr (Fr.put _ _ (by simp)))
        refine ⟨S5, fun d u4 => ?_, r5⟩
        refine ev_iload_n i_Re_find_53 rfl ?_
        refine ev_bipushN (v := 12) i_Re_find_54 (by decide) ?_
        refine ev_icmp_geN i_Re_find_56 (by omega) (by omega) (fun hc_56 => ?_) (fun hc_56 => ?_)
        · skip
          exfalso; omega
        · skip
          refine ev_aload_n i_Re_find_59 rfl ?_
          refine ev_iload_n i_Re_find_60 rfl ?_
          refine ev_callV1 i_Re_find_61 rfl o2 (Nat.le_of_ble_eq_true rfl) (r_miss o2 e2 k2 hB.1.1 hB.1.2.1 (by omega) hB.2.1) ?_
          refine ev_ist_4 i_Re_find_64 rfl ?_
          refine ev_iload i_Re_find_66 rfl ?_
          refine ev_if_eqN i_Re_find_68 (by omega) (fun hc_68 => ?_) (fun hc_68 => ?_)
          · skip
            exfalso; omega
          · skip
            refine ev_aload_n i_Re_find_71 rfl ?_
            refine ev_iload_n i_Re_find_72 rfl ?_
            refine ev_iload i_Re_find_73 rfl ?_
            refine ev_callV2 i_Re_find_75 rfl o2 (Nat.le_of_ble_eq_true rfl) (r_corr_y hp o2 k2 b2 s2 (by omega) hB.2.1 (by omega) hl) ?_
            refine ev_aload_n i_Re_find_78 rfl ?_
            refine ev_dup i_Re_find_79 rfl ?_
            refine ev_get i_Re_find_80 o5 rfl ?_
            refine ev_iconstN (v := 1) i_Re_find_83 (by decide) ?_
            first | refine ev_iaddN i_Re_find_84 ?_ | refine ev_iadd i_Re_find_84 ?_
            refine ev_put i_Re_find_85 o5 (Nat.le_of_ble_eq_true rfl) rfl rfl ?_
            refine ev_eqS (S1 := ((S2.put p3 (aI 13 (kG (fun j => (C j).val) gs 13))).put 70 (aI 13 (kG (fun j => (upC C B sh (cv C (sq0 T xs) n * ivF b) j).val) gc 13))).put 66 (reO c1 c2 p3 p2 (nI (n + 1 - L)) (nI (0 + 1)) (nI (cv C (sq0 T xs) n).val))) (by first | rfl | (rw [put_put]; rfl)) ?_
            refine ev_iincN_3 (c := 1) i_Re_find_88 (by decide) rfl ?_
            refine ev_goto i_Re_find_91 ?_
            exact m5 d _
      · obtain ⟨S5, m5, r5⟩ := ih (n + 1) (by omega) (((S2.put p3 (aI 13 (kG (fun j => (C j).val) gs 13))).put 70 (aI 13 (kG (fun j => (upC C B sh (cv C (sq0 T xs) n * ivF b) j).val) gc 13))).put 66 (reO c1 c2 p2 p3 (nI L) (nI (sh + 1)) (nI b.val))) ⟨c1, c2, p2, p3, L, sh + 1, b, _, B, f1, f2, fe, gc, gb, _, hc, hp, put_self o4, put_at h14 hN.2.2.2.2.2.2.2.2.2.1, put_at h24 hN.2.2.2.2.2.2.2.2.2.2.1, put_at e4 (by decide), put_at k4 (by decide), put_at b4 hN.2.2.2.2.1, put_at s4 hN.2.2.2.2.2.1, bm_keep hB hl⟩ (F4.tr (Fr.put _ _ (by simp)))
        refine ⟨S5, fun d u4 => ?_, r5⟩
        refine ev_iload_n i_Re_find_53 rfl ?_
        refine ev_bipushN (v := 12) i_Re_find_54 (by decide) ?_
        refine ev_icmp_geN i_Re_find_56 (by omega) (by omega) (fun hc_56 => ?_) (fun hc_56 => ?_)
        · skip
          exfalso; omega
        · skip
          refine ev_aload_n i_Re_find_59 rfl ?_
          refine ev_iload_n i_Re_find_60 rfl ?_
          refine ev_callV1 i_Re_find_61 rfl o2 (Nat.le_of_ble_eq_true rfl) (r_miss o2 e2 k2 hB.1.1 hB.1.2.1 (by omega) hB.2.1) ?_
          refine ev_ist_4 i_Re_find_64 rfl ?_
          refine ev_iload i_Re_find_66 rfl ?_
          refine ev_if_eqN i_Re_find_68 (by omega) (fun hc_68 => ?_) (fun hc_68 => ?_)
          · skip
            exfalso; omega
          · skip
            refine ev_aload_n i_Re_find_71 rfl ?_
            refine ev_iload_n i_Re_find_72 rfl ?_
            refine ev_iload i_Re_find_73 rfl ?_
            refine ev_callV2 i_Re_find_75 rfl o2 (Nat.le_of_ble_eq_true rfl) (r_corr_n hp o2 k2 b2 s2 (by omega) hB.2.1 (by omega) hl) ?_
            refine ev_aload_n i_Re_find_78 rfl ?_
            refine ev_dup i_Re_find_79 rfl ?_
            refine ev_get i_Re_find_80 o4 rfl ?_
            refine ev_iconstN (v := 1) i_Re_find_83 (by decide) ?_
            first | refine ev_iaddN i_Re_find_84 ?_ | refine ev_iadd i_Re_find_84 ?_
            refine ev_put i_Re_find_85 o4 (Nat.le_of_ble_eq_true rfl) rfl rfl ?_
            refine ev_eqS (S1 := ((S2.put p3 (aI 13 (kG (fun j => (C j).val) gs 13))).put 70 (aI 13 (kG (fun j => (upC C B sh (cv C (sq0 T xs) n * ivF b) j).val) gc 13))).put 66 (reO c1 c2 p2 p3 (nI L) (nI (sh + 1)) (nI b.val))) (by first | rfl | (rw [put_put]; rfl)) ?_
            refine ev_iincN_3 (c := 1) i_Re_find_88 (by decide) rfl ?_
            refine ev_goto i_Re_find_91 ?_
            exact m5 d _
theorem r_find {scr : Scr} {l : Launch} {S : Sto} {t w a r : Nat} {T : TabV} {xs : List Nat} {D : Nat → FF} (h : RecOK S) (ht : TabAt S t T) (hd : isDet T) (hx : WordAt S w a xs) (hoff : tabOff t [66, 67, 68, 69]) (hw : w ∉ [66, 67, 68, 69] ∧ a ∉ [66, 67, 68, 69]) (hR : RecS (sq0 T xs) r D) (hr : r ≤ 6) : ∃ S3, (∀ d, MetA scr l (d + 3) M_Re_find [.ref 66, .ref t, .ref w] S (.inl none, S3)) ∧ BmS T xs r S3 12 ∧ Fr [66, 67, 68, 69, 70, 71, 72] S S3 := by
  obtain ⟨c1, c2, p2, p3, x, y, z, f0, f1, f2, g3, f4, f5, hc, hp, ho, h0, h1, h2, h3, h4, h5⟩ := h
  obtain ⟨e1, e2, q1, q2⟩ : ∃ e1 e2, S.1[c1]? = some (aI 6 e1) ∧ S.1[c2]? = some (aI 6 e2) := by
    rcases hc with ⟨q1, q2⟩ | ⟨q1, q2⟩
    · subst q1 q2; exact ⟨_, _, h1, h2⟩
    · subst q1 q2; exact ⟨_, _, h2, h1⟩
  obtain ⟨g4, gs, q3, q4⟩ : ∃ g4 gs, S.1[p2]? = some (aI 13 g4) ∧ S.1[p3]? = some (aI 13 gs) := by
    rcases hp with ⟨q1, q2⟩ | ⟨q1, q2⟩
    · subst q1 q2; exact ⟨_, _, h4, h5⟩
    · subst q1 q2; exact ⟨_, _, h5, h4⟩
  obtain ⟨S1, m1, ⟨c1, c2, g1, f2, fe, hc, o1, c3, n3, e3⟩, F1⟩ := r_fill (scr := scr) (l := l) ht hd hx hoff hw hc ho q1 q2 h0
  have k1 : S1.1[70]? = _ := F1.at h3 (by decide)
  have b1 : S1.1[p2]? = _ := F1.at q3 (by rcases hp with q | q <;> (rw [q.1]; decide))
  have s1 : S1.1[p3]? = _ := F1.at q4 (by rcases hp with q | q <;> (rw [q.2]; decide))
  have hN : p2 ≠ 66 ∧ p2 ≠ 67 ∧ p2 ≠ 70 ∧ 70 ≠ p2 ∧ p2 ≠ c1 ∧ p2 ≠ c2 ∧ p2 ≠ p3 ∧ 70 ≠ c1 ∧ 70 ≠ c2 ∧ 70 ≠ p3 ∧ 66 ≠ c1 ∧ 66 ≠ c2 ∧ 66 ≠ p2 ∧ 66 ≠ p3 := by rcases hp with q | q <;> rcases hc with q2 | q2 <;> omega
  have hpn : p2 ∈ [66, 67, 68, 69, 70, 71, 72] := by rcases hp with q | q <;> (rw [q.1]; simp)
  have hC1 : ∀ j, (if j = 0 then 1 else 0) = (C1 j).val := fun j => by unfold C1; split <;> rfl
  have oa1 : (S1.put 70 (aI 13 (kG (fun _ => 0) g3 13))).1[66]? = _ := put_at o1 (by decide)
  have ba1 : (S1.put 70 (aI 13 (kG (fun _ => 0) g3 13))).1[p2]? = _ := put_at b1 hN.2.2.2.1
  have oa2 : ((S1.put 70 (aI 13 (kG (fun _ => 0) g3 13))).put p2 (aI 13 (kG (fun _ => 0) g4 13))).1[66]? = _ := put_at oa1 hN.1
  have ka2 : ((S1.put 70 (aI 13 (kG (fun _ => 0) g3 13))).put p2 (aI 13 (kG (fun _ => 0) g4 13))).1[70]? = _ := put_at (put_self k1) hN.2.2.1
  have oa3 : (((S1.put 70 (aI 13 (kG (fun _ => 0) g3 13))).put p2 (aI 13 (kG (fun _ => 0) g4 13))).put 70 (aI 13 (kG (fun j => (C1 j).val) g3 13))).1[66]? = _ := put_at oa2 (by decide)
  have ba3 : (((S1.put 70 (aI 13 (kG (fun _ => 0) g3 13))).put p2 (aI 13 (kG (fun _ => 0) g4 13))).put 70 (aI 13 (kG (fun j => (C1 j).val) g3 13))).1[p2]? = _ := put_at (put_self ba1) hN.2.2.2.1
  have oa4 : ((((S1.put 70 (aI 13 (kG (fun _ => 0) g3 13))).put p2 (aI 13 (kG (fun _ => 0) g4 13))).put 70 (aI 13 (kG (fun j => (C1 j).val) g3 13))).put p2 (aI 13 (kG (fun j => (C1 j).val) g4 13))).1[66]? = _ := put_at oa3 hN.1
  have oa5 : (((((S1.put 70 (aI 13 (kG (fun _ => 0) g3 13))).put p2 (aI 13 (kG (fun _ => 0) g4 13))).put 70 (aI 13 (kG (fun j => (C1 j).val) g3 13))).put p2 (aI 13 (kG (fun j => (C1 j).val) g4 13))).put 66 (reO c1 c2 p2 p3 (nI 0) y z)).1[66]? = _ := put_self oa4
  have oa6 : (((((S1.put 70 (aI 13 (kG (fun _ => 0) g3 13))).put p2 (aI 13 (kG (fun _ => 0) g4 13))).put 70 (aI 13 (kG (fun j => (C1 j).val) g3 13))).put p2 (aI 13 (kG (fun j => (C1 j).val) g4 13))).put 66 (reO c1 c2 p2 p3 (nI 0) (nI 1) z)).1[66]? = _ := put_self oa4
  have up : ∀ {j : Nat} {cc : ACell}, S1.1[j]? = some cc → 70 ≠ j → p2 ≠ j → 66 ≠ j → (((((S1.put 70 (aI 13 (kG (fun _ => 0) g3 13))).put p2 (aI 13 (kG (fun _ => 0) g4 13))).put 70 (aI 13 (kG (fun j => (C1 j).val) g3 13))).put p2 (aI 13 (kG (fun j => (C1 j).val) g4 13))).put 66 (reO c1 c2 p2 p3 (nI 0) (nI 1) (nI (1 : FF).val))).1[j]? = some cc := fun hh a1 a2 a3 => put_at (put_at (put_at (put_at (put_at hh a1) a2) a1) a2) a3
  have F7 : Fr [66, 67, 68, 69, 70, 71, 72] S (((((S1.put 70 (aI 13 (kG (fun _ => 0) g3 13))).put p2 (aI 13 (kG (fun _ => 0) g4 13))).put 70 (aI 13 (kG (fun j => (C1 j).val) g3 13))).put p2 (aI 13 (kG (fun j => (C1 j).val) g4 13))).put 66 (reO c1 c2 p2 p3 (nI 0) (nI 1) (nI (1 : FF).val))) := (((((F1.mono (by simp)).tr (Fr.put _ _ (by simp))).tr (Fr.put _ _ hpn)).tr (Fr.put _ _ (by simp))).tr (Fr.put _ _ hpn)).tr (Fr.put _ _ (by simp))
  obtain ⟨S3, m3, r3⟩ := lp_bm (scr := scr) (l := l) (S := S) (t := t) (w := w) (T := T) (xs := xs) hR.1 hr 12 0 (by omega) (((((S1.put 70 (aI 13 (kG (fun _ => 0) g3 13))).put p2 (aI 13 (kG (fun _ => 0) g4 13))).put 70 (aI 13 (kG (fun j => (C1 j).val) g3 13))).put p2 (aI 13 (kG (fun j => (C1 j).val) g4 13))).put 66 (reO c1 c2 p2 p3 (nI 0) (nI 1) (nI (1 : FF).val))) ⟨c1, c2, p2, p3, 0, 1, 1, C1, C1, _, f2, fe, g3, g4, gs, hc, hp, put_self oa4, up c3 hN.2.2.2.2.2.2.2.1 hN.2.2.2.2.1 hN.2.2.2.2.2.2.2.2.2.2.1, up n3 hN.2.2.2.2.2.2.2.2.1 hN.2.2.2.2.2.1 hN.2.2.2.2.2.2.2.2.2.2.2.1, up e3 (by decide) hN.2.1 (by decide), put_at (put_at (put_self ka2) hN.2.2.1) (by decide), put_at (put_self ba3) hN.2.2.2.2.2.2.2.2.2.2.2.2.1, up s1 hN.2.2.2.2.2.2.2.2.2.1 hN.2.2.2.2.2.2.1 hN.2.2.2.2.2.2.2.2.2.2.2.2.2, bm_start⟩ F7
  refine ⟨S3, fun d => ?_, r3⟩
  refine MetA.of rfl (by decide +kernel) (Nat.le_of_ble_eq_true rfl) ?_
  refine ev_aload_n i_Re_find_0 rfl ?_
  refine ev_aload_n i_Re_find_1 rfl ?_
  refine ev_aload_n i_Re_find_2 rfl ?_
  refine ev_callV2 i_Re_find_3 rfl ho (Nat.le_of_ble_eq_true rfl) (m1 _) ?_
  refine ev_aload_n i_Re_find_6 rfl ?_
  refine ev_get i_Re_find_7 o1 rfl ?_
  refine ev_iconstN (v := 0) i_Re_find_10 (by decide) ?_
  refine ev_callS2 i_Re_find_11 rfl (Nat.le_of_ble_eq_true rfl) (c_Ar_fillI k1 (by decide)) ?_
  rw [kN_fill]
  refine ev_aload_n i_Re_find_14 rfl ?_
  refine ev_get i_Re_find_15 oa1 rfl ?_
  refine ev_iconstN (v := 0) i_Re_find_18 (by decide) ?_
  refine ev_callS2 i_Re_find_19 rfl (Nat.le_of_ble_eq_true rfl) (c_Ar_fillI ba1 (by decide)) ?_
  rw [kN_fill]
  refine ev_aload_n i_Re_find_22 rfl ?_
  refine ev_get i_Re_find_23 oa2 rfl ?_
  refine ev_iconstN (v := 0) i_Re_find_26 (by decide) ?_
  refine ev_iconstN (v := 1) i_Re_find_27 (by decide) ?_
  refine ev_iastN i_Re_find_28 ka2 (by decide) (by decide) ?_
  refine ev_eqS (S1 := (((S1.put 70 (aI 13 (kG (fun _ => 0) g3 13))).put p2 (aI 13 (kG (fun _ => 0) g4 13))).put 70 (aI 13 (kG (fun j => (C1 j).val) g3 13)))) (by rw [kN_upd (by decide), kN_congr (ch := fun j => if j = 0 then 1 else 0) (fun j _ => hC1 j)]) ?_
  refine ev_aload_n i_Re_find_29 rfl ?_
  refine ev_get i_Re_find_30 oa3 rfl ?_
  refine ev_iconstN (v := 0) i_Re_find_33 (by decide) ?_
  refine ev_iconstN (v := 1) i_Re_find_34 (by decide) ?_
  refine ev_iastN i_Re_find_35 ba3 (by decide) (by decide) ?_
  refine ev_eqS (S1 := ((((S1.put 70 (aI 13 (kG (fun _ => 0) g3 13))).put p2 (aI 13 (kG (fun _ => 0) g4 13))).put 70 (aI 13 (kG (fun j => (C1 j).val) g3 13))).put p2 (aI 13 (kG (fun j => (C1 j).val) g4 13)))) (by rw [kN_upd (by decide), kN_congr (g := g4) (ch := fun j => if j = 0 then 1 else 0) (fun j _ => hC1 j)]) ?_
  refine ev_aload_n i_Re_find_36 rfl ?_
  refine ev_iconstN (v := 0) i_Re_find_37 (by decide) ?_
  refine ev_put i_Re_find_38 oa4 (Nat.le_of_ble_eq_true rfl) rfl rfl ?_
  refine ev_eqS (S1 := (((((S1.put 70 (aI 13 (kG (fun _ => 0) g3 13))).put p2 (aI 13 (kG (fun _ => 0) g4 13))).put 70 (aI 13 (kG (fun j => (C1 j).val) g3 13))).put p2 (aI 13 (kG (fun j => (C1 j).val) g4 13))).put 66 (reO c1 c2 p2 p3 (nI 0) y z))) rfl ?_
  refine ev_aload_n i_Re_find_41 rfl ?_
  refine ev_iconstN (v := 1) i_Re_find_42 (by decide) ?_
  refine ev_put i_Re_find_43 oa5 (Nat.le_of_ble_eq_true rfl) rfl rfl ?_
  refine ev_eqS (S1 := (((((S1.put 70 (aI 13 (kG (fun _ => 0) g3 13))).put p2 (aI 13 (kG (fun _ => 0) g4 13))).put 70 (aI 13 (kG (fun j => (C1 j).val) g3 13))).put p2 (aI 13 (kG (fun j => (C1 j).val) g4 13))).put 66 (reO c1 c2 p2 p3 (nI 0) (nI 1) z))) (by rw [put_put]; rfl) ?_
  refine ev_aload_n i_Re_find_46 rfl ?_
  refine ev_iconstN (v := 1) i_Re_find_47 (by decide) ?_
  refine ev_put i_Re_find_48 oa6 (Nat.le_of_ble_eq_true rfl) rfl rfl ?_
  refine ev_eqS (S1 := (((((S1.put 70 (aI 13 (kG (fun _ => 0) g3 13))).put p2 (aI 13 (kG (fun _ => 0) g4 13))).put 70 (aI 13 (kG (fun j => (C1 j).val) g3 13))).put p2 (aI 13 (kG (fun j => (C1 j).val) g4 13))).put 66 (reO c1 c2 p2 p3 (nI 0) (nI 1) (nI (1 : FF).val)))) (by rw [put_put]; rfl) ?_
  refine ev_iconstN (v := 0) i_Re_find_51 (by decide) ?_
  refine ev_ist_n_3 i_Re_find_52 rfl ?_
  exact m3 (d + 1) _
theorem XInv.recs {σ : Sg} {S : Sto} (h : XInv σ S) : RecOK S := h.2.2.2.2.2.2.2.1
theorem x_find {scr : Scr} {l : Launch} {S : Sto} {σ : Sg} {t : Nat} (h : XInv σ S) (ht : t < 3) (hf : fitT (σ.2.1.1 t)) : ∃ S3, (∀ d, MetA scr l (d + 3) M_Re_find [.ref 66, .ref (5 + 4 * t), .ref 17] S (.inl none, S3)) ∧ (∃ (c1 c2 p2 p3 : Nat) (y z : Int32) (gc : Nat → Int32), S3.1[66]? = some (reO c1 c2 p2 p3 (nI (recO (σ.2.1.1 t) σ.2.1.2.1)) y z) ∧ S3.1[70]? = some (aI 13 (kG (fun j => (recD (σ.2.1.1 t) σ.2.1.2.1 j).val) gc 13))) ∧ XInv σ S3 ∧ Fr xK S S3 := by
  obtain ⟨hr, hR⟩ := rec_spec (σ.2.1.1 t) σ.2.1.2.1
  obtain ⟨S3, m3, b3, f3⟩ := r_find (scr := scr) (l := l) h.recs (live_tab h ht) hf.1 (live_cur h) (live_off ht (by decide)) ⟨by decide, by decide⟩ hR hr
  refine ⟨S3, m3, ?_, XInv.rec h f3 (by decide) b3.ok, f3.x (by decide)⟩
  obtain ⟨c1, c2, p2, p3, L, sh, b, C, B, f1, f2, fe, gc, gb, gs, hc, hp, h0, h1, h2, h3, h4, h5, h6, hB⟩ := b3
  obtain ⟨e1, e2⟩ := bm_end hR hr hB
  rw [e1] at h0
  rw [e2] at h4
  exact ⟨c1, c2, p2, p3, _, _, gc, h0, h4⟩
theorem x_recOrd {scr : Scr} {l : Launch} {S : Sto} {σ : Sg} {t : Nat} (h : XInv σ S) (ht : t < 3) (hf : fitT (σ.2.1.1 t)) : XRun scr l 5 M_Pr_recurrenceOrder [.ref 0, .int (nI t)] S (some (.int (nI (recO (σ.2.1.1 t) σ.2.1.2.1)))) σ := by
  obtain ⟨c1, c2, p2, p3, x0, y0, z0, f0, f1, f2, g3, f4, f5, hc, hp, og, -⟩ := id h.recs
  obtain ⟨S3, m3, ⟨c1, c2, p2, p3, y, z, gc, o3, k3⟩, i3, f3⟩ := x_find (scr := scr) (l := l) h ht hf
  refine ⟨S3, fun d => ?_, i3, f3⟩
  refine MetA.of rfl (by decide +kernel) (Nat.le_of_ble_eq_true rfl) ?_
  refine ev_aload_n i_Pr_recurrenceOrder_0 rfl ?_
  refine ev_iload_n i_Pr_recurrenceOrder_1 rfl ?_
  refine ev_callV1 i_Pr_recurrenceOrder_2 rfl h.1 (Nat.le_of_ble_eq_true rfl) (x_tableAt h ht) ?_
  refine ev_ast_n_2 i_Pr_recurrenceOrder_5 rfl ?_
  refine ev_aload_n i_Pr_recurrenceOrder_6 rfl ?_
  refine ev_callS1 i_Pr_recurrenceOrder_7 rfl (Nat.le_of_ble_eq_true rfl) ((x_checkFit (live_tab h ht)).1 hf) ?_
  refine ev_aload_n i_Pr_recurrenceOrder_10 rfl ?_
  refine ev_get i_Pr_recurrenceOrder_11 h.1 rfl ?_
  refine ev_aload_n i_Pr_recurrenceOrder_14 rfl ?_
  refine ev_aload_n i_Pr_recurrenceOrder_15 rfl ?_
  refine ev_get i_Pr_recurrenceOrder_16 h.1 rfl ?_
  refine ev_get i_Pr_recurrenceOrder_19 h.2.2.1.1 rfl ?_
  refine ev_callV2 i_Pr_recurrenceOrder_22 rfl og (Nat.le_of_ble_eq_true rfl) (m3 _) ?_
  refine ev_aload_n i_Pr_recurrenceOrder_25 rfl ?_
  refine ev_get i_Pr_recurrenceOrder_26 i3.1 rfl ?_
  refine ev_get i_Pr_recurrenceOrder_29 o3 rfl ?_
  exact ev_iret i_Pr_recurrenceOrder_32 rfl (by first | rfl | decide)
theorem x_recOrd_2 {scr : Scr} {l : Launch} {S : Sto} {σ : Sg} {t : Nat} (h : XInv σ S) (ht : t < 3) (hf : ¬ fitT (σ.2.1.1 t)) : XThr scr l 5 M_Pr_recurrenceOrder [.ref 0, .int (nI t)] S xIse σ := by
  refine XThr.of h (fun d => ?_)
  refine MetA.of rfl (by decide +kernel) (Nat.le_of_ble_eq_true rfl) ?_
  refine ev_aload_n i_Pr_recurrenceOrder_0 rfl ?_
  refine ev_iload_n i_Pr_recurrenceOrder_1 rfl ?_
  refine ev_callV1 i_Pr_recurrenceOrder_2 rfl h.1 (Nat.le_of_ble_eq_true rfl) (x_tableAt h ht) ?_
  refine ev_ast_n_2 i_Pr_recurrenceOrder_5 rfl ?_
  refine ev_aload_n i_Pr_recurrenceOrder_6 rfl ?_
  exact ev_callS1x rfl i_Pr_recurrenceOrder_7 rfl (Nat.le_of_ble_eq_true rfl) ((x_checkFit (live_tab h ht)).2 hf)
theorem x_recOrd_1 {scr : Scr} {l : Launch} {S : Sto} {σ : Sg} {p : Int32} (h : XInv σ S) (hp : ¬ inR 3 p) : XThr scr l 5 M_Pr_recurrenceOrder [.ref 0, .int p] S xIob σ := by
  refine XThr.of h (fun d => ?_)
  refine MetA.of rfl (by decide +kernel) (Nat.le_of_ble_eq_true rfl) ?_
  refine ev_aload_n i_Pr_recurrenceOrder_0 rfl ?_
  refine ev_iload_n i_Pr_recurrenceOrder_1 rfl ?_
  exact ev_callV1x rfl i_Pr_recurrenceOrder_2 rfl h.1 (Nat.le_of_ble_eq_true rfl) (x_tableAt_no hp)
theorem x_recCo_2 {scr : Scr} {l : Launch} {S : Sto} {σ : Sg} {t : Nat} {q : Int32} (h : XInv σ S) (ht : t < 3) (hf : ¬ fitT (σ.2.1.1 t)) : XThr scr l 5 M_Pr_recurrenceCoefficient [.ref 0, .int (nI t), .int q] S xIse σ := by
  refine XThr.of h (fun d => ?_)
  refine MetA.of rfl (by decide +kernel) (Nat.le_of_ble_eq_true rfl) ?_
  refine ev_aload_n i_Pr_recurrenceCoefficient_0 rfl ?_
  refine ev_iload_n i_Pr_recurrenceCoefficient_1 rfl ?_
  refine ev_callV1 i_Pr_recurrenceCoefficient_2 rfl h.1 (Nat.le_of_ble_eq_true rfl) (x_tableAt h ht) ?_
  refine ev_ast_n_3 i_Pr_recurrenceCoefficient_5 rfl ?_
  refine ev_aload_n i_Pr_recurrenceCoefficient_6 rfl ?_
  exact ev_callS1x rfl i_Pr_recurrenceCoefficient_7 rfl (Nat.le_of_ble_eq_true rfl) ((x_checkFit (live_tab h ht)).2 hf)
theorem x_recCo_1 {scr : Scr} {l : Launch} {S : Sto} {σ : Sg} {p : Int32} {q : Int32} (h : XInv σ S) (hp : ¬ inR 3 p) : XThr scr l 5 M_Pr_recurrenceCoefficient [.ref 0, .int p, .int q] S xIob σ := by
  refine XThr.of h (fun d => ?_)
  refine MetA.of rfl (by decide +kernel) (Nat.le_of_ble_eq_true rfl) ?_
  refine ev_aload_n i_Pr_recurrenceCoefficient_0 rfl ?_
  refine ev_iload_n i_Pr_recurrenceCoefficient_1 rfl ?_
  exact ev_callV1x rfl i_Pr_recurrenceCoefficient_2 rfl h.1 (Nat.le_of_ble_eq_true rfl) (x_tableAt_no hp)
theorem r_coef {scr : Scr} {l : Launch} {S : Sto} {d k c1 c2 p2 p3 : Nat} {x y z : Int32} {D : Nat → FF} {gc : Nat → Int32} (ho : S.1[66]? = some (reO c1 c2 p2 p3 x y z)) (hc : S.1[70]? = some (aI 13 (kG (fun j => (D j).val) gc 13))) (hk : k < 13) : MetA scr l d M_Re_coefficient [.ref 66, .int (nI k)] S (.inl (some (.int (nI (- D k).val))), S) := by
  refine MetA.of rfl (by decide +kernel) (Nat.le_of_ble_eq_true rfl) ?_
  refine ev_sipushN (v := 10007) i_Re_coefficient_0 (by decide) ?_
  refine ev_aload_n i_Re_coefficient_3 rfl ?_
  refine ev_get i_Re_coefficient_4 ho rfl ?_
  refine ev_iload_n i_Re_coefficient_7 rfl ?_
  refine ev_ialdN i_Re_coefficient_8 hc (by omega) (by decide) ?_
  rw [kN_at (by omega)]
  refine ev_isubN i_Re_coefficient_9 (by have := (D k).isLt; omega) ?_
  refine ev_sipushN (v := 10007) i_Re_coefficient_10 (by decide) ?_
  refine ev_iremN i_Re_coefficient_13 (by decide) (by omega) (by decide) ?_
  rw [ff_neg_v]
  exact ev_iret i_Re_coefficient_14 rfl (by first | rfl | decide)
theorem x_recCo {scr : Scr} {l : Launch} {S : Sto} {σ : Sg} {t k : Nat} (h : XInv σ S) (ht : t < 3) (hf : fitT (σ.2.1.1 t)) (h1 : 1 ≤ k) (hk : k ≤ recO (σ.2.1.1 t) σ.2.1.2.1) : XRun scr l 5 M_Pr_recurrenceCoefficient [.ref 0, .int (nI t), .int (nI k)] S (some (.int (nI (- recD (σ.2.1.1 t) σ.2.1.2.1 k).val))) σ := by
  obtain ⟨c1, c2, p2, p3, x0, y0, z0, f0, f1, f2, g3, f4, f5, hc, hp, og, -⟩ := id h.recs
  have hr := (rec_spec (σ.2.1.1 t) σ.2.1.2.1).1
  obtain ⟨S3, m3, ⟨c1, c2, p2, p3, y, z, gc, o3, k3⟩, i3, f3⟩ := x_find (scr := scr) (l := l) h ht hf
  refine ⟨S3, fun d => ?_, i3, f3⟩
  refine MetA.of rfl (by decide +kernel) (Nat.le_of_ble_eq_true rfl) ?_
  refine ev_aload_n i_Pr_recurrenceCoefficient_0 rfl ?_
  refine ev_iload_n i_Pr_recurrenceCoefficient_1 rfl ?_
  refine ev_callV1 i_Pr_recurrenceCoefficient_2 rfl h.1 (Nat.le_of_ble_eq_true rfl) (x_tableAt h ht) ?_
  refine ev_ast_n_3 i_Pr_recurrenceCoefficient_5 rfl ?_
  refine ev_aload_n i_Pr_recurrenceCoefficient_6 rfl ?_
  refine ev_callS1 i_Pr_recurrenceCoefficient_7 rfl (Nat.le_of_ble_eq_true rfl) ((x_checkFit (live_tab h ht)).1 hf) ?_
  refine ev_aload_n i_Pr_recurrenceCoefficient_10 rfl ?_
  refine ev_get i_Pr_recurrenceCoefficient_11 h.1 rfl ?_
  refine ev_aload_n i_Pr_recurrenceCoefficient_14 rfl ?_
  refine ev_aload_n i_Pr_recurrenceCoefficient_15 rfl ?_
  refine ev_get i_Pr_recurrenceCoefficient_16 h.1 rfl ?_
  refine ev_get i_Pr_recurrenceCoefficient_19 h.2.2.1.1 rfl ?_
  refine ev_callV2 i_Pr_recurrenceCoefficient_22 rfl og (Nat.le_of_ble_eq_true rfl) (m3 _) ?_
  refine ev_iload_n i_Pr_recurrenceCoefficient_25 rfl ?_
  refine ev_iconstN (v := 1) i_Pr_recurrenceCoefficient_26 (by decide) ?_
  refine ev_icmp_ltN i_Pr_recurrenceCoefficient_27 (by omega) (by omega) (fun hc_27 => ?_) (fun hc_27 => ?_)
  · skip
    exfalso; omega
  · skip
    refine ev_iload_n i_Pr_recurrenceCoefficient_30 rfl ?_
    refine ev_aload_n i_Pr_recurrenceCoefficient_31 rfl ?_
    refine ev_get i_Pr_recurrenceCoefficient_32 i3.1 rfl ?_
    refine ev_get i_Pr_recurrenceCoefficient_35 o3 rfl ?_
    refine ev_icmp_leN i_Pr_recurrenceCoefficient_38 (by omega) (by omega) (fun hc_38 => ?_) (fun hc_38 => ?_)
    · skip
      refine ev_aload_n i_Pr_recurrenceCoefficient_51 rfl ?_
      refine ev_get i_Pr_recurrenceCoefficient_52 i3.1 rfl ?_
      refine ev_iload_n i_Pr_recurrenceCoefficient_55 rfl ?_
      refine ev_callV1 i_Pr_recurrenceCoefficient_56 rfl o3 (Nat.le_of_ble_eq_true rfl) (r_coef o3 k3 (by omega)) ?_
      exact ev_iret i_Pr_recurrenceCoefficient_59 rfl (by first | rfl | decide)
    · skip
      exfalso; omega
theorem x_recCo_3 {scr : Scr} {l : Launch} {S : Sto} {σ : Sg} {t : Nat} {q : Int32} (h : XInv σ S) (ht : t < 3) (hf : fitT (σ.2.1.1 t)) (hq : ¬ (¬ q < nI 1 ∧ q ≤ nI (recO (σ.2.1.1 t) σ.2.1.2.1))) : XThr scr l 5 M_Pr_recurrenceCoefficient [.ref 0, .int (nI t), .int q] S xNse σ := by
  obtain ⟨c1, c2, p2, p3, x0, y0, z0, f0, f1, f2, g3, f4, f5, hc, hp, og, -⟩ := id h.recs
  obtain ⟨S3, m3, ⟨c1, c2, p2, p3, y, z, gc, o3, k3⟩, i3, f3⟩ := x_find (scr := scr) (l := l) h ht hf
  refine ⟨S3, fun d => ?_, i3, f3⟩
  refine MetA.of rfl (by decide +kernel) (Nat.le_of_ble_eq_true rfl) ?_
  refine ev_aload_n i_Pr_recurrenceCoefficient_0 rfl ?_
  refine ev_iload_n i_Pr_recurrenceCoefficient_1 rfl ?_
  refine ev_callV1 i_Pr_recurrenceCoefficient_2 rfl h.1 (Nat.le_of_ble_eq_true rfl) (x_tableAt h ht) ?_
  refine ev_ast_n_3 i_Pr_recurrenceCoefficient_5 rfl ?_
  refine ev_aload_n i_Pr_recurrenceCoefficient_6 rfl ?_
  refine ev_callS1 i_Pr_recurrenceCoefficient_7 rfl (Nat.le_of_ble_eq_true rfl) ((x_checkFit (live_tab h ht)).1 hf) ?_
  refine ev_aload_n i_Pr_recurrenceCoefficient_10 rfl ?_
  refine ev_get i_Pr_recurrenceCoefficient_11 h.1 rfl ?_
  refine ev_aload_n i_Pr_recurrenceCoefficient_14 rfl ?_
  refine ev_aload_n i_Pr_recurrenceCoefficient_15 rfl ?_
  refine ev_get i_Pr_recurrenceCoefficient_16 h.1 rfl ?_
  refine ev_get i_Pr_recurrenceCoefficient_19 h.2.2.1.1 rfl ?_
  refine ev_callV2 i_Pr_recurrenceCoefficient_22 rfl og (Nat.le_of_ble_eq_true rfl) (m3 _) ?_
  refine ev_iload_n i_Pr_recurrenceCoefficient_25 rfl ?_
  refine ev_iconstN (v := 1) i_Pr_recurrenceCoefficient_26 (by decide) ?_
  refine ev_icmp_lt i_Pr_recurrenceCoefficient_27 (fun hc_27 => ?_) (fun hc_27 => ?_)
  · skip
    exact ev_throwN i_Pr_recurrenceCoefficient_41 rfl rfl (Nat.le_of_ble_eq_true rfl)
  · skip
    refine ev_iload_n i_Pr_recurrenceCoefficient_30 rfl ?_
    refine ev_aload_n i_Pr_recurrenceCoefficient_31 rfl ?_
    refine ev_get i_Pr_recurrenceCoefficient_32 i3.1 rfl ?_
    refine ev_get i_Pr_recurrenceCoefficient_35 o3 rfl ?_
    refine ev_icmp_le i_Pr_recurrenceCoefficient_38 (fun hc_38 => ?_) (fun hc_38 => ?_)
    · skip
      exact absurd ⟨hc_27, hc_38⟩ hq
    · skip
      exact ev_throwN i_Pr_recurrenceCoefficient_41 rfl rfl (Nat.le_of_ble_eq_true rfl)

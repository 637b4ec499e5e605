/-! the model m: kinds of growth -/
theorem nar_bool (b : Bool) : vp_nar .boolean (nI (bI b)) = nI (bI b) := by cases b <;> decide
theorem nar_b1 : vp_nar .boolean (nI 1) = nI (bI true) := by decide
theorem nar_b0 : vp_nar .boolean (nI 0) = nI (bI false) := by decide
/-- rows of truth values: the first n are new -/
def zG (L : Nat → Bool) (g : Nat → Int32) (n : Nat) : Nat → Int32 := fun j => if j < n then nI (bI (L j)) else g j
theorem zG_s {L : Nat → Bool} {g : Nat → Int32} {a : Nat} : upd (zG L g a) a (nI (bI (L a))) = zG L g (a + 1) := by
  funext j
  unfold upd zG
  by_cases z : j = a
  · rw [if_pos z, if_pos (by omega), z]
  · rw [if_neg z]
    by_cases q : j < a
    · rw [if_pos q, if_pos (by omega)]
    · rw [if_neg q, if_neg (by omega)]
theorem zG_0 {L : Nat → Bool} {g : Nat → Int32} : zG L g 0 = g := by
  funext j; exact if_neg (by omega)
theorem zG_at {L : Nat → Bool} {g : Nat → Int32} {n j : Nat} (h : j < n) : zG L g n j = nI (bI (L j)) := if_pos h
theorem zG_congr {L L' : Nat → Bool} {g : Nat → Int32} {n : Nat} (h : ∀ j, j < n → L j = L' j) : zG L g n = zG L' g n := by
  funext j
  unfold zG
  by_cases q : j < n
  · rw [if_pos q, if_pos q, h j q]
  · rw [if_neg q, if_neg q]
theorem zG_upd {L : Nat → Bool} {g : Nat → Int32} {n a : Nat} {v : Bool} (ha : a < n) : upd (zG L g n) a (nI (bI v)) = zG (fun j => if j = a then v else L j) g n := by
  funext j
  unfold upd zG
  by_cases z : j = a
  · rw [if_pos z, if_pos (by omega)]
    show nI (bI v) = nI (bI (if j = a then v else L j))
    rw [if_pos z]
  · rw [if_neg z]
    by_cases q : j < n
    · rw [if_pos q, if_pos q]
      show nI (bI (L j)) = nI (bI (if j = a then v else L j))
      rw [if_neg z]
    · rw [if_neg q, if_neg q]
theorem ed_y {T : TabV} {a b : Nat} (h : ed T a b = true) : 0 < occ (prd T a) b := of_decide_eq_true h
theorem ed_n {T : TabV} {a b : Nat} (h : ed T a b = false) : occ (prd T a) b = 0 := by
  have := of_decide_eq_false h
  omega
theorem occ_lt {g : Nat → Int32} {t a b : Nat} {T : TabV} (hT : MTab g t T) (ht : t < 3) (ha : a < 6) : occ (prd T a) b ≤ 4 := Nat.le_trans (occN_le _ _ _) (prd_okM hT ht ha).1
theorem lp_livA {scr : Scr} {l : Launch} {S : Sto} {t d : Nat} {g : Nat → Int32} {T : TabV} {q1 q2 q3 q4 q5 q6 q7 : Int32} {fl : Nat → Int32} (h0 : S.1[105]? = some (mObj q1 q2 q3 q4 q5 q6 q7)) (hg : S.1[106]? = some (aI 417 g)) (hT : MTab g t T) (ht : t < 3) (hl : S.1[119]? = some (aZ 6 fl)) {n : Nat} {r : Res} (hk : ∀ u4 u5, Ev scr l (d + 2) M_Md_findLiving 120 [some (.ref 105), some (.int (nI t)), some (.int (nI n)), some (.int (nI 6)), u4, u5] [] (S.put 119 (aZ 6 (zG (livN (ed T) (n + 1)) fl 6))) r) : ∀ (k a : Nat), a + k = 6 → ∀ u4 u5, Ev scr l (d + 2) M_Md_findLiving 31 [some (.ref 105), some (.int (nI t)), some (.int (nI n)), some (.int (nI a)), u4, u5] [] (S.put 119 (aZ 6 (zG (livA (ed T) (livN (ed T) n) a) fl 6))) r := by
  intro k
  induction k with
  | zero =>
    intro a hak u4 u5
    have z : a = 6 := by omega
    subst z
    refine ev_iload_n i_Md_findLiving_31 rfl ?_
    refine ev_bipushN (v := 6) i_Md_findLiving_32 (by decide) ?_
    refine ev_icmp_geN i_Md_findLiving_34 (by omega) (by omega) (fun hc_34 => ?_) (fun hc_34 => ?_)
    · skip
      exact hk _ _
    · skip
      exfalso; omega
  | succ k ih =>
    intro a hak u4 u5
    have o1 : (S.put 119 (aZ 6 (zG (livA (ed T) (livN (ed T) n) a) fl 6))).1[105]? = _ := put_at h0 (by decide)
    have g1 : (S.put 119 (aZ 6 (zG (livA (ed T) (livN (ed T) n) a) fl 6))).1[106]? = _ := put_at hg (by decide)
    have l1 : (S.put 119 (aZ 6 (zG (livA (ed T) (livN (ed T) n) a) fl 6))).1[119]? = _ := put_self hl
    refine ev_iload_n i_Md_findLiving_31 rfl ?_
    refine ev_bipushN (v := 6) i_Md_findLiving_32 (by decide) ?_
    refine ev_icmp_geN i_Md_findLiving_34 (by omega) (by omega) (fun hc_34 => ?_) (fun hc_34 => ?_)
    · skip
      exfalso; omega
    · skip
      refine ev_iconstN (v := 0) i_Md_findLiving_37 (by decide) ?_
      refine ev_ist_4 i_Md_findLiving_38 rfl ?_
      refine ev_iconstN (v := 0) i_Md_findLiving_40 (by decide) ?_
      refine ev_ist_5 i_Md_findLiving_41 rfl ?_
      refine ev_loop (n := 6) (fun b => [some (.ref 105), some (.int (nI t)), some (.int (nI n)), some (.int (nI a)), some (.int (nI (bI (anyB (fun b => ed T a b && (livA (ed T) (livN (ed T) n) a) b) b)))), some (.int (nI b))]) (fun b => (S.put 119 (aZ 6 (zG (livA (ed T) (livN (ed T) n) a) fl 6)))) (fun b hb kb => ?_) ?_
      · try dsimp only at kb ⊢
        have hoc := occ_lt (b := b) hT ht (show a < 6 by omega)
        cases ay : (anyB (fun b => ed T a b && (livA (ed T) (livN (ed T) n) a) b) b) with
        | true =>
          rw [bI_t]
          refine ev_iload i_Md_findLiving_43 rfl ?_
          refine ev_bipushN (v := 6) i_Md_findLiving_45 (by decide) ?_
          refine ev_icmp_geN i_Md_findLiving_47 (by omega) (by omega) (fun hc_47 => ?_) (fun hc_47 => ?_)
          · skip
            exfalso; omega
          · skip
            refine ev_iload i_Md_findLiving_50 rfl ?_
            refine ev_if_neN i_Md_findLiving_52 (by omega) (fun hc_52 => ?_) (fun hc_52 => ?_)
            · skip
              refine ev_iconstN (v := 1) i_Md_findLiving_76 (by decide) ?_
              refine ev_goto i_Md_findLiving_77 ?_
              refine ev_ist_4 i_Md_findLiving_81 rfl ?_
              refine ev_iincN_5 (c := 1) i_Md_findLiving_83 (by decide) rfl ?_
              refine ev_goto i_Md_findLiving_86 ?_
              rw [show (anyB (fun b => ed T a b && (livA (ed T) (livN (ed T) n) a) b) (b + 1)) = true from by show ((anyB (fun b => ed T a b && (livA (ed T) (livN (ed T) n) a) b) b) || (ed T a b && (livA (ed T) (livN (ed T) n) a) b)) = _; rw [ay]; rfl, bI_t] at kb
              exact kb
            · skip
              exfalso; omega
        | false =>
          rw [bI_f]
          cases ey : ed T a b with
          | true =>
            have := ed_y ey
            cases ly : (livA (ed T) (livN (ed T) n) a) b with
            | true =>
              refine ev_iload i_Md_findLiving_43 rfl ?_
              refine ev_bipushN (v := 6) i_Md_findLiving_45 (by decide) ?_
              refine ev_icmp_geN i_Md_findLiving_47 (by omega) (by omega) (fun hc_47 => ?_) (fun hc_47 => ?_)
              · skip
                exfalso; omega
              · skip
                refine ev_iload i_Md_findLiving_50 rfl ?_
                refine ev_if_neN i_Md_findLiving_52 (by omega) (fun hc_52 => ?_) (fun hc_52 => ?_)
                · skip
                  exfalso; omega
                · skip
                  refine ev_aload_n i_Md_findLiving_55 rfl ?_
                  refine ev_iload_n i_Md_findLiving_56 rfl ?_
                  refine ev_iload_n i_Md_findLiving_57 rfl ?_
                  refine ev_iload i_Md_findLiving_58 rfl ?_
                  refine ev_callV3 i_Md_findLiving_60 rfl o1 (Nat.le_of_ble_eq_true rfl) (m_occurs o1 g1 hT ht (by omega) (by omega)) ?_
                  refine ev_if_leN i_Md_findLiving_63 (by omega) (fun hc_63 => ?_) (fun hc_63 => ?_)
                  · skip
                    exfalso; omega
                  · skip
                    refine ev_aload_n i_Md_findLiving_66 rfl ?_
                    refine ev_get i_Md_findLiving_67 o1 rfl ?_
                    refine ev_iload i_Md_findLiving_70 rfl ?_
                    refine ev_zaldN i_Md_findLiving_72 l1 (by omega) (by decide) ?_
                    rw [zG_at (by omega)]
                    rw [ly, bI_t]
                    refine ev_if_eqN i_Md_findLiving_73 (by omega) (fun hc_73 => ?_) (fun hc_73 => ?_)
                    · skip
                      exfalso; omega
                    · skip
                      refine ev_iconstN (v := 1) i_Md_findLiving_76 (by decide) ?_
                      refine ev_goto i_Md_findLiving_77 ?_
                      refine ev_ist_4 i_Md_findLiving_81 rfl ?_
                      refine ev_iincN_5 (c := 1) i_Md_findLiving_83 (by decide) rfl ?_
                      refine ev_goto i_Md_findLiving_86 ?_
                      rw [show (anyB (fun b => ed T a b && (livA (ed T) (livN (ed T) n) a) b) (b + 1)) = true from by show ((anyB (fun b => ed T a b && (livA (ed T) (livN (ed T) n) a) b) b) || (ed T a b && (livA (ed T) (livN (ed T) n) a) b)) = _; rw [ay, ey, ly]; rfl, bI_t] at kb
                      exact kb
            | false =>
              refine ev_iload i_Md_findLiving_43 rfl ?_
              refine ev_bipushN (v := 6) i_Md_findLiving_45 (by decide) ?_
              refine ev_icmp_geN i_Md_findLiving_47 (by omega) (by omega) (fun hc_47 => ?_) (fun hc_47 => ?_)
              · skip
                exfalso; omega
              · skip
                refine ev_iload i_Md_findLiving_50 rfl ?_
                refine ev_if_neN i_Md_findLiving_52 (by omega) (fun hc_52 => ?_) (fun hc_52 => ?_)
                · skip
                  exfalso; omega
                · skip
                  refine ev_aload_n i_Md_findLiving_55 rfl ?_
                  refine ev_iload_n i_Md_findLiving_56 rfl ?_
                  refine ev_iload_n i_Md_findLiving_57 rfl ?_
                  refine ev_iload i_Md_findLiving_58 rfl ?_
                  refine ev_callV3 i_Md_findLiving_60 rfl o1 (Nat.le_of_ble_eq_true rfl) (m_occurs o1 g1 hT ht (by omega) (by omega)) ?_
                  refine ev_if_leN i_Md_findLiving_63 (by omega) (fun hc_63 => ?_) (fun hc_63 => ?_)
                  · skip
                    exfalso; omega
                  · skip
                    refine ev_aload_n i_Md_findLiving_66 rfl ?_
                    refine ev_get i_Md_findLiving_67 o1 rfl ?_
                    refine ev_iload i_Md_findLiving_70 rfl ?_
                    refine ev_zaldN i_Md_findLiving_72 l1 (by omega) (by decide) ?_
                    rw [zG_at (by omega)]
                    rw [ly, bI_f]
                    refine ev_if_eqN i_Md_findLiving_73 (by omega) (fun hc_73 => ?_) (fun hc_73 => ?_)
                    · skip
                      refine ev_iconstN (v := 0) i_Md_findLiving_80 (by decide) ?_
                      refine ev_ist_4 i_Md_findLiving_81 rfl ?_
                      refine ev_iincN_5 (c := 1) i_Md_findLiving_83 (by decide) rfl ?_
                      refine ev_goto i_Md_findLiving_86 ?_
                      rw [show (anyB (fun b => ed T a b && (livA (ed T) (livN (ed T) n) a) b) (b + 1)) = false from by show ((anyB (fun b => ed T a b && (livA (ed T) (livN (ed T) n) a) b) b) || (ed T a b && (livA (ed T) (livN (ed T) n) a) b)) = _; rw [ay, ey, ly]; rfl, bI_f] at kb
                      exact kb
                    · skip
                      exfalso; omega
          | false =>
            have := ed_n ey
            refine ev_iload i_Md_findLiving_43 rfl ?_
            refine ev_bipushN (v := 6) i_Md_findLiving_45 (by decide) ?_
            refine ev_icmp_geN i_Md_findLiving_47 (by omega) (by omega) (fun hc_47 => ?_) (fun hc_47 => ?_)
            · skip
              exfalso; omega
            · skip
              refine ev_iload i_Md_findLiving_50 rfl ?_
              refine ev_if_neN i_Md_findLiving_52 (by omega) (fun hc_52 => ?_) (fun hc_52 => ?_)
              · skip
                exfalso; omega
              · skip
                refine ev_aload_n i_Md_findLiving_55 rfl ?_
                refine ev_iload_n i_Md_findLiving_56 rfl ?_
                refine ev_iload_n i_Md_findLiving_57 rfl ?_
                refine ev_iload i_Md_findLiving_58 rfl ?_
                refine ev_callV3 i_Md_findLiving_60 rfl o1 (Nat.le_of_ble_eq_true rfl) (m_occurs o1 g1 hT ht (by omega) (by omega)) ?_
                refine ev_if_leN i_Md_findLiving_63 (by omega) (fun hc_63 => ?_) (fun hc_63 => ?_)
                · skip
                  refine ev_iconstN (v := 0) i_Md_findLiving_80 (by decide) ?_
                  refine ev_ist_4 i_Md_findLiving_81 rfl ?_
                  refine ev_iincN_5 (c := 1) i_Md_findLiving_83 (by decide) rfl ?_
                  refine ev_goto i_Md_findLiving_86 ?_
                  rw [show (anyB (fun b => ed T a b && (livA (ed T) (livN (ed T) n) a) b) (b + 1)) = false from by show ((anyB (fun b => ed T a b && (livA (ed T) (livN (ed T) n) a) b) b) || (ed T a b && (livA (ed T) (livN (ed T) n) a) b)) = _; rw [ay, ey]; rfl, bI_f] at kb
                  exact kb
                · skip
                  exfalso; omega
      · try dsimp only
        cases ly : (livA (ed T) (livN (ed T) n) a) a with
        | true =>
          cases ay : anyB (fun b => ed T a b && (livA (ed T) (livN (ed T) n) a) b) 6 with
          | true =>
            rw [bI_t]
            refine ev_iload i_Md_findLiving_43 rfl ?_
            refine ev_bipushN (v := 6) i_Md_findLiving_45 (by decide) ?_
            refine ev_icmp_geN i_Md_findLiving_47 (by omega) (by omega) (fun hc_47 => ?_) (fun hc_47 => ?_)
            · skip
              refine ev_aload_n i_Md_findLiving_89 rfl ?_
              refine ev_get i_Md_findLiving_90 o1 rfl ?_
              refine ev_iload_n i_Md_findLiving_93 rfl ?_
              refine ev_aload_n i_Md_findLiving_94 rfl ?_
              refine ev_get i_Md_findLiving_95 o1 rfl ?_
              refine ev_iload_n i_Md_findLiving_98 rfl ?_
              refine ev_zaldN i_Md_findLiving_99 l1 (by omega) (by decide) ?_
              rw [zG_at (by omega), ly, bI_t]
              refine ev_if_eqN i_Md_findLiving_100 (by omega) (fun hc_100 => ?_) (fun hc_100 => ?_)
              · skip
                exfalso; omega
              · skip
                refine ev_iload i_Md_findLiving_103 rfl ?_
                refine ev_if_eqN i_Md_findLiving_105 (by omega) (fun hc_105 => ?_) (fun hc_105 => ?_)
                · skip
                  exfalso; omega
                · skip
                  refine ev_iconstN (v := 1) i_Md_findLiving_108 (by decide) ?_
                  refine ev_goto i_Md_findLiving_109 ?_
                  refine ev_zastN i_Md_findLiving_113 l1 (by omega) (by decide) ?_
                  rw [nar_b1, put_put, zG_upd (by omega), zG_congr (L' := livA (ed T) (livN (ed T) n) (a + 1)) (fun j _ => by
                    show (if j = a then true else (livA (ed T) (livN (ed T) n) a) j) = (if j = a then (livA (ed T) (livN (ed T) n) a) a && anyB (fun b => ed T a b && (livA (ed T) (livN (ed T) n) a) b) 6 else (livA (ed T) (livN (ed T) n) a) j)
                    by_cases z : j = a
                    · rw [if_pos z, if_pos z, ly, ay]; rfl
                    · rw [if_neg z, if_neg z])]
                  refine ev_iincN_3 (c := 1) i_Md_findLiving_114 (by decide) rfl ?_
                  refine ev_goto i_Md_findLiving_117 ?_
                  exact ih (a + 1) (by omega) _ _
            · skip
              exfalso; omega
          | false =>
            rw [bI_f]
            refine ev_iload i_Md_findLiving_43 rfl ?_
            refine ev_bipushN (v := 6) i_Md_findLiving_45 (by decide) ?_
            refine ev_icmp_geN i_Md_findLiving_47 (by omega) (by omega) (fun hc_47 => ?_) (fun hc_47 => ?_)
            · skip
              refine ev_aload_n i_Md_findLiving_89 rfl ?_
              refine ev_get i_Md_findLiving_90 o1 rfl ?_
              refine ev_iload_n i_Md_findLiving_93 rfl ?_
              refine ev_aload_n i_Md_findLiving_94 rfl ?_
              refine ev_get i_Md_findLiving_95 o1 rfl ?_
              refine ev_iload_n i_Md_findLiving_98 rfl ?_
              refine ev_zaldN i_Md_findLiving_99 l1 (by omega) (by decide) ?_
              rw [zG_at (by omega), ly, bI_t]
              refine ev_if_eqN i_Md_findLiving_100 (by omega) (fun hc_100 => ?_) (fun hc_100 => ?_)
              · skip
                exfalso; omega
              · skip
                refine ev_iload i_Md_findLiving_103 rfl ?_
                refine ev_if_eqN i_Md_findLiving_105 (by omega) (fun hc_105 => ?_) (fun hc_105 => ?_)
                · skip
                  refine ev_iconstN (v := 0) i_Md_findLiving_112 (by decide) ?_
                  refine ev_zastN i_Md_findLiving_113 l1 (by omega) (by decide) ?_
                  rw [nar_b0, put_put, zG_upd (by omega), zG_congr (L' := livA (ed T) (livN (ed T) n) (a + 1)) (fun j _ => by
                    show (if j = a then false else (livA (ed T) (livN (ed T) n) a) j) = (if j = a then (livA (ed T) (livN (ed T) n) a) a && anyB (fun b => ed T a b && (livA (ed T) (livN (ed T) n) a) b) 6 else (livA (ed T) (livN (ed T) n) a) j)
                    by_cases z : j = a
                    · rw [if_pos z, if_pos z, ly, ay]; rfl
                    · rw [if_neg z, if_neg z])]
                  refine ev_iincN_3 (c := 1) i_Md_findLiving_114 (by decide) rfl ?_
                  refine ev_goto i_Md_findLiving_117 ?_
                  exact ih (a + 1) (by omega) _ _
                · skip
                  exfalso; omega
            · skip
              exfalso; omega
        | false =>
          refine ev_iload i_Md_findLiving_43 rfl ?_
          refine ev_bipushN (v := 6) i_Md_findLiving_45 (by decide) ?_
          refine ev_icmp_geN i_Md_findLiving_47 (by omega) (by omega) (fun hc_47 => ?_) (fun hc_47 => ?_)
          · skip
            refine ev_aload_n i_Md_findLiving_89 rfl ?_
            refine ev_get i_Md_findLiving_90 o1 rfl ?_
            refine ev_iload_n i_Md_findLiving_93 rfl ?_
            refine ev_aload_n i_Md_findLiving_94 rfl ?_
            refine ev_get i_Md_findLiving_95 o1 rfl ?_
            refine ev_iload_n i_Md_findLiving_98 rfl ?_
            refine ev_zaldN i_Md_findLiving_99 l1 (by omega) (by decide) ?_
            rw [zG_at (by omega), ly, bI_f]
            refine ev_if_eqN i_Md_findLiving_100 (by omega) (fun hc_100 => ?_) (fun hc_100 => ?_)
            · skip
              refine ev_iconstN (v := 0) i_Md_findLiving_112 (by decide) ?_
              refine ev_zastN i_Md_findLiving_113 l1 (by omega) (by decide) ?_
              rw [nar_b0, put_put, zG_upd (by omega), zG_congr (L' := livA (ed T) (livN (ed T) n) (a + 1)) (fun j _ => by
                show (if j = a then false else (livA (ed T) (livN (ed T) n) a) j) = (if j = a then (livA (ed T) (livN (ed T) n) a) a && anyB (fun b => ed T a b && (livA (ed T) (livN (ed T) n) a) b) 6 else (livA (ed T) (livN (ed T) n) a) j)
                by_cases z : j = a
                · rw [if_pos z, if_pos z, ly]; rfl
                · rw [if_neg z, if_neg z])]
              refine ev_iincN_3 (c := 1) i_Md_findLiving_114 (by decide) rfl ?_
              refine ev_goto i_Md_findLiving_117 ?_
              exact ih (a + 1) (by omega) _ _
            · skip
              exfalso; omega
          · skip
            exfalso; omega
theorem lp_livN {scr : Scr} {l : Launch} {S : Sto} {t d : Nat} {g : Nat → Int32} {T : TabV} {q1 q2 q3 q4 q5 q6 q7 : Int32} {fl : Nat → Int32} (h0 : S.1[105]? = some (mObj q1 q2 q3 q4 q5 q6 q7)) (hg : S.1[106]? = some (aI 417 g)) (hT : MTab g t T) (ht : t < 3) (hl : S.1[119]? = some (aZ 6 fl)) : ∀ (k n : Nat), n + k = 6 → ∀ u3 u4 u5, Ev scr l (d + 2) M_Md_findLiving 23 [some (.ref 105), some (.int (nI t)), some (.int (nI n)), u3, u4, u5] [] (S.put 119 (aZ 6 (zG (livN (ed T) n) fl 6))) (.inl none, (S.put 119 (aZ 6 (zG (liv (ed T)) fl 6)))) := by
  intro k
  induction k with
  | zero =>
    intro n hn u3 u4 u5
    have z : n = 6 := by omega
    subst z
    refine ev_iload_n i_Md_findLiving_23 rfl ?_
    refine ev_bipushN (v := 6) i_Md_findLiving_24 (by decide) ?_
    refine ev_icmp_geN i_Md_findLiving_26 (by omega) (by omega) (fun hc_26 => ?_) (fun hc_26 => ?_)
    · skip
      exact ev_vret i_Md_findLiving_126 rfl
    · skip
      exfalso; omega
  | succ k ih =>
    intro n hn u3 u4 u5
    refine ev_iload_n i_Md_findLiving_23 rfl ?_
    refine ev_bipushN (v := 6) i_Md_findLiving_24 (by decide) ?_
    refine ev_icmp_geN i_Md_findLiving_26 (by omega) (by omega) (fun hc_26 => ?_) (fun hc_26 => ?_)
    · skip
      exfalso; omega
    · skip
      refine ev_iconstN (v := 0) i_Md_findLiving_29 (by decide) ?_
      refine ev_ist_n_3 i_Md_findLiving_30 rfl ?_
      refine lp_livA h0 hg hT ht hl (fun u4 u5 => ?_) 6 0 (by omega) _ _
      refine ev_iincN_2 (c := 1) i_Md_findLiving_120 (by decide) rfl ?_
      refine ev_goto i_Md_findLiving_123 ?_
      exact ih (n + 1) (by omega) _ _ _
theorem m_living {scr : Scr} {l : Launch} {S : Sto} {t d : Nat} {g : Nat → Int32} {T : TabV} {q1 q2 q3 q4 q5 q6 q7 : Int32} {fl : Nat → Int32} (h0 : S.1[105]? = some (mObj q1 q2 q3 q4 q5 q6 q7)) (hg : S.1[106]? = some (aI 417 g)) (hT : MTab g t T) (ht : t < 3) (hl : S.1[119]? = some (aZ 6 fl)) : MetA scr l (d + 2) M_Md_findLiving [.ref 105, .int (nI t)] S (.inl none, (S.put 119 (aZ 6 (zG (liv (ed T)) fl 6)))) := by
  refine MetA.of rfl (by decide +kernel) (Nat.le_of_ble_eq_true rfl) ?_
  refine ev_iconstN (v := 0) i_Md_findLiving_0 (by decide) ?_
  refine ev_ist_n_2 i_Md_findLiving_1 rfl ?_
  refine ev_eqS (S1 := (S.put 119 (aZ 6 (zG (livN (ed T) 0) fl 0)))) (by rw [zG_0]; exact put_same hl) ?_
  refine ev_loop (n := 6) (fun i => [some (.ref 105), some (.int (nI t)), some (.int (nI i)), none, none, none]) (fun i => (S.put 119 (aZ 6 (zG (livN (ed T) 0) fl i)))) (fun i hi ki => ?_) ?_
  · try dsimp only at ki ⊢
    have o1 : (S.put 119 (aZ 6 (zG (livN (ed T) 0) fl i))).1[105]? = _ := put_at h0 (by decide)
    have l1 : (S.put 119 (aZ 6 (zG (livN (ed T) 0) fl i))).1[119]? = _ := put_self hl
    refine ev_iload_n i_Md_findLiving_2 rfl ?_
    refine ev_bipushN (v := 6) i_Md_findLiving_3 (by decide) ?_
    refine ev_icmp_geN i_Md_findLiving_5 (by omega) (by omega) (fun hc_5 => ?_) (fun hc_5 => ?_)
    · skip
      exfalso; omega
    · skip
      refine ev_aload_n i_Md_findLiving_8 rfl ?_
      refine ev_get i_Md_findLiving_9 o1 rfl ?_
      refine ev_iload_n i_Md_findLiving_12 rfl ?_
      refine ev_iconstN (v := 1) i_Md_findLiving_13 (by decide) ?_
      refine ev_zastN i_Md_findLiving_14 l1 (by omega) (by decide) ?_
      rw [nar_b1, put_put, show true = livN (ed T) 0 i from rfl, zG_s]
      refine ev_iincN_2 (c := 1) i_Md_findLiving_15 (by decide) rfl ?_
      refine ev_goto i_Md_findLiving_18 ?_
      exact ki
  · try dsimp only
    refine ev_iload_n i_Md_findLiving_2 rfl ?_
    refine ev_bipushN (v := 6) i_Md_findLiving_3 (by decide) ?_
    refine ev_icmp_geN i_Md_findLiving_5 (by omega) (by omega) (fun hc_5 => ?_) (fun hc_5 => ?_)
    · skip
      refine ev_iconstN (v := 0) i_Md_findLiving_21 (by decide) ?_
      refine ev_ist_n_2 i_Md_findLiving_22 rfl ?_
      exact lp_livN h0 hg hT ht hl 6 0 (by omega) _ _ _
    · skip
      exfalso; omega
/-- a square of truth values in one row -/
abbrev sq (R : Nat → Nat → Bool) : Nat → Bool := fun j => R (j / 6) (j % 6)
theorem sq_at {R : Nat → Nat → Bool} {a b : Nat} (hb : b < 6) : sq R (6 * a + b) = R a b := by
  show R ((6 * a + b) / 6) ((6 * a + b) % 6) = R a b
  rw [show (6 * a + b) / 6 = a by omega, show (6 * a + b) % 6 = b by omega]
/-- within a round c, the first n entries are new -/
def mixE (E : Nat → Nat → Bool) (c n : Nat) : Nat → Bool := fun j => if j < n then sq (wsh E (c + 1)) j else sq (wsh E c) j
theorem wsh_col {E : Nat → Nat → Bool} {k a : Nat} : wsh E (k + 1) a k = wsh E k a k := by
  show (wsh E k a k || (wsh E k a k && wsh E k k k)) = wsh E k a k
  cases wsh E k a k <;> cases wsh E k k k <;> rfl
theorem mixE_here {E : Nat → Nat → Bool} {c a b : Nat} (hb : b < 6) : mixE E c (6 * a + b) (6 * a + b) = wsh E c a b := by
  unfold mixE
  rw [if_neg (by omega), sq_at hb]
theorem mixE_col {E : Nat → Nat → Bool} {c n a : Nat} (hc : c < 6) : mixE E c n (6 * a + c) = wsh E c a c := by
  unfold mixE
  split
  · rw [sq_at hc, wsh_col]
  · rw [sq_at hc]
theorem mixE_row {E : Nat → Nat → Bool} {c n b : Nat} (hb : b < 6) : mixE E c n (6 * c + b) = wsh E c c b := by
  unfold mixE
  split
  · rw [sq_at hb, wsh_row]
  · rw [sq_at hb]
theorem mixE_s {E : Nat → Nat → Bool} {c a b j : Nat} (hb : b < 6) : (if j = 6 * a + b then wsh E (c + 1) a b else mixE E c (6 * a + b) j) = mixE E c (6 * a + (b + 1)) j := by
  unfold mixE
  by_cases z : j = 6 * a + b
  · rw [if_pos z, if_pos (by omega), z, sq_at hb]
  · rw [if_neg z]
    by_cases q : j < 6 * a + b
    · rw [if_pos q, if_pos (by omega)]
    · rw [if_neg q, if_neg (by omega)]
theorem mixE_end {E : Nat → Nat → Bool} {c j : Nat} (h : j < 36) : mixE E c (6 * 6) j = mixE E (c + 1) (6 * 0) j := by
  unfold mixE
  rw [if_pos (by omega), if_neg (by omega)]
theorem lp_way1 {scr : Scr} {l : Launch} {S : Sto} {t d : Nat} {g : Nat → Int32} {T : TabV} {q1 q2 q3 q4 q5 q6 q7 : Int32} {fl fe : Nat → Int32} (h0 : S.1[105]? = some (mObj q1 q2 q3 q4 q5 q6 q7)) (hg : S.1[106]? = some (aI 417 g)) (hT : MTab g t T) (ht : t < 3) (hl : S.1[119]? = some (aZ 6 (zG (liv (ed T)) fl 6))) (he : S.1[120]? = some (aZ 36 fe)) {r : Res} {u4 : Option Value} (hk : ∀ u3, Ev scr l (d + 2) M_Md_findWays 72 [some (.ref 105), some (.int (nI t)), some (.int (nI 6)), u3, u4] [] (S.put 120 (aZ 36 (zG (sq (edL (ed T))) fe 36))) r) : ∀ (k a : Nat), a + k = 6 → ∀ u3, Ev scr l (d + 2) M_Md_findWays 2 [some (.ref 105), some (.int (nI t)), some (.int (nI a)), u3, u4] [] (S.put 120 (aZ 36 (zG (sq (edL (ed T))) fe (6 * a)))) r := by
  intro k
  induction k with
  | zero =>
    intro a hak u3
    have z : a = 6 := by omega
    subst z
    refine ev_iload_n i_Md_findWays_2 rfl ?_
    refine ev_bipushN (v := 6) i_Md_findWays_3 (by decide) ?_
    refine ev_icmp_geN i_Md_findWays_5 (by omega) (by omega) (fun hc_5 => ?_) (fun hc_5 => ?_)
    · skip
      exact hk _
    · skip
      exfalso; omega
  | succ k ih =>
    intro a hak u3
    refine ev_iload_n i_Md_findWays_2 rfl ?_
    refine ev_bipushN (v := 6) i_Md_findWays_3 (by decide) ?_
    refine ev_icmp_geN i_Md_findWays_5 (by omega) (by omega) (fun hc_5 => ?_) (fun hc_5 => ?_)
    · skip
      exfalso; omega
    · skip
      refine ev_iconstN (v := 0) i_Md_findWays_8 (by decide) ?_
      refine ev_ist_n_3 i_Md_findWays_9 rfl ?_
      refine ev_loop (n := 6) (fun b => [some (.ref 105), some (.int (nI t)), some (.int (nI a)), some (.int (nI b)), u4]) (fun b => (S.put 120 (aZ 36 (zG (sq (edL (ed T))) fe (6 * a + b))))) (fun b hb kb => ?_) ?_
      · try dsimp only at kb ⊢
        have o1 : (S.put 120 (aZ 36 (zG (sq (edL (ed T))) fe (6 * a + b)))).1[105]? = _ := put_at h0 (by decide)
        have g1 : (S.put 120 (aZ 36 (zG (sq (edL (ed T))) fe (6 * a + b)))).1[106]? = _ := put_at hg (by decide)
        have l1 : (S.put 120 (aZ 36 (zG (sq (edL (ed T))) fe (6 * a + b)))).1[119]? = _ := put_at hl (by decide)
        have e1 : (S.put 120 (aZ 36 (zG (sq (edL (ed T))) fe (6 * a + b)))).1[120]? = _ := put_self he
        have hoc := occ_lt (b := b) hT ht (show a < 6 by omega)
        cases ly : liv (ed T) a with
        | true =>
          cases my : liv (ed T) b with
          | true =>
            cases ey : ed T a b with
            | true =>
              have := ed_y ey
              refine ev_iload_n i_Md_findWays_10 rfl ?_
              refine ev_bipushN (v := 6) i_Md_findWays_11 (by decide) ?_
              refine ev_icmp_geN i_Md_findWays_13 (by omega) (by omega) (fun hc_13 => ?_) (fun hc_13 => ?_)
              · skip
                exfalso; omega
              · skip
                refine ev_aload_n i_Md_findWays_16 rfl ?_
                refine ev_get i_Md_findWays_17 o1 rfl ?_
                refine ev_bipushN (v := 6) i_Md_findWays_20 (by decide) ?_
                refine ev_iload_n i_Md_findWays_22 rfl ?_
                first | refine ev_imulN i_Md_findWays_23 ?_ | refine ev_imul i_Md_findWays_23 ?_
                refine ev_iload_n i_Md_findWays_24 rfl ?_
                first | refine ev_iaddN i_Md_findWays_25 ?_ | refine ev_iadd i_Md_findWays_25 ?_
                refine ev_aload_n i_Md_findWays_26 rfl ?_
                refine ev_get i_Md_findWays_27 o1 rfl ?_
                refine ev_iload_n i_Md_findWays_30 rfl ?_
                refine ev_zaldN i_Md_findWays_31 l1 (by omega) (by decide) ?_
                rw [zG_at (by omega), ly, bI_t]
                refine ev_if_eqN i_Md_findWays_32 (by omega) (fun hc_32 => ?_) (fun hc_32 => ?_)
                · skip
                  exfalso; omega
                · skip
                  refine ev_aload_n i_Md_findWays_35 rfl ?_
                  refine ev_get i_Md_findWays_36 o1 rfl ?_
                  refine ev_iload_n i_Md_findWays_39 rfl ?_
                  refine ev_zaldN i_Md_findWays_40 l1 (by omega) (by decide) ?_
                  rw [zG_at (by omega), my, bI_t]
                  refine ev_if_eqN i_Md_findWays_41 (by omega) (fun hc_41 => ?_) (fun hc_41 => ?_)
                  · skip
                    exfalso; omega
                  · skip
                    refine ev_aload_n i_Md_findWays_44 rfl ?_
                    refine ev_iload_n i_Md_findWays_45 rfl ?_
                    refine ev_iload_n i_Md_findWays_46 rfl ?_
                    refine ev_iload_n i_Md_findWays_47 rfl ?_
                    refine ev_callV3 i_Md_findWays_48 rfl o1 (Nat.le_of_ble_eq_true rfl) (m_occurs o1 g1 hT ht (by omega) (by omega)) ?_
                    refine ev_if_leN i_Md_findWays_51 (by omega) (fun hc_51 => ?_) (fun hc_51 => ?_)
                    · skip
                      exfalso; omega
                    · skip
                      refine ev_iconstN (v := 1) i_Md_findWays_54 (by decide) ?_
                      refine ev_goto i_Md_findWays_55 ?_
                      refine ev_zastN i_Md_findWays_59 e1 (by omega) (by decide) ?_
                      rw [nar_b1, put_put, show true = sq (edL (ed T)) (6 * a + b) from by rw [sq_at (by omega)]; unfold edL; rw [ly, my, ey]; rfl, zG_s]
                      refine ev_iincN_3 (c := 1) i_Md_findWays_60 (by decide) rfl ?_
                      refine ev_goto i_Md_findWays_63 ?_
                      exact kb
            | false =>
              have := ed_n ey
              refine ev_iload_n i_Md_findWays_10 rfl ?_
              refine ev_bipushN (v := 6) i_Md_findWays_11 (by decide) ?_
              refine ev_icmp_geN i_Md_findWays_13 (by omega) (by omega) (fun hc_13 => ?_) (fun hc_13 => ?_)
              · skip
                exfalso; omega
              · skip
                refine ev_aload_n i_Md_findWays_16 rfl ?_
                refine ev_get i_Md_findWays_17 o1 rfl ?_
                refine ev_bipushN (v := 6) i_Md_findWays_20 (by decide) ?_
                refine ev_iload_n i_Md_findWays_22 rfl ?_
                first | refine ev_imulN i_Md_findWays_23 ?_ | refine ev_imul i_Md_findWays_23 ?_
                refine ev_iload_n i_Md_findWays_24 rfl ?_
                first | refine ev_iaddN i_Md_findWays_25 ?_ | refine ev_iadd i_Md_findWays_25 ?_
                refine ev_aload_n i_Md_findWays_26 rfl ?_
                refine ev_get i_Md_findWays_27 o1 rfl ?_
                refine ev_iload_n i_Md_findWays_30 rfl ?_
                refine ev_zaldN i_Md_findWays_31 l1 (by omega) (by decide) ?_
                rw [zG_at (by omega), ly, bI_t]
                refine ev_if_eqN i_Md_findWays_32 (by omega) (fun hc_32 => ?_) (fun hc_32 => ?_)
                · skip
                  exfalso; omega
                · skip
                  refine ev_aload_n i_Md_findWays_35 rfl ?_
                  refine ev_get i_Md_findWays_36 o1 rfl ?_
                  refine ev_iload_n i_Md_findWays_39 rfl ?_
                  refine ev_zaldN i_Md_findWays_40 l1 (by omega) (by decide) ?_
                  rw [zG_at (by omega), my, bI_t]
                  refine ev_if_eqN i_Md_findWays_41 (by omega) (fun hc_41 => ?_) (fun hc_41 => ?_)
                  · skip
                    exfalso; omega
                  · skip
                    refine ev_aload_n i_Md_findWays_44 rfl ?_
                    refine ev_iload_n i_Md_findWays_45 rfl ?_
                    refine ev_iload_n i_Md_findWays_46 rfl ?_
                    refine ev_iload_n i_Md_findWays_47 rfl ?_
                    refine ev_callV3 i_Md_findWays_48 rfl o1 (Nat.le_of_ble_eq_true rfl) (m_occurs o1 g1 hT ht (by omega) (by omega)) ?_
                    refine ev_if_leN i_Md_findWays_51 (by omega) (fun hc_51 => ?_) (fun hc_51 => ?_)
                    · skip
                      refine ev_iconstN (v := 0) i_Md_findWays_58 (by decide) ?_
                      refine ev_zastN i_Md_findWays_59 e1 (by omega) (by decide) ?_
                      rw [nar_b0, put_put, show false = sq (edL (ed T)) (6 * a + b) from by rw [sq_at (by omega)]; unfold edL; rw [ly, my, ey]; rfl, zG_s]
                      refine ev_iincN_3 (c := 1) i_Md_findWays_60 (by decide) rfl ?_
                      refine ev_goto i_Md_findWays_63 ?_
                      exact kb
                    · skip
                      exfalso; omega
          | false =>
            refine ev_iload_n i_Md_findWays_10 rfl ?_
            refine ev_bipushN (v := 6) i_Md_findWays_11 (by decide) ?_
            refine ev_icmp_geN i_Md_findWays_13 (by omega) (by omega) (fun hc_13 => ?_) (fun hc_13 => ?_)
            · skip
              exfalso; omega
            · skip
              refine ev_aload_n i_Md_findWays_16 rfl ?_
              refine ev_get i_Md_findWays_17 o1 rfl ?_
              refine ev_bipushN (v := 6) i_Md_findWays_20 (by decide) ?_
              refine ev_iload_n i_Md_findWays_22 rfl ?_
              first | refine ev_imulN i_Md_findWays_23 ?_ | refine ev_imul i_Md_findWays_23 ?_
              refine ev_iload_n i_Md_findWays_24 rfl ?_
              first | refine ev_iaddN i_Md_findWays_25 ?_ | refine ev_iadd i_Md_findWays_25 ?_
              refine ev_aload_n i_Md_findWays_26 rfl ?_
              refine ev_get i_Md_findWays_27 o1 rfl ?_
              refine ev_iload_n i_Md_findWays_30 rfl ?_
              refine ev_zaldN i_Md_findWays_31 l1 (by omega) (by decide) ?_
              rw [zG_at (by omega), ly, bI_t]
              refine ev_if_eqN i_Md_findWays_32 (by omega) (fun hc_32 => ?_) (fun hc_32 => ?_)
              · skip
                exfalso; omega
              · skip
                refine ev_aload_n i_Md_findWays_35 rfl ?_
                refine ev_get i_Md_findWays_36 o1 rfl ?_
                refine ev_iload_n i_Md_findWays_39 rfl ?_
                refine ev_zaldN i_Md_findWays_40 l1 (by omega) (by decide) ?_
                rw [zG_at (by omega), my, bI_f]
                refine ev_if_eqN i_Md_findWays_41 (by omega) (fun hc_41 => ?_) (fun hc_41 => ?_)
                · skip
                  refine ev_iconstN (v := 0) i_Md_findWays_58 (by decide) ?_
                  refine ev_zastN i_Md_findWays_59 e1 (by omega) (by decide) ?_
                  rw [nar_b0, put_put, show false = sq (edL (ed T)) (6 * a + b) from by rw [sq_at (by omega)]; unfold edL; rw [ly, my]; rfl, zG_s]
                  refine ev_iincN_3 (c := 1) i_Md_findWays_60 (by decide) rfl ?_
                  refine ev_goto i_Md_findWays_63 ?_
                  exact kb
                · skip
                  exfalso; omega
        | false =>
          refine ev_iload_n i_Md_findWays_10 rfl ?_
          refine ev_bipushN (v := 6) i_Md_findWays_11 (by decide) ?_
          refine ev_icmp_geN i_Md_findWays_13 (by omega) (by omega) (fun hc_13 => ?_) (fun hc_13 => ?_)
          · skip
            exfalso; omega
          · skip
            refine ev_aload_n i_Md_findWays_16 rfl ?_
            refine ev_get i_Md_findWays_17 o1 rfl ?_
            refine ev_bipushN (v := 6) i_Md_findWays_20 (by decide) ?_
            refine ev_iload_n i_Md_findWays_22 rfl ?_
            first | refine ev_imulN i_Md_findWays_23 ?_ | refine ev_imul i_Md_findWays_23 ?_
            refine ev_iload_n i_Md_findWays_24 rfl ?_
            first | refine ev_iaddN i_Md_findWays_25 ?_ | refine ev_iadd i_Md_findWays_25 ?_
            refine ev_aload_n i_Md_findWays_26 rfl ?_
            refine ev_get i_Md_findWays_27 o1 rfl ?_
            refine ev_iload_n i_Md_findWays_30 rfl ?_
            refine ev_zaldN i_Md_findWays_31 l1 (by omega) (by decide) ?_
            rw [zG_at (by omega), ly, bI_f]
            refine ev_if_eqN i_Md_findWays_32 (by omega) (fun hc_32 => ?_) (fun hc_32 => ?_)
            · skip
              refine ev_iconstN (v := 0) i_Md_findWays_58 (by decide) ?_
              refine ev_zastN i_Md_findWays_59 e1 (by omega) (by decide) ?_
              rw [nar_b0, put_put, show false = sq (edL (ed T)) (6 * a + b) from by rw [sq_at (by omega)]; unfold edL; rw [ly]; rfl, zG_s]
              refine ev_iincN_3 (c := 1) i_Md_findWays_60 (by decide) rfl ?_
              refine ev_goto i_Md_findWays_63 ?_
              exact kb
            · skip
              exfalso; omega
      · try dsimp only
        refine ev_iload_n i_Md_findWays_10 rfl ?_
        refine ev_bipushN (v := 6) i_Md_findWays_11 (by decide) ?_
        refine ev_icmp_geN i_Md_findWays_13 (by omega) (by omega) (fun hc_13 => ?_) (fun hc_13 => ?_)
        · skip
          refine ev_iincN_2 (c := 1) i_Md_findWays_66 (by decide) rfl ?_
          refine ev_goto i_Md_findWays_69 ?_
          exact ih (a + 1) (by omega) _
        · skip
          exfalso; omega
theorem lp_way2 {scr : Scr} {l : Launch} {S : Sto} {t d : Nat} {g : Nat → Int32} {T : TabV} {q1 q2 q3 q4 q5 q6 q7 : Int32} {fl fe : Nat → Int32} (h0 : S.1[105]? = some (mObj q1 q2 q3 q4 q5 q6 q7)) (hg : S.1[106]? = some (aI 417 g)) (hT : MTab g t T) (ht : t < 3) (hl : S.1[119]? = some (aZ 6 (zG (liv (ed T)) fl 6))) (he : S.1[120]? = some (aZ 36 fe)) {r : Res} {c : Nat} (hc : c < 6) (hk : ∀ u4, Ev scr l (d + 2) M_Md_findWays 171 [some (.ref 105), some (.int (nI t)), some (.int (nI c)), some (.int (nI 6)), u4] [] (S.put 120 (aZ 36 (zG (mixE (edL (ed T)) c (6 * 6)) fe 36))) r) : ∀ (k a : Nat), a + k = 6 → ∀ u4, Ev scr l (d + 2) M_Md_findWays 82 [some (.ref 105), some (.int (nI t)), some (.int (nI c)), some (.int (nI a)), u4] [] (S.put 120 (aZ 36 (zG (mixE (edL (ed T)) c (6 * a)) fe 36))) r := by
  intro k
  induction k with
  | zero =>
    intro a hak u4
    have z : a = 6 := by omega
    subst z
    refine ev_iload_n i_Md_findWays_82 rfl ?_
    refine ev_bipushN (v := 6) i_Md_findWays_83 (by decide) ?_
    refine ev_icmp_geN i_Md_findWays_85 (by omega) (by omega) (fun hc_85 => ?_) (fun hc_85 => ?_)
    · skip
      exact hk _
    · skip
      exfalso; omega
  | succ k ih =>
    intro a hak u4
    refine ev_iload_n i_Md_findWays_82 rfl ?_
    refine ev_bipushN (v := 6) i_Md_findWays_83 (by decide) ?_
    refine ev_icmp_geN i_Md_findWays_85 (by omega) (by omega) (fun hc_85 => ?_) (fun hc_85 => ?_)
    · skip
      exfalso; omega
    · skip
      refine ev_iconstN (v := 0) i_Md_findWays_88 (by decide) ?_
      refine ev_ist_4 i_Md_findWays_89 rfl ?_
      refine ev_loop (n := 6) (fun b => [some (.ref 105), some (.int (nI t)), some (.int (nI c)), some (.int (nI a)), some (.int (nI b))]) (fun b => (S.put 120 (aZ 36 (zG (mixE (edL (ed T)) c (6 * a + b)) fe 36)))) (fun b hb kb => ?_) ?_
      · try dsimp only at kb ⊢
        have o1 : (S.put 120 (aZ 36 (zG (mixE (edL (ed T)) c (6 * a + b)) fe 36))).1[105]? = _ := put_at h0 (by decide)
        have e1 : (S.put 120 (aZ 36 (zG (mixE (edL (ed T)) c (6 * a + b)) fe 36))).1[120]? = _ := put_self he
        cases xy : wsh (edL (ed T)) c a b with
        | true =>
          refine ev_iload i_Md_findWays_91 rfl ?_
          refine ev_bipushN (v := 6) i_Md_findWays_93 (by decide) ?_
          refine ev_icmp_geN i_Md_findWays_95 (by omega) (by omega) (fun hc_95 => ?_) (fun hc_95 => ?_)
          · skip
            exfalso; omega
          · skip
            refine ev_aload_n i_Md_findWays_98 rfl ?_
            refine ev_get i_Md_findWays_99 o1 rfl ?_
            refine ev_bipushN (v := 6) i_Md_findWays_102 (by decide) ?_
            refine ev_iload_n i_Md_findWays_104 rfl ?_
            first | refine ev_imulN i_Md_findWays_105 ?_ | refine ev_imul i_Md_findWays_105 ?_
            refine ev_iload i_Md_findWays_106 rfl ?_
            first | refine ev_iaddN i_Md_findWays_108 ?_ | refine ev_iadd i_Md_findWays_108 ?_
            refine ev_aload_n i_Md_findWays_109 rfl ?_
            refine ev_get i_Md_findWays_110 o1 rfl ?_
            refine ev_bipushN (v := 6) i_Md_findWays_113 (by decide) ?_
            refine ev_iload_n i_Md_findWays_115 rfl ?_
            first | refine ev_imulN i_Md_findWays_116 ?_ | refine ev_imul i_Md_findWays_116 ?_
            refine ev_iload i_Md_findWays_117 rfl ?_
            first | refine ev_iaddN i_Md_findWays_119 ?_ | refine ev_iadd i_Md_findWays_119 ?_
            refine ev_zaldN i_Md_findWays_120 e1 (by omega) (by decide) ?_
            rw [zG_at (by omega), mixE_here (by omega), xy, bI_t]
            refine ev_if_neN i_Md_findWays_121 (by omega) (fun hc_121 => ?_) (fun hc_121 => ?_)
            · skip
              refine ev_iconstN (v := 1) i_Md_findWays_153 (by decide) ?_
              refine ev_goto i_Md_findWays_154 ?_
              refine ev_zastN i_Md_findWays_158 e1 (by omega) (by decide) ?_
              rw [nar_b1, put_put, show true = wsh (edL (ed T)) (c + 1) a b from by unfold wsh; rw [xy]; rfl, zG_upd (by omega), zG_congr (fun j _ => mixE_s (by omega))]
              refine ev_iincN_4 (c := 1) i_Md_findWays_159 (by decide) rfl ?_
              refine ev_goto i_Md_findWays_162 ?_
              exact kb
            · skip
              exfalso; omega
        | false =>
          cases yy : wsh (edL (ed T)) c a c with
          | true =>
            cases zy : wsh (edL (ed T)) c c b with
            | true =>
              refine ev_iload i_Md_findWays_91 rfl ?_
              refine ev_bipushN (v := 6) i_Md_findWays_93 (by decide) ?_
              refine ev_icmp_geN i_Md_findWays_95 (by omega) (by omega) (fun hc_95 => ?_) (fun hc_95 => ?_)
              · skip
                exfalso; omega
              · skip
                refine ev_aload_n i_Md_findWays_98 rfl ?_
                refine ev_get i_Md_findWays_99 o1 rfl ?_
                refine ev_bipushN (v := 6) i_Md_findWays_102 (by decide) ?_
                refine ev_iload_n i_Md_findWays_104 rfl ?_
                first | refine ev_imulN i_Md_findWays_105 ?_ | refine ev_imul i_Md_findWays_105 ?_
                refine ev_iload i_Md_findWays_106 rfl ?_
                first | refine ev_iaddN i_Md_findWays_108 ?_ | refine ev_iadd i_Md_findWays_108 ?_
                refine ev_aload_n i_Md_findWays_109 rfl ?_
                refine ev_get i_Md_findWays_110 o1 rfl ?_
                refine ev_bipushN (v := 6) i_Md_findWays_113 (by decide) ?_
                refine ev_iload_n i_Md_findWays_115 rfl ?_
                first | refine ev_imulN i_Md_findWays_116 ?_ | refine ev_imul i_Md_findWays_116 ?_
                refine ev_iload i_Md_findWays_117 rfl ?_
                first | refine ev_iaddN i_Md_findWays_119 ?_ | refine ev_iadd i_Md_findWays_119 ?_
                refine ev_zaldN i_Md_findWays_120 e1 (by omega) (by decide) ?_
                rw [zG_at (by omega), mixE_here (by omega), xy, bI_f]
                refine ev_if_neN i_Md_findWays_121 (by omega) (fun hc_121 => ?_) (fun hc_121 => ?_)
                · skip
                  exfalso; omega
                · skip
                  refine ev_aload_n i_Md_findWays_124 rfl ?_
                  refine ev_get i_Md_findWays_125 o1 rfl ?_
                  refine ev_bipushN (v := 6) i_Md_findWays_128 (by decide) ?_
                  refine ev_iload_n i_Md_findWays_130 rfl ?_
                  first | refine ev_imulN i_Md_findWays_131 ?_ | refine ev_imul i_Md_findWays_131 ?_
                  refine ev_iload_n i_Md_findWays_132 rfl ?_
                  first | refine ev_iaddN i_Md_findWays_133 ?_ | refine ev_iadd i_Md_findWays_133 ?_
                  refine ev_zaldN i_Md_findWays_134 e1 (by omega) (by decide) ?_
                  rw [zG_at (by omega), mixE_col (by omega), yy, bI_t]
                  refine ev_if_eqN i_Md_findWays_135 (by omega) (fun hc_135 => ?_) (fun hc_135 => ?_)
                  · skip
                    exfalso; omega
                  · skip
                    refine ev_aload_n i_Md_findWays_138 rfl ?_
                    refine ev_get i_Md_findWays_139 o1 rfl ?_
                    refine ev_bipushN (v := 6) i_Md_findWays_142 (by decide) ?_
                    refine ev_iload_n i_Md_findWays_144 rfl ?_
                    first | refine ev_imulN i_Md_findWays_145 ?_ | refine ev_imul i_Md_findWays_145 ?_
                    refine ev_iload i_Md_findWays_146 rfl ?_
                    first | refine ev_iaddN i_Md_findWays_148 ?_ | refine ev_iadd i_Md_findWays_148 ?_
                    refine ev_zaldN i_Md_findWays_149 e1 (by omega) (by decide) ?_
                    rw [zG_at (by omega), mixE_row (by omega), zy, bI_t]
                    refine ev_if_eqN i_Md_findWays_150 (by omega) (fun hc_150 => ?_) (fun hc_150 => ?_)
                    · skip
                      exfalso; omega
                    · skip
                      refine ev_iconstN (v := 1) i_Md_findWays_153 (by decide) ?_
                      refine ev_goto i_Md_findWays_154 ?_
                      refine ev_zastN i_Md_findWays_158 e1 (by omega) (by decide) ?_
                      rw [nar_b1, put_put, show true = wsh (edL (ed T)) (c + 1) a b from by unfold wsh; rw [xy, yy, zy]; rfl, zG_upd (by omega), zG_congr (fun j _ => mixE_s (by omega))]
                      refine ev_iincN_4 (c := 1) i_Md_findWays_159 (by decide) rfl ?_
                      refine ev_goto i_Md_findWays_162 ?_
                      exact kb
            | false =>
              refine ev_iload i_Md_findWays_91 rfl ?_
              refine ev_bipushN (v := 6) i_Md_findWays_93 (by decide) ?_
              refine ev_icmp_geN i_Md_findWays_95 (by omega) (by omega) (fun hc_95 => ?_) (fun hc_95 => ?_)
              · skip
                exfalso; omega
              · skip
                refine ev_aload_n i_Md_findWays_98 rfl ?_
                refine ev_get i_Md_findWays_99 o1 rfl ?_
                refine ev_bipushN (v := 6) i_Md_findWays_102 (by decide) ?_
                refine ev_iload_n i_Md_findWays_104 rfl ?_
                first | refine ev_imulN i_Md_findWays_105 ?_ | refine ev_imul i_Md_findWays_105 ?_
                refine ev_iload i_Md_findWays_106 rfl ?_
                first | refine ev_iaddN i_Md_findWays_108 ?_ | refine ev_iadd i_Md_findWays_108 ?_
                refine ev_aload_n i_Md_findWays_109 rfl ?_
                refine ev_get i_Md_findWays_110 o1 rfl ?_
                refine ev_bipushN (v := 6) i_Md_findWays_113 (by decide) ?_
                refine ev_iload_n i_Md_findWays_115 rfl ?_
                first | refine ev_imulN i_Md_findWays_116 ?_ | refine ev_imul i_Md_findWays_116 ?_
                refine ev_iload i_Md_findWays_117 rfl ?_
                first | refine ev_iaddN i_Md_findWays_119 ?_ | refine ev_iadd i_Md_findWays_119 ?_
                refine ev_zaldN i_Md_findWays_120 e1 (by omega) (by decide) ?_
                rw [zG_at (by omega), mixE_here (by omega), xy, bI_f]
                refine ev_if_neN i_Md_findWays_121 (by omega) (fun hc_121 => ?_) (fun hc_121 => ?_)
                · skip
                  exfalso; omega
                · skip
                  refine ev_aload_n i_Md_findWays_124 rfl ?_
                  refine ev_get i_Md_findWays_125 o1 rfl ?_
                  refine ev_bipushN (v := 6) i_Md_findWays_128 (by decide) ?_
                  refine ev_iload_n i_Md_findWays_130 rfl ?_
                  first | refine ev_imulN i_Md_findWays_131 ?_ | refine ev_imul i_Md_findWays_131 ?_
                  refine ev_iload_n i_Md_findWays_132 rfl ?_
                  first | refine ev_iaddN i_Md_findWays_133 ?_ | refine ev_iadd i_Md_findWays_133 ?_
                  refine ev_zaldN i_Md_findWays_134 e1 (by omega) (by decide) ?_
                  rw [zG_at (by omega), mixE_col (by omega), yy, bI_t]
                  refine ev_if_eqN i_Md_findWays_135 (by omega) (fun hc_135 => ?_) (fun hc_135 => ?_)
                  · skip
                    exfalso; omega
                  · skip
                    refine ev_aload_n i_Md_findWays_138 rfl ?_
                    refine ev_get i_Md_findWays_139 o1 rfl ?_
                    refine ev_bipushN (v := 6) i_Md_findWays_142 (by decide) ?_
                    refine ev_iload_n i_Md_findWays_144 rfl ?_
                    first | refine ev_imulN i_Md_findWays_145 ?_ | refine ev_imul i_Md_findWays_145 ?_
                    refine ev_iload i_Md_findWays_146 rfl ?_
                    first | refine ev_iaddN i_Md_findWays_148 ?_ | refine ev_iadd i_Md_findWays_148 ?_
                    refine ev_zaldN i_Md_findWays_149 e1 (by omega) (by decide) ?_
                    rw [zG_at (by omega), mixE_row (by omega), zy, bI_f]
                    refine ev_if_eqN i_Md_findWays_150 (by omega) (fun hc_150 => ?_) (fun hc_150 => ?_)
                    · skip
                      refine ev_iconstN (v := 0) i_Md_findWays_157 (by decide) ?_
                      refine ev_zastN i_Md_findWays_158 e1 (by omega) (by decide) ?_
                      rw [nar_b0, put_put, show false = wsh (edL (ed T)) (c + 1) a b from by unfold wsh; rw [xy, yy, zy]; rfl, zG_upd (by omega), zG_congr (fun j _ => mixE_s (by omega))]
                      refine ev_iincN_4 (c := 1) i_Md_findWays_159 (by decide) rfl ?_
                      refine ev_goto i_Md_findWays_162 ?_
                      exact kb
                    · skip
                      exfalso; omega
          | false =>
            refine ev_iload i_Md_findWays_91 rfl ?_
            refine ev_bipushN (v := 6) i_Md_findWays_93 (by decide) ?_
            refine ev_icmp_geN i_Md_findWays_95 (by omega) (by omega) (fun hc_95 => ?_) (fun hc_95 => ?_)
            · skip
              exfalso; omega
            · skip
              refine ev_aload_n i_Md_findWays_98 rfl ?_
              refine ev_get i_Md_findWays_99 o1 rfl ?_
              refine ev_bipushN (v := 6) i_Md_findWays_102 (by decide) ?_
              refine ev_iload_n i_Md_findWays_104 rfl ?_
              first | refine ev_imulN i_Md_findWays_105 ?_ | refine ev_imul i_Md_findWays_105 ?_
              refine ev_iload i_Md_findWays_106 rfl ?_
              first | refine ev_iaddN i_Md_findWays_108 ?_ | refine ev_iadd i_Md_findWays_108 ?_
              refine ev_aload_n i_Md_findWays_109 rfl ?_
              refine ev_get i_Md_findWays_110 o1 rfl ?_
              refine ev_bipushN (v := 6) i_Md_findWays_113 (by decide) ?_
              refine ev_iload_n i_Md_findWays_115 rfl ?_
              first | refine ev_imulN i_Md_findWays_116 ?_ | refine ev_imul i_Md_findWays_116 ?_
              refine ev_iload i_Md_findWays_117 rfl ?_
              first | refine ev_iaddN i_Md_findWays_119 ?_ | refine ev_iadd i_Md_findWays_119 ?_
              refine ev_zaldN i_Md_findWays_120 e1 (by omega) (by decide) ?_
              rw [zG_at (by omega), mixE_here (by omega), xy, bI_f]
              refine ev_if_neN i_Md_findWays_121 (by omega) (fun hc_121 => ?_) (fun hc_121 => ?_)
              · skip
                exfalso; omega
              · skip
                refine ev_aload_n i_Md_findWays_124 rfl ?_
                refine ev_get i_Md_findWays_125 o1 rfl ?_
                refine ev_bipushN (v := 6) i_Md_findWays_128 (by decide) ?_
                refine ev_iload_n i_Md_findWays_130 rfl ?_
                first | refine ev_imulN i_Md_findWays_131 ?_ | refine ev_imul i_Md_findWays_131 ?_
                refine ev_iload_n i_Md_findWays_132 rfl ?_
                first | refine ev_iaddN i_Md_findWays_133 ?_ | refine ev_iadd i_Md_findWays_133 ?_
                refine ev_zaldN i_Md_findWays_134 e1 (by omega) (by decide) ?_
                rw [zG_at (by omega), mixE_col (by omega), yy, bI_f]
                refine ev_if_eqN i_Md_findWays_135 (by omega) (fun hc_135 => ?_) (fun hc_135 => ?_)
                · skip
                  refine ev_iconstN (v := 0) i_Md_findWays_157 (by decide) ?_
                  refine ev_zastN i_Md_findWays_158 e1 (by omega) (by decide) ?_
                  rw [nar_b0, put_put, show false = wsh (edL (ed T)) (c + 1) a b from by unfold wsh; rw [xy, yy]; rfl, zG_upd (by omega), zG_congr (fun j _ => mixE_s (by omega))]
                  refine ev_iincN_4 (c := 1) i_Md_findWays_159 (by decide) rfl ?_
                  refine ev_goto i_Md_findWays_162 ?_
                  exact kb
                · skip
                  exfalso; omega
      · try dsimp only
        refine ev_iload i_Md_findWays_91 rfl ?_
        refine ev_bipushN (v := 6) i_Md_findWays_93 (by decide) ?_
        refine ev_icmp_geN i_Md_findWays_95 (by omega) (by omega) (fun hc_95 => ?_) (fun hc_95 => ?_)
        · skip
          refine ev_iincN_3 (c := 1) i_Md_findWays_165 (by decide) rfl ?_
          refine ev_goto i_Md_findWays_168 ?_
          exact ih (a + 1) (by omega) _
        · skip
          exfalso; omega
theorem lp_way3 {scr : Scr} {l : Launch} {S : Sto} {t d : Nat} {g : Nat → Int32} {T : TabV} {q1 q2 q3 q4 q5 q6 q7 : Int32} {fl fe : Nat → Int32} (h0 : S.1[105]? = some (mObj q1 q2 q3 q4 q5 q6 q7)) (hg : S.1[106]? = some (aI 417 g)) (hT : MTab g t T) (ht : t < 3) (hl : S.1[119]? = some (aZ 6 (zG (liv (ed T)) fl 6))) (he : S.1[120]? = some (aZ 36 fe)) : ∀ (k c : Nat), c + k = 6 → ∀ u3 u4, Ev scr l (d + 2) M_Md_findWays 74 [some (.ref 105), some (.int (nI t)), some (.int (nI c)), u3, u4] [] (S.put 120 (aZ 36 (zG (mixE (edL (ed T)) c (6 * 0)) fe 36))) (.inl none, (S.put 120 (aZ 36 (zG (sq (rcx (edL (ed T)))) fe 36)))) := by
  intro k
  induction k with
  | zero =>
    intro c hck u3 u4
    have z : c = 6 := by omega
    subst z
    rw [zG_congr (fun j _ => show mixE (edL (ed T)) 6 (6 * 0) j = sq (rcx (edL (ed T))) j from if_neg (by omega))]
    refine ev_iload_n i_Md_findWays_74 rfl ?_
    refine ev_bipushN (v := 6) i_Md_findWays_75 (by decide) ?_
    refine ev_icmp_geN i_Md_findWays_77 (by omega) (by omega) (fun hc_77 => ?_) (fun hc_77 => ?_)
    · skip
      exact ev_vret i_Md_findWays_177 rfl
    · skip
      exfalso; omega
  | succ k ih =>
    intro c hck u3 u4
    refine ev_iload_n i_Md_findWays_74 rfl ?_
    refine ev_bipushN (v := 6) i_Md_findWays_75 (by decide) ?_
    refine ev_icmp_geN i_Md_findWays_77 (by omega) (by omega) (fun hc_77 => ?_) (fun hc_77 => ?_)
    · skip
      exfalso; omega
    · skip
      refine ev_iconstN (v := 0) i_Md_findWays_80 (by decide) ?_
      refine ev_ist_n_3 i_Md_findWays_81 rfl ?_
      refine lp_way2 h0 hg hT ht hl he (show c < 6 by omega) (fun u4 => ?_) 6 0 (by omega) _
      refine ev_iincN_2 (c := 1) i_Md_findWays_171 (by decide) rfl ?_
      refine ev_goto i_Md_findWays_174 ?_
      rw [zG_congr (fun j hj => mixE_end hj)]
      exact ih (c + 1) (by omega) _ _
theorem m_findWays {scr : Scr} {l : Launch} {S : Sto} {t d : Nat} {g : Nat → Int32} {T : TabV} {q1 q2 q3 q4 q5 q6 q7 : Int32} {fl fe : Nat → Int32} (h0 : S.1[105]? = some (mObj q1 q2 q3 q4 q5 q6 q7)) (hg : S.1[106]? = some (aI 417 g)) (hT : MTab g t T) (ht : t < 3) (hl : S.1[119]? = some (aZ 6 (zG (liv (ed T)) fl 6))) (he : S.1[120]? = some (aZ 36 fe)) : MetA scr l (d + 2) M_Md_findWays [.ref 105, .int (nI t)] S (.inl none, (S.put 120 (aZ 36 (zG (sq (rcx (edL (ed T)))) fe 36)))) := by
  refine MetA.of rfl (by decide +kernel) (Nat.le_of_ble_eq_true rfl) ?_
  refine ev_iconstN (v := 0) i_Md_findWays_0 (by decide) ?_
  refine ev_ist_n_2 i_Md_findWays_1 rfl ?_
  refine ev_eqS (S1 := (S.put 120 (aZ 36 (zG (sq (edL (ed T))) fe (6 * 0))))) (by rw [zG_0]; exact put_same he) ?_
  refine lp_way1 h0 hg hT ht hl he (fun u3 => ?_) 6 0 (by omega) _
  refine ev_iconstN (v := 0) i_Md_findWays_72 (by decide) ?_
  refine ev_ist_n_2 i_Md_findWays_73 rfl ?_
  refine ev_eqS (S1 := (S.put 120 (aZ 36 (zG (mixE (edL (ed T)) 0 (6 * 0)) fe 36)))) (by rw [zG_congr (fun j _ => show mixE (edL (ed T)) 0 (6 * 0) j = sq (edL (ed T)) j from if_neg (by omega))]) ?_
  exact lp_way3 h0 hg hT ht hl he 6 0 (by omega) _ _

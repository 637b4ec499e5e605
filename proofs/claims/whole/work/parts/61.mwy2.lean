/-! the model m: ways -/
/-- the cells that are done: rows below i whole, the row i up to a -/
abbrev wDone (m n i a x : Nat) : Prop := (i < x / 61 ∨ (x / 61 = i ∧ x % 61 < a)) ∧ x / 61 ≤ m ∧ x % 61 ≤ n
def wF (T : TabV) (xs ys : List Nat) (g : Nat → Int64) (i a : Nat) : Nat → Int64 := fun x => if wDone xs.length ys.length i a x then enc (Bk T xs ys (xs.length - x / 61) (x % 61)) else g x
theorem wF_upd {T : TabV} {xs ys : List Nat} {g : Nat → Int64} {i a : Nat} (hi : i ≤ xs.length) (ha : a ≤ ys.length) (hy : ys.length ≤ 60) : vp_updL (wF T xs ys g i a) (61 * i + a) (enc (Bk T xs ys (xs.length - i) a)) = wF T xs ys g i (a + 1) := by
  funext x
  unfold vp_updL wF
  by_cases z : x = 61 * i + a
  · have e1 : x / 61 = i := by omega
    have e2 : x % 61 = a := by omega
    rw [if_pos z, if_pos (by unfold wDone; omega), e1, e2]
  · rw [if_neg z]
    by_cases q : wDone xs.length ys.length i a x
    · rw [if_pos q, if_pos (by unfold wDone at q ⊢; omega)]
    · rw [if_neg q, if_neg (by unfold wDone at q ⊢; omega)]
theorem wF_next {T : TabV} {xs ys : List Nat} {g : Nat → Int64} {i : Nat} : wF T xs ys g (i + 1) (ys.length + 1) = wF T xs ys g i 0 := by
  funext x
  unfold wF
  by_cases q : wDone xs.length ys.length i 0 x
  · rw [if_pos q, if_pos (by unfold wDone at q ⊢; omega)]
  · rw [if_neg q, if_neg (by unfold wDone at q ⊢; omega)]
theorem wF_get {T : TabV} {xs ys : List Nat} {g : Nat → Int64} {i a j b : Nat} (hy : ys.length ≤ 60) (hj : j ≤ xs.length) (hb : b ≤ ys.length) (h : i < j ∨ (j = i ∧ b < a)) : wF T xs ys g i a (61 * j + b) = enc (Bk T xs ys (xs.length - j) b) := by
  have e1 : (61 * j + b) / 61 = j := by omega
  have e2 : (61 * j + b) % 61 = b := by omega
  unfold wF
  rw [if_pos (by unfold wDone; omega), e1, e2]
theorem wF_start {T : TabV} {xs ys : List Nat} {g : Nat → Int64} : wF T xs ys g xs.length 0 = g := by
  funext x
  unfold wF
  rw [if_neg (by unfold wDone; omega)]
theorem lp_wk {scr : Scr} {l : Launch} {S : Sto} {t i a d : Nat} {T : TabV} {xs ys : List Nat} {g gt : Nat → Int32} {f : Nat → Int64} {ru li : Int32} {q1 q2 q3 q4 q5 q6 q7 : Int32} {r : Res} (h0 : S.1[105]? = some (mObj q1 q2 q3 q4 q5 q6 q7)) (hg : S.1[106]? = some (aI 417 g)) (ht : S.1[108]? = some (aI 61 gt)) (hy : RowW gt 0 ys) (hw : S.1[126]? = some (aJ 3721 f)) (hi : i < xs.length) (hx60 : xs.length ≤ 60) (ha : a ≤ ys.length) (hf : ∀ b, b ≤ ys.length → f (61 * (i + 1) + b) = enc (Bk T xs ys (xs.length - (i + 1)) b)) (hps : (prodsOf T xs i).length ≤ 3) (hP : ∀ u, u < (prodsOf T xs i).length → ∃ o, o + 5 ≤ 417 ∧ MProd g o ((prodsOf T xs i).getD u []) ∧ PrOK ((prodsOf T xs i).getD u []) ∧ ((¬ ru < 0 ∧ ru = nI o) ∨ (ru < 0 ∧ ∃ ll, li = nI ll ∧ o = ll + 1 + 5 * u))) (hall : ∀ c, c ≤ (prodsOf T xs i).length → (sumN (fun u => if stB ys ((prodsOf T xs i).getD u []) a = true then Bk T xs ys (xs.length - (i + 1)) (a + ((prodsOf T xs i).getD u []).length) else 0) c) < 2 ^ 63) (hk : ∀ u10 u11 u12, Ev scr l (d + 4) M_Md_ways 262 [some (.ref 105), some (.int (nI t)), some (.int (nI i)), some (.int (nI a)), some (.long (nL (sumN (fun u => if stB ys ((prodsOf T xs i).getD u []) a = true then Bk T xs ys (xs.length - (i + 1)) (a + ((prodsOf T xs i).getD u []).length) else 0) (prodsOf T xs i).length))), none, some (.int ru), some (.int li), some (.int (nI (prodsOf T xs i).length)), some (.int (nI (prodsOf T xs i).length)), u10, u11, u12] [] S r) : ∀ (k c : Nat), c + k = (prodsOf T xs i).length → c ≤ (prodsOf T xs i).length → ∀ u10 u11 u12, Ev scr l (d + 4) M_Md_ways 166 [some (.ref 105), some (.int (nI t)), some (.int (nI i)), some (.int (nI a)), some (.long (nL (sumN (fun u => if stB ys ((prodsOf T xs i).getD u []) a = true then Bk T xs ys (xs.length - (i + 1)) (a + ((prodsOf T xs i).getD u []).length) else 0) c))), none, some (.int ru), some (.int li), some (.int (nI (prodsOf T xs i).length)), some (.int (nI c)), u10, u11, u12] [] S r := by
  intro k
  induction k with
  | zero =>
    intro c hc hc2 u10 u11 u12
    have z : c = (prodsOf T xs i).length := by omega
    subst z
    refine ev_iload i_Md_ways_166 rfl ?_
    refine ev_iload i_Md_ways_168 rfl ?_
    refine ev_icmp_geN i_Md_ways_170 (by omega) (by omega) (fun hc_170 => ?_) (fun hc_170 => ?_)
    · skip
      exact hk _ _ _
    · skip
      exfalso; omega
  | succ k ih =>
    intro c hc hc2 u10 u11 u12
    obtain ⟨o, ho, hmp, hok, hcase⟩ := hP c (by omega)
    have h60 := hy.2.1
    have h4 := hok.1
    have hN : (sumN (fun u => if stB ys ((prodsOf T xs i).getD u []) a = true then Bk T xs ys (xs.length - (i + 1)) (a + ((prodsOf T xs i).getD u []).length) else 0) c) < 2 ^ 63 := hall c hc2
    cases hst : stB ys ((prodsOf T xs i).getD c []) a with
    | false =>
      rcases hcase with ⟨hru, eo⟩ | ⟨hru, ll, el, eo⟩
      · subst eo
        refine ev_iload i_Md_ways_166 rfl ?_
        refine ev_iload i_Md_ways_168 rfl ?_
        refine ev_icmp_geN i_Md_ways_170 (by omega) (by omega) (fun hc_170 => ?_) (fun hc_170 => ?_)
        · skip
          exfalso; omega
        · skip
          refine ev_lload i_Md_ways_173 rfl ?_
          refine ev_lconst (v := 0) i_Md_ways_175 (by decide) ?_
          refine ev_lif_lt i_Md_ways_176 i_Md_ways_177 (fun hc_177 => ?_) (fun hc_177 => ?_)
          · skip
            exact absurd hc_177 (nL_pos hN)
          · skip
            refine ev_iload i_Md_ways_180 rfl ?_
            refine ev_if_lt i_Md_ways_182 (fun hc_182 => ?_) (fun hc_182 => ?_)
            · skip
              exact absurd hc_182 hru
            · skip
              refine ev_iload i_Md_ways_185 rfl ?_
              refine ev_goto i_Md_ways_187 ?_
              refine ev_ist_10 i_Md_ways_197 rfl ?_
              refine ev_aload_n i_Md_ways_199 rfl ?_
              refine ev_iload i_Md_ways_200 rfl ?_
              refine ev_iload_n i_Md_ways_202 rfl ?_
              refine ev_callV2 i_Md_ways_203 rfl h0 (Nat.le_of_ble_eq_true rfl) (m_stands h0 hg hmp hok ho ht hy ha) ?_
              rw [hst, bI_f]
              refine ev_if_eqN i_Md_ways_206 (by omega) (fun hc_206 => ?_) (fun hc_206 => ?_)
              · skip
                refine ev_lconst (v := 0) i_Md_ways_233 (by decide) ?_
                refine ev_lst_11 i_Md_ways_234 rfl ?_
                refine ev_lload i_Md_ways_236 rfl ?_
                refine ev_lconst (v := 0) i_Md_ways_238 (by decide) ?_
                refine ev_lif_ge i_Md_ways_239 i_Md_ways_240 (fun hc_240 => ?_) (fun hc_240 => ?_)
                · skip
                  refine ev_lload i_Md_ways_249 rfl ?_
                  refine ev_lload i_Md_ways_251 rfl ?_
                  refine ev_ladd i_Md_ways_253 ?_
                  refine ev_lst_4 i_Md_ways_254 rfl ?_
                  refine ev_iincN_9 (c := 1) i_Md_ways_256 (by decide) rfl ?_
                  refine ev_goto i_Md_ways_259 ?_
                  have ef : (sumN (fun u => if stB ys ((prodsOf T xs i).getD u []) a = true then Bk T xs ys (xs.length - (i + 1)) (a + ((prodsOf T xs i).getD u []).length) else 0) (c + 1)) = (sumN (fun u => if stB ys ((prodsOf T xs i).getD u []) a = true then Bk T xs ys (xs.length - (i + 1)) (a + ((prodsOf T xs i).getD u []).length) else 0) c) + 0 := by
                    show (sumN (fun u => if stB ys ((prodsOf T xs i).getD u []) a = true then Bk T xs ys (xs.length - (i + 1)) (a + ((prodsOf T xs i).getD u []).length) else 0) c) + (fun u => if stB ys ((prodsOf T xs i).getD u []) a = true then Bk T xs ys (xs.length - (i + 1)) (a + ((prodsOf T xs i).getD u []).length) else 0) c = _
                    dsimp only
                    rw [hst]
                    rfl
                  have ih2 := ih (c + 1) (by omega) (by omega)
                  rw [ef] at ih2
                  rw [show (0 : Int64) = nL 0 from rfl, nL_add]
                  exact ih2 _ _ _
                · skip
                  exact absurd hc_240 (by decide)
              · skip
                exfalso; omega
      · subst el
        refine ev_iload i_Md_ways_166 rfl ?_
        refine ev_iload i_Md_ways_168 rfl ?_
        refine ev_icmp_geN i_Md_ways_170 (by omega) (by omega) (fun hc_170 => ?_) (fun hc_170 => ?_)
        · skip
          exfalso; omega
        · skip
          refine ev_lload i_Md_ways_173 rfl ?_
          refine ev_lconst (v := 0) i_Md_ways_175 (by decide) ?_
          refine ev_lif_lt i_Md_ways_176 i_Md_ways_177 (fun hc_177 => ?_) (fun hc_177 => ?_)
          · skip
            exact absurd hc_177 (nL_pos hN)
          · skip
            refine ev_iload i_Md_ways_180 rfl ?_
            refine ev_if_lt i_Md_ways_182 (fun hc_182 => ?_) (fun hc_182 => ?_)
            · skip
              refine ev_iload i_Md_ways_190 rfl ?_
              refine ev_iload i_Md_ways_192 rfl ?_
              refine ev_callS2 i_Md_ways_194 rfl (Nat.le_of_ble_eq_true rfl) m_productionAt ?_
              rw [← eo]
              refine ev_ist_10 i_Md_ways_197 rfl ?_
              refine ev_aload_n i_Md_ways_199 rfl ?_
              refine ev_iload i_Md_ways_200 rfl ?_
              refine ev_iload_n i_Md_ways_202 rfl ?_
              refine ev_callV2 i_Md_ways_203 rfl h0 (Nat.le_of_ble_eq_true rfl) (m_stands h0 hg hmp hok ho ht hy ha) ?_
              rw [hst, bI_f]
              refine ev_if_eqN i_Md_ways_206 (by omega) (fun hc_206 => ?_) (fun hc_206 => ?_)
              · skip
                refine ev_lconst (v := 0) i_Md_ways_233 (by decide) ?_
                refine ev_lst_11 i_Md_ways_234 rfl ?_
                refine ev_lload i_Md_ways_236 rfl ?_
                refine ev_lconst (v := 0) i_Md_ways_238 (by decide) ?_
                refine ev_lif_ge i_Md_ways_239 i_Md_ways_240 (fun hc_240 => ?_) (fun hc_240 => ?_)
                · skip
                  refine ev_lload i_Md_ways_249 rfl ?_
                  refine ev_lload i_Md_ways_251 rfl ?_
                  refine ev_ladd i_Md_ways_253 ?_
                  refine ev_lst_4 i_Md_ways_254 rfl ?_
                  refine ev_iincN_9 (c := 1) i_Md_ways_256 (by decide) rfl ?_
                  refine ev_goto i_Md_ways_259 ?_
                  have ef : (sumN (fun u => if stB ys ((prodsOf T xs i).getD u []) a = true then Bk T xs ys (xs.length - (i + 1)) (a + ((prodsOf T xs i).getD u []).length) else 0) (c + 1)) = (sumN (fun u => if stB ys ((prodsOf T xs i).getD u []) a = true then Bk T xs ys (xs.length - (i + 1)) (a + ((prodsOf T xs i).getD u []).length) else 0) c) + 0 := by
                    show (sumN (fun u => if stB ys ((prodsOf T xs i).getD u []) a = true then Bk T xs ys (xs.length - (i + 1)) (a + ((prodsOf T xs i).getD u []).length) else 0) c) + (fun u => if stB ys ((prodsOf T xs i).getD u []) a = true then Bk T xs ys (xs.length - (i + 1)) (a + ((prodsOf T xs i).getD u []).length) else 0) c = _
                    dsimp only
                    rw [hst]
                    rfl
                  have ih2 := ih (c + 1) (by omega) (by omega)
                  rw [ef] at ih2
                  rw [show (0 : Int64) = nL 0 from rfl, nL_add]
                  exact ih2 _ _ _
                · skip
                  exact absurd hc_240 (by decide)
              · skip
                exfalso; omega
            · skip
              exact absurd hru hc_182
    | true =>
      have hB : Bk T xs ys (xs.length - (i + 1)) (a + ((prodsOf T xs i).getD c []).length) < 2 ^ 63 := by
        have h1 := hall (c + 1) (by omega)
        have ef : (sumN (fun u => if stB ys ((prodsOf T xs i).getD u []) a = true then Bk T xs ys (xs.length - (i + 1)) (a + ((prodsOf T xs i).getD u []).length) else 0) (c + 1)) = (sumN (fun u => if stB ys ((prodsOf T xs i).getD u []) a = true then Bk T xs ys (xs.length - (i + 1)) (a + ((prodsOf T xs i).getD u []).length) else 0) c) + Bk T xs ys (xs.length - (i + 1)) (a + ((prodsOf T xs i).getD c []).length) := by
          show (sumN (fun u => if stB ys ((prodsOf T xs i).getD u []) a = true then Bk T xs ys (xs.length - (i + 1)) (a + ((prodsOf T xs i).getD u []).length) else 0) c) + (fun u => if stB ys ((prodsOf T xs i).getD u []) a = true then Bk T xs ys (xs.length - (i + 1)) (a + ((prodsOf T xs i).getD u []).length) else 0) c = _
          dsimp only
          rw [hst]
          rfl
        omega
      rcases hcase with ⟨hru, eo⟩ | ⟨hru, ll, el, eo⟩
      · subst eo
        refine ev_iload i_Md_ways_166 rfl ?_
        refine ev_iload i_Md_ways_168 rfl ?_
        refine ev_icmp_geN i_Md_ways_170 (by omega) (by omega) (fun hc_170 => ?_) (fun hc_170 => ?_)
        · skip
          exfalso; omega
        · skip
          refine ev_lload i_Md_ways_173 rfl ?_
          refine ev_lconst (v := 0) i_Md_ways_175 (by decide) ?_
          refine ev_lif_lt i_Md_ways_176 i_Md_ways_177 (fun hc_177 => ?_) (fun hc_177 => ?_)
          · skip
            exact absurd hc_177 (nL_pos hN)
          · skip
            refine ev_iload i_Md_ways_180 rfl ?_
            refine ev_if_lt i_Md_ways_182 (fun hc_182 => ?_) (fun hc_182 => ?_)
            · skip
              exact absurd hc_182 hru
            · skip
              refine ev_iload i_Md_ways_185 rfl ?_
              refine ev_goto i_Md_ways_187 ?_
              refine ev_ist_10 i_Md_ways_197 rfl ?_
              refine ev_aload_n i_Md_ways_199 rfl ?_
              refine ev_iload i_Md_ways_200 rfl ?_
              refine ev_iload_n i_Md_ways_202 rfl ?_
              refine ev_callV2 i_Md_ways_203 rfl h0 (Nat.le_of_ble_eq_true rfl) (m_stands h0 hg hmp hok ho ht hy ha) ?_
              rw [hst, bI_t]
              refine ev_if_eqN i_Md_ways_206 (by omega) (fun hc_206 => ?_) (fun hc_206 => ?_)
              · skip
                exfalso; omega
              · skip
                refine ev_aload_n i_Md_ways_209 rfl ?_
                refine ev_get i_Md_ways_210 h0 rfl ?_
                refine ev_bipushN (v := 61) i_Md_ways_213 (by decide) ?_
                refine ev_iload_n i_Md_ways_215 rfl ?_
                refine ev_iconstN (v := 1) i_Md_ways_216 (by decide) ?_
                first | refine ev_iaddN i_Md_ways_217 ?_ | refine ev_iadd i_Md_ways_217 ?_
                first | refine ev_imulN i_Md_ways_218 ?_ | refine ev_imul i_Md_ways_218 ?_
                refine ev_iload_n i_Md_ways_219 rfl ?_
                first | refine ev_iaddN i_Md_ways_220 ?_ | refine ev_iadd i_Md_ways_220 ?_
                refine ev_aload_n i_Md_ways_221 rfl ?_
                refine ev_get i_Md_ways_222 h0 rfl ?_
                refine ev_iload i_Md_ways_225 rfl ?_
                refine ev_ialdN i_Md_ways_227 hg (by omega) (by decide) ?_
                rw [hmp.1]
                first | refine ev_iaddN i_Md_ways_228 ?_ | refine ev_iadd i_Md_ways_228 ?_
                have hsl := stB_le hst
                refine ev_laldN i_Md_ways_229 hw (by omega) (by decide) ?_
                rw [show 61 * (i + 1) + a + ((prodsOf T xs i).getD c []).length = 61 * (i + 1) + (a + ((prodsOf T xs i).getD c []).length) from by omega, hf _ (stB_le hst)]
                refine ev_goto i_Md_ways_230 ?_
                refine ev_lst_11 i_Md_ways_234 rfl ?_
                refine ev_lload i_Md_ways_236 rfl ?_
                refine ev_lconst (v := 0) i_Md_ways_238 (by decide) ?_
                refine ev_lif_ge i_Md_ways_239 i_Md_ways_240 (fun hc_240 => ?_) (fun hc_240 => ?_)
                · skip
                  refine ev_lload i_Md_ways_249 rfl ?_
                  refine ev_lload i_Md_ways_251 rfl ?_
                  refine ev_ladd i_Md_ways_253 ?_
                  refine ev_lst_4 i_Md_ways_254 rfl ?_
                  refine ev_iincN_9 (c := 1) i_Md_ways_256 (by decide) rfl ?_
                  refine ev_goto i_Md_ways_259 ?_
                  have ef : (sumN (fun u => if stB ys ((prodsOf T xs i).getD u []) a = true then Bk T xs ys (xs.length - (i + 1)) (a + ((prodsOf T xs i).getD u []).length) else 0) (c + 1)) = (sumN (fun u => if stB ys ((prodsOf T xs i).getD u []) a = true then Bk T xs ys (xs.length - (i + 1)) (a + ((prodsOf T xs i).getD u []).length) else 0) c) + Bk T xs ys (xs.length - (i + 1)) (a + ((prodsOf T xs i).getD c []).length) := by
                    show (sumN (fun u => if stB ys ((prodsOf T xs i).getD u []) a = true then Bk T xs ys (xs.length - (i + 1)) (a + ((prodsOf T xs i).getD u []).length) else 0) c) + (fun u => if stB ys ((prodsOf T xs i).getD u []) a = true then Bk T xs ys (xs.length - (i + 1)) (a + ((prodsOf T xs i).getD u []).length) else 0) c = _
                    dsimp only
                    rw [hst]
                    rfl
                  have ih2 := ih (c + 1) (by omega) (by omega)
                  rw [ef] at ih2
                  rw [enc_lt hB, nL_add]
                  exact ih2 _ _ _
                · skip
                  exact absurd (enc_neg.mp hc_240) (by rw [Decidable.not_not]; exact hB)
      · subst el
        refine ev_iload i_Md_ways_166 rfl ?_
        refine ev_iload i_Md_ways_168 rfl ?_
        refine ev_icmp_geN i_Md_ways_170 (by omega) (by omega) (fun hc_170 => ?_) (fun hc_170 => ?_)
        · skip
          exfalso; omega
        · skip
          refine ev_lload i_Md_ways_173 rfl ?_
          refine ev_lconst (v := 0) i_Md_ways_175 (by decide) ?_
          refine ev_lif_lt i_Md_ways_176 i_Md_ways_177 (fun hc_177 => ?_) (fun hc_177 => ?_)
          · skip
            exact absurd hc_177 (nL_pos hN)
          · skip
            refine ev_iload i_Md_ways_180 rfl ?_
            refine ev_if_lt i_Md_ways_182 (fun hc_182 => ?_) (fun hc_182 => ?_)
            · skip
              refine ev_iload i_Md_ways_190 rfl ?_
              refine ev_iload i_Md_ways_192 rfl ?_
              refine ev_callS2 i_Md_ways_194 rfl (Nat.le_of_ble_eq_true rfl) m_productionAt ?_
              rw [← eo]
              refine ev_ist_10 i_Md_ways_197 rfl ?_
              refine ev_aload_n i_Md_ways_199 rfl ?_
              refine ev_iload i_Md_ways_200 rfl ?_
              refine ev_iload_n i_Md_ways_202 rfl ?_
              refine ev_callV2 i_Md_ways_203 rfl h0 (Nat.le_of_ble_eq_true rfl) (m_stands h0 hg hmp hok ho ht hy ha) ?_
              rw [hst, bI_t]
              refine ev_if_eqN i_Md_ways_206 (by omega) (fun hc_206 => ?_) (fun hc_206 => ?_)
              · skip
                exfalso; omega
              · skip
                refine ev_aload_n i_Md_ways_209 rfl ?_
                refine ev_get i_Md_ways_210 h0 rfl ?_
                refine ev_bipushN (v := 61) i_Md_ways_213 (by decide) ?_
                refine ev_iload_n i_Md_ways_215 rfl ?_
                refine ev_iconstN (v := 1) i_Md_ways_216 (by decide) ?_
                first | refine ev_iaddN i_Md_ways_217 ?_ | refine ev_iadd i_Md_ways_217 ?_
                first | refine ev_imulN i_Md_ways_218 ?_ | refine ev_imul i_Md_ways_218 ?_
                refine ev_iload_n i_Md_ways_219 rfl ?_
                first | refine ev_iaddN i_Md_ways_220 ?_ | refine ev_iadd i_Md_ways_220 ?_
                refine ev_aload_n i_Md_ways_221 rfl ?_
                refine ev_get i_Md_ways_222 h0 rfl ?_
                refine ev_iload i_Md_ways_225 rfl ?_
                refine ev_ialdN i_Md_ways_227 hg (by omega) (by decide) ?_
                rw [hmp.1]
                first | refine ev_iaddN i_Md_ways_228 ?_ | refine ev_iadd i_Md_ways_228 ?_
                have hsl := stB_le hst
                refine ev_laldN i_Md_ways_229 hw (by omega) (by decide) ?_
                rw [show 61 * (i + 1) + a + ((prodsOf T xs i).getD c []).length = 61 * (i + 1) + (a + ((prodsOf T xs i).getD c []).length) from by omega, hf _ (stB_le hst)]
                refine ev_goto i_Md_ways_230 ?_
                refine ev_lst_11 i_Md_ways_234 rfl ?_
                refine ev_lload i_Md_ways_236 rfl ?_
                refine ev_lconst (v := 0) i_Md_ways_238 (by decide) ?_
                refine ev_lif_ge i_Md_ways_239 i_Md_ways_240 (fun hc_240 => ?_) (fun hc_240 => ?_)
                · skip
                  refine ev_lload i_Md_ways_249 rfl ?_
                  refine ev_lload i_Md_ways_251 rfl ?_
                  refine ev_ladd i_Md_ways_253 ?_
                  refine ev_lst_4 i_Md_ways_254 rfl ?_
                  refine ev_iincN_9 (c := 1) i_Md_ways_256 (by decide) rfl ?_
                  refine ev_goto i_Md_ways_259 ?_
                  have ef : (sumN (fun u => if stB ys ((prodsOf T xs i).getD u []) a = true then Bk T xs ys (xs.length - (i + 1)) (a + ((prodsOf T xs i).getD u []).length) else 0) (c + 1)) = (sumN (fun u => if stB ys ((prodsOf T xs i).getD u []) a = true then Bk T xs ys (xs.length - (i + 1)) (a + ((prodsOf T xs i).getD u []).length) else 0) c) + Bk T xs ys (xs.length - (i + 1)) (a + ((prodsOf T xs i).getD c []).length) := by
                    show (sumN (fun u => if stB ys ((prodsOf T xs i).getD u []) a = true then Bk T xs ys (xs.length - (i + 1)) (a + ((prodsOf T xs i).getD u []).length) else 0) c) + (fun u => if stB ys ((prodsOf T xs i).getD u []) a = true then Bk T xs ys (xs.length - (i + 1)) (a + ((prodsOf T xs i).getD u []).length) else 0) c = _
                    dsimp only
                    rw [hst]
                    rfl
                  have ih2 := ih (c + 1) (by omega) (by omega)
                  rw [ef] at ih2
                  rw [enc_lt hB, nL_add]
                  exact ih2 _ _ _
                · skip
                  exact absurd (enc_neg.mp hc_240) (by rw [Decidable.not_not]; exact hB)
            · skip
              exact absurd hru hc_182
theorem lp_wk_neg {scr : Scr} {l : Launch} {S : Sto} {t i a d cc ln : Nat} {sm : Int64} {ru li : Int32} {r : Res} {u10 u11 u12 : Option Value} (hsm : sm < 0) (hl : ln < 2 ^ 31) (hcc : cc < 2 ^ 31) (hk : Ev scr l (d + 4) M_Md_ways 262 [some (.ref 105), some (.int (nI t)), some (.int (nI i)), some (.int (nI a)), some (.long sm), none, some (.int ru), some (.int li), some (.int (nI ln)), some (.int (nI cc)), u10, u11, u12] [] S r) : Ev scr l (d + 4) M_Md_ways 166 [some (.ref 105), some (.int (nI t)), some (.int (nI i)), some (.int (nI a)), some (.long sm), none, some (.int ru), some (.int li), some (.int (nI ln)), some (.int (nI cc)), u10, u11, u12] [] S r := by
  refine ev_iload i_Md_ways_166 rfl ?_
  refine ev_iload i_Md_ways_168 rfl ?_
  refine ev_icmp_geN i_Md_ways_170 (by omega) (by omega) (fun hc_170 => ?_) (fun hc_170 => ?_)
  · skip
    exact hk
  · skip
    refine ev_lload i_Md_ways_173 rfl ?_
    refine ev_lconst (v := 0) i_Md_ways_175 (by decide) ?_
    refine ev_lif_lt i_Md_ways_176 i_Md_ways_177 (fun hc_177 => ?_) (fun hc_177 => ?_)
    · skip
      exact hk
    · skip
      exact absurd hsm hc_177
theorem lp_wk_over {scr : Scr} {l : Launch} {S : Sto} {t i a d : Nat} {T : TabV} {xs ys : List Nat} {g gt : Nat → Int32} {f : Nat → Int64} {ru li : Int32} {q1 q2 q3 q4 q5 q6 q7 : Int32} {r : Res} (h0 : S.1[105]? = some (mObj q1 q2 q3 q4 q5 q6 q7)) (hg : S.1[106]? = some (aI 417 g)) (ht : S.1[108]? = some (aI 61 gt)) (hy : RowW gt 0 ys) (hw : S.1[126]? = some (aJ 3721 f)) (hi : i < xs.length) (hx60 : xs.length ≤ 60) (ha : a ≤ ys.length) (hf : ∀ b, b ≤ ys.length → f (61 * (i + 1) + b) = enc (Bk T xs ys (xs.length - (i + 1)) b)) (hps : (prodsOf T xs i).length ≤ 3) (hP : ∀ u, u < (prodsOf T xs i).length → ∃ o, o + 5 ≤ 417 ∧ MProd g o ((prodsOf T xs i).getD u []) ∧ PrOK ((prodsOf T xs i).getD u []) ∧ ((¬ ru < 0 ∧ ru = nI o) ∨ (ru < 0 ∧ ∃ ll, li = nI ll ∧ o = ll + 1 + 5 * u))) {m0 : Nat} (hm : m0 < (prodsOf T xs i).length) (hall : ∀ c, c ≤ m0 → (sumN (fun u => if stB ys ((prodsOf T xs i).getD u []) a = true then Bk T xs ys (xs.length - (i + 1)) (a + ((prodsOf T xs i).getD u []).length) else 0) c) < 2 ^ 63) (hov : ¬ (sumN (fun u => if stB ys ((prodsOf T xs i).getD u []) a = true then Bk T xs ys (xs.length - (i + 1)) (a + ((prodsOf T xs i).getD u []).length) else 0) (m0 + 1)) < 2 ^ 63) (hk : ∀ sm, sm < 0 → ∀ u10 u11 u12, Ev scr l (d + 4) M_Md_ways 262 [some (.ref 105), some (.int (nI t)), some (.int (nI i)), some (.int (nI a)), some (.long sm), none, some (.int ru), some (.int li), some (.int (nI (prodsOf T xs i).length)), some (.int (nI (m0 + 1))), u10, u11, u12] [] S r) : ∀ (k c : Nat), c + k = m0 → c ≤ m0 → ∀ u10 u11 u12, Ev scr l (d + 4) M_Md_ways 166 [some (.ref 105), some (.int (nI t)), some (.int (nI i)), some (.int (nI a)), some (.long (nL (sumN (fun u => if stB ys ((prodsOf T xs i).getD u []) a = true then Bk T xs ys (xs.length - (i + 1)) (a + ((prodsOf T xs i).getD u []).length) else 0) c))), none, some (.int ru), some (.int li), some (.int (nI (prodsOf T xs i).length)), some (.int (nI c)), u10, u11, u12] [] S r := by
  intro k
  induction k with
  | zero =>
    intro c hc hc2 u10 u11 u12
    have z : c = m0 := by omega
    subst z
    obtain ⟨o, ho, hmp, hok, hcase⟩ := hP c (by omega)
    have h60 := hy.2.1
    have h4 := hok.1
    have hN : (sumN (fun u => if stB ys ((prodsOf T xs i).getD u []) a = true then Bk T xs ys (xs.length - (i + 1)) (a + ((prodsOf T xs i).getD u []).length) else 0) c) < 2 ^ 63 := hall c (by omega)
    have hst : stB ys ((prodsOf T xs i).getD c []) a = true := by
      cases hst : stB ys ((prodsOf T xs i).getD c []) a with
      | true => rfl
      | false =>
        exfalso
        refine hov ?_
        have ef : (sumN (fun u => if stB ys ((prodsOf T xs i).getD u []) a = true then Bk T xs ys (xs.length - (i + 1)) (a + ((prodsOf T xs i).getD u []).length) else 0) (c + 1)) = (sumN (fun u => if stB ys ((prodsOf T xs i).getD u []) a = true then Bk T xs ys (xs.length - (i + 1)) (a + ((prodsOf T xs i).getD u []).length) else 0) c) + 0 := by
          show (sumN (fun u => if stB ys ((prodsOf T xs i).getD u []) a = true then Bk T xs ys (xs.length - (i + 1)) (a + ((prodsOf T xs i).getD u []).length) else 0) c) + (fun u => if stB ys ((prodsOf T xs i).getD u []) a = true then Bk T xs ys (xs.length - (i + 1)) (a + ((prodsOf T xs i).getD u []).length) else 0) c = _
          dsimp only
          rw [hst]
          rfl
        rw [ef]; exact hN
    have ef : (sumN (fun u => if stB ys ((prodsOf T xs i).getD u []) a = true then Bk T xs ys (xs.length - (i + 1)) (a + ((prodsOf T xs i).getD u []).length) else 0) (c + 1)) = (sumN (fun u => if stB ys ((prodsOf T xs i).getD u []) a = true then Bk T xs ys (xs.length - (i + 1)) (a + ((prodsOf T xs i).getD u []).length) else 0) c) + Bk T xs ys (xs.length - (i + 1)) (a + ((prodsOf T xs i).getD c []).length) := by
      show (sumN (fun u => if stB ys ((prodsOf T xs i).getD u []) a = true then Bk T xs ys (xs.length - (i + 1)) (a + ((prodsOf T xs i).getD u []).length) else 0) c) + (fun u => if stB ys ((prodsOf T xs i).getD u []) a = true then Bk T xs ys (xs.length - (i + 1)) (a + ((prodsOf T xs i).getD u []).length) else 0) c = _
      dsimp only
      rw [hst]
      rfl
    by_cases hB : Bk T xs ys (xs.length - (i + 1)) (a + ((prodsOf T xs i).getD c []).length) < 2 ^ 63
    · skip
      rcases hcase with ⟨hru, eo⟩ | ⟨hru, ll, el, eo⟩
      · subst eo
        refine ev_iload i_Md_ways_166 rfl ?_
        refine ev_iload i_Md_ways_168 rfl ?_
        refine ev_icmp_geN i_Md_ways_170 (by omega) (by omega) (fun hc_170 => ?_) (fun hc_170 => ?_)
        · skip
          exfalso; omega
        · skip
          refine ev_lload i_Md_ways_173 rfl ?_
          refine ev_lconst (v := 0) i_Md_ways_175 (by decide) ?_
          refine ev_lif_lt i_Md_ways_176 i_Md_ways_177 (fun hc_177 => ?_) (fun hc_177 => ?_)
          · skip
            exact absurd hc_177 (nL_pos hN)
          · skip
            refine ev_iload i_Md_ways_180 rfl ?_
            refine ev_if_lt i_Md_ways_182 (fun hc_182 => ?_) (fun hc_182 => ?_)
            · skip
              exact absurd hc_182 hru
            · skip
              refine ev_iload i_Md_ways_185 rfl ?_
              refine ev_goto i_Md_ways_187 ?_
              refine ev_ist_10 i_Md_ways_197 rfl ?_
              refine ev_aload_n i_Md_ways_199 rfl ?_
              refine ev_iload i_Md_ways_200 rfl ?_
              refine ev_iload_n i_Md_ways_202 rfl ?_
              refine ev_callV2 i_Md_ways_203 rfl h0 (Nat.le_of_ble_eq_true rfl) (m_stands h0 hg hmp hok ho ht hy ha) ?_
              rw [hst, bI_t]
              refine ev_if_eqN i_Md_ways_206 (by omega) (fun hc_206 => ?_) (fun hc_206 => ?_)
              · skip
                exfalso; omega
              · skip
                refine ev_aload_n i_Md_ways_209 rfl ?_
                refine ev_get i_Md_ways_210 h0 rfl ?_
                refine ev_bipushN (v := 61) i_Md_ways_213 (by decide) ?_
                refine ev_iload_n i_Md_ways_215 rfl ?_
                refine ev_iconstN (v := 1) i_Md_ways_216 (by decide) ?_
                first | refine ev_iaddN i_Md_ways_217 ?_ | refine ev_iadd i_Md_ways_217 ?_
                first | refine ev_imulN i_Md_ways_218 ?_ | refine ev_imul i_Md_ways_218 ?_
                refine ev_iload_n i_Md_ways_219 rfl ?_
                first | refine ev_iaddN i_Md_ways_220 ?_ | refine ev_iadd i_Md_ways_220 ?_
                refine ev_aload_n i_Md_ways_221 rfl ?_
                refine ev_get i_Md_ways_222 h0 rfl ?_
                refine ev_iload i_Md_ways_225 rfl ?_
                refine ev_ialdN i_Md_ways_227 hg (by omega) (by decide) ?_
                rw [hmp.1]
                first | refine ev_iaddN i_Md_ways_228 ?_ | refine ev_iadd i_Md_ways_228 ?_
                have hsl := stB_le hst
                refine ev_laldN i_Md_ways_229 hw (by omega) (by decide) ?_
                rw [show 61 * (i + 1) + a + ((prodsOf T xs i).getD c []).length = 61 * (i + 1) + (a + ((prodsOf T xs i).getD c []).length) from by omega, hf _ (stB_le hst)]
                refine ev_goto i_Md_ways_230 ?_
                refine ev_lst_11 i_Md_ways_234 rfl ?_
                refine ev_lload i_Md_ways_236 rfl ?_
                refine ev_lconst (v := 0) i_Md_ways_238 (by decide) ?_
                refine ev_lif_ge i_Md_ways_239 i_Md_ways_240 (fun hc_240 => ?_) (fun hc_240 => ?_)
                · skip
                  refine ev_lload i_Md_ways_249 rfl ?_
                  refine ev_lload i_Md_ways_251 rfl ?_
                  refine ev_ladd i_Md_ways_253 ?_
                  refine ev_lst_4 i_Md_ways_254 rfl ?_
                  refine ev_iincN_9 (c := 1) i_Md_ways_256 (by decide) rfl ?_
                  refine ev_goto i_Md_ways_259 ?_
                  rw [enc_lt hB, nL_add]
                  exact lp_wk_neg (nL_big (by omega) (by omega)) (by omega) (by omega) (hk _ (nL_big (by omega) (by omega)) _ _ _)
                · skip
                  exact absurd (enc_neg.mp hc_240) (by rw [Decidable.not_not]; exact hB)
      · subst el
        refine ev_iload i_Md_ways_166 rfl ?_
        refine ev_iload i_Md_ways_168 rfl ?_
        refine ev_icmp_geN i_Md_ways_170 (by omega) (by omega) (fun hc_170 => ?_) (fun hc_170 => ?_)
        · skip
          exfalso; omega
        · skip
          refine ev_lload i_Md_ways_173 rfl ?_
          refine ev_lconst (v := 0) i_Md_ways_175 (by decide) ?_
          refine ev_lif_lt i_Md_ways_176 i_Md_ways_177 (fun hc_177 => ?_) (fun hc_177 => ?_)
          · skip
            exact absurd hc_177 (nL_pos hN)
          · skip
            refine ev_iload i_Md_ways_180 rfl ?_
            refine ev_if_lt i_Md_ways_182 (fun hc_182 => ?_) (fun hc_182 => ?_)
            · skip
              refine ev_iload i_Md_ways_190 rfl ?_
              refine ev_iload i_Md_ways_192 rfl ?_
              refine ev_callS2 i_Md_ways_194 rfl (Nat.le_of_ble_eq_true rfl) m_productionAt ?_
              rw [← eo]
              refine ev_ist_10 i_Md_ways_197 rfl ?_
              refine ev_aload_n i_Md_ways_199 rfl ?_
              refine ev_iload i_Md_ways_200 rfl ?_
              refine ev_iload_n i_Md_ways_202 rfl ?_
              refine ev_callV2 i_Md_ways_203 rfl h0 (Nat.le_of_ble_eq_true rfl) (m_stands h0 hg hmp hok ho ht hy ha) ?_
              rw [hst, bI_t]
              refine ev_if_eqN i_Md_ways_206 (by omega) (fun hc_206 => ?_) (fun hc_206 => ?_)
              · skip
                exfalso; omega
              · skip
                refine ev_aload_n i_Md_ways_209 rfl ?_
                refine ev_get i_Md_ways_210 h0 rfl ?_
                refine ev_bipushN (v := 61) i_Md_ways_213 (by decide) ?_
                refine ev_iload_n i_Md_ways_215 rfl ?_
                refine ev_iconstN (v := 1) i_Md_ways_216 (by decide) ?_
                first | refine ev_iaddN i_Md_ways_217 ?_ | refine ev_iadd i_Md_ways_217 ?_
                first | refine ev_imulN i_Md_ways_218 ?_ | refine ev_imul i_Md_ways_218 ?_
                refine ev_iload_n i_Md_ways_219 rfl ?_
                first | refine ev_iaddN i_Md_ways_220 ?_ | refine ev_iadd i_Md_ways_220 ?_
                refine ev_aload_n i_Md_ways_221 rfl ?_
                refine ev_get i_Md_ways_222 h0 rfl ?_
                refine ev_iload i_Md_ways_225 rfl ?_
                refine ev_ialdN i_Md_ways_227 hg (by omega) (by decide) ?_
                rw [hmp.1]
                first | refine ev_iaddN i_Md_ways_228 ?_ | refine ev_iadd i_Md_ways_228 ?_
                have hsl := stB_le hst
                refine ev_laldN i_Md_ways_229 hw (by omega) (by decide) ?_
                rw [show 61 * (i + 1) + a + ((prodsOf T xs i).getD c []).length = 61 * (i + 1) + (a + ((prodsOf T xs i).getD c []).length) from by omega, hf _ (stB_le hst)]
                refine ev_goto i_Md_ways_230 ?_
                refine ev_lst_11 i_Md_ways_234 rfl ?_
                refine ev_lload i_Md_ways_236 rfl ?_
                refine ev_lconst (v := 0) i_Md_ways_238 (by decide) ?_
                refine ev_lif_ge i_Md_ways_239 i_Md_ways_240 (fun hc_240 => ?_) (fun hc_240 => ?_)
                · skip
                  refine ev_lload i_Md_ways_249 rfl ?_
                  refine ev_lload i_Md_ways_251 rfl ?_
                  refine ev_ladd i_Md_ways_253 ?_
                  refine ev_lst_4 i_Md_ways_254 rfl ?_
                  refine ev_iincN_9 (c := 1) i_Md_ways_256 (by decide) rfl ?_
                  refine ev_goto i_Md_ways_259 ?_
                  rw [enc_lt hB, nL_add]
                  exact lp_wk_neg (nL_big (by omega) (by omega)) (by omega) (by omega) (hk _ (nL_big (by omega) (by omega)) _ _ _)
                · skip
                  exact absurd (enc_neg.mp hc_240) (by rw [Decidable.not_not]; exact hB)
            · skip
              exact absurd hru hc_182
    · skip
      rcases hcase with ⟨hru, eo⟩ | ⟨hru, ll, el, eo⟩
      · subst eo
        refine ev_iload i_Md_ways_166 rfl ?_
        refine ev_iload i_Md_ways_168 rfl ?_
        refine ev_icmp_geN i_Md_ways_170 (by omega) (by omega) (fun hc_170 => ?_) (fun hc_170 => ?_)
        · skip
          exfalso; omega
        · skip
          refine ev_lload i_Md_ways_173 rfl ?_
          refine ev_lconst (v := 0) i_Md_ways_175 (by decide) ?_
          refine ev_lif_lt i_Md_ways_176 i_Md_ways_177 (fun hc_177 => ?_) (fun hc_177 => ?_)
          · skip
            exact absurd hc_177 (nL_pos hN)
          · skip
            refine ev_iload i_Md_ways_180 rfl ?_
            refine ev_if_lt i_Md_ways_182 (fun hc_182 => ?_) (fun hc_182 => ?_)
            · skip
              exact absurd hc_182 hru
            · skip
              refine ev_iload i_Md_ways_185 rfl ?_
              refine ev_goto i_Md_ways_187 ?_
              refine ev_ist_10 i_Md_ways_197 rfl ?_
              refine ev_aload_n i_Md_ways_199 rfl ?_
              refine ev_iload i_Md_ways_200 rfl ?_
              refine ev_iload_n i_Md_ways_202 rfl ?_
              refine ev_callV2 i_Md_ways_203 rfl h0 (Nat.le_of_ble_eq_true rfl) (m_stands h0 hg hmp hok ho ht hy ha) ?_
              rw [hst, bI_t]
              refine ev_if_eqN i_Md_ways_206 (by omega) (fun hc_206 => ?_) (fun hc_206 => ?_)
              · skip
                exfalso; omega
              · skip
                refine ev_aload_n i_Md_ways_209 rfl ?_
                refine ev_get i_Md_ways_210 h0 rfl ?_
                refine ev_bipushN (v := 61) i_Md_ways_213 (by decide) ?_
                refine ev_iload_n i_Md_ways_215 rfl ?_
                refine ev_iconstN (v := 1) i_Md_ways_216 (by decide) ?_
                first | refine ev_iaddN i_Md_ways_217 ?_ | refine ev_iadd i_Md_ways_217 ?_
                first | refine ev_imulN i_Md_ways_218 ?_ | refine ev_imul i_Md_ways_218 ?_
                refine ev_iload_n i_Md_ways_219 rfl ?_
                first | refine ev_iaddN i_Md_ways_220 ?_ | refine ev_iadd i_Md_ways_220 ?_
                refine ev_aload_n i_Md_ways_221 rfl ?_
                refine ev_get i_Md_ways_222 h0 rfl ?_
                refine ev_iload i_Md_ways_225 rfl ?_
                refine ev_ialdN i_Md_ways_227 hg (by omega) (by decide) ?_
                rw [hmp.1]
                first | refine ev_iaddN i_Md_ways_228 ?_ | refine ev_iadd i_Md_ways_228 ?_
                have hsl := stB_le hst
                refine ev_laldN i_Md_ways_229 hw (by omega) (by decide) ?_
                rw [show 61 * (i + 1) + a + ((prodsOf T xs i).getD c []).length = 61 * (i + 1) + (a + ((prodsOf T xs i).getD c []).length) from by omega, hf _ (stB_le hst)]
                refine ev_goto i_Md_ways_230 ?_
                refine ev_lst_11 i_Md_ways_234 rfl ?_
                refine ev_lload i_Md_ways_236 rfl ?_
                refine ev_lconst (v := 0) i_Md_ways_238 (by decide) ?_
                refine ev_lif_ge i_Md_ways_239 i_Md_ways_240 (fun hc_240 => ?_) (fun hc_240 => ?_)
                · skip
                  exact absurd (enc_neg.mpr hB) hc_240
                · skip
                  refine ev_LdcL i_Md_ways_243 ?_
                  refine ev_goto i_Md_ways_246 ?_
                  refine ev_lst_4 i_Md_ways_254 rfl ?_
                  refine ev_iincN_9 (c := 1) i_Md_ways_256 (by decide) rfl ?_
                  refine ev_goto i_Md_ways_259 ?_
                  exact lp_wk_neg (by decide) (by omega) (by omega) (hk _ (by decide) _ _ _)
      · subst el
        refine ev_iload i_Md_ways_166 rfl ?_
        refine ev_iload i_Md_ways_168 rfl ?_
        refine ev_icmp_geN i_Md_ways_170 (by omega) (by omega) (fun hc_170 => ?_) (fun hc_170 => ?_)
        · skip
          exfalso; omega
        · skip
          refine ev_lload i_Md_ways_173 rfl ?_
          refine ev_lconst (v := 0) i_Md_ways_175 (by decide) ?_
          refine ev_lif_lt i_Md_ways_176 i_Md_ways_177 (fun hc_177 => ?_) (fun hc_177 => ?_)
          · skip
            exact absurd hc_177 (nL_pos hN)
          · skip
            refine ev_iload i_Md_ways_180 rfl ?_
            refine ev_if_lt i_Md_ways_182 (fun hc_182 => ?_) (fun hc_182 => ?_)
            · skip
              refine ev_iload i_Md_ways_190 rfl ?_
              refine ev_iload i_Md_ways_192 rfl ?_
              refine ev_callS2 i_Md_ways_194 rfl (Nat.le_of_ble_eq_true rfl) m_productionAt ?_
              rw [← eo]
              refine ev_ist_10 i_Md_ways_197 rfl ?_
              refine ev_aload_n i_Md_ways_199 rfl ?_
              refine ev_iload i_Md_ways_200 rfl ?_
              refine ev_iload_n i_Md_ways_202 rfl ?_
              refine ev_callV2 i_Md_ways_203 rfl h0 (Nat.le_of_ble_eq_true rfl) (m_stands h0 hg hmp hok ho ht hy ha) ?_
              rw [hst, bI_t]
              refine ev_if_eqN i_Md_ways_206 (by omega) (fun hc_206 => ?_) (fun hc_206 => ?_)
              · skip
                exfalso; omega
              · skip
                refine ev_aload_n i_Md_ways_209 rfl ?_
                refine ev_get i_Md_ways_210 h0 rfl ?_
                refine ev_bipushN (v := 61) i_Md_ways_213 (by decide) ?_
                refine ev_iload_n i_Md_ways_215 rfl ?_
                refine ev_iconstN (v := 1) i_Md_ways_216 (by decide) ?_
                first | refine ev_iaddN i_Md_ways_217 ?_ | refine ev_iadd i_Md_ways_217 ?_
                first | refine ev_imulN i_Md_ways_218 ?_ | refine ev_imul i_Md_ways_218 ?_
                refine ev_iload_n i_Md_ways_219 rfl ?_
                first | refine ev_iaddN i_Md_ways_220 ?_ | refine ev_iadd i_Md_ways_220 ?_
                refine ev_aload_n i_Md_ways_221 rfl ?_
                refine ev_get i_Md_ways_222 h0 rfl ?_
                refine ev_iload i_Md_ways_225 rfl ?_
                refine ev_ialdN i_Md_ways_227 hg (by omega) (by decide) ?_
                rw [hmp.1]
                first | refine ev_iaddN i_Md_ways_228 ?_ | refine ev_iadd i_Md_ways_228 ?_
                have hsl := stB_le hst
                refine ev_laldN i_Md_ways_229 hw (by omega) (by decide) ?_
                rw [show 61 * (i + 1) + a + ((prodsOf T xs i).getD c []).length = 61 * (i + 1) + (a + ((prodsOf T xs i).getD c []).length) from by omega, hf _ (stB_le hst)]
                refine ev_goto i_Md_ways_230 ?_
                refine ev_lst_11 i_Md_ways_234 rfl ?_
                refine ev_lload i_Md_ways_236 rfl ?_
                refine ev_lconst (v := 0) i_Md_ways_238 (by decide) ?_
                refine ev_lif_ge i_Md_ways_239 i_Md_ways_240 (fun hc_240 => ?_) (fun hc_240 => ?_)
                · skip
                  exact absurd (enc_neg.mpr hB) hc_240
                · skip
                  refine ev_LdcL i_Md_ways_243 ?_
                  refine ev_goto i_Md_ways_246 ?_
                  refine ev_lst_4 i_Md_ways_254 rfl ?_
                  refine ev_iincN_9 (c := 1) i_Md_ways_256 (by decide) rfl ?_
                  refine ev_goto i_Md_ways_259 ?_
                  exact lp_wk_neg (by decide) (by omega) (by omega) (hk _ (by decide) _ _ _)
            · skip
              exact absurd hru hc_182
  | succ k ih =>
    intro c hc hc2 u10 u11 u12
    obtain ⟨o, ho, hmp, hok, hcase⟩ := hP c (by omega)
    have h60 := hy.2.1
    have h4 := hok.1
    have hN : (sumN (fun u => if stB ys ((prodsOf T xs i).getD u []) a = true then Bk T xs ys (xs.length - (i + 1)) (a + ((prodsOf T xs i).getD u []).length) else 0) c) < 2 ^ 63 := hall c hc2
    cases hst : stB ys ((prodsOf T xs i).getD c []) a with
    | false =>
      rcases hcase with ⟨hru, eo⟩ | ⟨hru, ll, el, eo⟩
      · subst eo
        refine ev_iload i_Md_ways_166 rfl ?_
        refine ev_iload i_Md_ways_168 rfl ?_
        refine ev_icmp_geN i_Md_ways_170 (by omega) (by omega) (fun hc_170 => ?_) (fun hc_170 => ?_)
        · skip
          exfalso; omega
        · skip
          refine ev_lload i_Md_ways_173 rfl ?_
          refine ev_lconst (v := 0) i_Md_ways_175 (by decide) ?_
          refine ev_lif_lt i_Md_ways_176 i_Md_ways_177 (fun hc_177 => ?_) (fun hc_177 => ?_)
          · skip
            exact absurd hc_177 (nL_pos hN)
          · skip
            refine ev_iload i_Md_ways_180 rfl ?_
            refine ev_if_lt i_Md_ways_182 (fun hc_182 => ?_) (fun hc_182 => ?_)
            · skip
              exact absurd hc_182 hru
            · skip
              refine ev_iload i_Md_ways_185 rfl ?_
              refine ev_goto i_Md_ways_187 ?_
              refine ev_ist_10 i_Md_ways_197 rfl ?_
              refine ev_aload_n i_Md_ways_199 rfl ?_
              refine ev_iload i_Md_ways_200 rfl ?_
              refine ev_iload_n i_Md_ways_202 rfl ?_
              refine ev_callV2 i_Md_ways_203 rfl h0 (Nat.le_of_ble_eq_true rfl) (m_stands h0 hg hmp hok ho ht hy ha) ?_
              rw [hst, bI_f]
              refine ev_if_eqN i_Md_ways_206 (by omega) (fun hc_206 => ?_) (fun hc_206 => ?_)
              · skip
                refine ev_lconst (v := 0) i_Md_ways_233 (by decide) ?_
                refine ev_lst_11 i_Md_ways_234 rfl ?_
                refine ev_lload i_Md_ways_236 rfl ?_
                refine ev_lconst (v := 0) i_Md_ways_238 (by decide) ?_
                refine ev_lif_ge i_Md_ways_239 i_Md_ways_240 (fun hc_240 => ?_) (fun hc_240 => ?_)
                · skip
                  refine ev_lload i_Md_ways_249 rfl ?_
                  refine ev_lload i_Md_ways_251 rfl ?_
                  refine ev_ladd i_Md_ways_253 ?_
                  refine ev_lst_4 i_Md_ways_254 rfl ?_
                  refine ev_iincN_9 (c := 1) i_Md_ways_256 (by decide) rfl ?_
                  refine ev_goto i_Md_ways_259 ?_
                  have ef : (sumN (fun u => if stB ys ((prodsOf T xs i).getD u []) a = true then Bk T xs ys (xs.length - (i + 1)) (a + ((prodsOf T xs i).getD u []).length) else 0) (c + 1)) = (sumN (fun u => if stB ys ((prodsOf T xs i).getD u []) a = true then Bk T xs ys (xs.length - (i + 1)) (a + ((prodsOf T xs i).getD u []).length) else 0) c) + 0 := by
                    show (sumN (fun u => if stB ys ((prodsOf T xs i).getD u []) a = true then Bk T xs ys (xs.length - (i + 1)) (a + ((prodsOf T xs i).getD u []).length) else 0) c) + (fun u => if stB ys ((prodsOf T xs i).getD u []) a = true then Bk T xs ys (xs.length - (i + 1)) (a + ((prodsOf T xs i).getD u []).length) else 0) c = _
                    dsimp only
                    rw [hst]
                    rfl
                  have ih2 := ih (c + 1) (by omega) (by omega)
                  rw [ef] at ih2
                  rw [show (0 : Int64) = nL 0 from rfl, nL_add]
                  exact ih2 _ _ _
                · skip
                  exact absurd hc_240 (by decide)
              · skip
                exfalso; omega
      · subst el
        refine ev_iload i_Md_ways_166 rfl ?_
        refine ev_iload i_Md_ways_168 rfl ?_
        refine ev_icmp_geN i_Md_ways_170 (by omega) (by omega) (fun hc_170 => ?_) (fun hc_170 => ?_)
        · skip
          exfalso; omega
        · skip
          refine ev_lload i_Md_ways_173 rfl ?_
          refine ev_lconst (v := 0) i_Md_ways_175 (by decide) ?_
          refine ev_lif_lt i_Md_ways_176 i_Md_ways_177 (fun hc_177 => ?_) (fun hc_177 => ?_)
          · skip
            exact absurd hc_177 (nL_pos hN)
          · skip
            refine ev_iload i_Md_ways_180 rfl ?_
            refine ev_if_lt i_Md_ways_182 (fun hc_182 => ?_) (fun hc_182 => ?_)
            · skip
              refine ev_iload i_Md_ways_190 rfl ?_
              refine ev_iload i_Md_ways_192 rfl ?_
              refine ev_callS2 i_Md_ways_194 rfl (Nat.le_of_ble_eq_true rfl) m_productionAt ?_
              rw [← eo]
              refine ev_ist_10 i_Md_ways_197 rfl ?_
              refine ev_aload_n i_Md_ways_199 rfl ?_
              refine ev_iload i_Md_ways_200 rfl ?_
              refine ev_iload_n i_Md_ways_202 rfl ?_
              refine ev_callV2 i_Md_ways_203 rfl h0 (Nat.le_of_ble_eq_true rfl) (m_stands h0 hg hmp hok ho ht hy ha) ?_
              rw [hst, bI_f]
              refine ev_if_eqN i_Md_ways_206 (by omega) (fun hc_206 => ?_) (fun hc_206 => ?_)
              · skip
                refine ev_lconst (v := 0) i_Md_ways_233 (by decide) ?_
                refine ev_lst_11 i_Md_ways_234 rfl ?_
                refine ev_lload i_Md_ways_236 rfl ?_
                refine ev_lconst (v := 0) i_Md_ways_238 (by decide) ?_
                refine ev_lif_ge i_Md_ways_239 i_Md_ways_240 (fun hc_240 => ?_) (fun hc_240 => ?_)
                · skip
                  refine ev_lload i_Md_ways_249 rfl ?_
                  refine ev_lload i_Md_ways_251 rfl ?_
                  refine ev_ladd i_Md_ways_253 ?_
                  refine ev_lst_4 i_Md_ways_254 rfl ?_
                  refine ev_iincN_9 (c := 1) i_Md_ways_256 (by decide) rfl ?_
                  refine ev_goto i_Md_ways_259 ?_
                  have ef : (sumN (fun u => if stB ys ((prodsOf T xs i).getD u []) a = true then Bk T xs ys (xs.length - (i + 1)) (a + ((prodsOf T xs i).getD u []).length) else 0) (c + 1)) = (sumN (fun u => if stB ys ((prodsOf T xs i).getD u []) a = true then Bk T xs ys (xs.length - (i + 1)) (a + ((prodsOf T xs i).getD u []).length) else 0) c) + 0 := by
                    show (sumN (fun u => if stB ys ((prodsOf T xs i).getD u []) a = true then Bk T xs ys (xs.length - (i + 1)) (a + ((prodsOf T xs i).getD u []).length) else 0) c) + (fun u => if stB ys ((prodsOf T xs i).getD u []) a = true then Bk T xs ys (xs.length - (i + 1)) (a + ((prodsOf T xs i).getD u []).length) else 0) c = _
                    dsimp only
                    rw [hst]
                    rfl
                  have ih2 := ih (c + 1) (by omega) (by omega)
                  rw [ef] at ih2
                  rw [show (0 : Int64) = nL 0 from rfl, nL_add]
                  exact ih2 _ _ _
                · skip
                  exact absurd hc_240 (by decide)
              · skip
                exfalso; omega
            · skip
              exact absurd hru hc_182
    | true =>
      have hB : Bk T xs ys (xs.length - (i + 1)) (a + ((prodsOf T xs i).getD c []).length) < 2 ^ 63 := by
        have h1 := hall (c + 1) (by omega)
        have ef : (sumN (fun u => if stB ys ((prodsOf T xs i).getD u []) a = true then Bk T xs ys (xs.length - (i + 1)) (a + ((prodsOf T xs i).getD u []).length) else 0) (c + 1)) = (sumN (fun u => if stB ys ((prodsOf T xs i).getD u []) a = true then Bk T xs ys (xs.length - (i + 1)) (a + ((prodsOf T xs i).getD u []).length) else 0) c) + Bk T xs ys (xs.length - (i + 1)) (a + ((prodsOf T xs i).getD c []).length) := by
          show (sumN (fun u => if stB ys ((prodsOf T xs i).getD u []) a = true then Bk T xs ys (xs.length - (i + 1)) (a + ((prodsOf T xs i).getD u []).length) else 0) c) + (fun u => if stB ys ((prodsOf T xs i).getD u []) a = true then Bk T xs ys (xs.length - (i + 1)) (a + ((prodsOf T xs i).getD u []).length) else 0) c = _
          dsimp only
          rw [hst]
          rfl
        omega
      rcases hcase with ⟨hru, eo⟩ | ⟨hru, ll, el, eo⟩
      · subst eo
        refine ev_iload i_Md_ways_166 rfl ?_
        refine ev_iload i_Md_ways_168 rfl ?_
        refine ev_icmp_geN i_Md_ways_170 (by omega) (by omega) (fun hc_170 => ?_) (fun hc_170 => ?_)
        · skip
          exfalso; omega
        · skip
          refine ev_lload i_Md_ways_173 rfl ?_
          refine ev_lconst (v := 0) i_Md_ways_175 (by decide) ?_
          refine ev_lif_lt i_Md_ways_176 i_Md_ways_177 (fun hc_177 => ?_) (fun hc_177 => ?_)
          · skip
            exact absurd hc_177 (nL_pos hN)
          · skip
            refine ev_iload i_Md_ways_180 rfl ?_
            refine ev_if_lt i_Md_ways_182 (fun hc_182 => ?_) (fun hc_182 => ?_)
            · skip
              exact absurd hc_182 hru
            · skip
              refine ev_iload i_Md_ways_185 rfl ?_
              refine ev_goto i_Md_ways_187 ?_
              refine ev_ist_10 i_Md_ways_197 rfl ?_
              refine ev_aload_n i_Md_ways_199 rfl ?_
              refine ev_iload i_Md_ways_200 rfl ?_
              refine ev_iload_n i_Md_ways_202 rfl ?_
              refine ev_callV2 i_Md_ways_203 rfl h0 (Nat.le_of_ble_eq_true rfl) (m_stands h0 hg hmp hok ho ht hy ha) ?_
              rw [hst, bI_t]
              refine ev_if_eqN i_Md_ways_206 (by omega) (fun hc_206 => ?_) (fun hc_206 => ?_)
              · skip
                exfalso; omega
              · skip
                refine ev_aload_n i_Md_ways_209 rfl ?_
                refine ev_get i_Md_ways_210 h0 rfl ?_
                refine ev_bipushN (v := 61) i_Md_ways_213 (by decide) ?_
                refine ev_iload_n i_Md_ways_215 rfl ?_
                refine ev_iconstN (v := 1) i_Md_ways_216 (by decide) ?_
                first | refine ev_iaddN i_Md_ways_217 ?_ | refine ev_iadd i_Md_ways_217 ?_
                first | refine ev_imulN i_Md_ways_218 ?_ | refine ev_imul i_Md_ways_218 ?_
                refine ev_iload_n i_Md_ways_219 rfl ?_
                first | refine ev_iaddN i_Md_ways_220 ?_ | refine ev_iadd i_Md_ways_220 ?_
                refine ev_aload_n i_Md_ways_221 rfl ?_
                refine ev_get i_Md_ways_222 h0 rfl ?_
                refine ev_iload i_Md_ways_225 rfl ?_
                refine ev_ialdN i_Md_ways_227 hg (by omega) (by decide) ?_
                rw [hmp.1]
                first | refine ev_iaddN i_Md_ways_228 ?_ | refine ev_iadd i_Md_ways_228 ?_
                have hsl := stB_le hst
                refine ev_laldN i_Md_ways_229 hw (by omega) (by decide) ?_
                rw [show 61 * (i + 1) + a + ((prodsOf T xs i).getD c []).length = 61 * (i + 1) + (a + ((prodsOf T xs i).getD c []).length) from by omega, hf _ (stB_le hst)]
                refine ev_goto i_Md_ways_230 ?_
                refine ev_lst_11 i_Md_ways_234 rfl ?_
                refine ev_lload i_Md_ways_236 rfl ?_
                refine ev_lconst (v := 0) i_Md_ways_238 (by decide) ?_
                refine ev_lif_ge i_Md_ways_239 i_Md_ways_240 (fun hc_240 => ?_) (fun hc_240 => ?_)
                · skip
                  refine ev_lload i_Md_ways_249 rfl ?_
                  refine ev_lload i_Md_ways_251 rfl ?_
                  refine ev_ladd i_Md_ways_253 ?_
                  refine ev_lst_4 i_Md_ways_254 rfl ?_
                  refine ev_iincN_9 (c := 1) i_Md_ways_256 (by decide) rfl ?_
                  refine ev_goto i_Md_ways_259 ?_
                  have ef : (sumN (fun u => if stB ys ((prodsOf T xs i).getD u []) a = true then Bk T xs ys (xs.length - (i + 1)) (a + ((prodsOf T xs i).getD u []).length) else 0) (c + 1)) = (sumN (fun u => if stB ys ((prodsOf T xs i).getD u []) a = true then Bk T xs ys (xs.length - (i + 1)) (a + ((prodsOf T xs i).getD u []).length) else 0) c) + Bk T xs ys (xs.length - (i + 1)) (a + ((prodsOf T xs i).getD c []).length) := by
                    show (sumN (fun u => if stB ys ((prodsOf T xs i).getD u []) a = true then Bk T xs ys (xs.length - (i + 1)) (a + ((prodsOf T xs i).getD u []).length) else 0) c) + (fun u => if stB ys ((prodsOf T xs i).getD u []) a = true then Bk T xs ys (xs.length - (i + 1)) (a + ((prodsOf T xs i).getD u []).length) else 0) c = _
                    dsimp only
                    rw [hst]
                    rfl
                  have ih2 := ih (c + 1) (by omega) (by omega)
                  rw [ef] at ih2
                  rw [enc_lt hB, nL_add]
                  exact ih2 _ _ _
                · skip
                  exact absurd (enc_neg.mp hc_240) (by rw [Decidable.not_not]; exact hB)
      · subst el
        refine ev_iload i_Md_ways_166 rfl ?_
        refine ev_iload i_Md_ways_168 rfl ?_
        refine ev_icmp_geN i_Md_ways_170 (by omega) (by omega) (fun hc_170 => ?_) (fun hc_170 => ?_)
        · skip
          exfalso; omega
        · skip
          refine ev_lload i_Md_ways_173 rfl ?_
          refine ev_lconst (v := 0) i_Md_ways_175 (by decide) ?_
          refine ev_lif_lt i_Md_ways_176 i_Md_ways_177 (fun hc_177 => ?_) (fun hc_177 => ?_)
          · skip
            exact absurd hc_177 (nL_pos hN)
          · skip
            refine ev_iload i_Md_ways_180 rfl ?_
            refine ev_if_lt i_Md_ways_182 (fun hc_182 => ?_) (fun hc_182 => ?_)
            · skip
              refine ev_iload i_Md_ways_190 rfl ?_
              refine ev_iload i_Md_ways_192 rfl ?_
              refine ev_callS2 i_Md_ways_194 rfl (Nat.le_of_ble_eq_true rfl) m_productionAt ?_
              rw [← eo]
              refine ev_ist_10 i_Md_ways_197 rfl ?_
              refine ev_aload_n i_Md_ways_199 rfl ?_
              refine ev_iload i_Md_ways_200 rfl ?_
              refine ev_iload_n i_Md_ways_202 rfl ?_
              refine ev_callV2 i_Md_ways_203 rfl h0 (Nat.le_of_ble_eq_true rfl) (m_stands h0 hg hmp hok ho ht hy ha) ?_
              rw [hst, bI_t]
              refine ev_if_eqN i_Md_ways_206 (by omega) (fun hc_206 => ?_) (fun hc_206 => ?_)
              · skip
                exfalso; omega
              · skip
                refine ev_aload_n i_Md_ways_209 rfl ?_
                refine ev_get i_Md_ways_210 h0 rfl ?_
                refine ev_bipushN (v := 61) i_Md_ways_213 (by decide) ?_
                refine ev_iload_n i_Md_ways_215 rfl ?_
                refine ev_iconstN (v := 1) i_Md_ways_216 (by decide) ?_
                first | refine ev_iaddN i_Md_ways_217 ?_ | refine ev_iadd i_Md_ways_217 ?_
                first | refine ev_imulN i_Md_ways_218 ?_ | refine ev_imul i_Md_ways_218 ?_
                refine ev_iload_n i_Md_ways_219 rfl ?_
                first | refine ev_iaddN i_Md_ways_220 ?_ | refine ev_iadd i_Md_ways_220 ?_
                refine ev_aload_n i_Md_ways_221 rfl ?_
                refine ev_get i_Md_ways_222 h0 rfl ?_
                refine ev_iload i_Md_ways_225 rfl ?_
                refine ev_ialdN i_Md_ways_227 hg (by omega) (by decide) ?_
                rw [hmp.1]
                first | refine ev_iaddN i_Md_ways_228 ?_ | refine ev_iadd i_Md_ways_228 ?_
                have hsl := stB_le hst
                refine ev_laldN i_Md_ways_229 hw (by omega) (by decide) ?_
                rw [show 61 * (i + 1) + a + ((prodsOf T xs i).getD c []).length = 61 * (i + 1) + (a + ((prodsOf T xs i).getD c []).length) from by omega, hf _ (stB_le hst)]
                refine ev_goto i_Md_ways_230 ?_
                refine ev_lst_11 i_Md_ways_234 rfl ?_
                refine ev_lload i_Md_ways_236 rfl ?_
                refine ev_lconst (v := 0) i_Md_ways_238 (by decide) ?_
                refine ev_lif_ge i_Md_ways_239 i_Md_ways_240 (fun hc_240 => ?_) (fun hc_240 => ?_)
                · skip
                  refine ev_lload i_Md_ways_249 rfl ?_
                  refine ev_lload i_Md_ways_251 rfl ?_
                  refine ev_ladd i_Md_ways_253 ?_
                  refine ev_lst_4 i_Md_ways_254 rfl ?_
                  refine ev_iincN_9 (c := 1) i_Md_ways_256 (by decide) rfl ?_
                  refine ev_goto i_Md_ways_259 ?_
                  have ef : (sumN (fun u => if stB ys ((prodsOf T xs i).getD u []) a = true then Bk T xs ys (xs.length - (i + 1)) (a + ((prodsOf T xs i).getD u []).length) else 0) (c + 1)) = (sumN (fun u => if stB ys ((prodsOf T xs i).getD u []) a = true then Bk T xs ys (xs.length - (i + 1)) (a + ((prodsOf T xs i).getD u []).length) else 0) c) + Bk T xs ys (xs.length - (i + 1)) (a + ((prodsOf T xs i).getD c []).length) := by
                    show (sumN (fun u => if stB ys ((prodsOf T xs i).getD u []) a = true then Bk T xs ys (xs.length - (i + 1)) (a + ((prodsOf T xs i).getD u []).length) else 0) c) + (fun u => if stB ys ((prodsOf T xs i).getD u []) a = true then Bk T xs ys (xs.length - (i + 1)) (a + ((prodsOf T xs i).getD u []).length) else 0) c = _
                    dsimp only
                    rw [hst]
                    rfl
                  have ih2 := ih (c + 1) (by omega) (by omega)
                  rw [ef] at ih2
                  rw [enc_lt hB, nL_add]
                  exact ih2 _ _ _
                · skip
                  exact absurd (enc_neg.mp hc_240) (by rw [Decidable.not_not]; exact hB)
            · skip
              exact absurd hru hc_182

/-! new double[2][122] -/
section RulesMn
variable {scr : Scr} {l : Launch} {d : Nat} {M : Mth} {pc : Nat} {L : List (Option Value)} {st : List Value} {S : Sto} {r : Res}
def iMna (M : Mth) (pc : Nat) : Prop := ∃ ix : Nat, decode M.2.1 pc = .ok (.multianewarray ix 2, 4) ∧ Cond.classLink M.1.cls ix "[[D" ∈ lw_good ∧ Cond.arrayClass .double ∈ lw_good
theorem ev_mna {a n0 : Nat} {f0 : Nat → UInt64} (h : iMna M pc) (hd : S.1[a]? = some (aD n0 f0)) (hl : S.1.length < 990)
    (k : Ev scr l d M (pc + 4) L (.ref S.1.length :: st) (S.1 ++ [aQQ 2 (fun i => if i < 2 then some (S.1.length + 1 + i) else none), aD 122 (fun _ => 0), aD 122 (fun _ => 0)], S.2.1 + 3, S.2.2 + 246) r) : Ev scr l d M pc L (.int (nI 122) :: .int (nI 2) :: st) S r := by
  obtain ⟨ix, hdec, hlk, harr⟩ := h
  have k1 : S.2.1 + 3 ≤ r.2.2.1 ∧ S.2.2 + 246 ≤ r.2.2.2 := k.1
  refine ⟨⟨by omega, by omega⟩, fun p e R s m args below meth c ρ dC dI A ws0 mc ms Q hC hR hE H locs cells slots ws tys ls st0 hW hL hS hc hs => ?_⟩
  obtain ⟨v1, r1, rfl, hv1, hS⟩ := hS
  have hv1 : v1 = .int (nI 122) := hv1
  subst hv1
  obtain ⟨v0, r0, rfl, hv0, hS⟩ := hS
  have hv0 : v0 = .int (nI 2) := hv0
  subst hv0
  have hg : ∀ w ∈ lw_good, w.before args s = true := hC.2.2.2.2.1
  have hao : va_AOA .double s := hC.2.2.2.2.2.2.2.2.2.1.2.2.2.2.2.2.2.2.2.2.2.2
  obtain ⟨a', e', hwa, cy, x', rfl, ⟨t0, ht0⟩, -⟩ := hW.1.2.2 a _ hd
  have hcy : s.vm.findClass (FieldType.array .double).toString = some cy := (hW.2.2.2.1.2 t0 _ ht0).2
  have hP0 : va_P (dC, dI) vwCl (ws ++ va_pl [] (fun _ => .inr (0, []))) H := by
    show va_P (dC, dI) vwCl (ws ++ []) H
    rw [List.append_nil]
    exact hW.2.2.1
  have hD0 : va_D A (ws ++ va_pl [] (fun _ => .inr (0, []))) := by
    show va_D A (ws ++ [])
    rw [List.append_nil]
    exact hW.2.2.2.2.1
  refine va_mna (N' := 2) (K' := 122) (z := (122, .inr (.inr (.inr (.inl (fun _ => 0)))))) hC.1 hC.2.1 hC.2.2.2.2.2.1 (hg _ hlk) hao (hg _ harr) hcy hW.2.2.2.1 hP0 hD0 hW.2.2.2.2.2 hC.2.2.2.2.2.2.2.2.2.2.1 (by decide) (by decide) (by decide) (by decide) (by decide) (by decide) (by decide) rfl rfl (by omega) (by omega) (fun c => ?_) hdec (fun q rr cA H1 hinj hnl hK hP hD hS1 => ?_)
  · show ({ cls := c, slots := Array.replicate 122 (defaultValue .double), vm := .none } : Cell) = _
    rw [arrV_new]
    rfl
  · have ee : (ws ++ [(q, .inl (cA, 2, .inr (.inr (.inr (.inr (fun i => if i < 2 then some (rr i) else none))))))]) ++ va_pl ([] ++ (List.range 2).map rr) (vr_up (fun _ => .inr (0, [])) ((List.range 2).map rr) (.inl (cy, 122, .inr (.inr (.inr (.inl (fun _ => 0))))))) = ws ++ [(q, .inl (cA, 2, .inr (.inr (.inr (.inr (fun i => if i < 2 then some (rr i) else none)))))), (rr 0, .inl (cy, 122, .inr (.inr (.inr (.inl (fun _ => 0)))))), (rr 1, .inl (cy, 122, .inr (.inr (.inr (.inl (fun _ => 0))))))] := by
      rw [List.append_assoc]
      congr 1
      show (q, .inl (cA, 2, .inr (.inr (.inr (.inr (fun i => if i < 2 then some (rr i) else none)))))) :: va_pl [rr 0, rr 1] (vr_up (fun _ => .inr (0, [])) [rr 0, rr 1] (.inl (cy, 122, .inr (.inr (.inr (.inl (fun _ => 0))))))) = _
      unfold va_pl
      rw [List.map_cons, List.map_cons, List.map_nil, vr_up_in (by simp), vr_up_in (by simp)]
    rw [ee] at hP hD
    have hX : Ext ws (ws ++ [(q, .inl (cA, 2, .inr (.inr (.inr (.inr (fun i => if i < 2 then some (rr i) else none)))))), (rr 0, .inl (cy, 122, .inr (.inr (.inr (.inl (fun _ => 0)))))), (rr 1, .inl (cy, 122, .inr (.inr (.inr (.inl (fun _ => 0))))))]) := Ext.app _ _
    have hn := hW.1.1
    have hty' : ∀ (t : Nat) (q : ClassId × FieldType), tys[t]? = some q → ∃ t' : Nat, (tys ++ [(cA, .array .double)])[t']? = some q := fun t q hq => ⟨t, by rw [List.getElem?_append_left (List.getElem?_eq_some_iff.mp hq).1]; exact hq⟩
    have g0 : (ws ++ [(q, .inl (cA, 2, .inr (.inr (.inr (.inr (fun i => if i < 2 then some (rr i) else none)))))), (rr 0, .inl (cy, 122, .inr (.inr (.inr (.inl (fun _ => 0)))))), (rr 1, .inl (cy, 122, .inr (.inr (.inr (.inl (fun _ => 0))))))])[S.1.length]? = some (q, .inl (cA, 2, .inr (.inr (.inr (.inr (fun i => if i < 2 then some (rr i) else none)))))) := by rw [List.getElem?_append_right (by omega), show S.1.length - ws.length = 0 by omega]; rfl
    have g1 : (ws ++ [(q, .inl (cA, 2, .inr (.inr (.inr (.inr (fun i => if i < 2 then some (rr i) else none)))))), (rr 0, .inl (cy, 122, .inr (.inr (.inr (.inl (fun _ => 0)))))), (rr 1, .inl (cy, 122, .inr (.inr (.inr (.inl (fun _ => 0))))))])[S.1.length + 1]? = some (rr 0, .inl (cy, 122, .inr (.inr (.inr (.inl (fun _ => 0)))))) := by rw [List.getElem?_append_right (by omega), show S.1.length + 1 - ws.length = 1 by omega]; rfl
    have g2 : (ws ++ [(q, .inl (cA, 2, .inr (.inr (.inr (.inr (fun i => if i < 2 then some (rr i) else none)))))), (rr 0, .inl (cy, 122, .inr (.inr (.inr (.inl (fun _ => 0)))))), (rr 1, .inl (cy, 122, .inr (.inr (.inr (.inl (fun _ => 0))))))])[S.1.length + 1 + 1]? = some (rr 1, .inl (cy, 122, .inr (.inr (.inr (.inl (fun _ => 0)))))) := by rw [List.getElem?_append_right (by omega), show S.1.length + 1 + 1 - ws.length = 2 by omega]; rfl
    have k0 : ∀ j a e, (ws ++ [(q, .inl (cA, 2, .inr (.inr (.inr (.inr (fun i => if i < 2 then some (rr i) else none)))))), (rr 0, .inl (cy, 122, .inr (.inr (.inr (.inl (fun _ => 0)))))), (rr 1, .inl (cy, 122, .inr (.inr (.inr (.inl (fun _ => 0))))))])[j]? = some (a, e) → j < 1000 → lkA ρ (ws ++ [(q, .inl (cA, 2, .inr (.inr (.inr (.inr (fun i => if i < 2 then some (rr i) else none)))))), (rr 0, .inl (cy, 122, .inr (.inr (.inr (.inl (fun _ => 0)))))), (rr 1, .inl (cy, 122, .inr (.inr (.inr (.inl (fun _ => 0))))))]) j = some a := fun j a e hj h1 => by
      unfold lkA
      rw [if_neg (by omega), hj]
      rfl
    have hWR : WR ρ (ws ++ [(q, .inl (cA, 2, .inr (.inr (.inr (.inr (fun i => if i < 2 then some (rr i) else none)))))), (rr 0, .inl (cy, 122, .inr (.inr (.inr (.inl (fun _ => 0)))))), (rr 1, .inl (cy, 122, .inr (.inr (.inr (.inl (fun _ => 0))))))]) (tys ++ [(cA, .array .double)]) (S.1 ++ [aQQ 2 (fun i => if i < 2 then some (S.1.length + 1 + i) else none), aD 122 (fun _ => 0), aD 122 (fun _ => 0)]) := by
      refine ⟨by simp [hn], by simp; omega, fun j cc hj => ?_⟩
      by_cases hlt : j < S.1.length
      · rw [List.getElem?_append_left hlt] at hj
        obtain ⟨a1, e1, h1, h2⟩ := hW.1.2.2 j cc hj
        exact ⟨a1, e1, by rw [List.getElem?_append_left (by omega)]; exact h1, CR.mono hX hty' h2⟩
      · rw [List.getElem?_append_right (by omega)] at hj
        have hj3 : j - S.1.length < 3 := (List.getElem?_eq_some_iff.mp hj).1
        rcases (show j = S.1.length ∨ j = S.1.length + 1 ∨ j = S.1.length + 1 + 1 by omega) with rfl | rfl | rfl
        · rw [Nat.sub_self] at hj
          cases hj
          refine ⟨_, _, g0, cA, _, rfl, ⟨tys.length, by simp⟩, rfl, _, rfl, fun i => ⟨fun q => ?_, fun b q => ?_⟩⟩
          · dsimp only at q
            by_cases w : i < 2
            · rw [if_pos w] at q; cases q
            · exact if_neg w
          · dsimp only at q
            by_cases w : i < 2
            · rw [if_pos w] at q
              cases q
              refine ⟨rr i, ?_, if_pos w⟩
              rcases (show i = 0 ∨ i = 1 by omega) with rfl | rfl
              · exact k0 _ _ _ g1 (by omega)
              · exact k0 _ _ _ g2 (by omega)
            · rw [if_neg w] at q; cases q
        · rw [show S.1.length + 1 - S.1.length = 1 by omega] at hj
          cases hj
          exact ⟨_, _, g1, cy, _, rfl, hty' t0 _ ht0, rfl, rfl⟩
        · rw [show S.1.length + 1 + 1 - S.1.length = 2 by omega] at hj
          cases hj
          exact ⟨_, _, g2, cy, _, rfl, hty' t0 _ ht0, rfl, rfl⟩
    exact k.2 p e R s m args below meth c ρ dC dI A ws0 mc ms Q hC hR hE H1 locs _ _ _ _ ls _ ⟨hWR, hW.2.1.tr hX, hP, hK, hD, hS1⟩ (LR.mono hX hL) ⟨_, _, rfl, ⟨q, k0 _ _ _ g0 (by omega), rfl⟩, SR.mono hX hS⟩ (by show cells + 1 + 2 + r.2.2.1 = mc + (S.2.1 + 3); omega) (by show slots + 2 + 2 * 122 + r.2.2.2 = ms + (S.2.2 + 246); omega)
end RulesMn
theorem i_Pr_init_129 : iMna M_Pr_init 129 := ⟨82, (by decide +kernel : decode prog_1_method_1_code 129 = .ok (.multianewarray 82 2, 4)), lw_k2 89 rfl rfl, lw_k2 88 rfl rfl⟩

/-! the model m: words and rules in rows -/
def putw (g : Nat → Int32) (o : Nat) (xs : List Nat) (i : Nat) : Nat → Int32 := fillF (upd g o (nI xs.length)) (o + 1) (fun j => nI (xs.getD j 0)) i
theorem putw_0 (g : Nat → Int32) (o : Nat) (xs : List Nat) : putw g o xs 0 = upd g o (nI xs.length) := fillF_0 _ _ _
theorem putw_s {g : Nat → Int32} {o i : Nat} {cs : List Nat} (h : i < cs.length) : upd (putw g o (wOf cs) i) (o + 1 + i) (nI (cs.getD i 0 - 97)) = putw g o (wOf cs) (i + 1) := by
  rw [← wOf_get h]
  exact fillF_s _ _ _ _
theorem putw_in {g : Nat → Int32} {o j : Nat} {xs : List Nat} (h : j < xs.length) : putw g o xs xs.length (o + 1 + j) = nI (xs.getD j 0) := by
  unfold putw fillF
  rw [if_pos (by omega), Nat.add_sub_cancel_left]
theorem putw_hd {g : Nat → Int32} {o : Nat} {xs : List Nat} : putw g o xs xs.length o = nI xs.length := by
  unfold putw fillF upd
  rw [if_neg (by omega), if_pos rfl]
theorem putw_out {g : Nat → Int32} {o j : Nat} {xs : List Nat} (h : j < o ∨ o + 1 + xs.length ≤ j) : putw g o xs xs.length j = g j := by
  unfold putw fillF upd
  rw [if_neg (by omega), if_neg (by omega)]
theorem upd_self {g : Nat → Int32} {o : Nat} {v : Int32} : upd g o v o = v := by unfold upd; rw [if_pos rfl]
theorem upd_ne {g : Nat → Int32} {o j : Nat} {v : Int32} (h : j ≠ o) : upd g o v j = g j := by unfold upd; rw [if_neg h]
theorem MProd.ext {g g' : Nat → Int32} {o : Nat} {p : List Nat} (hp : PrOK p) (h : MProd g o p) (he : ∀ j, o ≤ j → j < o + 5 → g' j = g j) : MProd g' o p :=
  ⟨by rw [he _ (by omega) (by omega)]; exact h.1, fun i hi => by rw [he _ (by omega) (by have := hp.1; omega)]; exact h.2 i hi⟩
theorem MProd.put {g : Nat → Int32} {o : Nat} {p : List Nat} : MProd (putw g o p p.length) o p := ⟨putw_hd, fun i hi => putw_in hi⟩
theorem MList.ext {g g' : Nat → Int32} {o : Nat} {ps : List (List Nat)} (h : MList g o ps) (he : ∀ j, o ≤ j → j < o + 16 → g' j = g j) : MList g' o ps := by
  obtain ⟨h1, h2, h3, h4⟩ := h
  exact ⟨by rw [he _ (by omega) (by omega)]; exact h1, h2, h3, fun k hk => ⟨(h4 k hk).1.ext (h4 k hk).2 (fun j a b => he j (by omega) (by omega)), (h4 k hk).2⟩⟩
theorem MRule.ext {g g' : Nat → Int32} {o : Nat} {e : RuleV} (h : MRule g o e) (he : ∀ j, o ≤ j → j < o + 7 → g' j = g j) : MRule g' o e := by
  obtain ⟨h1, h2, h3, h4, h5⟩ := h
  exact ⟨by rw [he _ (by omega) (by omega)]; exact h1, by rw [he _ (by omega) (by omega)]; exact h2, h3.ext h4 (fun j a b => he j (by omega) (by omega)), h4, h5⟩
theorem MRules.ext {g g' : Nat → Int32} {t m : Nat} {r : Nat → RuleV} (h : MRules g t m r) (he : ∀ j, 139 * t + 96 ≤ j → j < 139 * t + 139 → g' j = g j) : MRules g' t m r := by
  obtain ⟨h1, h2, h3, h4⟩ := h
  exact ⟨by rw [he _ (by omega) (by omega)]; exact h1, h2, fun k hk => (h3 k hk).ext (fun j a b => he j (by omega) (by omega)), h4⟩
theorem MTab.ext {g g' : Nat → Int32} {t : Nat} {T : TabV} (h : MTab g t T) (he : ∀ j, 139 * t ≤ j → j < 139 * t + 139 → g' j = g j) : MTab g' t T := by
  obtain ⟨h1, m, r, h2, h3⟩ := h
  exact ⟨fun a ha => (h1 a ha).ext (fun j p q => he j (by omega) (by omega)), m, r, h2.ext (fun j p q => he j (by omega) (by omega)), h3⟩
theorem MTab.setL {g : Nat → Int32} {t a : Nat} {T : TabV} {xs : List Nat} (h : MTab g t T) (ha : a < 6) (hx : PrOK xs) : MTab (putw (upd g (139 * t + 16 * a) (nI 1)) (139 * t + 16 * a + 1 + 5 * 0) xs xs.length) t (setList T a xs) := by
  obtain ⟨h1, m, r, h2, h3⟩ := h
  have h4 := hx.1
  refine ⟨fun b hb => ?_, m, r, h2.ext (fun j p q => ?_), h3⟩
  · show MList _ _ (if b = a then [xs] else T.1 b)
    by_cases z : b = a
    · subst z
      rw [if_pos rfl]
      refine ⟨?_, Nat.le_refl _, by simp, fun k hk => ?_⟩
      · rw [putw_out (by omega), upd_self]; rfl
      · have hk0 : k = 0 := by simp at hk; exact hk
        subst hk0
        exact ⟨MProd.put, hx⟩
    · rw [if_neg z]
      refine (h1 b hb).ext (fun j p q => ?_)
      rw [putw_out (by omega), upd_ne (by omega)]
  · rw [putw_out (by omega), upd_ne (by omega)]
theorem MTab.addL {g : Nat → Int32} {t a : Nat} {T : TabV} {xs : List Nat} (h : MTab g t T) (ha : a < 6) (hx : PrOK xs) (h3' : (T.1 a).length < 3) : MTab (upd (putw g (139 * t + 16 * a + 1 + 5 * (T.1 a).length) xs xs.length) (139 * t + 16 * a) (nI ((T.1 a).length + 1))) t (addList T a xs) := by
  obtain ⟨h1, m, r, h2, h3⟩ := h
  have h4 := hx.1
  refine ⟨fun b hb => ?_, m, r, h2.ext (fun j p q => ?_), h3⟩
  · show MList _ _ (if b = a then T.1 a ++ [xs] else T.1 b)
    by_cases z : b = a
    · subst z
      rw [if_pos rfl]
      obtain ⟨l1, l2, l3, l4⟩ := h1 b hb
      refine ⟨?_, by simp, by simp; omega, fun k hk => ?_⟩
      · rw [upd_self]; simp
      · by_cases hk0 : k = (T.1 b).length
        · subst hk0
          have e : (T.1 b ++ [xs]).getD (T.1 b).length [] = xs := by simp [List.getD]
          rw [e]
          refine ⟨MProd.put.ext hx (fun j p q => upd_ne (by omega)), hx⟩
        · have hk1 : k < (T.1 b).length := by simp at hk; omega
          have e : (T.1 b ++ [xs]).getD k [] = (T.1 b).getD k [] := by
            rw [List.getD_eq_getElem?_getD, List.getD_eq_getElem?_getD, List.getElem?_append_left hk1]
          rw [e]
          refine ⟨(l4 k hk1).1.ext (l4 k hk1).2 (fun j p q => ?_), (l4 k hk1).2⟩
          rw [upd_ne (by omega), putw_out (by omega)]
    · rw [if_neg z]
      refine (h1 b hb).ext (fun j p q => ?_)
      rw [upd_ne (by omega), putw_out (by omega)]
  · rw [upd_ne (by omega), putw_out (by omega)]
/-- what a table's rules are -/
def RulesIs (T : TabV) (m : Nat) (r : Nat → RuleV) : Prop := (∀ a b p, a < 6 → b < 6 → (T.2 a b = some p ↔ ∃ k, k < m ∧ r k = (a, b, p))) ∧ rcount T = m
theorem MTab.setR {g : Nat → Int32} {t a b k m : Nat} {r : Nat → RuleV} {T : TabV} {xs : List Nat} (h1 : ∀ a, a < 6 → MList g (139 * t + 16 * a) (T.1 a)) (h2 : MRules g t m r) (h3 : RulesIs T m r) (ha : a < 6) (hb : b < 6) (hx : PrOK xs) (hk : k < m) (e1 : (r k).1 = a) (e2 : (r k).2.1 = b) : MTab (putw g (139 * t + 96 + 1 + 7 * k + 2) xs xs.length) t (setRule T a b xs) := by
  obtain ⟨r1, r2, r3, r4⟩ := h2
  have h4 := hx.1
  have hs : (T.2 a b).isSome := by
    rw [(h3.1 a b (r k).2.2 ha hb).mpr ⟨k, hk, by rw [← e1, ← e2]⟩]; rfl
  refine ⟨fun c hc => (h1 c hc).ext (fun j p q => putw_out (by omega)), m, fun i => if i = k then (a, b, xs) else r i, ⟨?_, r2, fun i hi => ?_, ?_⟩, ?_, ?_⟩
  · rw [putw_out (by omega)]; exact r1
  · by_cases z : i = k
    · subst z
      dsimp only
      rw [if_pos rfl]
      obtain ⟨q1, q2, q3, q4, q5⟩ := r3 i hi
      refine ⟨?_, ?_, ?_, hx, ha, hb⟩
      · rw [putw_out (by omega), q1, e1]
      · rw [putw_out (by omega), q2, e2]
      · exact MProd.put
    · dsimp only
      rw [if_neg z]
      exact (r3 i hi).ext (fun j p q => putw_out (by omega))
  · intro i j hi hj
    dsimp only
    by_cases zi : i = k
    · by_cases zj : j = k
      · intro _ _; omega
      · rw [if_pos zi, if_neg zj]
        intro x y
        have := r4 k j hk hj (by rw [e1]; exact x) (by rw [e2]; exact y)
        omega
    · by_cases zj : j = k
      · rw [if_neg zi, if_pos zj]
        intro x y
        have := r4 i k hi hk (by rw [e1]; exact x) (by rw [e2]; exact y)
        omega
      · rw [if_neg zi, if_neg zj]
        exact r4 i j hi hj
  · intro x y p hx6 hy6
    show (if x = a ∧ y = b then some xs else T.2 x y) = some p ↔ _
    by_cases z : x = a ∧ y = b
    · rw [if_pos z]
      constructor
      · intro q
        exact ⟨k, hk, by dsimp only; rw [if_pos rfl, z.1, z.2, Option.some.inj q]⟩
      · rintro ⟨i, hi, q⟩
        dsimp only at q
        by_cases zi : i = k
        · rw [if_pos zi] at q
          rw [(Prod.mk.inj (Prod.mk.inj q).2).2]
        · rw [if_neg zi] at q
          have := r4 i k hi hk (by rw [q, e1]; exact z.1) (by rw [q, e2]; exact z.2)
          omega
    · rw [if_neg z, h3.1 x y p hx6 hy6]
      constructor
      · rintro ⟨i, hi, q⟩
        refine ⟨i, hi, ?_⟩
        dsimp only
        by_cases zi : i = k
        · exfalso
          subst zi
          rw [q] at e1 e2
          exact z ⟨e1, e2⟩
        · rw [if_neg zi]; exact q
      · rintro ⟨i, hi, q⟩
        dsimp only at q
        by_cases zi : i = k
        · rw [if_pos zi] at q
          exact absurd ⟨(Prod.mk.inj q).1.symm, (Prod.mk.inj (Prod.mk.inj q).2).1.symm⟩ z
        · rw [if_neg zi] at q
          exact ⟨i, hi, q⟩
  · rw [rcount_set ha hb, if_pos hs]
    exact h3.2
theorem MTab.addR {g : Nat → Int32} {t a b m : Nat} {r : Nat → RuleV} {T : TabV} {xs : List Nat} (h1 : ∀ a, a < 6 → MList g (139 * t + 16 * a) (T.1 a)) (h2 : MRules g t m r) (h3 : RulesIs T m r) (ha : a < 6) (hb : b < 6) (hx : PrOK xs) (hm : m < 6) (hno : ∀ k, k < m → ¬ ((r k).1 = a ∧ (r k).2.1 = b)) : MTab (putw (upd (upd (upd g (139 * t + 96 + 1 + 7 * m) (nI a)) (139 * t + 96 + 1 + 7 * m + 1) (nI b)) (139 * t + 96) (nI (m + 1))) (139 * t + 96 + 1 + 7 * m + 2) xs xs.length) t (setRule T a b xs) := by
  obtain ⟨r1, r2, r3, r4⟩ := h2
  have h4 := hx.1
  have hs : ¬ (T.2 a b).isSome := by
    intro q
    obtain ⟨p, q⟩ := Option.isSome_iff_exists.mp q
    obtain ⟨k, hk, e⟩ := (h3.1 a b p ha hb).mp q
    exact hno k hk (by rw [e]; exact ⟨rfl, rfl⟩)
  have hout : ∀ j, ¬ (j = 139 * t + 96) → ¬ (139 * t + 96 + 1 + 7 * m ≤ j ∧ j < 139 * t + 96 + 1 + 7 * m + 7) → putw (upd (upd (upd g (139 * t + 96 + 1 + 7 * m) (nI a)) (139 * t + 96 + 1 + 7 * m + 1) (nI b)) (139 * t + 96) (nI (m + 1))) (139 * t + 96 + 1 + 7 * m + 2) xs xs.length j = g j := fun j p q => by
    rw [putw_out (by omega), upd_ne (by omega), upd_ne (by omega), upd_ne (by omega)]
  refine ⟨fun c hc => (h1 c hc).ext (fun j p q => hout j (by omega) (by omega)), m + 1, fun i => if i = m then (a, b, xs) else r i, ⟨?_, hm, fun i hi => ?_, ?_⟩, ?_, ?_⟩
  · rw [putw_out (by omega), upd_self]
  · by_cases z : i = m
    · subst z
      dsimp only
      rw [if_pos rfl]
      refine ⟨?_, ?_, ?_, hx, ha, hb⟩
      · rw [putw_out (by omega), upd_ne (by omega), upd_ne (by omega)]
        exact upd_self
      · rw [putw_out (by omega), upd_ne (by omega)]
        exact upd_self
      · exact MProd.put
    · dsimp only
      rw [if_neg z]
      exact (r3 i (by omega)).ext (fun j p q => hout j (by omega) (by omega))
  · intro i j hi hj
    dsimp only
    by_cases zi : i = m
    · by_cases zj : j = m
      · intro _ _; omega
      · rw [if_pos zi, if_neg zj]
        intro x y
        exact absurd ⟨x.symm, y.symm⟩ (hno j (by omega))
    · by_cases zj : j = m
      · rw [if_neg zi, if_pos zj]
        intro x y
        exact absurd ⟨x, y⟩ (hno i (by omega))
      · rw [if_neg zi, if_neg zj]
        exact r4 i j (by omega) (by omega)
  · intro x y p hx6 hy6
    show (if x = a ∧ y = b then some xs else T.2 x y) = some p ↔ _
    by_cases z : x = a ∧ y = b
    · rw [if_pos z]
      constructor
      · intro q
        exact ⟨m, by omega, by dsimp only; rw [if_pos rfl, z.1, z.2, Option.some.inj q]⟩
      · rintro ⟨i, hi, q⟩
        dsimp only at q
        by_cases zi : i = m
        · rw [if_pos zi] at q
          rw [(Prod.mk.inj (Prod.mk.inj q).2).2]
        · rw [if_neg zi] at q
          exact absurd (by rw [q]; exact z) (hno i (by omega))
    · rw [if_neg z, h3.1 x y p hx6 hy6]
      constructor
      · rintro ⟨i, hi, q⟩
        refine ⟨i, by omega, ?_⟩
        dsimp only
        rw [if_neg (by omega)]; exact q
      · rintro ⟨i, hi, q⟩
        dsimp only at q
        by_cases zi : i = m
        · rw [if_pos zi] at q
          exact absurd ⟨(Prod.mk.inj q).1.symm, (Prod.mk.inj (Prod.mk.inj q).2).1.symm⟩ z
        · rw [if_neg zi] at q
          exact ⟨i, by omega, q⟩
  · rw [rcount_set ha hb, if_neg hs, h3.2]
theorem MTab.delR {g : Nat → Int32} {t a b k m : Nat} {r : Nat → RuleV} {T : TabV} (h1 : ∀ a, a < 6 → MList g (139 * t + 16 * a) (T.1 a)) (h2 : MRules g t m r) (h3 : RulesIs T m r) (ha : a < 6) (hb : b < 6) (hk : k < m) (e1 : (r k).1 = a) (e2 : (r k).2.1 = b) {g1 : Nat → Int32} (hg : ∀ j, g1 j = if 139 * t + 96 + 1 + 7 * k ≤ j ∧ j < 139 * t + 96 + 1 + 7 * k + 7 then g (j - (139 * t + 96 + 1 + 7 * k) + (139 * t + 96 + 1 + 7 * (m - 1))) else g j) : MTab (upd g1 (139 * t + 96) (nI (m - 1))) t (delRule T a b) := by
  obtain ⟨r1, r2, r3, r4⟩ := h2
  have hs : (T.2 a b).isSome := by
    rw [(h3.1 a b (r k).2.2 ha hb).mpr ⟨k, hk, by rw [← e1, ← e2]⟩]; rfl
  have hout : ∀ j, ¬ (j = 139 * t + 96) → ¬ (139 * t + 96 + 1 + 7 * k ≤ j ∧ j < 139 * t + 96 + 1 + 7 * k + 7) → upd g1 (139 * t + 96) (nI (m - 1)) j = g j := fun j p q => by
    rw [upd_ne (by omega), hg, if_neg (by omega)]
  have hin : ∀ i, i < 7 → upd g1 (139 * t + 96) (nI (m - 1)) (139 * t + 97 + 7 * k + i) = g (139 * t + 97 + 7 * (m - 1) + i) := fun i hi => by
    rw [upd_ne (by omega), hg, if_pos (by omega)]
    congr 1
    omega
  refine ⟨fun c hc => (h1 c hc).ext (fun j p q => hout j (by omega) (by omega)), m - 1, fun i => if i = k then r (m - 1) else r i, ⟨upd_self, by omega, fun i hi => ?_, ?_⟩, ?_, ?_⟩
  · by_cases z : i = k
    · subst z
      dsimp only
      rw [if_pos rfl]
      obtain ⟨q1, q2, q3, q4, q5⟩ := r3 (m - 1) (by omega)
      refine ⟨(hin 0 (by omega)).trans q1, (hin 1 (by omega)).trans q2, ⟨(hin 2 (by omega)).trans q3.1, fun j hj => ?_⟩, q4, q5⟩
      have := q4.1
      have e := hin (3 + j) (by omega)
      rw [show 139 * t + 97 + 7 * i + 2 + 1 + j = 139 * t + 97 + 7 * i + (3 + j) from by omega, e]
      have e3 := q3.2 j hj
      rw [show 139 * t + 97 + 7 * (m - 1) + 2 + 1 + j = 139 * t + 97 + 7 * (m - 1) + (3 + j) from by omega] at e3
      exact e3
    · dsimp only
      rw [if_neg z]
      exact (r3 i (by omega)).ext (fun j p q => hout j (by omega) (by omega))
  · intro i j hi hj
    dsimp only
    by_cases zi : i = k
    · by_cases zj : j = k
      · intro _ _; omega
      · rw [if_pos zi, if_neg zj]
        intro x y
        have := r4 (m - 1) j (by omega) (by omega) x y
        omega
    · by_cases zj : j = k
      · rw [if_neg zi, if_pos zj]
        intro x y
        have := r4 i (m - 1) (by omega) (by omega) x y
        omega
      · rw [if_neg zi, if_neg zj]
        exact r4 i j (by omega) (by omega)
  · intro x y p hx6 hy6
    show (if x = a ∧ y = b then none else T.2 x y) = some p ↔ _
    by_cases z : x = a ∧ y = b
    · rw [if_pos z]
      constructor
      · intro q; cases q
      · rintro ⟨i, hi, q⟩
        exfalso
        dsimp only at q
        by_cases zi : i = k
        · rw [if_pos zi] at q
          have := r4 (m - 1) k (by omega) hk (by rw [q, e1]; exact z.1) (by rw [q, e2]; exact z.2)
          omega
        · rw [if_neg zi] at q
          have := r4 i k (by omega) hk (by rw [q, e1]; exact z.1) (by rw [q, e2]; exact z.2)
          omega
    · rw [if_neg z, h3.1 x y p hx6 hy6]
      constructor
      · rintro ⟨i, hi, q⟩
        by_cases zi : i = k
        · exfalso
          subst zi
          rw [q] at e1 e2
          exact z ⟨e1, e2⟩
        · by_cases zl : i = m - 1
          · refine ⟨k, by omega, ?_⟩
            dsimp only
            rw [if_pos rfl, ← zl]; exact q
          · refine ⟨i, by omega, ?_⟩
            dsimp only
            rw [if_neg zi]; exact q
      · rintro ⟨i, hi, q⟩
        dsimp only at q
        by_cases zi : i = k
        · rw [if_pos zi] at q
          exact ⟨m - 1, by omega, q⟩
        · rw [if_neg zi] at q
          exact ⟨i, by omega, q⟩
  · have := rcount_del ha hb hs
    have := h3.2
    omega
def TabsM (g : Nat → Int32) (Ts : Nat → TabV) : Prop := ∀ t, t < 3 → MTab g t (Ts t)
theorem TabsM.upd {g g' : Nat → Int32} {Ts : Nat → TabV} {t : Nat} {T : TabV} (h : TabsM g Ts) (ht : t < 3) (he : ∀ j, j < 139 * t ∨ 139 * t + 139 ≤ j → g' j = g j) (hT : MTab g' t T) : TabsM g' (fun j => if j = t then T else Ts j) := by
  intro u hu
  dsimp only
  by_cases z : u = t
  · subst z; rw [if_pos rfl]; exact hT
  · rw [if_neg z]
    exact (h u hu).ext (fun j p q => he j (by omega))
theorem lp_putWord {scr : Scr} {l : Launch} {S : Sto} {d : Nat} {a n o th st hs : Nat} {g gt : Nat → Int32} {dr mo sc : Int32} {cs : List Nat} (h0 : S.1[105]? = some (mObj (nI th) (nI cs.length) (nI st) (nI hs) dr mo sc)) (ht1 : S.1[110]? = some (aI 60 gt)) (h60 : cs.length ≤ 60) (ht : ∀ j, j < cs.length → gt j = nI (cs.getD j 0) ∧ 97 ≤ cs.getD j 0 ∧ cs.getD j 0 < 103) (ha : S.1[a]? = some (aI n g)) (hb : n < 2 ^ 31) (ho : o + 1 + cs.length ≤ n) (hne : a ≠ 105 ∧ a ≠ 110) : ∀ (k i : Nat), i + k = cs.length → Ev scr l d M_Md_putWord 9 [some (.ref 105), some (.ref a), some (.int (nI o)), some (.int (nI i))] [] (S.put a (aI n (putw g o (wOf cs) i))) (.inl none, S.put a (aI n (putw g o (wOf cs) cs.length))) := by
  intro k
  induction k with
  | zero =>
    intro i hi
    have hi : i = cs.length := by omega
    subst hi
    have h0 : (S.put a (aI n (putw g o (wOf cs) cs.length))).1[105]? = _ := put_at h0 hne.1
    refine ev_iload_n i_Md_putWord_9 rfl ?_
    refine ev_aload_n i_Md_putWord_10 rfl ?_
    refine ev_get i_Md_putWord_11 h0 rfl ?_
    refine ev_icmp_geN i_Md_putWord_14 (by omega) (by omega) (fun hc_14 => ?_) (fun hc_14 => ?_)
    · skip
      exact ev_vret i_Md_putWord_39 rfl
    · skip
      exfalso; omega
  | succ k ih =>
    intro i hi
    have h0 : (S.put a (aI n (putw g o (wOf cs) i))).1[105]? = _ := put_at h0 hne.1
    have ht1 : (S.put a (aI n (putw g o (wOf cs) i))).1[110]? = _ := put_at ht1 hne.2
    refine ev_iload_n i_Md_putWord_9 rfl ?_
    refine ev_aload_n i_Md_putWord_10 rfl ?_
    refine ev_get i_Md_putWord_11 h0 rfl ?_
    refine ev_icmp_geN i_Md_putWord_14 (by omega) (by omega) (fun hc_14 => ?_) (fun hc_14 => ?_)
    · skip
      exfalso; omega
    · skip
      refine ev_aload_n i_Md_putWord_17 rfl ?_
      refine ev_iload_n i_Md_putWord_18 rfl ?_
      refine ev_iconstN (v := 1) i_Md_putWord_19 (by decide) ?_
      first | refine ev_iaddN i_Md_putWord_20 ?_ | refine ev_iadd i_Md_putWord_20 ?_
      refine ev_iload_n i_Md_putWord_21 rfl ?_
      first | refine ev_iaddN i_Md_putWord_22 ?_ | refine ev_iadd i_Md_putWord_22 ?_
      refine ev_aload_n i_Md_putWord_23 rfl ?_
      refine ev_get i_Md_putWord_24 h0 rfl ?_
      refine ev_iload_n i_Md_putWord_27 rfl ?_
      refine ev_ialdN i_Md_putWord_28 ht1 (by omega) (by decide) ?_
      rw [(ht i (by omega)).1]
      refine ev_bipushN (v := 97) i_Md_putWord_29 (by decide) ?_
      refine ev_isubN i_Md_putWord_31 (ht i (by omega)).2.1 ?_
      refine ev_iastN i_Md_putWord_32 (put_self ha) (by omega) hb ?_
      rw [put_put, putw_s (by omega)]
      refine ev_iincN (c := 1) i_Md_putWord_33 (by decide) rfl ?_
      refine ev_goto i_Md_putWord_36 ?_
      exact ih (i + 1) (by omega)
theorem m_putWord {scr : Scr} {l : Launch} {S : Sto} {d : Nat} {a n o th st hs : Nat} {g gt : Nat → Int32} {dr mo sc : Int32} {cs : List Nat} (h0 : S.1[105]? = some (mObj (nI th) (nI cs.length) (nI st) (nI hs) dr mo sc)) (ht1 : S.1[110]? = some (aI 60 gt)) (h60 : cs.length ≤ 60) (ht : ∀ j, j < cs.length → gt j = nI (cs.getD j 0) ∧ 97 ≤ cs.getD j 0 ∧ cs.getD j 0 < 103) (ha : S.1[a]? = some (aI n g)) (hb : n < 2 ^ 31) (ho : o + 1 + cs.length ≤ n) (hne : a ≠ 105 ∧ a ≠ 110) : MetA scr l d M_Md_putWord [.ref 105, .ref a, .int (nI o)] S (.inl none, S.put a (aI n (putw g o (wOf cs) (wOf cs).length))) := by
  rw [wOf_len cs]
  refine MetA.of rfl (by decide +kernel) (Nat.le_of_ble_eq_true rfl) ?_
  refine ev_aload_n i_Md_putWord_0 rfl ?_
  refine ev_iload_n i_Md_putWord_1 rfl ?_
  refine ev_aload_n i_Md_putWord_2 rfl ?_
  refine ev_get i_Md_putWord_3 h0 rfl ?_
  refine ev_iastN i_Md_putWord_6 ha (by omega) hb ?_
  rw [← wOf_len cs, ← putw_0 g o (wOf cs)]
  refine ev_iconstN (v := 0) i_Md_putWord_7 (by decide) ?_
  refine ev_istore_n i_Md_putWord_8 (Nat.le_of_ble_eq_true rfl) ?_
  rw [wOf_len cs]
  exact lp_putWord h0 ht1 h60 ht ha hb ho hne cs.length 0 (by omega)
theorem lp_findRule_no {scr : Scr} {l : Launch} {S : Sto} {t a b m d : Nat} {g : Nat → Int32} {r : Nat → RuleV} {q1 q2 q3 q4 q5 q6 q7 : Int32} (h0 : S.1[105]? = some (mObj q1 q2 q3 q4 q5 q6 q7)) (hg : S.1[106]? = some (aI 417 g)) (hR : MRules g t m r) (ht : t < 3) (ha : a < 6) (hb : b < 6) (hno : ∀ k, k < m → ¬ ((r k).1 = a ∧ (r k).2.1 = b)) : ∀ (k i : Nat), i + k = m → ∀ q, Ev scr l (d + 2) M_Md_findRule 3 [some (.ref 105), some (.int (nI t)), some (.int (nI a)), some (.int (nI b)), some (.int (nI i)), q] [] S (.inl (some (.int (-1))), S) := by
  intro k
  induction k with
  | zero =>
    intro i hi q
    have h6 := hR.2.1
    refine ev_iload i_Md_findRule_3 rfl ?_
    refine ev_aload_n i_Md_findRule_5 rfl ?_
    refine ev_get i_Md_findRule_6 h0 rfl ?_
    refine ev_iload_n i_Md_findRule_9 rfl ?_
    refine ev_callS1 i_Md_findRule_10 rfl (Nat.le_of_ble_eq_true rfl) m_rulesAt ?_
    refine ev_ialdN i_Md_findRule_13 hg (by omega) (by decide) ?_
    rw [hR.1]
    refine ev_icmp_geN i_Md_findRule_14 (by omega) (by omega) (fun hc_14 => ?_) (fun hc_14 => ?_)
    · skip
      refine ev_iconst (v := -1) i_Md_findRule_58 (by decide) ?_
      exact ev_iret i_Md_findRule_59 rfl (by first | rfl | decide)
    · skip
      exfalso; omega
  | succ k ih =>
    intro i hi q
    have h6 := hR.2.1
    obtain ⟨e1, e2, -, -, e5, e6⟩ := hR.2.2.1 i (by omega)
    rw [show 139 * t + 97 + 7 * i = 139 * t + 96 + 1 + 7 * i from by omega] at e1 e2
    refine ev_iload i_Md_findRule_3 rfl ?_
    refine ev_aload_n i_Md_findRule_5 rfl ?_
    refine ev_get i_Md_findRule_6 h0 rfl ?_
    refine ev_iload_n i_Md_findRule_9 rfl ?_
    refine ev_callS1 i_Md_findRule_10 rfl (Nat.le_of_ble_eq_true rfl) m_rulesAt ?_
    refine ev_ialdN i_Md_findRule_13 hg (by omega) (by decide) ?_
    rw [hR.1]
    refine ev_icmp_geN i_Md_findRule_14 (by omega) (by omega) (fun hc_14 => ?_) (fun hc_14 => ?_)
    · skip
      exfalso; omega
    · skip
      refine ev_iload_n i_Md_findRule_17 rfl ?_
      refine ev_iload i_Md_findRule_18 rfl ?_
      refine ev_callS2 i_Md_findRule_20 rfl (Nat.le_of_ble_eq_true rfl) m_ruleAt ?_
      refine ev_istore i_Md_findRule_23 (Nat.le_of_ble_eq_true rfl) ?_
      refine ev_aload_n i_Md_findRule_25 rfl ?_
      refine ev_get i_Md_findRule_26 h0 rfl ?_
      refine ev_iload i_Md_findRule_29 rfl ?_
      refine ev_ialdN i_Md_findRule_31 hg (by omega) (by decide) ?_
      rw [e1]
      refine ev_iload_n i_Md_findRule_32 rfl ?_
      refine ev_icmp_neN i_Md_findRule_33 (by omega) (by omega) (fun hc_33 => ?_) (fun hc_33 => ?_)
      · skip
        refine ev_iincN (c := 1) i_Md_findRule_52 (by decide) rfl ?_
        refine ev_goto i_Md_findRule_55 ?_
        exact ih (i + 1) (by omega) _
      · skip
        refine ev_aload_n i_Md_findRule_36 rfl ?_
        refine ev_get i_Md_findRule_37 h0 rfl ?_
        refine ev_iload i_Md_findRule_40 rfl ?_
        refine ev_iconstN (v := 1) i_Md_findRule_42 (by decide) ?_
        first | refine ev_iaddN i_Md_findRule_43 ?_ | refine ev_iadd i_Md_findRule_43 ?_
        refine ev_ialdN i_Md_findRule_44 hg (by omega) (by decide) ?_
        rw [e2]
        refine ev_iload_n i_Md_findRule_45 rfl ?_
        refine ev_icmp_neN i_Md_findRule_46 (by omega) (by omega) (fun hc_46 => ?_) (fun hc_46 => ?_)
        · skip
          refine ev_iincN (c := 1) i_Md_findRule_52 (by decide) rfl ?_
          refine ev_goto i_Md_findRule_55 ?_
          exact ih (i + 1) (by omega) _
        · skip
          exact absurd ⟨by omega, by omega⟩ (hno i (by omega))
theorem m_findRule_no {scr : Scr} {l : Launch} {S : Sto} {t a b m d : Nat} {g : Nat → Int32} {r : Nat → RuleV} {q1 q2 q3 q4 q5 q6 q7 : Int32} (h0 : S.1[105]? = some (mObj q1 q2 q3 q4 q5 q6 q7)) (hg : S.1[106]? = some (aI 417 g)) (hR : MRules g t m r) (ht : t < 3) (ha : a < 6) (hb : b < 6) (hno : ∀ k, k < m → ¬ ((r k).1 = a ∧ (r k).2.1 = b)) : MetA scr l (d + 2) M_Md_findRule [.ref 105, .int (nI t), .int (nI a), .int (nI b)] S (.inl (some (.int (-1))), S) := by
  refine MetA.of rfl (by decide +kernel) (Nat.le_of_ble_eq_true rfl) ?_
  refine ev_iconstN (v := 0) i_Md_findRule_0 (by decide) ?_
  refine ev_istore i_Md_findRule_1 (Nat.le_of_ble_eq_true rfl) ?_
  exact lp_findRule_no h0 hg hR ht ha hb hno m 0 (by omega) _
theorem lp_findRule {scr : Scr} {l : Launch} {S : Sto} {t a b m d : Nat} {g : Nat → Int32} {r : Nat → RuleV} {q1 q2 q3 q4 q5 q6 q7 : Int32} (h0 : S.1[105]? = some (mObj q1 q2 q3 q4 q5 q6 q7)) (hg : S.1[106]? = some (aI 417 g)) (hR : MRules g t m r) (ht : t < 3) (ha : a < 6) (hb : b < 6) {kk : Nat} (hk : kk < m) (k1 : (r kk).1 = a) (k2 : (r kk).2.1 = b) : ∀ (k i : Nat), i + k = kk → i ≤ kk → ∀ q, Ev scr l (d + 2) M_Md_findRule 3 [some (.ref 105), some (.int (nI t)), some (.int (nI a)), some (.int (nI b)), some (.int (nI i)), q] [] S (.inl (some (.int (nI (139 * t + 96 + 1 + 7 * kk)))), S) := by
  intro k
  induction k with
  | zero =>
    intro i hi hi2 q
    have z : i = kk := by omega
    subst z
    have h6 := hR.2.1
    obtain ⟨e1, e2, -, -, e5, e6⟩ := hR.2.2.1 i (by omega)
    rw [show 139 * t + 97 + 7 * i = 139 * t + 96 + 1 + 7 * i from by omega] at e1 e2
    refine ev_iload i_Md_findRule_3 rfl ?_
    refine ev_aload_n i_Md_findRule_5 rfl ?_
    refine ev_get i_Md_findRule_6 h0 rfl ?_
    refine ev_iload_n i_Md_findRule_9 rfl ?_
    refine ev_callS1 i_Md_findRule_10 rfl (Nat.le_of_ble_eq_true rfl) m_rulesAt ?_
    refine ev_ialdN i_Md_findRule_13 hg (by omega) (by decide) ?_
    rw [hR.1]
    refine ev_icmp_geN i_Md_findRule_14 (by omega) (by omega) (fun hc_14 => ?_) (fun hc_14 => ?_)
    · skip
      exfalso; omega
    · skip
      refine ev_iload_n i_Md_findRule_17 rfl ?_
      refine ev_iload i_Md_findRule_18 rfl ?_
      refine ev_callS2 i_Md_findRule_20 rfl (Nat.le_of_ble_eq_true rfl) m_ruleAt ?_
      refine ev_istore i_Md_findRule_23 (Nat.le_of_ble_eq_true rfl) ?_
      refine ev_aload_n i_Md_findRule_25 rfl ?_
      refine ev_get i_Md_findRule_26 h0 rfl ?_
      refine ev_iload i_Md_findRule_29 rfl ?_
      refine ev_ialdN i_Md_findRule_31 hg (by omega) (by decide) ?_
      rw [e1]
      refine ev_iload_n i_Md_findRule_32 rfl ?_
      refine ev_icmp_neN i_Md_findRule_33 (by omega) (by omega) (fun hc_33 => ?_) (fun hc_33 => ?_)
      · skip
        exfalso; omega
      · skip
        refine ev_aload_n i_Md_findRule_36 rfl ?_
        refine ev_get i_Md_findRule_37 h0 rfl ?_
        refine ev_iload i_Md_findRule_40 rfl ?_
        refine ev_iconstN (v := 1) i_Md_findRule_42 (by decide) ?_
        first | refine ev_iaddN i_Md_findRule_43 ?_ | refine ev_iadd i_Md_findRule_43 ?_
        refine ev_ialdN i_Md_findRule_44 hg (by omega) (by decide) ?_
        rw [e2]
        refine ev_iload_n i_Md_findRule_45 rfl ?_
        refine ev_icmp_neN i_Md_findRule_46 (by omega) (by omega) (fun hc_46 => ?_) (fun hc_46 => ?_)
        · skip
          exfalso; omega
        · skip
          refine ev_iload i_Md_findRule_49 rfl ?_
          exact ev_iret i_Md_findRule_51 rfl (by first | rfl | decide)
  | succ k ih =>
    intro i hi hi2 q
    have h6 := hR.2.1
    obtain ⟨e1, e2, -, -, e5, e6⟩ := hR.2.2.1 i (by omega)
    rw [show 139 * t + 97 + 7 * i = 139 * t + 96 + 1 + 7 * i from by omega] at e1 e2
    refine ev_iload i_Md_findRule_3 rfl ?_
    refine ev_aload_n i_Md_findRule_5 rfl ?_
    refine ev_get i_Md_findRule_6 h0 rfl ?_
    refine ev_iload_n i_Md_findRule_9 rfl ?_
    refine ev_callS1 i_Md_findRule_10 rfl (Nat.le_of_ble_eq_true rfl) m_rulesAt ?_
    refine ev_ialdN i_Md_findRule_13 hg (by omega) (by decide) ?_
    rw [hR.1]
    refine ev_icmp_geN i_Md_findRule_14 (by omega) (by omega) (fun hc_14 => ?_) (fun hc_14 => ?_)
    · skip
      exfalso; omega
    · skip
      refine ev_iload_n i_Md_findRule_17 rfl ?_
      refine ev_iload i_Md_findRule_18 rfl ?_
      refine ev_callS2 i_Md_findRule_20 rfl (Nat.le_of_ble_eq_true rfl) m_ruleAt ?_
      refine ev_istore i_Md_findRule_23 (Nat.le_of_ble_eq_true rfl) ?_
      refine ev_aload_n i_Md_findRule_25 rfl ?_
      refine ev_get i_Md_findRule_26 h0 rfl ?_
      refine ev_iload i_Md_findRule_29 rfl ?_
      refine ev_ialdN i_Md_findRule_31 hg (by omega) (by decide) ?_
      rw [e1]
      refine ev_iload_n i_Md_findRule_32 rfl ?_
      refine ev_icmp_neN i_Md_findRule_33 (by omega) (by omega) (fun hc_33 => ?_) (fun hc_33 => ?_)
      · skip
        refine ev_iincN (c := 1) i_Md_findRule_52 (by decide) rfl ?_
        refine ev_goto i_Md_findRule_55 ?_
        exact ih (i + 1) (by omega) (by omega) _
      · skip
        refine ev_aload_n i_Md_findRule_36 rfl ?_
        refine ev_get i_Md_findRule_37 h0 rfl ?_
        refine ev_iload i_Md_findRule_40 rfl ?_
        refine ev_iconstN (v := 1) i_Md_findRule_42 (by decide) ?_
        first | refine ev_iaddN i_Md_findRule_43 ?_ | refine ev_iadd i_Md_findRule_43 ?_
        refine ev_ialdN i_Md_findRule_44 hg (by omega) (by decide) ?_
        rw [e2]
        refine ev_iload_n i_Md_findRule_45 rfl ?_
        refine ev_icmp_neN i_Md_findRule_46 (by omega) (by omega) (fun hc_46 => ?_) (fun hc_46 => ?_)
        · skip
          refine ev_iincN (c := 1) i_Md_findRule_52 (by decide) rfl ?_
          refine ev_goto i_Md_findRule_55 ?_
          exact ih (i + 1) (by omega) (by omega) _
        · skip
          exact absurd (hR.2.2.2 i kk (by omega) hk (by omega) (by omega)) (by omega)
theorem m_findRule {scr : Scr} {l : Launch} {S : Sto} {t a b m d : Nat} {g : Nat → Int32} {r : Nat → RuleV} {q1 q2 q3 q4 q5 q6 q7 : Int32} (h0 : S.1[105]? = some (mObj q1 q2 q3 q4 q5 q6 q7)) (hg : S.1[106]? = some (aI 417 g)) (hR : MRules g t m r) (ht : t < 3) (ha : a < 6) (hb : b < 6) {kk : Nat} (hk : kk < m) (k1 : (r kk).1 = a) (k2 : (r kk).2.1 = b) : MetA scr l (d + 2) M_Md_findRule [.ref 105, .int (nI t), .int (nI a), .int (nI b)] S (.inl (some (.int (nI (139 * t + 96 + 1 + 7 * kk)))), S) := by
  refine MetA.of rfl (by decide +kernel) (Nat.le_of_ble_eq_true rfl) ?_
  refine ev_iconstN (v := 0) i_Md_findRule_0 (by decide) ?_
  refine ev_istore i_Md_findRule_1 (Nat.le_of_ble_eq_true rfl) ?_
  exact lp_findRule h0 hg hR ht ha hb hk k1 k2 kk 0 (by omega) (by omega) _
theorem m_areLetters {scr : Scr} {l : Launch} {S : Sto} {d : Nat} {x y z : Int32} : (inR 3 x ∧ inR 6 y ∧ inR 6 z → MetA scr l (d + 2) M_Md_areLetters [.int x, .int y, .int z] S (.inl (some (.int (nI 1))), S)) ∧ (¬ (inR 3 x ∧ inR 6 y ∧ inR 6 z) → MetA scr l (d + 2) M_Md_areLetters [.int x, .int y, .int z] S (.inl (some (.int (nI 0))), S)) := by
  refine ⟨fun hq => ?_, fun hq => ?_⟩
  · obtain ⟨hx, hy, hz⟩ := hq
    refine MetA.of rfl (by decide +kernel) (Nat.le_of_ble_eq_true rfl) ?_
    refine ev_iload_n i_Md_areLetters_0 rfl ?_
    refine ev_callS1 i_Md_areLetters_1 rfl (Nat.le_of_ble_eq_true rfl) (m_isTable.1 hx) ?_
    refine ev_if_eqN i_Md_areLetters_4 (by omega) (fun hc_4 => ?_) (fun hc_4 => ?_)
    · skip
      exfalso; omega
    · skip
      refine ev_iload_n i_Md_areLetters_7 rfl ?_
      refine ev_callS1 i_Md_areLetters_8 rfl (Nat.le_of_ble_eq_true rfl) (m_isLetter.1 hy) ?_
      refine ev_if_eqN i_Md_areLetters_11 (by omega) (fun hc_11 => ?_) (fun hc_11 => ?_)
      · skip
        exfalso; omega
      · skip
        refine ev_iload_n i_Md_areLetters_14 rfl ?_
        refine ev_callS1 i_Md_areLetters_15 rfl (Nat.le_of_ble_eq_true rfl) (m_isLetter.1 hz) ?_
        refine ev_if_eqN i_Md_areLetters_18 (by omega) (fun hc_18 => ?_) (fun hc_18 => ?_)
        · skip
          exfalso; omega
        · skip
          refine ev_iconstN (v := 1) i_Md_areLetters_21 (by decide) ?_
          refine ev_goto i_Md_areLetters_22 ?_
          exact ev_iret i_Md_areLetters_26 rfl (by first | rfl | decide)
  · by_cases hx : inR 3 x
    · by_cases hy : inR 6 y
      · have hz : ¬ inR 6 z := fun hz => hq ⟨hx, hy, hz⟩
        refine MetA.of rfl (by decide +kernel) (Nat.le_of_ble_eq_true rfl) ?_
        refine ev_iload_n i_Md_areLetters_0 rfl ?_
        refine ev_callS1 i_Md_areLetters_1 rfl (Nat.le_of_ble_eq_true rfl) (m_isTable.1 hx) ?_
        refine ev_if_eqN i_Md_areLetters_4 (by omega) (fun hc_4 => ?_) (fun hc_4 => ?_)
        · skip
          exfalso; omega
        · skip
          refine ev_iload_n i_Md_areLetters_7 rfl ?_
          refine ev_callS1 i_Md_areLetters_8 rfl (Nat.le_of_ble_eq_true rfl) (m_isLetter.1 hy) ?_
          refine ev_if_eqN i_Md_areLetters_11 (by omega) (fun hc_11 => ?_) (fun hc_11 => ?_)
          · skip
            exfalso; omega
          · skip
            refine ev_iload_n i_Md_areLetters_14 rfl ?_
            refine ev_callS1 i_Md_areLetters_15 rfl (Nat.le_of_ble_eq_true rfl) (m_isLetter.2 hz) ?_
            refine ev_if_eqN i_Md_areLetters_18 (by omega) (fun hc_18 => ?_) (fun hc_18 => ?_)
            · skip
              refine ev_iconstN (v := 0) i_Md_areLetters_25 (by decide) ?_
              exact ev_iret i_Md_areLetters_26 rfl (by first | rfl | decide)
            · skip
              exfalso; omega
      · refine MetA.of rfl (by decide +kernel) (Nat.le_of_ble_eq_true rfl) ?_
        refine ev_iload_n i_Md_areLetters_0 rfl ?_
        refine ev_callS1 i_Md_areLetters_1 rfl (Nat.le_of_ble_eq_true rfl) (m_isTable.1 hx) ?_
        refine ev_if_eqN i_Md_areLetters_4 (by omega) (fun hc_4 => ?_) (fun hc_4 => ?_)
        · skip
          exfalso; omega
        · skip
          refine ev_iload_n i_Md_areLetters_7 rfl ?_
          refine ev_callS1 i_Md_areLetters_8 rfl (Nat.le_of_ble_eq_true rfl) (m_isLetter.2 hy) ?_
          refine ev_if_eqN i_Md_areLetters_11 (by omega) (fun hc_11 => ?_) (fun hc_11 => ?_)
          · skip
            refine ev_iconstN (v := 0) i_Md_areLetters_25 (by decide) ?_
            exact ev_iret i_Md_areLetters_26 rfl (by first | rfl | decide)
          · skip
            exfalso; omega
    · refine MetA.of rfl (by decide +kernel) (Nat.le_of_ble_eq_true rfl) ?_
      refine ev_iload_n i_Md_areLetters_0 rfl ?_
      refine ev_callS1 i_Md_areLetters_1 rfl (Nat.le_of_ble_eq_true rfl) (m_isTable.2 hx) ?_
      refine ev_if_eqN i_Md_areLetters_4 (by omega) (fun hc_4 => ?_) (fun hc_4 => ?_)
      · skip
        refine ev_iconstN (v := 0) i_Md_areLetters_25 (by decide) ?_
        exact ev_iret i_Md_areLetters_26 rfl (by first | rfl | decide)
      · skip
        exfalso; omega

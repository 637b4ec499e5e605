/-! the joint state; the wrappers -/
def Jn (σ : Sg) (S : Sto) : Prop := XInv σ S ∧ (∃ th, MInv th σ S) ∧ RowM σ.2.2.2.2.2 S ∧ (∃ g, S.1[134]? = some (aJ 1 g)) ∧ ∃ g, S.1[135]? = some (aD 1 g)
def Cost (S S2 : Sto) : Prop := S2.1.length = S.1.length ∧ S2.2.1 ≤ S.2.1 + 1 ∧ S2.2.2 ≤ S.2.2 + 6
abbrev bL (b : Bool) : Int64 := if b = true then 1 else 0
def PI (k : Nat) (v : Option Value) (S : Sto) : Prop := ∃ x, v = some (.int x) ∧ (k = 0 → ∃ g, S.1[134]? = some (aJ 1 g) ∧ g 0 = x.toInt64)
def PZ (k : Nat) (v : Option Value) (S : Sto) : Prop := ∃ b, v = some (.int (nI (bI b))) ∧ (k = 0 → ∃ g, S.1[134]? = some (aJ 1 g) ∧ g 0 = bL b)
def PJ (k : Nat) (v : Option Value) (S : Sto) : Prop := ∃ x, v = some (.long x) ∧ (k = 0 → ∃ g, S.1[134]? = some (aJ 1 g) ∧ g 0 = x)
def PD (k : Nat) (v : Option Value) (S : Sto) : Prop := ∃ x, v = some (.double x) ∧ ∃ g, S.1[135]? = some (aD 1 g) ∧ (k = 0 → ∃ n, DV (g 0) n ∧ DV x n)
def PV (k : Nat) (v : Option Value) (S : Sto) : Prop := v = none
def StepR (scr : Scr) (l : Launch) (Mw Mm : Mth) (as aw : List Value) (S : Sto) (P : Nat → Option Value → Sto → Prop) : Prop := ∃ (k : Nat) (v : Option Value) (S1 S2 : Sto) (σ' : Sg), k < 5 ∧ (∀ d, MetA scr l (d + 12) Mw aw S (.inl (some (.int (nI k))), S1)) ∧ (∃ fs, S1.1[105]? = some (oB 14 fs)) ∧ (∀ d, MetA scr l (d + 12) Mm (.ref 105 :: as) S1 (.inl v, S2)) ∧ Jn σ' S2 ∧ MInv k σ' S2 ∧ Cost S S2 ∧ P k v S2
def MR2 (scr : Scr) (l : Launch) (K : Nat) (M : Mth) (as : List Value) (S : Sto) (v : Option Value) (k : Nat) (σ' : Sg) : Prop := ∃ S2, (∀ d, MetA scr l (d + K) M as S (.inl v, S2)) ∧ MInv k σ' S2 ∧ RowM σ'.2.2.2.2.2 S2 ∧ Fr mK2 S S2
theorem MRun.up {scr : Scr} {l : Launch} {K : Nat} {M : Mth} {as : List Value} {S : Sto} {v : Option Value} {k : Nat} {σ σ' : Sg} (h : MRun scr l K M as S v k σ') (hr : RowM σ.2.2.2.2.2 S) (e : σ'.2.2.2.2.2 = σ.2.2.2.2.2) : MR2 scr l K M as S v k σ' := by
  obtain ⟨S2, m2, i2, f2⟩ := h
  refine ⟨S2, m2, i2, ?_, f2.mono (fun k q => by rw [List.mem_range'_1] at q ⊢; omega)⟩
  rw [e]
  exact hr.fr f2 (fun k q => by rw [List.mem_range'_1] at q; omega)
theorem MetA.up {scr : Scr} {l : Launch} {K : Nat} {M : Mth} {as : List Value} {S : Sto} {r : Res} (h : ∀ d, MetA scr l (d + K) M as S r) (K2 : Nat) (hK : K ≤ K2) : ∀ d, MetA scr l (d + K2) M as S r := fun d => by
  have := h (d + (K2 - K))
  rw [show d + (K2 - K) + K = d + K2 by omega] at this
  exact this
theorem MInv.obj14 {th : Nat} {σ : Sg} {S : Sto} (h : MInv th σ S) : ∃ fs, S.1[105]? = some (oB 14 fs) := by
  obtain ⟨dr, mo, sc, h0⟩ := h.get
  exact ⟨_, h0⟩
theorem x_not_m {k : Nat} (h : k ∈ mK2) : 105 ≤ k ∧ k < 134 := by rw [List.mem_range'_1] at h; omega
theorem x_lt {k : Nat} (h : k ∈ xK) : k < 105 := by rw [List.mem_range'_1] at h; omega
/-- behind x's call (its store T, no cell of m's touched), then m's -/
theorem StepR.fin {scr : Scr} {l : Launch} {Mw Mm : Mth} {as aw : List Value} {S T : Sto} {P : Nat → Option Value → Sto → Prop} {σ σ' : Sg} {k K2 : Nat} {v2 : Option Value} (h : Jn σ S) (hk : k < 5) (hw : ∀ d, MetA scr l (d + 12) Mw aw S (.inl (some (.int (nI k))), T)) (hX : XInv σ' T) (hF : ∀ j, 105 ≤ j → j < 134 → T.1[j]? = S.1[j]?) (hl : T.1.length = S.1.length) (hc : T.2.1 ≤ S.2.1 + 1 ∧ T.2.2 ≤ S.2.2 + 6) (h134 : ∃ g, T.1[134]? = some (aJ 1 g)) (h135 : ∃ g, T.1[135]? = some (aD 1 g)) (hK : K2 ≤ 12)
    (hm : ∀ S th, MInv th σ S → RowM σ.2.2.2.2.2 S → MR2 scr l K2 Mm (.ref 105 :: as) S v2 k σ') (hP : ∀ S2 : Sto, S2.1[134]? = T.1[134]? → S2.1[135]? = T.1[135]? → P k v2 S2) : StepR scr l Mw Mm as aw S P := by
  obtain ⟨hx, ⟨th, hmi⟩, hr, -, -⟩ := h
  have FF : Fr (List.range' 0 105 ++ List.range' 134 (S.1.length + T.1.length)) (S.1, (0, 0)) (T.1, (0, 0)) := ⟨hl, rfl, fun j hj => by
    by_cases q : 105 ≤ j ∧ j < 134
    · exact hF j q.1 q.2
    · have q1 : S.1.length ≤ j ∧ T.1.length ≤ j := by
        rw [List.mem_append, List.mem_range'_1, List.mem_range'_1] at hj
        omega
      show T.1[j]? = S.1[j]?
      rw [List.getElem?_eq_none q1.1, List.getElem?_eq_none q1.2]⟩
  sorry

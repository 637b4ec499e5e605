/-! figures: the pen, what is held, the segments -/
abbrev Pen : Type := UInt64 × UInt64 × UInt64 × Nat
abbrev SegV : Type := UInt64 × UInt64 × UInt64 × UInt64
/-- pen, held, segments, ink, deepest -/
abbrev Fig : Type := Pen × List Pen × List SegV × UInt64 × Nat
abbrev d2 : UInt64 := 4611686018427387904
abbrev pen0 : Pen := (FP.dconst0, FP.dconst0, FP.dconst1, 0)
abbrev sg0 : SegV := (0, 0, 0, 0)
abbrev fig0 : Fig := (pen0, [], [], FP.dconst0, 0)
def aheadX (p : Pen) : UInt64 := if p.2.2.2 = 0 then FP.dadd p.1 p.2.2.1 else if p.2.2.2 = 2 then FP.dsub p.1 p.2.2.1 else p.1
def aheadY (p : Pen) : UInt64 := if p.2.2.2 = 1 then FP.dadd p.2.1 p.2.2.1 else if p.2.2.2 = 3 then FP.dsub p.2.1 p.2.2.1 else p.2.1
def goP (p : Pen) : Pen := (aheadX p, aheadY p, p.2.2.1, p.2.2.2)
def deq (a b : UInt64) : Bool := decide (FP.dcmp a b = some .eq)
def segEq (q : SegV) (x y u v : UInt64) : Bool := (deq q.1 x && deq q.2.1 y && (deq q.2.2.1 u && deq q.2.2.2 v)) || (deq q.1 u && deq q.2.1 v && (deq q.2.2.1 x && deq q.2.2.2 y))
def isSg (L : List SegV) (x y u v : UInt64) : Bool := anyB (fun j => segEq (L.getD j sg0) x y u v) L.length
abbrev newS (F : Fig) : SegV := (F.1.1, F.1.2.1, aheadX F.1, aheadY F.1)
abbrev oldS (F : Fig) : Bool := isSg F.2.2.1 F.1.1 F.1.2.1 (aheadX F.1) (aheadY F.1)
def drawF (F : Fig) : Fig := if oldS F = true then (goP F.1, F.2) else (goP F.1, F.2.1, F.2.2.1 ++ [newS F], FP.dadd F.2.2.2.1 F.1.2.2.1, F.2.2.2.2)
def turnF (F : Fig) (k : Nat) : Fig := ((F.1.1, F.1.2.1, F.1.2.2.1, (F.1.2.2.2 + k) % 4), F.2)
def openF (F : Fig) : Fig := ((F.1.1, F.1.2.1, FP.ddiv F.1.2.2.1 d2, F.1.2.2.2), F.2.1 ++ [F.1], F.2.2.1, F.2.2.2.1, max F.2.2.2.2 (F.2.1.length + 1))
def closeF (F : Fig) : Fig := (F.2.1.getD (F.2.1.length - 1) pen0, F.2.1.dropLast, F.2.2)
def carry (c : Nat) (F : Fig) : Option Fig :=
  if c = 1 then some (drawF F) else if c = 2 then some (goP F.1, F.2) else if c = 3 then some (turnF F 1) else if c = 4 then some (turnF F 3)
  else if c = 5 then (if 20 ≤ F.2.1.length then none else some (openF F)) else if c = 6 then (if F.2.1.length = 0 then none else some (closeF F)) else some F
def figN (cm : Nat → Nat) (xs : List Nat) : Nat → Option Fig
  | 0 => some fig0
  | i + 1 => (figN cm xs i).bind (carry (cm (xs.getD i 0)))
def ptN (cm : Nat → Nat) (xs : List Nat) (i : Nat) : UInt64 × UInt64 := match figN cm xs i with
  | some F => (F.1.1, F.1.2.1)
  | none => (0, 0)
theorem fig_none {cm : Nat → Nat} {xs : List Nat} {i : Nat} (h : figN cm xs i = none) : ∀ k, figN cm xs (i + k) = none := by
  intro k
  induction k with
  | zero => exact h
  | succ k ih =>
    show (figN cm xs (i + k)).bind _ = none
    rw [ih]; rfl
theorem fig_s {cm : Nat → Nat} {xs : List Nat} {i : Nat} {F : Fig} (h : figN cm xs i = some F) : figN cm xs (i + 1) = carry (cm (xs.getD i 0)) F := by
  show (figN cm xs i).bind _ = _
  rw [h]; rfl
theorem pt_eq {cm : Nat → Nat} {xs : List Nat} {i : Nat} {F : Fig} (h : figN cm xs i = some F) : ptN cm xs i = (F.1.1, F.1.2.1) := by
  unfold ptN
  rw [h]
theorem fig_le {cm : Nat → Nat} {xs : List Nat} {i n : Nat} {G : Fig} (h : figN cm xs n = some G) (hi : i ≤ n) : ∃ F, figN cm xs i = some F := by
  cases hq : figN cm xs i with
  | some F => exact ⟨F, rfl⟩
  | none =>
    have := fig_none hq (n - i)
    rw [show i + (n - i) = n by omega, h] at this
    cases this
/-- values -/
noncomputable def vOf (x : UInt64) : Int := Classical.epsilon (fun k => DV x k)
theorem DV.val {x : UInt64} {k : Int} (h : DV x k) : vOf x = k := DV.uniq (Classical.epsilon_spec (p := fun k => DV x k) ⟨k, h⟩) h
def Pt (x : UInt64) (b : Nat) : Prop := DV x (vOf x) ∧ (vOf x).natAbs ≤ b
theorem Pt.of {x : UInt64} {k : Int} {b : Nat} (h : DV x k) (hb : k.natAbs ≤ b) : Pt x b := by
  unfold Pt
  rw [h.val]
  exact ⟨h, hb⟩
theorem Pt.mono {x : UInt64} {b b' : Nat} (h : Pt x b) (hb : b ≤ b') : Pt x b' := ⟨h.1, Nat.le_trans h.2 hb⟩
noncomputable def sl (q : SegV) : Nat := (vOf q.1 - vOf q.2.2.1).natAbs + (vOf q.2.1 - vOf q.2.2.2).natAbs
noncomputable def slT (L : List SegV) (n : Nat) : Nat := sumN (fun j => sl (L.getD j sg0)) n
def PenOK (p : Pen) (d i : Nat) : Prop := Pt p.1 (i * 1048576) ∧ Pt p.2.1 (i * 1048576) ∧ DV p.2.2.1 ((2 ^ (20 - d) : Nat) : Int) ∧ p.2.2.2 < 4
def FigV (F : Fig) (i : Nat) : Prop := PenOK F.1 F.2.1.length i ∧ F.2.1.length ≤ 20 ∧ (∀ j, j < F.2.1.length → PenOK (F.2.1.getD j pen0) j i) ∧ F.2.2.1.length ≤ i ∧ (∀ j, j < F.2.2.1.length → Pt (F.2.2.1.getD j sg0).1 (i * 1048576) ∧ Pt (F.2.2.1.getD j sg0).2.1 (i * 1048576) ∧ Pt (F.2.2.1.getD j sg0).2.2.1 (i * 1048576) ∧ Pt (F.2.2.1.getD j sg0).2.2.2 (i * 1048576)) ∧ (DV F.2.2.2.1 ((slT F.2.2.1 F.2.2.1.length : Nat) : Int) ∧ slT F.2.2.1 F.2.2.1.length ≤ i * 1048576) ∧ F.2.2.2.2 ≤ 20
theorem pw20 (d : Nat) : 2 ^ (20 - d) ≤ 1048576 := Nat.pow_le_pow_right (n := 2) (by decide) (show 20 - d ≤ 20 by omega)
theorem PenOK.mono {p : Pen} {d i : Nat} (h : PenOK p d i) : PenOK p d (i + 1) := ⟨h.1.mono (by omega), h.2.1.mono (by omega), h.2.2⟩
theorem ax_ok {p : Pen} {d i : Nat} (h : PenOK p d i) (hi : i ≤ 60) : Pt (aheadX p) ((i + 1) * 1048576) ∧ Pt (aheadY p) ((i + 1) * 1048576) ∧ sl (p.1, p.2.1, aheadX p, aheadY p) = 2 ^ (20 - d) := by
  obtain ⟨h1, h2, h3, h4⟩ := h
  have hp := pw20 d
  have b1 := h1.2
  have b2 := h2.2
  generalize hP : 2 ^ (20 - d) = P at h3 hp ⊢
  have e0 : (vOf p.1 - vOf p.1).natAbs = 0 := by omega
  have e1 : (vOf p.2.1 - vOf p.2.1).natAbs = 0 := by omega
  rcases (show p.2.2.2 = 0 ∨ p.2.2.2 = 1 ∨ p.2.2.2 = 2 ∨ p.2.2.2 = 3 by omega) with q | q | q | q
  · have ex : aheadX p = FP.dadd p.1 p.2.2.1 := if_pos q
    have ey : aheadY p = p.2.1 := by unfold aheadY; rw [if_neg (by omega), if_neg (by omega)]
    have dv := DV.add h1.1 h3 (by omega)
    rw [ex, ey]
    refine ⟨Pt.of dv (by omega), h2.mono (by omega), ?_⟩
    show (vOf p.1 - vOf (FP.dadd p.1 p.2.2.1)).natAbs + (vOf p.2.1 - vOf p.2.1).natAbs = P
    rw [dv.val, e1]
    omega
  · have ex : aheadX p = p.1 := by unfold aheadX; rw [if_neg (by omega), if_neg (by omega)]
    have ey : aheadY p = FP.dadd p.2.1 p.2.2.1 := if_pos q
    have dv := DV.add h2.1 h3 (by omega)
    rw [ex, ey]
    refine ⟨h1.mono (by omega), Pt.of dv (by omega), ?_⟩
    show (vOf p.1 - vOf p.1).natAbs + (vOf p.2.1 - vOf (FP.dadd p.2.1 p.2.2.1)).natAbs = P
    rw [dv.val, e0]
    omega
  · have ex : aheadX p = FP.dsub p.1 p.2.2.1 := by unfold aheadX; rw [if_neg (by omega), if_pos q]
    have ey : aheadY p = p.2.1 := by unfold aheadY; rw [if_neg (by omega), if_neg (by omega)]
    have dv := DV.sub h1.1 h3 (by omega)
    rw [ex, ey]
    refine ⟨Pt.of dv (by omega), h2.mono (by omega), ?_⟩
    show (vOf p.1 - vOf (FP.dsub p.1 p.2.2.1)).natAbs + (vOf p.2.1 - vOf p.2.1).natAbs = P
    rw [dv.val, e1]
    omega
  · have ex : aheadX p = p.1 := by unfold aheadX; rw [if_neg (by omega), if_neg (by omega)]
    have ey : aheadY p = FP.dsub p.2.1 p.2.2.1 := by unfold aheadY; rw [if_neg (by omega), if_pos q]
    have dv := DV.sub h2.1 h3 (by omega)
    rw [ex, ey]
    refine ⟨h1.mono (by omega), Pt.of dv (by omega), ?_⟩
    show (vOf p.1 - vOf p.1).natAbs + (vOf p.2.1 - vOf (FP.dsub p.2.1 p.2.2.1)).natAbs = P
    rw [dv.val, e0]
    omega
theorem goP_ok {p : Pen} {d i : Nat} (h : PenOK p d i) (hi : i ≤ 60) : PenOK (goP p) d (i + 1) := ⟨(ax_ok h hi).1, (ax_ok h hi).2.1, h.2.2⟩
theorem getD_ap {α : Type} {L : List α} {a d : α} {j : Nat} : (L ++ [a]).getD j d = if j < L.length then L.getD j d else if j = L.length then a else d := by
  rw [List.getD_eq_getElem?_getD, List.getD_eq_getElem?_getD]
  by_cases h : j < L.length
  · rw [if_pos h, List.getElem?_append_left h]
  · rw [if_neg h, List.getElem?_append_right (by omega)]
    by_cases z : j = L.length
    · rw [if_pos z, z, Nat.sub_self]; rfl
    · rw [if_neg z, List.getElem?_eq_none (by simp; omega)]; rfl
theorem getD_drop {α : Type} {L : List α} {d : α} {j : Nat} (h : j < L.length - 1) : L.dropLast.getD j d = L.getD j d := by
  rw [List.getD_eq_getElem?_getD, List.getD_eq_getElem?_getD, List.getElem?_dropLast, if_pos h]
theorem slT_app {L : List SegV} {q : SegV} : slT (L ++ [q]) (L ++ [q]).length = slT L L.length + sl q := by
  unfold slT
  rw [List.length_append]
  show sumN (fun j => sl ((L ++ [q]).getD j sg0)) L.length + sl ((L ++ [q]).getD L.length sg0) = _
  rw [getD_ap, if_neg (by omega), if_pos rfl, sumN_congr (g := fun j => sl (L.getD j sg0)) (fun j hj => by rw [getD_ap, if_pos hj])]
theorem fig0_ok : FigV fig0 0 := by
  refine ⟨⟨Pt.of DV.zero (by decide), Pt.of DV.zero (by decide), DV.one, by decide⟩, by decide, fun j hj => absurd hj (by simp), by decide, fun j hj => absurd hj (by simp), ⟨DV.zero, by decide⟩, by decide⟩
theorem FigV.mk {p : Pen} {K : List Pen} {L : List SegV} {ink : UInt64} {dp i : Nat} (h1 : PenOK p K.length i) (h2 : K.length ≤ 20) (h3 : ∀ j, j < K.length → PenOK (K.getD j pen0) j i) (h4 : L.length ≤ i) (h5 : ∀ j, j < L.length → Pt (L.getD j sg0).1 (i * 1048576) ∧ Pt (L.getD j sg0).2.1 (i * 1048576) ∧ Pt (L.getD j sg0).2.2.1 (i * 1048576) ∧ Pt (L.getD j sg0).2.2.2 (i * 1048576)) (h6 : DV ink ((slT L L.length : Nat) : Int)) (h7 : slT L L.length ≤ i * 1048576) (h8 : dp ≤ 20) : FigV (p, K, L, ink, dp) i := ⟨h1, h2, h3, h4, h5, ⟨h6, h7⟩, h8⟩
theorem carry_ok {c i : Nat} {F G : Fig} (h : FigV F i) (hi : i ≤ 60) (hc : carry c F = some G) : FigV G (i + 1) := by
  obtain ⟨h1, h2, h3, h4, h5, ⟨h6, h7⟩, h8⟩ := h
  have m5 : ∀ j, j < F.2.2.1.length → Pt (F.2.2.1.getD j sg0).1 ((i + 1) * 1048576) ∧ Pt (F.2.2.1.getD j sg0).2.1 ((i + 1) * 1048576) ∧ Pt (F.2.2.1.getD j sg0).2.2.1 ((i + 1) * 1048576) ∧ Pt (F.2.2.1.getD j sg0).2.2.2 ((i + 1) * 1048576) := fun j hj => ⟨(h5 j hj).1.mono (by omega), (h5 j hj).2.1.mono (by omega), (h5 j hj).2.2.1.mono (by omega), (h5 j hj).2.2.2.mono (by omega)⟩
  have m3 : ∀ j, j < F.2.1.length → PenOK (F.2.1.getD j pen0) j (i + 1) := fun j hj => (h3 j hj).mono
  have m4 : F.2.2.1.length ≤ i + 1 := by omega
  have m7 : slT F.2.2.1 F.2.2.1.length ≤ (i + 1) * 1048576 := Nat.le_trans h7 (by omega)
  unfold carry at hc
  by_cases q1 : c = 1
  · rw [if_pos q1] at hc
    cases hc
    obtain ⟨a1, a2, a3⟩ := ax_ok h1 hi
    unfold drawF
    by_cases hs : oldS F = true
    · rw [if_pos hs]
      exact FigV.mk (goP_ok h1 hi) h2 m3 m4 m5 h6 m7 h8
    · rw [if_neg hs]
      have hp := pw20 F.2.1.length
      have hT : slT (F.2.2.1 ++ [newS F]) (F.2.2.1 ++ [newS F]).length = slT F.2.2.1 F.2.2.1.length + 2 ^ (20 - F.2.1.length) := by rw [slT_app, a3]
      have hst := h1.2.2.1
      have hll : (F.2.2.1 ++ [newS F]).length = F.2.2.1.length + 1 := by rw [List.length_append]; rfl
      refine FigV.mk (goP_ok h1 hi) h2 m3 (by omega) (fun j hj => ?_) ?_ ?_ h8
      · rw [hll] at hj
        rw [getD_ap]
        by_cases z : j < F.2.2.1.length
        · rw [if_pos z]
          exact m5 j z
        · rw [if_neg z, if_pos (by omega)]
          exact ⟨h1.1.mono (by omega), h1.2.1.mono (by omega), a1, a2⟩
      · rw [hT]
        generalize 2 ^ (20 - F.2.1.length) = P at hst hp ⊢
        rw [Int.natCast_add]
        exact DV.add h6 hst (by omega)
      · rw [hT]
        omega
  · rw [if_neg q1] at hc
    by_cases q2 : c = 2
    · rw [if_pos q2] at hc
      cases hc
      exact FigV.mk (goP_ok h1 hi) h2 m3 m4 m5 h6 m7 h8
    · rw [if_neg q2] at hc
      by_cases q3 : c = 3
      · rw [if_pos q3] at hc
        cases hc
        exact FigV.mk ⟨h1.1.mono (by omega), h1.2.1.mono (by omega), h1.2.2.1, Nat.mod_lt _ (by decide)⟩ h2 m3 m4 m5 h6 m7 h8
      · rw [if_neg q3] at hc
        by_cases q4 : c = 4
        · rw [if_pos q4] at hc
          cases hc
          exact FigV.mk ⟨h1.1.mono (by omega), h1.2.1.mono (by omega), h1.2.2.1, Nat.mod_lt _ (by decide)⟩ h2 m3 m4 m5 h6 m7 h8
        · rw [if_neg q4] at hc
          by_cases q5 : c = 5
          · rw [if_pos q5] at hc
            by_cases q : 20 ≤ F.2.1.length
            · rw [if_pos q] at hc; cases hc
            · rw [if_neg q] at hc
              cases hc
              have hl : (F.2.1 ++ [F.1]).length = F.2.1.length + 1 := by rw [List.length_append]; rfl
              have hpw : 2 ^ (20 - F.2.1.length) = 2 * 2 ^ (20 - (F.2.1.length + 1)) := by rw [← Nat.pow_succ']; congr 1; omega
              have hh : DV (FP.ddiv F.1.2.2.1 d2) ((2 ^ (20 - (F.2.1.length + 1)) : Nat) : Int) := by
                have h10 := h1.2.2.1
                rw [hpw, Int.natCast_mul] at h10
                exact DV.half h10 (by rw [Int.natAbs_natCast]; have := pw20 (F.2.1.length + 1); omega)
              refine FigV.mk ⟨h1.1.mono (by omega), h1.2.1.mono (by omega), by rw [hl]; exact hh, h1.2.2.2⟩ (by omega) (fun j hj => ?_) m4 m5 h6 m7 (show max F.2.2.2.2 (F.2.1.length + 1) ≤ 20 by omega)
              rw [getD_ap]
              by_cases z : j < F.2.1.length
              · rw [if_pos z]; exact m3 j z
              · rw [if_neg z, if_pos (by omega), show j = F.2.1.length by omega]
                exact h1.mono
          · rw [if_neg q5] at hc
            by_cases q6 : c = 6
            · rw [if_pos q6] at hc
              by_cases q : F.2.1.length = 0
              · rw [if_pos q] at hc; cases hc
              · rw [if_neg q] at hc
                cases hc
                have hl : F.2.1.dropLast.length = F.2.1.length - 1 := List.length_dropLast
                refine FigV.mk (by rw [hl]; exact m3 _ (by omega)) (by omega) (fun j hj => ?_) m4 m5 h6 m7 h8
                rw [getD_drop (by omega)]
                exact m3 j (by omega)
            · rw [if_neg q6] at hc
              cases hc
              exact FigV.mk h1.mono h2 m3 m4 m5 h6 m7 h8
theorem fig_ok {cm : Nat → Nat} {xs : List Nat} : ∀ {i : Nat} {F : Fig}, i ≤ 61 → figN cm xs i = some F → FigV F i := by
  intro i
  induction i with
  | zero =>
    intro F _ h
    cases h
    exact fig0_ok
  | succ i ih =>
    intro G hi h
    obtain ⟨F, hF⟩ := fig_le h (show i ≤ i + 1 by omega)
    rw [fig_s hF] at h
    exact carry_ok (ih (by omega) hF) (by omega) h

/-! recurrences: the two ways to them, the pure side -/
/-- a step of Berlekamp and Massey -/
def upC (C B : Nat → FF) (sh : Nat) (f : FF) : Nat → FF := fun i => C i - (if sh ≤ i then f * B (i - sh) else 0)
theorem cv_up {C B s : Nat → FF} {sh m : Nat} {f : FF} : cv (upC C B sh f) s m = cv C s m - (if sh ≤ m then f * cv B s (m - sh) else 0) := by
  have e : cv (upC C B sh f) s m = cv C s m - sumF (fun i => (if sh ≤ i then f * B (i - sh) else 0) * s (m - i)) (m + 1) := by
    unfold cv
    rw [← sumF_subf]
    refine sumF_congr (fun i _ => ?_)
    unfold upC
    grind
  rw [e]
  congr 1
  by_cases z : sh ≤ m
  · rw [if_pos z]
    obtain ⟨k, rfl⟩ := Nat.exists_eq_add_of_le z
    rw [show sh + k + 1 = sh + (k + 1) by omega, sumF_split (a := sh) (b := k + 1), sumF_zero (f := fun i => (if sh ≤ i then f * B (i - sh) else 0) * s (sh + k - i)) (n := sh) (fun i hi => by rw [if_neg (by omega)]; grind)]
    rw [show ∀ x : FF, 0 + x = x from fun x => by grind]
    unfold cv
    rw [← sumF_mulf, show sh + k - sh = k by omega]
    refine sumF_congr (fun i _ => ?_)
    rw [if_pos (by omega), show sh + k - (sh + i) = k - i by omega, show sh + i - sh = i by omega]
    grind
  · rw [if_neg z]
    refine sumF_zero (fun i hi => ?_)
    rw [if_neg (by omega)]; grind
def BMI (s : Nat → FF) (r n L : Nat) (C B : Nat → FF) (sh : Nat) (b : FF) : Prop := Vld s L C n ∧ L ≤ n ∧ L ≤ r ∧ b ≠ 0 ∧ 1 ≤ sh ∧ ∃ LB, LB + sh + L = n + 1 ∧ (∀ i, LB < i → B i = 0) ∧ (∀ m, LB + sh ≤ m → m < n → cv B s (m - sh) = 0) ∧ (L = 0 ∨ (sh ≤ n ∧ cv B s (n - sh) = b))
def C1 : Nat → FF := fun i => if i = 0 then 1 else 0
theorem bm_start {s : Nat → FF} {r : Nat} : BMI s r 0 0 C1 C1 1 1 := by
  refine ⟨⟨rfl, fun i hi => if_neg (by omega), fun n _ h => absurd h (by omega)⟩, Nat.le_refl _, Nat.zero_le _, by decide, Nat.le_refl _, 0, by omega, fun i hi => if_neg (by omega), fun m _ h => absurd h (by omega), Or.inl rfl⟩
theorem bm_same {s : Nat → FF} {r n L sh : Nat} {C B : Nat → FF} {b : FF} (h : BMI s r n L C B sh b) (hz : cv C s n = 0) : BMI s r (n + 1) L C B (sh + 1) b := by
  obtain ⟨hV, h1, h2, h3, h4, LB, e1, e2, e3, e4⟩ := h
  refine ⟨⟨hV.1, hV.2.1, fun m q1 q2 => ?_⟩, by omega, h2, h3, by omega, LB, by omega, e2, fun m q1 q2 => ?_, ?_⟩
  · by_cases z : m = n
    · rw [z]; exact hz
    · exact hV.2.2 m q1 (by omega)
  · have := e3 (m - 1) (by omega) (by omega)
    rw [show m - 1 - sh = m - (sh + 1) by omega] at this
    exact this
  · rcases e4 with q | q
    · exact Or.inl q
    · exact Or.inr ⟨by omega, by rw [show n + 1 - (sh + 1) = n - sh by omega]; exact q.2⟩
theorem up_vld {s : Nat → FF} {r n L sh : Nat} {C B : Nat → FF} {b : FF} (h : BMI s r n L C B sh b) {L' : Nat} (hL : L ≤ L') (hL2 : n + 1 ≤ L + L') : Vld s L' (upC C B sh (cv C s n * ivF b)) (n + 1) := by
  obtain ⟨hV, h1, h2, h3, h4, LB, e1, e2, e3, e4⟩ := h
  refine ⟨?_, fun i hi => ?_, fun m q1 q2 => ?_⟩
  · unfold upC
    rw [if_neg (by omega), hV.1]; grind
  · unfold upC
    rw [hV.2.1 i (by omega)]
    split
    · rw [e2 (i - sh) (by omega)]; grind
    · grind
  · rw [cv_up]
    by_cases z : m = n
    · subst z
      have q : sh ≤ m ∧ cv B s (m - sh) = b := by
        rcases e4 with q | q
        · omega
        · exact q
      have := ivF_mul h3
      rw [if_pos q.1, q.2]
      grind
    · rw [hV.2.2 m (by omega) (by omega), if_pos (by omega), e3 m (by omega) (by omega)]
      grind
theorem bm_keep {s : Nat → FF} {r n L sh : Nat} {C B : Nat → FF} {b : FF} (h : BMI s r n L C B sh b) (hl : ¬ 2 * L ≤ n) : BMI s r (n + 1) L (upC C B sh (cv C s n * ivF b)) B (sh + 1) b := by
  have hU := up_vld h (Nat.le_refl L) (by omega)
  obtain ⟨hV, h1, h2, h3, h4, LB, e1, e2, e3, e4⟩ := h
  refine ⟨hU, by omega, h2, h3, by omega, LB, by omega, e2, fun m q1 q2 => ?_, ?_⟩
  · have := e3 (m - 1) (by omega) (by omega)
    rw [show m - 1 - sh = m - (sh + 1) by omega] at this
    exact this
  · rcases e4 with q | q
    · exact Or.inl q
    · exact Or.inr ⟨by omega, by rw [show n + 1 - (sh + 1) = n - sh by omega]; exact q.2⟩
theorem bm_grow {s : Nat → FF} {r n L sh : Nat} {C B D : Nat → FF} {b : FF} (hD : Glb s r D) (h : BMI s r n L C B sh b) (hl : 2 * L ≤ n) (hz : cv C s n ≠ 0) : BMI s r (n + 1) (n + 1 - L) (upC C B sh (cv C s n * ivF b)) C (0 + 1) (cv C s n) := by
  have hU := up_vld h (L' := n + 1 - L) (by omega) (by omega)
  obtain ⟨hV, h1, h2, h3, h4, LB, e1, e2, e3, e4⟩ := h
  have hm := massey hV hD hz
  refine ⟨hU, by omega, by omega, hz, by omega, L, by omega, hV.2.1, fun m q1 q2 => hV.2.2 (m - (0 + 1)) (by omega) (by omega), Or.inr ⟨by omega, rfl⟩⟩
theorem bm_end {s : Nat → FF} {r L sh : Nat} {C B D : Nat → FF} {b : FF} (hR : RecS s r D) (hr : r ≤ 6) (h : BMI s r 12 L C B sh b) : L = r ∧ C = D := by
  obtain ⟨hV, h1, h2, -⟩ := h
  have hG := hV.glb hR.1 (by omega)
  have hL : L = r := Nat.le_antisymm h2 (hR.2 _ _ hG)
  subst hL
  exact ⟨rfl, hR.uniq (by omega) hG⟩
/-- elimination: twelve rows, o + 1 columns -/
def Zer (A : Nat → Nat → FF) (o : Nat) (z : Nat → FF) : Prop := ∀ e, e < 12 → sumF (fun k => A e k * z k) (o + 1) = 0
def swpM (A : Nat → Nat → FF) (pv rk : Nat) (f : FF) : Nat → Nat → FF := fun e k => if e = rk then A pv k * f else if e = pv then A rk k else A e k
def elM (A : Nat → Nat → FF) (rk c : Nat) : Nat → Nat → FF := fun e k => A e k - (if e = rk then 0 else A e c) * A rk k
theorem zer_swp {A : Nat → Nat → FF} {o pv rk : Nat} {f : FF} {z : Nat → FF} (hp : pv < 12) (hr : rk < 12) (hf : f ≠ 0) : Zer (swpM A pv rk f) o z ↔ Zer A o z := by
  have e1 : sumF (fun k => swpM A pv rk f rk k * z k) (o + 1) = f * sumF (fun k => A pv k * z k) (o + 1) := by
    rw [← sumF_mulf]
    refine sumF_congr (fun k _ => ?_)
    unfold swpM
    rw [if_pos rfl]; grind
  have e2 : pv ≠ rk → sumF (fun k => swpM A pv rk f pv k * z k) (o + 1) = sumF (fun k => A rk k * z k) (o + 1) := fun q => sumF_congr (fun k _ => by
    unfold swpM
    rw [if_neg q, if_pos rfl])
  have e3 : ∀ e, e ≠ rk → e ≠ pv → sumF (fun k => swpM A pv rk f e k * z k) (o + 1) = sumF (fun k => A e k * z k) (o + 1) := fun e q1 q2 => sumF_congr (fun k _ => by
    unfold swpM
    rw [if_neg q1, if_neg q2])
  constructor
  · intro h e he
    by_cases q1 : e = pv
    · subst q1
      have := h rk hr
      rw [e1] at this
      exact ff_dom this hf
    · by_cases q2 : e = rk
      · subst q2
        have := h pv hp
        rw [e2 (fun q => q1 q.symm)] at this
        exact this
      · have := h e he
        rw [e3 e q2 q1] at this
        exact this
  · intro h e he
    by_cases q2 : e = rk
    · subst q2
      rw [e1, h pv hp]; grind
    · by_cases q1 : e = pv
      · subst q1
        rw [e2 q2]; exact h rk hr
      · rw [e3 e q2 q1]; exact h e he
theorem zer_el {A : Nat → Nat → FF} {o rk c : Nat} {z : Nat → FF} (hr : rk < 12) : Zer (elM A rk c) o z ↔ Zer A o z := by
  have e1 : ∀ e, sumF (fun k => elM A rk c e k * z k) (o + 1) = sumF (fun k => A e k * z k) (o + 1) - (if e = rk then 0 else A e c) * sumF (fun k => A rk k * z k) (o + 1) := fun e => by
    rw [← sumF_mulf, ← sumF_subf]
    refine sumF_congr (fun k _ => ?_)
    unfold elM
    grind
  constructor
  · intro h
    have h0 : sumF (fun k => A rk k * z k) (o + 1) = 0 := by
      have := h rk hr
      rw [e1, if_pos rfl] at this
      grind
    intro e he
    have := h e he
    rw [e1, h0] at this
    grind
  · intro h e he
    rw [e1, h e he, h rk hr]; grind
/-- the first c columns are those of the unit matrix -/
def unit (A : Nat → Nat → FF) (c : Nat) : Prop := ∀ j, j < c → ∀ e, e < 12 → A e j = if e = j then 1 else 0
theorem el_unit {A : Nat → Nat → FF} {c pv : Nat} (hc : c < 12) (hpv : c ≤ pv) (hp : pv < 12) (hu : unit A c) (hne : A pv c ≠ 0) : unit (elM (swpM A pv c (ivF (A pv c))) c c) (c + 1) := by
  intro j hj e he
  have hiv := ivF_mul hne
  have hcc : swpM A pv c (ivF (A pv c)) c c = 1 := by
    unfold swpM
    rw [if_pos rfl]; grind
  by_cases z : j = c
  · subst z
    unfold elM
    by_cases q : e = j
    · rw [if_pos q, if_pos q, q, hcc]; grind
    · rw [if_neg q, if_neg q, hcc]; grind
  · have hjc : j < c := by omega
    have h0 : swpM A pv c (ivF (A pv c)) c j = 0 := by
      unfold swpM
      rw [if_pos rfl, hu j hjc pv hp, if_neg (by omega)]; grind
    have h1 : swpM A pv c (ivF (A pv c)) e j = if e = j then 1 else 0 := by
      by_cases q : e = c
      · rw [q, h0, if_neg (by omega)]
      · unfold swpM
        rw [if_neg q]
        by_cases q2 : e = pv
        · rw [if_pos q2, hu j hjc c hc, if_neg (by omega), if_neg (by omega)]
        · rw [if_neg q2]; exact hu j hjc e he
    unfold elM
    rw [h1, h0]; grind
/-- without a relation there is a pivot -/
theorem pivot_ex {A : Nat → Nat → FF} {c o : Nat} (hc : c < o) (ho : o ≤ 6) (hu : unit A c) (hk : ∀ z : Nat → FF, z o = 0 → Zer A o z → ∀ k, k < o → z k = 0) : ∃ pv, c ≤ pv ∧ pv < 12 ∧ A pv c ≠ 0 := by
  refine Classical.byContradiction (fun hn => ?_)
  have hz : ∀ e, c ≤ e → e < 12 → A e c = 0 := fun e h1 h2 => Classical.byContradiction (fun q => hn ⟨e, h1, h2, q⟩)
  have h1 := hk (fun k => if k < c then - A k c else if k = c then 1 else 0) (by show (if o < c then - A o c else if o = c then 1 else 0) = 0; rw [if_neg (by omega), if_neg (by omega)]) (fun e he => ?_) c hc
  · have h1 : (if c < c then - A c c else if c = c then (1 : FF) else 0) = 0 := h1
    rw [if_neg (by omega), if_pos rfl] at h1
    exact absurd h1 (by decide)
  · show sumF (fun k => A e k * (if k < c then - A k c else if k = c then 1 else 0)) (o + 1) = 0
    rw [sumF_cut (m := c + 1) (by omega) (fun k h1 h2 => by rw [if_neg (by omega), if_neg (by omega)]; grind)]
    show sumF _ c + A e c * (if c < c then - A c c else if c = c then 1 else 0) = 0
    rw [if_neg (by omega), if_pos rfl]
    by_cases q : e < c
    · rw [sumF_pick (j := e) q (fun k h1 h2 => by rw [hu k h1 e he, if_neg (fun y => h2 y.symm)]; grind)]
      rw [if_pos q, hu e q e he, if_pos rfl]; grind
    · rw [sumF_zero (fun k h1 => by rw [hu k h1 e he, if_neg (by omega)]; grind), hz e (by omega) he]; grind
/-- the rows at the start -/
def eqA (s : Nat → FF) (o : Nat) : Nat → Nat → FF := fun e k => if k < o then s (o + e - (k + 1)) else s (o + e)
def relC (o : Nat) (z : Nat → FF) : Nat → FF := fun i => if i = 0 then z o else if i ≤ o then z (i - 1) else 0
theorem zer_cv {s z : Nat → FF} {o e : Nat} : sumF (fun k => eqA s o e k * z k) (o + 1) = cv (relC o z) s (o + e) := by
  have e1 : cv (relC o z) s (o + e) = sumF (fun i => relC o z i * s (o + e - i)) (o + 1) := sumF_cut (m := o + 1) (by omega) (fun i h1 h2 => by
    unfold relC
    rw [if_neg (by omega), if_neg (by omega)]; grind)
  have e3 : sumF (fun i => relC o z i * s (o + e - i)) (1 + o) = relC o z 0 * s (o + e - 0) + sumF (fun i => relC o z (1 + i) * s (o + e - (1 + i))) o := by
    rw [sumF_split (a := 1) (b := o)]
    show (0 + relC o z 0 * s (o + e - 0)) + _ = _
    grind
  rw [Nat.add_comm 1 o] at e3
  rw [e1, e3]
  show sumF _ o + eqA s o e o * z o = _
  have e2 : sumF (fun i => relC o z (1 + i) * s (o + e - (1 + i))) o = sumF (fun k => eqA s o e k * z k) o := sumF_congr (fun k hk => by
    unfold relC eqA
    rw [if_neg (by omega), if_pos (by omega), if_pos hk, show 1 + k - 1 = k by omega, show o + e - (1 + k) = o + e - (k + 1) by omega]; grind)
  rw [e2]
  unfold relC eqA
  rw [if_pos rfl, if_neg (by omega), Nat.sub_zero]
  grind
theorem eqA_ker {s D z : Nat → FF} {o r : Nat} (hR : RecS s r D) (hr : r ≤ 6) (ho : o ≤ r) (hz : z o = 0) (h : Zer (eqA s o) o z) : ∀ k, k < o → z k = 0 := fun k hk => by
  refine Classical.byContradiction (fun q => ?_)
  have := no_rel (C := relC o z) (k := k + 1) hR (by omega) (fun i hi => by unfold relC; rw [if_neg (by omega), if_neg (by omega)]) (fun n h1 h2 => by
    have := h (n - o) (by omega)
    rw [zer_cv, show o + (n - o) = n by omega] at this
    exact this) (by unfold relC; rw [if_neg (by omega), if_pos (by omega)]; exact q) ho
  refine this.2 ?_
  unfold relC
  rw [if_pos rfl]; exact hz
/-- rows in their last form: what they say of the recurrence -/
def zV (g : Nat → FF) (c : FF) (o : Nat) : Nat → FF := fun k => if k < o then g k else c
theorem zV_lt {g : Nat → FF} {c : FF} {o k : Nat} (h : k < o) : zV g c o k = g k := if_pos h
theorem zV_o {g : Nat → FF} {c : FF} {o : Nat} : zV g c o o = c := if_neg (by omega)
theorem el_sum {A : Nat → Nat → FF} {g : Nat → FF} {c : FF} {o e : Nat} (he : e < 12) (hu : unit A o) : sumF (fun k => A e k * zV g c o k) (o + 1) = (if e < o then g e else 0) + A e o * c := by
  show sumF _ o + A e o * zV g c o o = _
  rw [zV_o]
  congr 1
  by_cases q : e < o
  · rw [if_pos q, sumF_pick (j := e) q (fun k h1 h2 => by rw [hu k h1 e he, if_neg (fun y => h2 y.symm)]; grind), hu e q e he, if_pos rfl, zV_lt q]; grind
  · rw [if_neg q, sumF_zero (fun k h1 => by rw [hu k h1 e he, if_neg (by omega)]; grind)]
theorem el_no {s D : Nat → FF} {A : Nat → Nat → FF} {o r : Nat} (hR : RecS s r D) (hr : r ≤ 6) (ho : o < r) (hu : unit A o) (hz : ∀ z, Zer A o z ↔ Zer (eqA s o) o z) : ¬ ∀ e, o ≤ e → e < 12 → A e o = 0 := fun hc => by
  have h : Zer A o (zV (fun k => A k o) (-1) o) := fun e he => by
    rw [el_sum he hu]
    by_cases q : e < o
    · rw [if_pos q]; grind
    · rw [if_neg q, hc e (by omega) he]; grind
  have h2 := (hz _).mp h
  have h3 := no_rel (C := relC o (zV (fun k => A k o) (-1) o)) (o := o) (k := 0) hR (by omega) (fun i hi => by unfold relC; rw [if_neg (by omega), if_neg (by omega)]) (fun n h1 hn => by
    have := h2 (n - o) (by omega)
    rw [zer_cv, show o + (n - o) = n by omega] at this
    exact this) (by unfold relC; rw [if_pos rfl, zV_o]; decide) (by omega)
  omega
theorem el_yes {s D : Nat → FF} {A : Nat → Nat → FF} {r : Nat} (hR : RecS s r D) (hr : r ≤ 6) (hu : unit A r) (hz : ∀ z, Zer A r z ↔ Zer (eqA s r) r z) : (∀ e, r ≤ e → e < 12 → A e r = 0) ∧ ∀ k, k < r → A k r = - D (k + 1) := by
  have h : Zer (eqA s r) r (zV (fun k => D (k + 1)) 1 r) := fun e he => by
    rw [zer_cv]
    have e1 : relC r (zV (fun k => D (k + 1)) 1 r) = D := by
      funext i
      unfold relC
      by_cases q : i = 0
      · rw [if_pos q, zV_o, q]; exact hR.1.1.symm
      · rw [if_neg q]
        by_cases q2 : i ≤ r
        · rw [if_pos q2, zV_lt (by omega), show i - 1 + 1 = i by omega]
        · rw [if_neg q2]; exact (hR.1.2.1 i (by omega)).symm
    rw [e1]
    exact hR.1.2.2 _ (by omega)
  have h2 := (hz _).mpr h
  refine ⟨fun e h1 h3 => ?_, fun k hk => ?_⟩
  · have := h2 e h3
    rw [el_sum h3 hu, if_neg (by omega)] at this
    grind
  · have := h2 k (by omega)
    rw [el_sum (by omega) hu, if_pos hk] at this
    grind

/-! kinds of growth: the pure side -/
theorem sum_pick {f : Nat → Nat} {x n : Nat} (h : x < n) : sumN (fun b => if x = b then f b else 0) n = f x := by
  induction n with
  | zero => omega
  | succ n ih =>
    show sumN (fun b => if x = b then f b else 0) n + (if x = n then f n else 0) = _
    by_cases z : x = n
    · subst z
      rw [if_pos rfl, sumN_zero (fun i hi => if_neg (by omega)), Nat.zero_add]
    · rw [if_neg z, ih (by omega), Nat.add_zero]
/-- closure of a relation, by letters passed through -/
def wsh (E : Nat → Nat → Bool) : Nat → Nat → Nat → Bool
  | 0, a, b => E a b
  | k + 1, a, b => wsh E k a b || (wsh E k a k && wsh E k k b)
abbrev rcx (E : Nat → Nat → Bool) (a b : Nat) : Bool := wsh E 6 a b
theorem wsh_s {E : Nat → Nat → Bool} {k a b : Nat} : wsh E (k + 1) a b = true ↔ wsh E k a b = true ∨ (wsh E k a k = true ∧ wsh E k k b = true) := by
  show (wsh E k a b || (wsh E k a k && wsh E k k b)) = true ↔ _
  rw [Bool.or_eq_true, Bool.and_eq_true]
theorem wsh_E {E : Nat → Nat → Bool} {a b : Nat} (h : E a b = true) : ∀ k, wsh E k a b = true := by
  intro k
  induction k with
  | zero => exact h
  | succ k ih => exact wsh_s.mpr (Or.inl ih)
theorem wsh_tr {E : Nat → Nat → Bool} : ∀ (k : Nat) {a j b : Nat}, j < k → wsh E k a j = true → wsh E k j b = true → wsh E k a b = true := by
  intro k
  induction k with
  | zero => intro a j b h; omega
  | succ k ih =>
    intro a j b h h1 h2
    rw [wsh_s] at h1 h2 ⊢
    by_cases z : j = k
    · subst z
      have e1 : wsh E j a j = true := by rcases h1 with q | q; exact q; exact q.1
      have e2 : wsh E j j b = true := by rcases h2 with q | q; exact q; exact q.2
      exact Or.inr ⟨e1, e2⟩
    · have hj : j < k := by omega
      rcases h1 with h1 | h1 <;> rcases h2 with h2 | h2
      · exact Or.inl (ih hj h1 h2)
      · exact Or.inr ⟨ih hj h1 h2.1, h2.2⟩
      · exact Or.inr ⟨h1.1, ih hj h1.2 h2⟩
      · exact Or.inr ⟨h1.1, h2.2⟩
theorem rcx_tr {E : Nat → Nat → Bool} {a j b : Nat} (hj : j < 6) (h1 : rcx E a j = true) (h2 : rcx E j b = true) : rcx E a b = true := wsh_tr 6 hj h1 h2
theorem rcx_E {E : Nat → Nat → Bool} {a b : Nat} (h : E a b = true) : rcx E a b = true := wsh_E h 6
theorem wsh_min {E : Nat → Nat → Bool} {Q : Nat → Nat → Prop} (h1 : ∀ a b, a < 6 → b < 6 → E a b = true → Q a b) (h2 : ∀ a j b, a < 6 → j < 6 → b < 6 → Q a j → Q j b → Q a b) : ∀ k, k ≤ 6 → ∀ a b, a < 6 → b < 6 → wsh E k a b = true → Q a b := by
  intro k
  induction k with
  | zero => intro _ a b ha hb h; exact h1 a b ha hb h
  | succ k ih =>
    intro hk a b ha hb h
    rw [wsh_s] at h
    rcases h with h | ⟨h, h'⟩
    · exact ih (by omega) a b ha hb h
    · exact h2 a k b ha (by omega) hb (ih (by omega) a k ha (by omega) h) (ih (by omega) k b (by omega) hb h')
theorem rcx_min {E : Nat → Nat → Bool} {Q : Nat → Nat → Prop} (h1 : ∀ a b, a < 6 → b < 6 → E a b = true → Q a b) (h2 : ∀ a j b, a < 6 → j < 6 → b < 6 → Q a j → Q j b → Q a b) {a b : Nat} (ha : a < 6) (hb : b < 6) (h : rcx E a b = true) : Q a b := wsh_min h1 h2 6 (Nat.le_refl 6) a b ha hb h
/-- its first step -/
theorem rcx_first {E : Nat → Nat → Bool} {a c : Nat} (ha : a < 6) (hc : c < 6) (h : rcx E a c = true) : ∃ b, b < 6 ∧ E a b = true ∧ (b = c ∨ rcx E b c = true) := by
  refine rcx_min (E := E) (Q := fun a c => ∃ b, b < 6 ∧ E a b = true ∧ (b = c ∨ rcx E b c = true)) (fun a b _ hb h => ⟨b, hb, h, Or.inl rfl⟩) ?_ ha hc h
  rintro a j b - hj hb ⟨x, hx, e1, e2⟩ ⟨y, hy, e3, e4⟩
  have hjb : rcx E j b = true := by
    rcases e4 with e4 | e4
    · subst e4; exact rcx_E e3
    · exact rcx_tr hy (rcx_E e3) e4
  refine ⟨x, hx, e1, Or.inr ?_⟩
  rcases e2 with e2 | e2
  · subst e2; exact hjb
  · exact rcx_tr hj e2 hjb
/-- some of the first n -/
def anyB (p : Nat → Bool) : Nat → Bool
  | 0 => false
  | i + 1 => anyB p i || p i
theorem anyB_iff {p : Nat → Bool} {n : Nat} : anyB p n = true ↔ ∃ i, i < n ∧ p i = true := by
  induction n with
  | zero => exact ⟨fun h => Bool.noConfusion h, fun ⟨i, h, _⟩ => absurd h (by omega)⟩
  | succ n ih =>
    show (anyB p n || p n) = true ↔ _
    rw [Bool.or_eq_true, ih]
    constructor
    · rintro (⟨i, h1, h2⟩ | h)
      · exact ⟨i, by omega, h2⟩
      · exact ⟨n, by omega, h⟩
    · rintro ⟨i, h1, h2⟩
      by_cases z : i = n
      · rw [z] at h2; exact Or.inr h2
      · exact Or.inl ⟨i, by omega, h2⟩
/-- which letters live: a letter's turn, a round, n rounds -/
def livS (E : Nat → Nat → Bool) (L : Nat → Bool) (a : Nat) : Nat → Bool := fun x => if x = a then L a && anyB (fun b => E a b && L b) 6 else L x
def livA (E : Nat → Nat → Bool) (L : Nat → Bool) : Nat → Nat → Bool
  | 0 => L
  | a + 1 => livS E (livA E L a) a
def livN (E : Nat → Nat → Bool) : Nat → Nat → Bool
  | 0 => fun _ => true
  | n + 1 => livA E (livN E n) 6
abbrev liv (E : Nat → Nat → Bool) : Nat → Bool := livN E 6
def onC (E : Nat → Nat → Bool) (a : Nat) : Prop := ∃ c, c < 6 ∧ rcx E c c = true ∧ (a = c ∨ rcx E a c = true)
def livI (E : Nat → Nat → Bool) (L : Nat → Bool) : Prop := (∀ a, a < 6 → L a = false → ∀ b, b < 6 → E a b = true → L b = false) ∧ ∀ a, a < 6 → onC E a → L a = true
theorem onC_next {E : Nat → Nat → Bool} {a : Nat} (ha : a < 6) (h : onC E a) : ∃ b, b < 6 ∧ E a b = true ∧ onC E b := by
  obtain ⟨c, hc, h1, h2⟩ := h
  have h3 : rcx E a c = true := by
    rcases h2 with h2 | h2
    · subst h2; exact h1
    · exact h2
  obtain ⟨b, hb, e1, e2⟩ := rcx_first ha hc h3
  exact ⟨b, hb, e1, c, hc, h1, e2⟩
theorem livS_I {E : Nat → Nat → Bool} {L : Nat → Bool} {a : Nat} (ha : a < 6) (h : livI E L) : livI E (livS E L a) := by
  have mono : ∀ x, L x = false → livS E L a x = false := fun x hx => by
    unfold livS
    by_cases z : x = a
    · rw [if_pos z, ← z, hx, Bool.false_and]
    · rw [if_neg z]; exact hx
  refine ⟨fun x hx hd b hb he => ?_, fun x hx hc => ?_⟩
  · by_cases z : x = a
    · subst z
      unfold livS at hd
      rw [if_pos rfl, Bool.and_eq_false_iff] at hd
      rcases hd with hd | hd
      · exact mono b (h.1 x hx hd b hb he)
      · refine mono b ?_
        cases hL : L b with
        | false => rfl
        | true =>
          have : anyB (fun b => E x b && L b) 6 = true := anyB_iff.mpr ⟨b, hb, by rw [he, hL]; rfl⟩
          rw [this] at hd
          exact absurd hd (by decide)
    · unfold livS at hd
      rw [if_neg z] at hd
      exact mono b (h.1 x hx hd b hb he)
  · by_cases z : x = a
    · subst z
      unfold livS
      rw [if_pos rfl, h.2 x hx hc, Bool.true_and]
      obtain ⟨b, hb, e1, e2⟩ := onC_next hx hc
      exact anyB_iff.mpr ⟨b, hb, by rw [e1, h.2 b hb e2]; rfl⟩
    · unfold livS
      rw [if_neg z]
      exact h.2 x hx hc
theorem livA_I {E : Nat → Nat → Bool} {L : Nat → Bool} (h : livI E L) : ∀ a, a ≤ 6 → livI E (livA E L a) := by
  intro a
  induction a with
  | zero => intro _; exact h
  | succ a ih => intro ha; exact livS_I (by omega) (ih (by omega))
theorem livN_I {E : Nat → Nat → Bool} : ∀ n, livI E (livN E n) := by
  intro n
  induction n with
  | zero => exact ⟨fun a _ h => Bool.noConfusion h, fun _ _ _ => rfl⟩
  | succ n ih => exact livA_I ih 6 (Nat.le_refl 6)
def edL (E : Nat → Nat → Bool) (a b : Nat) : Bool := liv E a && liv E b && E a b
theorem liv_back {E : Nat → Nat → Bool} {a b : Nat} (ha : a < 6) (hb : b < 6) (h : E a b = true) (hl : liv E b = true) : liv E a = true := by
  cases hL : liv E a with
  | true => rfl
  | false => exact absurd ((livN_I (E := E) 6).1 a ha hL b hb h) (by rw [show livN E 6 b = true from hl]; decide)
theorem liv_cyc {E : Nat → Nat → Bool} {a : Nat} (ha : a < 6) (h : rcx E a a = true) : liv E a = true := (livN_I (E := E) 6).2 a ha ⟨a, ha, h, Or.inl rfl⟩
theorem leads_iff {E : Nat → Nat → Bool} {a b : Nat} (ha : a < 6) (hb : b < 6) : rcx (edL E) a b = true ↔ rcx E a b = true ∧ liv E b = true := by
  constructor
  · intro h
    refine rcx_min (E := edL E) (Q := fun a b => rcx E a b = true ∧ liv E b = true) (fun a b _ _ h => ?_) (fun a j b _ hj _ h1 h2 => ⟨rcx_tr hj h1.1 h2.1, h2.2⟩) ha hb h
    unfold edL at h
    rw [Bool.and_eq_true, Bool.and_eq_true] at h
    exact ⟨rcx_E h.2, h.1.2⟩
  · rintro ⟨h, hl⟩
    refine (rcx_min (E := E) (Q := fun a b => liv E b = true → liv E a = true ∧ rcx (edL E) a b = true) (fun a b ha hb h hl => ?_) (fun a j b _ hj _ h1 h2 hl => ?_) ha hb h hl).2
    · have := liv_back ha hb h hl
      refine ⟨this, rcx_E ?_⟩
      unfold edL
      rw [this, hl, h]; rfl
    · have e2 := h2 hl
      have e1 := h1 e2.1
      exact ⟨e1.1, rcx_tr hj e1.2 e2.2⟩
theorem leads_cyc {E : Nat → Nat → Bool} {a b : Nat} (ha : a < 6) (hb : b < 6) (hc : rcx E b b = true) : rcx (edL E) a b = rcx E a b := by
  rw [Bool.eq_iff_iff, leads_iff ha hb]
  exact ⟨fun h => h.1, fun h => ⟨h, liv_cyc hb hc⟩⟩
theorem leads_self {E : Nat → Nat → Bool} {a : Nat} (ha : a < 6) : rcx (edL E) a a = rcx E a a := by
  rw [Bool.eq_iff_iff, leads_iff ha ha]
  exact ⟨fun h => h.1, fun h => ⟨h, liv_cyc ha h⟩⟩
/-- the greatest of the first n -/
def maxN (f : Nat → Nat) : Nat → Nat
  | 0 => 0
  | i + 1 => max (maxN f i) (f i)
theorem maxN_le {f : Nat → Nat} {n m : Nat} : maxN f n ≤ m ↔ ∀ i, i < n → f i ≤ m := by
  induction n with
  | zero => exact ⟨fun _ i h => absurd h (by omega), fun _ => Nat.zero_le m⟩
  | succ n ih =>
    show max (maxN f n) (f n) ≤ m ↔ _
    rw [Nat.max_le, ih]
    constructor
    · rintro ⟨h1, h2⟩ i hi
      by_cases z : i = n
      · rw [z]; exact h2
      · exact h1 i (by omega)
    · intro h
      exact ⟨fun i hi => h i (by omega), h n (by omega)⟩
theorem le_maxN {f : Nat → Nat} {n i : Nat} (h : i < n) : f i ≤ maxN f n := maxN_le.mp (Nat.le_refl _) i h
theorem maxN_congr {f g : Nat → Nat} {n : Nat} (h : ∀ i, i < n → f i = g i) : maxN f n = maxN g n := by
  induction n with
  | zero => rfl
  | succ n ih =>
    show max (maxN f n) (f n) = max (maxN g n) (g n)
    rw [ih (fun i hi => h i (by omega)), h n (by omega)]
/-- cycles one behind the other -/
def dpt (R : Nat → Nat → Bool) : Nat → Nat → Nat
  | 0, _ => 0
  | n + 1, a => 1 + maxN (fun b => if (R b b && R a b && !R b a) = true then dpt R n b else 0) 6
abbrev dp (R : Nat → Nat → Bool) (a : Nat) : Nat := dpt R 6 a
def rk (R : Nat → Nat → Bool) (a : Nat) : Nat := sumN (fun b => if R a b = true then 1 else 0) 6
theorem rk_le (R : Nat → Nat → Bool) (a : Nat) : rk R a ≤ 6 := by
  have := sumN_le (f := fun b => if R a b = true then 1 else 0) (b := 1) (n := 6) (fun u _ => by split <;> omega)
  unfold rk
  omega
theorem sumN_lem {f g : Nat → Nat} {n : Nat} (h : ∀ i, i < n → f i ≤ g i) : sumN f n ≤ sumN g n := by
  induction n with
  | zero => exact Nat.le_refl _
  | succ n ih =>
    have h1 := ih (fun i hi => h i (by omega))
    have h2 := h n (by omega)
    show sumN f n + f n ≤ sumN g n + g n
    omega
theorem sumN_lt {f g : Nat → Nat} {n j : Nat} (h : ∀ i, i < n → f i ≤ g i) (hj : j < n) (hl : f j < g j) : sumN f n < sumN g n := by
  induction n with
  | zero => omega
  | succ n ih =>
    have h2 := h n (by omega)
    show sumN f n + f n < sumN g n + g n
    by_cases z : j = n
    · subst z
      have h1 := sumN_lem (f := f) (g := g) (n := j) (fun i hi => h i (by omega))
      omega
    · have h1 := ih (fun i hi => h i (by omega)) (by omega)
      omega
def isTr (R : Nat → Nat → Bool) : Prop := ∀ a j b, j < 6 → R a j = true → R j b = true → R a b = true
theorem rk_lt {R : Nat → Nat → Bool} (hR : isTr R) {a b : Nat} (ha : a < 6) (hb : b < 6) (hc : R a a = true) (h1 : R a b = true) (h2 : ¬ R b a = true) : rk R b < rk R a := by
  refine sumN_lt (j := a) (fun i hi => ?_) ha ?_
  · by_cases z : R b i = true
    · rw [if_pos z, if_pos (hR a b i hb h1 z)]
      exact Nat.le_refl _
    · rw [if_neg z]; exact Nat.zero_le _
  · show (if R b a = true then 1 else 0) < (if R a a = true then 1 else 0)
    rw [if_neg h2, if_pos hc]
    omega
theorem rk_pos {R : Nat → Nat → Bool} {a : Nat} (ha : a < 6) (hc : R a a = true) : 0 < rk R a := by
  have := sumN_lt (f := fun _ => 0) (g := fun b => if R a b = true then 1 else 0) (n := 6) (j := a) (fun _ _ => Nat.zero_le _) ha (by show 0 < (if R a a = true then 1 else 0); rw [if_pos hc]; omega)
  unfold rk
  omega
theorem dpt_st {R : Nat → Nat → Bool} (hR : isTr R) : ∀ (n a : Nat), a < 6 → R a a = true → rk R a ≤ n → dpt R n a = dpt R (n + 1) a := by
  intro n
  induction n with
  | zero => intro a ha hc h; have := rk_pos ha hc; omega
  | succ n ih =>
    intro a ha hc h
    show 1 + maxN _ 6 = 1 + maxN _ 6
    congr 1
    refine maxN_congr (fun b hb => ?_)
    by_cases z : (R b b && R a b && !R b a) = true
    · rw [if_pos z, if_pos z]
      rw [Bool.and_eq_true, Bool.and_eq_true, Bool.not_eq_true'] at z
      have := rk_lt hR ha hb hc z.1.2 (by rw [z.2]; decide)
      exact ih b hb z.1.1 (by omega)
    · rw [if_neg z, if_neg z]
theorem dp_eq {R : Nat → Nat → Bool} (hR : isTr R) {a : Nat} (ha : a < 6) (hc : R a a = true) : dp R a = 1 + maxN (fun b => if (R b b && R a b && !R b a) = true then dp R b else 0) 6 := dpt_st hR 6 a ha hc (rk_le R a)
theorem dpt_le {R : Nat → Nat → Bool} : ∀ n a, dpt R n a ≤ n := by
  intro n
  induction n with
  | zero => intro a; exact Nat.le_refl _
  | succ n ih =>
    intro a
    show 1 + maxN _ 6 ≤ n + 1
    have : maxN (fun b => if (R b b && R a b && !R b a) = true then dpt R n b else 0) 6 ≤ n := maxN_le.mpr (fun i _ => by
      show (if (R i i && R a i && !R i a) = true then dpt R n i else 0) ≤ n
      split
      · exact ih i
      · exact Nat.zero_le _)
    omega
theorem dp_le {R : Nat → Nat → Bool} (a : Nat) : dp R a ≤ 6 := dpt_le 6 a
theorem dp_pos {R : Nat → Nat → Bool} (a : Nat) : 1 ≤ dp R a := by
  show 1 ≤ 1 + maxN _ 6
  omega
/-- chains, by rounds -/
def lenM (R : Nat → Nat → Bool) (ch : Nat → Nat) (a i : Nat) : Nat := max (ch a) (maxN (fun o => if (R a o && !R o a) = true then ch o + 1 else 0) i)
def lenC (R : Nat → Nat → Bool) (ch : Nat → Nat) (a : Nat) : Nat → Nat := fun x => if x = a ∧ ch a ≠ 0 then lenM R ch a 6 else ch x
def chA (R : Nat → Nat → Bool) (ch : Nat → Nat) : Nat → Nat → Nat
  | 0 => ch
  | a + 1 => lenC R (chA R ch a) a
def chN (R : Nat → Nat → Bool) : Nat → Nat → Nat
  | 0 => fun a => if R a a = true then 1 else 0
  | n + 1 => chA R (chN R n) 6
def chI (R : Nat → Nat → Bool) (r j : Nat) (ch : Nat → Nat) : Prop := (∀ a, a < 6 → ¬ R a a = true → ch a = 0) ∧ (∀ a, a < 6 → R a a = true → 1 ≤ ch a ∧ ch a ≤ dp R a) ∧ ∀ a, a < 6 → R a a = true → (dp R a ≤ r + 1 ∨ (a < j ∧ dp R a ≤ r + 2)) → ch a = dp R a
theorem lenC_I {R : Nat → Nat → Bool} (hR : isTr R) {r j : Nat} {ch : Nat → Nat} (hj : j < 6) (h : chI R r j ch) : chI R r (j + 1) (lenC R ch j) := by
  by_cases hc : R j j = true
  · have h1 := h.2.1 j hj hc
    have up : lenM R ch j 6 ≤ dp R j := by
      refine Nat.max_le.mpr ⟨h1.2, maxN_le.mpr (fun o ho => ?_)⟩
      show (if (R j o && !R o j) = true then ch o + 1 else 0) ≤ _
      by_cases z : (R j o && !R o j) = true
      · rw [if_pos z]
        rw [Bool.and_eq_true, Bool.not_eq_true'] at z
        by_cases hoc : R o o = true
        · have h2 := (h.2.1 o ho hoc).2
          have h3 := le_maxN (f := fun b => if (R b b && R j b && !R b j) = true then dp R b else 0) ho
          have h4 : (if (R o o && R j o && !R o j) = true then dp R o else 0) = dp R o := if_pos (by rw [hoc, z.1, z.2]; rfl)
          have h5 := dp_eq hR hj hc
          have h3 : (if (R o o && R j o && !R o j) = true then dp R o else 0) ≤ _ := h3
          rw [h4] at h3
          omega
        · rw [h.1 o ho hoc]
          exact dp_pos j
      · rw [if_neg z]; exact Nat.zero_le _
    have ex : dp R j ≤ r + 2 → lenM R ch j 6 = dp R j := fun hd => by
      refine Nat.le_antisymm up ?_
      have h5 := dp_eq hR hj hc
      have h6 : maxN (fun b => if (R b b && R j b && !R b j) = true then dp R b else 0) 6 ≤ lenM R ch j 6 - 1 := maxN_le.mpr (fun b hb => by
        show (if (R b b && R j b && !R b j) = true then dp R b else 0) ≤ _
        by_cases z : (R b b && R j b && !R b j) = true
        · rw [if_pos z]
          have h3 := le_maxN (f := fun b => if (R b b && R j b && !R b j) = true then dp R b else 0) hb
          have h3 : (if (R b b && R j b && !R b j) = true then dp R b else 0) ≤ _ := h3
          rw [if_pos z] at h3
          rw [Bool.and_eq_true, Bool.and_eq_true, Bool.not_eq_true'] at z
          have h7 := h.2.2 b hb z.1.1 (Or.inl (by omega))
          have h8 := le_maxN (f := fun o => if (R j o && !R o j) = true then ch o + 1 else 0) hb
          have h8 : (if (R j b && !R b j) = true then ch b + 1 else 0) ≤ _ := h8
          rw [if_pos (by rw [z.1.2, z.2]; rfl)] at h8
          have h9 : maxN (fun o => if (R j o && !R o j) = true then ch o + 1 else 0) 6 ≤ lenM R ch j 6 := Nat.le_max_right _ _
          omega
        · rw [if_neg z]; exact Nat.zero_le _)
      have h10 : ch j ≤ lenM R ch j 6 := Nat.le_max_left _ _
      omega
    have e0 : lenC R ch j j = lenM R ch j 6 := if_pos ⟨rfl, by omega⟩
    have e1 : ∀ x, x ≠ j → lenC R ch j x = ch x := fun x hx => if_neg (fun q => hx q.1)
    refine ⟨fun a ha hn => ?_, fun a ha ha2 => ?_, fun a ha ha2 hd => ?_⟩
    · rw [e1 a (fun q => hn (q ▸ hc))]; exact h.1 a ha hn
    · by_cases z : a = j
      · subst z
        rw [e0]
        have h10 : ch a ≤ lenM R ch a 6 := Nat.le_max_left _ _
        exact ⟨by omega, up⟩
      · rw [e1 a z]; exact h.2.1 a ha ha2
    · by_cases z : a = j
      · subst z
        rw [e0]
        exact ex (by omega)
      · rw [e1 a z]
        exact h.2.2 a ha ha2 (by omega)
  · have e : lenC R ch j = ch := by
      funext x
      exact if_neg (fun q => q.2 (h.1 j hj hc))
    rw [e]
    exact ⟨h.1, h.2.1, fun a ha ha2 hd => h.2.2 a ha ha2 (by
      have : a ≠ j := fun q => hc (q ▸ ha2)
      omega)⟩
theorem chA_I {R : Nat → Nat → Bool} (hR : isTr R) {r : Nat} {ch : Nat → Nat} (h : chI R r 0 ch) : ∀ j, j ≤ 6 → chI R r j (chA R ch j) := by
  intro j
  induction j with
  | zero => intro _; exact h
  | succ j ih => intro hj; exact lenC_I hR (by omega) (ih (by omega))
theorem chN_I {R : Nat → Nat → Bool} (hR : isTr R) : ∀ r, chI R r 0 (chN R r) := by
  intro r
  induction r with
  | zero =>
    refine ⟨fun a _ h => if_neg h, fun a _ h => ?_, fun a _ h hd => ?_⟩
    · show 1 ≤ (if R a a = true then 1 else 0) ∧ (if R a a = true then 1 else 0) ≤ _
      rw [if_pos h]; exact ⟨Nat.le_refl _, dp_pos a⟩
    · show (if R a a = true then 1 else 0) = _
      rw [if_pos h]
      have := dp_pos (R := R) a
      omega
  | succ r ih =>
    have := chA_I hR ih 6 (Nat.le_refl 6)
    exact ⟨this.1, this.2.1, fun a ha hc hd => this.2.2 a ha hc (Or.inr ⟨ha, by omega⟩)⟩
theorem ch_dp {R : Nat → Nat → Bool} (hR : isTr R) {a : Nat} (ha : a < 6) : chN R 6 a = if R a a = true then dp R a else 0 := by
  by_cases hc : R a a = true
  · rw [if_pos hc]
    exact (chN_I hR 6).2.2 a ha hc (Or.inl (by have := dp_le (R := R) a; omega))
  · rw [if_neg hc]
    exact (chN_I hR 6).1 a ha hc
theorem chA_le {R : Nat → Nat → Bool} (hR : isTr R) {r j : Nat} (hj : j ≤ 6) : ∀ a, a < 6 → chA R (chN R r) j a ≤ 6 := fun a ha => by
  have h := chA_I hR (chN_I hR r) j hj
  by_cases hc : R a a = true
  · have := (h.2.1 a ha hc).2
    have := dp_le (R := R) a
    omega
  · rw [h.1 a ha hc]; omega
/-- edges of a table -/
def ed (T : TabV) (a b : Nat) : Bool := decide (0 < occ (prd T a) b)
abbrev RT (T : TabV) (a b : Nat) : Bool := rcx (ed T) a b
theorem RT_tr (T : TabV) : isTr (RT T) := fun _ _ _ hj h1 h2 => rcx_tr hj h1 h2
/-- how often a letter comes back in a round -/
def bk (T : TabV) (a : Nat) : Nat := sumN (fun b => if RT T b a = true then occ (prd T a) b else 0) 6
def bkN (T : TabV) (a i : Nat) : Nat := sumN (fun u => if RT T ((prd T a).getD u 0) a = true then 1 else 0) i
theorem bkN_sum {T : TabV} {a : Nat} {p : List Nat} : ∀ i, (∀ u, u < i → p.getD u 0 < 6) → sumN (fun u => if RT T (p.getD u 0) a = true then 1 else 0) i = sumN (fun b => if RT T b a = true then occN p b i else 0) 6 := by
  intro i
  induction i with
  | zero =>
    intro _
    refine (sumN_zero (fun b _ => ?_)).symm
    show (if RT T b a = true then occN p b 0 else 0) = 0
    split <;> rfl
  | succ i ih =>
    intro h
    show sumN _ i + _ = _
    rw [ih (fun u hu => h u (by omega))]
    have e : sumN (fun b => if RT T b a = true then occN p b (i + 1) else 0) 6 = sumN (fun b => (if RT T b a = true then occN p b i else 0) + (if p.getD i 0 = b then (if RT T b a = true then 1 else 0) else 0)) 6 := sumN_congr (fun b _ => by
      show (if RT T b a = true then occN p b (i + 1) else 0) = _
      rw [occN_s]
      by_cases z : RT T b a = true
      · rw [if_pos z, if_pos z, if_pos z]
      · rw [if_neg z, if_neg z, if_neg z]
        split <;> rfl)
    rw [e, sumN_addf]
    congr 1
    exact (sum_pick (f := fun b => if RT T b a = true then 1 else 0) (h i (by omega))).symm
theorem bk_eq {T : TabV} {a : Nat} (h : PrOK (prd T a)) : bkN T a (prd T a).length = bk T a := bkN_sum _ h.2
/-- letters that a word reaches -/
def rwd (T : TabV) (xs : List Nat) (n a : Nat) : Bool := anyB (fun i => decide (xs.getD i 0 = a) || RT T (xs.getD i 0) a) n
def gval (T : TabV) (a : Nat) : Nat := if RT T a a = true then (if 1 < bk T a then 1001 else dp (RT T) a) else 0
/-- 1001: faster than each polynomial; else how many cycles lie one behind the other -/
def gM (T : TabV) (xs : List Nat) : Nat := maxN (fun a => if rwd T xs xs.length a = true then gval T a else 0) 6
theorem gval_le {T : TabV} {a : Nat} : gval T a ≤ 1001 := by
  unfold gval
  have := dp_le (R := RT T) a
  split
  · split <;> omega
  · omega
theorem gM_le {T : TabV} {xs : List Nat} : gM T xs ≤ 1001 := maxN_le.mpr (fun i _ => by
  show (if rwd T xs xs.length i = true then gval T i else 0) ≤ 1001
  have := gval_le (T := T) (a := i)
  split <;> omega)
theorem bk_cyc {T : TabV} {a : Nat} (h : PrOK (prd T a)) (ha : a < 6) (hb : 0 < bk T a) : RT T a a = true := by
  refine Classical.byContradiction (fun hn => ?_)
  have : bk T a = 0 := sumN_zero (fun b hb => by
    show (if RT T b a = true then occ (prd T a) b else 0) = 0
    by_cases z : RT T b a = true
    · rw [if_pos z]
      refine Classical.byContradiction (fun q => hn ?_)
      have he : ed T a b = true := decide_eq_true (by omega)
      exact rcx_tr hb (rcx_E he) z
    · rw [if_neg z])
  omega
theorem gM_1001 {T : TabV} {xs : List Nat} : gM T xs = 1001 ↔ ∃ a, a < 6 ∧ rwd T xs xs.length a = true ∧ RT T a a = true ∧ 1 < bk T a := by
  constructor
  · intro h
    refine Classical.byContradiction (fun hn => ?_)
    have : gM T xs ≤ 6 := maxN_le.mpr (fun a ha => by
      show (if rwd T xs xs.length a = true then gval T a else 0) ≤ 6
      by_cases z : rwd T xs xs.length a = true
      · rw [if_pos z]
        unfold gval
        by_cases q : RT T a a = true
        · rw [if_pos q, if_neg (fun y => hn ⟨a, ha, z, q, y⟩)]
          exact dp_le a
        · rw [if_neg q]; omega
      · rw [if_neg z]; omega)
    omega
  · rintro ⟨a, ha, h1, h2, h3⟩
    have h4 := le_maxN (f := fun a => if rwd T xs xs.length a = true then gval T a else 0) ha
    have h4 : (if rwd T xs xs.length a = true then gval T a else 0) ≤ gM T xs := h4
    rw [if_pos h1] at h4
    unfold gval at h4
    rw [if_pos h2, if_pos h3] at h4
    have := gM_le (T := T) (xs := xs)
    omega
theorem gM_small {T : TabV} {xs : List Nat} (h : gM T xs ≠ 1001) : gM T xs ≤ 6 ∧ gM T xs = maxN (fun a => if rwd T xs xs.length a = true then (if RT T a a = true then dp (RT T) a else 0) else 0) 6 := by
  have e : ∀ a, a < 6 → (if rwd T xs xs.length a = true then gval T a else 0) = (if rwd T xs xs.length a = true then (if RT T a a = true then dp (RT T) a else 0) else 0) := fun a ha => by
    by_cases z : rwd T xs xs.length a = true
    · rw [if_pos z, if_pos z]
      unfold gval
      by_cases q : RT T a a = true
      · rw [if_pos q, if_pos q, if_neg (fun y => h (gM_1001.mpr ⟨a, ha, z, q, y⟩))]
      · rw [if_neg q, if_neg q]
    · rw [if_neg z, if_neg z]
  have e2 : gM T xs = _ := maxN_congr e
  refine ⟨?_, e2⟩
  rw [e2]
  refine maxN_le.mpr (fun a _ => ?_)
  show (if rwd T xs xs.length a = true then (if RT T a a = true then dp (RT T) a else 0) else 0) ≤ 6
  have := dp_le (R := RT T) a
  split
  · split <;> omega
  · omega
/-- by places of the word -/
theorem gM_places {T : TabV} {xs : List Nat} : gM T xs = maxN (fun i => maxN (fun a => if (decide (xs.getD i 0 = a) || RT T (xs.getD i 0) a) = true then gval T a else 0) 6) xs.length := by
  refine Nat.le_antisymm (maxN_le.mpr (fun a ha => ?_)) (maxN_le.mpr (fun i hi => maxN_le.mpr (fun a ha => ?_)))
  · show (if rwd T xs xs.length a = true then gval T a else 0) ≤ _
    by_cases z : rwd T xs xs.length a = true
    · rw [if_pos z]
      obtain ⟨i, hi, q⟩ := anyB_iff.mp z
      have h1 := le_maxN (f := fun i => maxN (fun a => if (decide (xs.getD i 0 = a) || RT T (xs.getD i 0) a) = true then gval T a else 0) 6) hi
      have h2 := le_maxN (f := fun a => if (decide (xs.getD i 0 = a) || RT T (xs.getD i 0) a) = true then gval T a else 0) ha
      have h2 : (if (decide (xs.getD i 0 = a) || RT T (xs.getD i 0) a) = true then gval T a else 0) ≤ _ := h2
      rw [if_pos q] at h2
      exact Nat.le_trans h2 h1
    · rw [if_neg z]; exact Nat.zero_le _
  · show (if (decide (xs.getD i 0 = a) || RT T (xs.getD i 0) a) = true then gval T a else 0) ≤ _
    by_cases z : (decide (xs.getD i 0 = a) || RT T (xs.getD i 0) a) = true
    · rw [if_pos z]
      have h1 := le_maxN (f := fun a => if rwd T xs xs.length a = true then gval T a else 0) ha
      have h1 : (if rwd T xs xs.length a = true then gval T a else 0) ≤ _ := h1
      have hr : rwd T xs xs.length a = true := anyB_iff.mpr ⟨i, hi, z⟩
      rw [if_pos hr] at h1
      exact h1
    · rw [if_neg z]; exact Nat.zero_le _

/-! recurrences: the pure side -/
abbrev FF : Type := Fin 10007
def natF (n : Nat) : FF := ⟨n % 10007, Nat.mod_lt _ (by decide)⟩
theorem natF_val (n : Nat) : (natF n).val = n % 10007 := rfl
theorem natF_lt {n : Nat} (h : n < 10007) : (natF n).val = n := Nat.mod_eq_of_lt h
theorem natF_of (a : FF) : natF a.val = a := Fin.ext (Nat.mod_eq_of_lt a.isLt)
theorem natF_add (a b : Nat) : natF (a + b) = natF a + natF b := Fin.ext (Nat.add_mod a b 10007)
theorem natF_mul (a b : Nat) : natF (a * b) = natF a * natF b := Fin.ext (Nat.mul_mod a b 10007)
theorem natF_mod (a : Nat) : natF (a % 10007) = natF a := Fin.ext (Nat.mod_mod a 10007)
theorem natF_0 : natF 0 = 0 := rfl
theorem natF_1 : natF 1 = 1 := rfl
theorem ff_z {a : FF} : a.val = 0 ↔ a = 0 := ⟨fun h => Fin.ext h, fun h => by rw [h]; rfl⟩
def pw (a : FF) : Nat → FF
  | 0 => 1
  | n + 1 => pw a n * a
theorem pw_sq (a : FF) : ∀ n, pw (a * a) n = pw a (2 * n) := by
  intro n
  induction n with
  | zero => rfl
  | succ n ih =>
    show pw (a * a) n * (a * a) = pw a (2 * n) * a * a
    rw [ih]
    grind
theorem fpw_pw : ∀ (k p s e : Nat), e < 2 ^ k → natF (fpw k p s e) = natF p * pw (natF s) e := by
  intro k
  induction k with
  | zero =>
    intro p s e h
    have : e = 0 := by simpa using h
    subst this
    show natF p = natF p * 1
    grind
  | succ k ih =>
    intro p s e h
    unfold fpw
    rw [ih _ _ _ (by omega), natF_mod, natF_mul, pw_sq]
    by_cases z : e % 2 = 1
    · rw [if_pos z, natF_mod, natF_mul]
      rw [show e = 2 * (e / 2) + 1 by omega]
      rw [show (2 * (e / 2) + 1) / 2 = e / 2 by omega]
      show natF p * natF s * pw (natF s) (2 * (e / 2)) = natF p * (pw (natF s) (2 * (e / 2)) * natF s)
      grind
    · rw [if_neg z, show 2 * (e / 2) = e by omega]
theorem fpw_0 : ∀ (k p s : Nat), fpw k p s 0 = p := by
  intro k
  induction k with
  | zero => intro p s; rfl
  | succ k ih => intro p s; unfold fpw; exact ih _ _
theorem fpw_lt : ∀ (k p s e : Nat), p < 10007 → fpw k p s e < 10007 := by
  intro k
  induction k with
  | zero => intro p s e h; exact h
  | succ k ih =>
    intro p s e h
    unfold fpw
    refine ih _ _ _ ?_
    split
    · exact Nat.mod_lt _ (by decide)
    · exact h
def ivF (a : FF) : FF := natF (fpw 14 1 a.val 10005)
theorem ivF_pw (a : FF) : ivF a = pw a 10005 := by
  unfold ivF
  rw [fpw_pw 14 1 a.val 10005 (by decide), natF_1, natF_of]
  grind
theorem ivF_val (a : FF) : (ivF a).val = fpw 14 1 a.val 10005 := natF_lt (fpw_lt 14 1 a.val 10005 (by decide))
theorem ivF_mul {a : FF} (h : a ≠ 0) : ivF a * a = 1 := by
  have hl := a.isLt
  have hne : a.val ≠ 0 := fun q => h (ff_z.mp q)
  have hc := chk_all (a.val / 100) (by omega) (a.val % 100) (by omega)
  rw [show 100 * (a.val / 100) + a.val % 100 = a.val by omega] at hc
  unfold chk at hc
  have h1 : (a.val == 0) = false := by simpa using hne
  have h2 : Nat.ble 10007 a.val = false := by
    cases hb : Nat.ble 10007 a.val with
    | false => rfl
    | true => have := Nat.le_of_ble_eq_true hb; omega
  rw [h1, h2, Bool.false_or, Bool.false_or] at hc
  have hc : fpw 14 1 a.val 10005 * a.val % 10007 = 1 := by simpa using hc
  apply Fin.ext
  rw [Fin.val_mul, ivF_val]
  exact hc
theorem ff_dom {a b : FF} (h : a * b = 0) (ha : a ≠ 0) : b = 0 := by
  have := ivF_mul ha
  grind
theorem ivF_ne {a : FF} (h : a ≠ 0) : ivF a ≠ 0 := fun q => by
  have h1 := ivF_mul h
  rw [q] at h1
  have h2 : (0 : FF) * a = 0 := by grind
  rw [h2] at h1
  exact absurd h1 (by decide)
/-- sums -/
def sumF (f : Nat → FF) : Nat → FF
  | 0 => 0
  | n + 1 => sumF f n + f n
theorem sumF_congr {f g : Nat → FF} {n : Nat} (h : ∀ i, i < n → f i = g i) : sumF f n = sumF g n := by
  induction n with
  | zero => rfl
  | succ n ih =>
    show sumF f n + f n = sumF g n + g n
    rw [ih (fun i hi => h i (by omega)), h n (by omega)]
theorem sumF_zero {f : Nat → FF} {n : Nat} (h : ∀ i, i < n → f i = 0) : sumF f n = 0 := by
  induction n with
  | zero => rfl
  | succ n ih =>
    show sumF f n + f n = 0
    rw [ih (fun i hi => h i (by omega)), h n (by omega)]
    rfl
theorem sumF_addf {f g : Nat → FF} {n : Nat} : sumF (fun i => f i + g i) n = sumF f n + sumF g n := by
  induction n with
  | zero => rfl
  | succ n ih =>
    show sumF (fun i => f i + g i) n + (f n + g n) = (sumF f n + f n) + (sumF g n + g n)
    rw [ih]; grind
theorem sumF_subf {f g : Nat → FF} {n : Nat} : sumF (fun i => f i - g i) n = sumF f n - sumF g n := by
  induction n with
  | zero => rfl
  | succ n ih =>
    show sumF (fun i => f i - g i) n + (f n - g n) = (sumF f n + f n) - (sumF g n + g n)
    rw [ih]; grind
theorem sumF_mulf {f : Nat → FF} {c : FF} {n : Nat} : sumF (fun i => c * f i) n = c * sumF f n := by
  induction n with
  | zero => show (0 : FF) = c * 0; grind
  | succ n ih =>
    show sumF (fun i => c * f i) n + c * f n = c * (sumF f n + f n)
    rw [ih]; grind
theorem sumF_split {f : Nat → FF} {a b : Nat} : sumF f (a + b) = sumF f a + sumF (fun i => f (a + i)) b := by
  induction b with
  | zero => show sumF f a = sumF f a + 0; grind
  | succ b ih =>
    show sumF f (a + b) + f (a + b) = sumF f a + (sumF (fun i => f (a + i)) b + f (a + b))
    rw [ih]; grind
theorem sumF_ext {f : Nat → FF} {m n : Nat} (h : m ≤ n) : sumF f m = sumF (fun i => if i < m then f i else 0) n := by
  obtain ⟨k, rfl⟩ := Nat.exists_eq_add_of_le h
  rw [sumF_split, sumF_zero (f := fun i => if m + i < m then f (m + i) else 0) (fun i _ => if_neg (by omega)), sumF_congr (f := f) (g := fun i => if i < m then f i else 0) (fun i hi => (if_pos hi).symm)]
  grind
theorem sumF_cut {f : Nat → FF} {m n : Nat} (h : m ≤ n) (hz : ∀ i, m ≤ i → i < n → f i = 0) : sumF f n = sumF f m := by
  obtain ⟨k, rfl⟩ := Nat.exists_eq_add_of_le h
  rw [sumF_split, sumF_zero (f := fun i => f (m + i)) (fun i hi => hz _ (by omega) (by omega))]
  grind
theorem sumF_pick {f : Nat → FF} {n j : Nat} (hj : j < n) (h : ∀ i, i < n → i ≠ j → f i = 0) : sumF f n = f j := by
  induction n with
  | zero => omega
  | succ n ih =>
    show sumF f n + f n = f j
    by_cases z : j = n
    · subst z
      rw [sumF_zero (fun i hi => h i (by omega) (by omega))]
      grind
    · rw [ih (by omega) (fun i hi hne => h i (by omega) hne), h n (by omega) (fun q => z q.symm)]
      grind
theorem sumF_comm {f : Nat → Nat → FF} {m n : Nat} : sumF (fun i => sumF (f i) n) m = sumF (fun j => sumF (fun i => f i j) m) n := by
  induction m with
  | zero => exact (sumF_zero (fun _ _ => rfl)).symm
  | succ m ih =>
    show sumF (fun i => sumF (f i) n) m + sumF (f m) n = sumF (fun j => sumF (fun i => f i j) m + f m j) n
    rw [ih, sumF_addf]
theorem natF_sum {f : Nat → Nat} {n : Nat} : natF (sumN f n) = sumF (fun i => natF (f i)) n := by
  induction n with
  | zero => rfl
  | succ n ih =>
    show natF (sumN f n + f n) = sumF (fun i => natF (f i)) n + natF (f n)
    rw [natF_add, ih]
/-- C times s, at n -/
def cv (C s : Nat → FF) (n : Nat) : FF := sumF (fun i => C i * s (n - i)) (n + 1)
theorem cv_sq {C s : Nat → FF} {n N : Nat} (h : n < N) : cv C s n = sumF (fun i => if i ≤ n then C i * s (n - i) else 0) N := by
  unfold cv
  rw [sumF_ext (show n + 1 ≤ N by omega)]
  refine sumF_congr (fun i _ => ?_)
  by_cases z : i ≤ n
  · rw [if_pos (by omega), if_pos z]
  · rw [if_neg (by omega), if_neg z]
theorem cv_comm {C D s : Nat → FF} {n : Nat} : cv D (cv C s) n = cv C (cv D s) n := by
  have key : ∀ A B : Nat → FF, cv A (cv B s) n = sumF (fun j => sumF (fun i => if i + j ≤ n then A j * B i * s (n - (i + j)) else 0) (n + 1)) (n + 1) := fun A B => by
    show sumF (fun j => A j * cv B s (n - j)) (n + 1) = _
    refine sumF_congr (fun j hj => ?_)
    rw [cv_sq (N := n + 1) (by omega), ← sumF_mulf]
    refine sumF_congr (fun i _ => ?_)
    by_cases z : i + j ≤ n
    · rw [if_pos z, if_pos (by omega), show n - j - i = n - (i + j) by omega]
      grind
    · rw [if_neg z, if_neg (by omega)]
      grind
  rw [key D C, key C D, sumF_comm]
  refine sumF_congr (fun i _ => sumF_congr (fun j _ => ?_))
  rw [Nat.add_comm i j]
  by_cases z : j + i ≤ n
  · rw [if_pos z, if_pos z]
    grind
  · rw [if_neg z, if_neg z]
/-- a recurrence that holds from L on, up to N; everywhere; with the least order -/
def Vld (s : Nat → FF) (L : Nat) (C : Nat → FF) (N : Nat) : Prop := C 0 = 1 ∧ (∀ i, L < i → C i = 0) ∧ ∀ n, L ≤ n → n < N → cv C s n = 0
def Glb (s : Nat → FF) (L : Nat) (C : Nat → FF) : Prop := C 0 = 1 ∧ (∀ i, L < i → C i = 0) ∧ ∀ n, L ≤ n → cv C s n = 0
def RecS (s : Nat → FF) (r : Nat) (D : Nat → FF) : Prop := Glb s r D ∧ ∀ L C, Glb s L C → r ≤ L
theorem cv_zero {C e : Nat → FF} {n L : Nat} (hC : ∀ i, L < i → C i = 0) (he : ∀ i, i ≤ L → i ≤ n → e (n - i) = 0) : cv C e n = 0 := by
  unfold cv
  refine sumF_zero (fun i hi => ?_)
  by_cases z : i ≤ L
  · rw [he i z (by omega)]; grind
  · rw [hC i (by omega)]; grind
theorem cv_first {D e : Nat → FF} {n r : Nat} (h0 : D 0 = 1) (hD : ∀ i, r < i → D i = 0) (he : ∀ j, 1 ≤ j → j ≤ r → j ≤ n → e (n - j) = 0) : cv D e n = e n := by
  unfold cv
  rw [sumF_pick (j := 0) (by omega) (fun i hi hne => ?_)]
  · rw [h0, Nat.sub_zero]; grind
  · by_cases z : i ≤ r
    · rw [he i (by omega) z (by omega)]; grind
    · rw [hD i (by omega)]; grind
theorem Vld.glb {s : Nat → FF} {L r N : Nat} {C D : Nat → FF} (hC : Vld s L C N) (hD : Glb s r D) (hN : L + r ≤ N) : Glb s L C := by
  refine ⟨hC.1, hC.2.1, fun n => ?_⟩
  induction n using Nat.strongRecOn with
  | _ n ih =>
    intro hn
    by_cases z : n < N
    · exact hC.2.2 n hn z
    · have e1 : cv D (cv C s) n = cv C s n := cv_first hD.1 hD.2.1 (fun j h1 h2 h3 => ih (n - j) (by omega) (by omega))
      have e2 : cv C (cv D s) n = 0 := cv_zero hC.2.1 (fun i h1 h2 => hD.2.2 (n - i) (by omega))
      rw [← e1, cv_comm, e2]
theorem massey {s : Nat → FF} {L r n : Nat} {C D : Nat → FF} (hC : Vld s L C n) (hD : Glb s r D) (hn : cv C s n ≠ 0) : n + 1 ≤ L + r := by
  refine Nat.le_of_not_lt (fun hlt => hn ?_)
  have e1 : cv D (cv C s) n = cv C s n := cv_first hD.1 hD.2.1 (fun j h1 h2 h3 => hC.2.2 (n - j) (by omega) (by omega))
  have e2 : cv C (cv D s) n = 0 := cv_zero hC.2.1 (fun i h1 h2 => hD.2.2 (n - i) (by omega))
  rw [← e1, cv_comm, e2]
theorem cv_shift {C s : Nat → FF} {i0 m : Nat} {c : FF} (h : ∀ i, i < i0 → C i = 0) : cv (fun j => c * C (i0 + j)) s m = c * cv C s (i0 + m) := by
  have e : cv C s (i0 + m) = sumF (fun i => C (i0 + i) * s (m - i)) (m + 1) := by
    unfold cv
    rw [show i0 + m + 1 = i0 + (m + 1) by omega, sumF_split (a := i0) (b := m + 1), sumF_zero (f := fun i => C i * s (i0 + m - i)) (n := i0) (fun i hi => by rw [h i hi]; grind)]
    rw [show ∀ x : FF, 0 + x = x from fun x => by grind]
    refine sumF_congr (fun i _ => ?_)
    rw [show i0 + m - (i0 + i) = m - i by omega]
  rw [e, ← sumF_mulf]
  unfold cv
  refine sumF_congr (fun i _ => ?_)
  grind
/-- from a relation to a recurrence -/
theorem norm {C s : Nat → FF} {o i0 N : Nat} (hs : ∀ i, o < i → C i = 0) (hz : ∀ i, i < i0 → C i = 0) (hne : C i0 ≠ 0) (hv : ∀ n, o ≤ n → n < N → cv C s n = 0) : i0 ≤ o ∧ Vld s (o - i0) (fun j => ivF (C i0) * C (i0 + j)) (N - i0) := by
  have hle : i0 ≤ o := Nat.le_of_not_lt (fun q => hne (hs i0 q))
  refine ⟨hle, ivF_mul hne, fun i hi => ?_, fun n h1 h2 => ?_⟩
  · show ivF (C i0) * C (i0 + i) = 0
    rw [hs (i0 + i) (by omega)]; grind
  · rw [cv_shift hz, hv (i0 + n) (by omega) (by omega)]; grind
theorem first_ne {C : Nat → FF} : ∀ {n : Nat}, C n ≠ 0 → ∃ i0, i0 ≤ n ∧ C i0 ≠ 0 ∧ ∀ i, i < i0 → C i = 0 := by
  intro n
  induction n using Nat.strongRecOn with
  | _ n ih =>
    intro h
    by_cases z : ∃ m, m < n ∧ C m ≠ 0
    · obtain ⟨m, h1, h2⟩ := z
      obtain ⟨i0, e1, e2, e3⟩ := ih m h1 h2
      exact ⟨i0, by omega, e2, e3⟩
    · exact ⟨n, Nat.le_refl _, h, fun i hi => Classical.byContradiction (fun q => z ⟨i, hi, q⟩)⟩
/-- no relation below the least order, and none that begins with 0 -/
theorem no_rel {s C D : Nat → FF} {o r k : Nat} (hR : RecS s r D) (hr : r ≤ 12) (hs : ∀ i, o < i → C i = 0) (hv : ∀ n, o ≤ n → n < o + 12 → cv C s n = 0) (hne : C k ≠ 0) (ho : o ≤ r) : o = r ∧ C 0 ≠ 0 := by
  obtain ⟨i0, -, h2, h3⟩ := first_ne hne
  obtain ⟨hle, hV⟩ := norm hs h3 h2 hv
  have hG := hV.glb hR.1 (show o - i0 + r ≤ o + 12 - i0 by omega)
  have := hR.2 _ _ hG
  have z : i0 = 0 := by omega
  subst z
  exact ⟨by omega, h2⟩
theorem exists_min {P : Nat → Prop} : ∀ n, P n → ∃ m, P m ∧ ∀ k, P k → m ≤ k := by
  intro n
  induction n using Nat.strongRecOn with
  | _ n ih =>
    intro h
    by_cases z : ∃ m, m < n ∧ P m
    · obtain ⟨m, h1, h2⟩ := z
      exact ih m h1 h2
    · exact ⟨n, h, fun k hk => Nat.le_of_not_lt (fun q => z ⟨k, q, hk⟩)⟩
theorem RecS.uniq {s C D : Nat → FF} {r : Nat} (hR : RecS s r D) (hr : r ≤ 12) (hC : Glb s r C) : C = D := by
  funext k
  refine Classical.byContradiction (fun hne => ?_)
  have h := no_rel (C := fun i => C i - D i) (o := r) (k := k) hR hr (fun i hi => by show C i - D i = 0; rw [hC.2.1 i hi, hR.1.2.1 i hi]; grind) (fun n h1 _ => ?_) (fun q => hne (by grind)) (Nat.le_refl r)
  · refine h.2 ?_
    show C 0 - D 0 = 0
    rw [hC.1, hR.1.1]; grind
  · have e : cv (fun i => C i - D i) s n = cv C s n - cv D s n := by
      unfold cv
      rw [← sumF_subf]
      refine sumF_congr (fun i _ => ?_)
      grind
    rw [e, hC.2.2 n h1, hR.1.2.2 n h1]; grind
/-- n + 1 rows of length n depend -/
def skp (j i : Nat) : Nat := if i < j then i else i + 1
theorem skp_inv (j i : Nat) : (if skp j i < j then skp j i else skp j i - 1) = i := by
  unfold skp
  by_cases q : i < j
  · rw [if_pos q, if_pos q]
  · rw [if_neg q, if_neg (by omega)]; omega
theorem sumF_skip {g : Nat → FF} {j : Nat} : ∀ {n : Nat}, j ≤ n → sumF g (n + 1) = g j + sumF (fun i => g (skp j i)) n := by
  intro n
  induction n with
  | zero =>
    intro h
    have z : j = 0 := by omega
    subst z
    show (0 : FF) + g 0 = g 0 + 0
    grind
  | succ n ih =>
    intro h
    by_cases z : j = n + 1
    · subst z
      show sumF g (n + 1) + g (n + 1) = g (n + 1) + sumF (fun i => g (skp (n + 1) i)) (n + 1)
      rw [sumF_congr (f := fun i => g (skp (n + 1) i)) (g := g) (fun i hi => by show g (if i < n + 1 then i else i + 1) = g i; rw [if_pos hi])]
      grind
    · show sumF g (n + 1) + g (n + 1) = g j + (sumF (fun i => g (skp j i)) n + g (skp j n))
      rw [ih (by omega), show skp j n = n + 1 from if_neg (by omega)]
      grind
theorem dep : ∀ (n : Nat) (u : Nat → Nat → FF), ∃ d : Nat → FF, (∃ i, i ≤ n ∧ d i ≠ 0) ∧ ∀ b, b < n → sumF (fun i => d i * u i b) (n + 1) = 0 := by
  intro n
  induction n with
  | zero => intro u; exact ⟨fun _ => 1, ⟨0, Nat.le_refl _, by decide⟩, fun b h => absurd h (by omega)⟩
  | succ n ih =>
    intro u
    by_cases h : ∃ j, j ≤ n + 1 ∧ u j n ≠ 0
    · obtain ⟨j, hj, hu⟩ := h
      obtain ⟨d', ⟨i, hi, hdi⟩, hd⟩ := ih (fun i b => u (skp j i) b - u (skp j i) n * ivF (u j n) * u j b)
      have hiv := ivF_mul hu
      refine ⟨fun i => if i = j then - sumF (fun i => d' i * u (skp j i) n * ivF (u j n)) (n + 1) else d' (if i < j then i else i - 1), ⟨skp j i, ?_, ?_⟩, fun b hb => ?_⟩
      · unfold skp; split <;> omega
      · show (if skp j i = j then _ else d' (if skp j i < j then skp j i else skp j i - 1)) ≠ 0
        have e : skp j i ≠ j := by unfold skp; split <;> omega
        have e2 : (if skp j i < j then skp j i else skp j i - 1) = i := skp_inv j i
        rw [if_neg e, e2]
        exact hdi
      · rw [sumF_skip hj]
        have e3 : sumF (fun i => (if skp j i = j then - sumF (fun i => d' i * u (skp j i) n * ivF (u j n)) (n + 1) else d' (if skp j i < j then skp j i else skp j i - 1)) * u (skp j i) b) (n + 1) = sumF (fun i => d' i * u (skp j i) b) (n + 1) := sumF_congr (fun i _ => by
          have e : skp j i ≠ j := by unfold skp; split <;> omega
          have e2 : (if skp j i < j then skp j i else skp j i - 1) = i := skp_inv j i
          rw [if_neg e, e2])
        rw [e3]
        dsimp only
        rw [if_pos rfl]
        have e4 : sumF (fun i => d' i * (u (skp j i) b - u (skp j i) n * ivF (u j n) * u j b)) (n + 1) = sumF (fun i => d' i * u (skp j i) b) (n + 1) - u j b * sumF (fun i => d' i * u (skp j i) n * ivF (u j n)) (n + 1) := by
          rw [← sumF_mulf, ← sumF_subf]
          refine sumF_congr (fun i _ => ?_)
          grind
        have e5 : sumF (fun i => d' i * (u (skp j i) b - u (skp j i) n * ivF (u j n) * u j b)) (n + 1) = 0 := by
          by_cases z : b = n
          · subst z
            refine sumF_zero (fun i _ => ?_)
            grind
          · exact hd b (by omega)
        rw [e4] at e5
        grind
    · obtain ⟨d', ⟨i, hi, hdi⟩, hd⟩ := ih u
      refine ⟨fun i => if i ≤ n then d' i else 0, ⟨i, by omega, by show (if i ≤ n then d' i else 0) ≠ 0; rw [if_pos hi]; exact hdi⟩, fun b hb => ?_⟩
      by_cases z : b = n
      · subst z
        refine sumF_zero (fun i hi => ?_)
        have : u i b = 0 := Classical.byContradiction (fun q => h ⟨i, by omega, q⟩)
        rw [this]; grind
      · show sumF _ (n + 1) + (if n + 1 ≤ n then d' (n + 1) else 0) * u (n + 1) b = 0
        rw [if_neg (by omega), sumF_congr (g := fun i => d' i * u i b) (fun i hi => by show (if i ≤ n then d' i else 0) * u i b = _; rw [if_pos (by omega)]), hd b (by omega)]
        grind
/-- the lengths, modulo 10007 -/
def sq0 (T : TabV) (xs : List Nat) (n : Nat) : FF := natF (tot T xs n)
def cwF (T : TabV) (xs : List Nat) (n b : Nat) : FF := natF (cw T xs n b)
theorem cwF_s {T : TabV} {xs : List Nat} {n b : Nat} : cwF T xs (n + 1) b = sumF (fun a => natF (occ (prd T a) b) * cwF T xs n a) 6 := by
  unfold cwF
  show natF (sumN (fun a => occ (prd T a) b * cw T xs n a) 6) = _
  rw [natF_sum]
  exact sumF_congr (fun a _ => natF_mul _ _)
theorem sq0_eq {T : TabV} {xs : List Nat} {n : Nat} : sq0 T xs n = sumF (cwF T xs n) 6 := natF_sum
theorem six_rec (T : TabV) (xs : List Nat) : ∃ L C, L ≤ 6 ∧ Glb (sq0 T xs) L C := by
  obtain ⟨d, ⟨k, hk, hdk⟩, hd⟩ := dep 6 (fun i b => cwF T xs (6 - i) b)
  have key : ∀ m b, b < 6 → sumF (fun i => d i * cwF T xs (6 - i + m) b) 7 = 0 := by
    intro m
    induction m with
    | zero => intro b hb; exact hd b hb
    | succ m ih =>
      intro b hb
      have e : sumF (fun i => d i * cwF T xs (6 - i + (m + 1)) b) 7 = sumF (fun i => sumF (fun a => natF (occ (prd T a) b) * (d i * cwF T xs (6 - i + m) a)) 6) 7 := sumF_congr (fun i _ => by
        rw [show 6 - i + (m + 1) = 6 - i + m + 1 by omega, cwF_s, ← sumF_mulf]
        refine sumF_congr (fun a _ => ?_)
        grind)
      rw [e, sumF_comm]
      refine sumF_zero (fun a ha => ?_)
      rw [sumF_mulf, ih a ha]
      grind
  have h2 : ∀ n, 6 ≤ n → cv (fun i => if i ≤ 6 then d i else 0) (sq0 T xs) n = 0 := fun n hn => by
    unfold cv
    rw [sumF_cut (m := 7) (by omega) (fun i h1 h2 => by show (if i ≤ 6 then d i else 0) * sq0 T xs (n - i) = 0; rw [if_neg (by omega)]; grind)]
    have e : sumF (fun i => (if i ≤ 6 then d i else 0) * sq0 T xs (n - i)) 7 = sumF (fun i => sumF (fun b => d i * cwF T xs (6 - i + (n - 6)) b) 6) 7 := sumF_congr (fun i hi => by
      rw [if_pos (by omega), sq0_eq, ← sumF_mulf, show n - i = 6 - i + (n - 6) by omega])
    rw [e, sumF_comm]
    exact sumF_zero (fun b hb => key (n - 6) b hb)
  obtain ⟨i0, h3, h4, h5⟩ := first_ne (C := fun i => if i ≤ 6 then d i else 0) (n := k) (by show (if k ≤ 6 then d k else 0) ≠ 0; rw [if_pos hk]; exact hdk)
  refine ⟨6 - i0, fun j => ivF ((fun i => if i ≤ 6 then d i else 0) i0) * (fun i => if i ≤ 6 then d i else 0) (i0 + j), by omega, ?_⟩
  have hn := fun N => (norm (s := sq0 T xs) (o := 6) (N := N) (fun i hi => if_neg (by omega)) h5 h4 (fun n h _ => h2 n h)).2
  exact ⟨(hn 0).1, (hn 0).2.1, fun n h => (hn (n + 1 + i0)).2.2 n h (by omega)⟩
theorem rec_ex (T : TabV) (xs : List Nat) : ∃ r D, r ≤ 6 ∧ RecS (sq0 T xs) r D := by
  obtain ⟨L, C, h1, h2⟩ := six_rec T xs
  obtain ⟨r, ⟨D, hD⟩, hm⟩ := exists_min (P := fun L => ∃ C, Glb (sq0 T xs) L C) L ⟨C, h2⟩
  exact ⟨r, D, Nat.le_trans (hm L ⟨C, h2⟩) h1, hD, fun L C h => hm L ⟨C, h⟩⟩

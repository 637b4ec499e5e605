/-! ===== a light machine over the kit's worlds: references are places of one list of cells; contracts are of method, arguments and store ===== -/
abbrev ACell : Type := (FieldType × vp_A) ⊕ (Nat × List Value)
/-- the store: the cells, how many cells and how many slots were made so far -/
abbrev Sto : Type := List ACell × Nat × Nat
/-- name, code, locals, type of the answer, exception table -/
abbrev Mth : Type := MethodName × ByteArray × Nat × Option FieldType × List (Nat × Nat × Nat × Nat)
abbrev Res : Type := (Option Value ⊕ String) × Sto
abbrev Scr : Type := Nat × (Nat → Int32)
def lkA (ρ : Nat → Nat) (ws : va_W) (k : Nat) : Option Nat := if 1000 ≤ k then some (ρ (k - 1000)) else (ws[k]?).map (·.1)
def VR (ρ : Nat → Nat) (ws : va_W) (v v' : Value) : Prop := match v with
  | .ref k => ∃ a, lkA ρ ws k = some a ∧ v' = .ref a
  | .retAddr _ => v' = .null ∨ ∃ a, v' = .ref a
  | x => v' = x
def SR (ρ : Nat → Nat) (ws : va_W) : List Value → List Value → Prop
  | [], st' => st' = []
  | v :: r, st' => ∃ v' r', st' = v' :: r' ∧ VR ρ ws v v' ∧ SR ρ ws r r'
def OR (ρ : Nat → Nat) (ws : va_W) (o o' : Option Value) : Prop := match o with
  | none => o' = none
  | some v => ∃ v', o' = some v' ∧ VR ρ ws v v'
def LR (ρ : Nat → Nat) (ws : va_W) (L : List (Option Value)) (ls : Array Slot) : Prop :=
  ls.size = L.length ∧ lv_wf ls ∧ ∀ (i : Nat) (v : Value), L[i]? = some (some v) → ∃ v', VR ρ ws v v' ∧ ls[i]? = some (.val v')
def QR (ρ : Nat → Nat) (ws : va_W) (f f' : Nat → Option Nat) : Prop := ∀ j : Nat, (f j = none → f' j = none) ∧ ∀ k, f j = some k → ∃ a, lkA ρ ws k = some a ∧ f' j = some a
def AR (ρ : Nat → Nat) (ws : va_W) (x x' : vp_A) : Prop := x'.1 = x.1 ∧ match x.2 with
  | .inr (.inr (.inr (.inr f))) => ∃ f', x'.2 = .inr (.inr (.inr (.inr f'))) ∧ QR ρ ws f f'
  | y => x'.2 = y
def CR (ρ : Nat → Nat) (ws : va_W) (tys : List (ClassId × FieldType)) (c : ACell) (e : va_E) : Prop := match c with
  | .inl (ty, x) => ∃ cA x', e = .inl (cA, x') ∧ (∃ t0 : Nat, tys[t0]? = some (cA, ty)) ∧ AR ρ ws x x'
  | .inr (ci, fs) => ∃ fs', e = .inr (ci, fs') ∧ SR ρ ws fs fs'
def WR (ρ : Nat → Nat) (ws : va_W) (tys : List (ClassId × FieldType)) (hp : List ACell) : Prop :=
  ws.length = hp.length ∧ hp.length ≤ 1000 ∧ ∀ (k : Nat) (c : ACell), hp[k]? = some c → ∃ a e, ws[k]? = some (a, e) ∧ CR ρ ws tys c e
def Ext (ws ws' : va_W) : Prop := ∀ (k : Nat) (q : Nat × va_E), ws[k]? = some q → ∃ e, ws'[k]? = some (q.1, e)
theorem Ext.rf (ws : va_W) : Ext ws ws := fun _ q h => ⟨q.2, h⟩
theorem Ext.tr {a b c : va_W} (h1 : Ext a b) (h2 : Ext b c) : Ext a c := fun k q h => by
  obtain ⟨e, he⟩ := h1 k q h
  exact h2 k (q.1, e) he
theorem Ext.set {ws : va_W} {k : Nat} {a : Nat} {e e' : va_E} (h : ws[k]? = some (a, e)) : Ext ws (ws.set k (a, e')) := fun j q hq => by
  by_cases hj : k = j
  · subst hj
    rw [h] at hq
    cases hq
    exact ⟨e', by rw [List.getElem?_set_self (List.getElem?_eq_some_iff.mp h).1]⟩
  · exact ⟨q.2, by rw [List.getElem?_set_ne hj]; exact hq⟩
theorem Ext.app (ws x : va_W) : Ext ws (ws ++ x) := fun j q hq => ⟨q.2, by rw [List.getElem?_append_left (List.getElem?_eq_some_iff.mp hq).1]; exact hq⟩
theorem lkA.mono {ρ : Nat → Nat} {ws ws' : va_W} (h : Ext ws ws') {k a : Nat} (hk : lkA ρ ws k = some a) : lkA ρ ws' k = some a := by
  unfold lkA at hk ⊢
  split at hk
  · rename_i q; rw [if_pos q]; exact hk
  · rename_i q
    rw [if_neg q]
    cases hw : ws[k]? with
    | none => rw [hw] at hk; cases hk
    | some x =>
      rw [hw] at hk
      obtain ⟨e, he⟩ := h k x hw
      rw [he]
      exact hk
theorem VR.mono {ρ : Nat → Nat} {ws ws' : va_W} (h : Ext ws ws') {v v' : Value} (hv : VR ρ ws v v') : VR ρ ws' v v' := by
  cases v <;> first | exact hv | (obtain ⟨a, h1, h2⟩ := hv; exact ⟨a, lkA.mono h h1, h2⟩)
theorem SR.mono {ρ : Nat → Nat} {ws ws' : va_W} (h : Ext ws ws') : ∀ {st st' : List Value}, SR ρ ws st st' → SR ρ ws' st st'
  | [], _, hs => hs
  | _ :: _, _, ⟨v', r', h1, h2, h3⟩ => ⟨v', r', h1, VR.mono h h2, SR.mono h h3⟩
theorem OR.mono {ρ : Nat → Nat} {ws ws' : va_W} (h : Ext ws ws') {o o' : Option Value} (hv : OR ρ ws o o') : OR ρ ws' o o' := by
  cases o with
  | none => exact hv
  | some v => obtain ⟨v', h1, h2⟩ := hv; exact ⟨v', h1, VR.mono h h2⟩
theorem LR.mono {ρ : Nat → Nat} {ws ws' : va_W} (h : Ext ws ws') {L : List (Option Value)} {ls : Array Slot} (hL : LR ρ ws L ls) : LR ρ ws' L ls :=
  ⟨hL.1, hL.2.1, fun i v hi => by obtain ⟨v', h1, h2⟩ := hL.2.2 i v hi; exact ⟨v', VR.mono h h1, h2⟩⟩
theorem QR.mono {ρ : Nat → Nat} {ws ws' : va_W} (h : Ext ws ws') {f f' : Nat → Option Nat} (hq : QR ρ ws f f') : QR ρ ws' f f' := fun j =>
  ⟨(hq j).1, fun k hk => by obtain ⟨a, h1, h2⟩ := (hq j).2 k hk; exact ⟨a, lkA.mono h h1, h2⟩⟩
theorem AR.mono {ρ : Nat → Nat} {ws ws' : va_W} (h : Ext ws ws') {x x' : vp_A} (hq : AR ρ ws x x') : AR ρ ws' x x' := by
  obtain ⟨n, x⟩ := x
  refine ⟨hq.1, ?_⟩
  have h2 := hq.2
  rcases x with f | f | f | f | f
  · exact h2
  · exact h2
  · exact h2
  · exact h2
  · obtain ⟨f', e1, e2⟩ := h2
    exact ⟨f', e1, QR.mono h e2⟩
theorem CR.mono {ρ : Nat → Nat} {ws ws' : va_W} {tys tys' : List (ClassId × FieldType)} (h : Ext ws ws') (ht : ∀ (t : Nat) (q : ClassId × FieldType), tys[t]? = some q → ∃ t' : Nat, tys'[t']? = some q) {c : ACell} {e : va_E} (hc : CR ρ ws tys c e) : CR ρ ws' tys' c e := by
  rcases c with ⟨ty, x⟩ | ⟨ci, fs⟩
  · obtain ⟨cA, x', h1, ⟨t0, h2⟩, h3⟩ := hc
    exact ⟨cA, x', h1, ht t0 _ h2, AR.mono h h3⟩
  · obtain ⟨fs', h1, h2⟩ := hc
    exact ⟨fs', h1, SR.mono h h2⟩
theorem SR.len {ρ : Nat → Nat} {ws : va_W} : ∀ {st st' : List Value}, SR ρ ws st st' → st'.length = st.length
  | [], _, hs => by subst hs; rfl
  | _ :: r, _, ⟨v', r', h1, _, h3⟩ => by subst h1; exact congrArg (· + 1) (SR.len h3)
theorem SR.get {ρ : Nat → Nat} {ws : va_W} : ∀ {st st' : List Value} {k : Nat} {v : Value}, SR ρ ws st st' → st[k]? = some v → ∃ v', st'[k]? = some v' ∧ VR ρ ws v v'
  | [], _, _, _, _, hk => by simp at hk
  | w :: r, _, 0, v, ⟨v', r', h1, h2, h3⟩, hk => by
    subst h1
    have : w = v := by simpa using hk
    subst this
    exact ⟨v', rfl, h2⟩
  | w :: r, _, k + 1, v, ⟨v', r', h1, h2, h3⟩, hk => by
    subst h1
    obtain ⟨x, e1, e2⟩ := SR.get (k := k) (v := v) h3 (by simpa using hk)
    exact ⟨x, by simpa using e1, e2⟩
theorem SR.set {ρ : Nat → Nat} {ws : va_W} {v v' : Value} (hv : VR ρ ws v v') : ∀ {st st' : List Value} (k : Nat), SR ρ ws st st' → SR ρ ws (st.set k v) (st'.set k v')
  | [], _, _, hs => by subst hs; rfl
  | w :: r, _, 0, ⟨x, r', h1, h2, h3⟩ => by subst h1; exact ⟨v', r', rfl, hv, h3⟩
  | w :: r, _, k + 1, ⟨x, r', h1, h2, h3⟩ => by subst h1; exact ⟨x, r'.set k v', rfl, h2, SR.set hv k h3⟩
theorem SR.app {ρ : Nat → Nat} {ws : va_W} : ∀ {a a' b b' : List Value}, SR ρ ws a a' → SR ρ ws b b' → SR ρ ws (a ++ b) (a' ++ b')
  | [], _, _, _, h, hb => by subst h; exact hb
  | _ :: _, _, _, _, ⟨x, r', h1, h2, h3⟩, hb => by subst h1; exact ⟨x, _, rfl, h2, SR.app h3 hb⟩
theorem SR.split {ρ : Nat → Nat} {ws : va_W} : ∀ {a b c' : List Value}, SR ρ ws (a ++ b) c' → ∃ a' b', c' = a' ++ b' ∧ SR ρ ws a a' ∧ SR ρ ws b b'
  | [], _, c', h => ⟨[], c', rfl, rfl, h⟩
  | v :: a, b, _, ⟨x, r', h1, h2, h3⟩ => by
    subst h1
    obtain ⟨a', b', e1, e2, e3⟩ := SR.split (a := a) h3
    subst e1
    exact ⟨x :: a', b', rfl, ⟨x, a', rfl, h2, e2⟩, e3⟩
theorem SR.rev {ρ : Nat → Nat} {ws : va_W} : ∀ {a a' : List Value}, SR ρ ws a a' → SR ρ ws a.reverse a'.reverse
  | [], _, h => by subst h; rfl
  | v :: a, _, ⟨x, r', h1, h2, h3⟩ => by
    subst h1
    rw [List.reverse_cons, List.reverse_cons]
    exact SR.app (SR.rev h3) ⟨x, [], rfl, h2, rfl⟩
theorem VR.cat {ρ : Nat → Nat} {ws : va_W} {v v' : Value} (h : VR ρ ws v v') : v'.category = v.category := by
  cases v <;> first | (obtain ⟨a, -, h⟩ := h; subst h; rfl) | (rcases h with h | ⟨a, h⟩ <;> (subst h; rfl)) | (have h : v' = _ := h; subst h; rfl)
theorem SR.cat {ρ : Nat → Nat} {ws : va_W} : ∀ {a a' : List Value}, SR ρ ws a a' → a'.map (fun v => v.category) = a.map (fun v => v.category)
  | [], _, h => by subst h; rfl
  | v :: a, _, ⟨x, r', h1, h2, h3⟩ => by
    subst h1
    rw [List.map_cons, List.map_cons, SR.cat h3, VR.cat h2]
theorem WR.set {ρ : Nat → Nat} {ws : va_W} {tys : List (ClassId × FieldType)} {hp : List ACell} (h : WR ρ ws tys hp) {k a : Nat} {c : ACell} {e e' : va_E} (hw : ws[k]? = some (a, e)) (hc : CR ρ ws tys c e') : WR ρ (ws.set k (a, e')) tys (hp.set k c) := by
  have hx : Ext ws (ws.set k (a, e')) := Ext.set hw
  refine ⟨by rw [List.length_set, List.length_set]; exact h.1, by rw [List.length_set]; exact h.2.1, fun j c2 hj => ?_⟩
  by_cases hkj : k = j
  · subst hkj
    have hlt : k < hp.length := by rw [← h.1]; exact (List.getElem?_eq_some_iff.mp hw).1
    rw [List.getElem?_set_self hlt] at hj
    cases hj
    exact ⟨a, e', by rw [List.getElem?_set_self (by rw [h.1]; exact hlt)], CR.mono hx (fun t q hq => ⟨t, hq⟩) hc⟩
  · rw [List.getElem?_set_ne hkj] at hj
    obtain ⟨b, e2, h1, h2⟩ := h.2.2 j c2 hj
    exact ⟨b, e2, by rw [List.getElem?_set_ne hkj]; exact h1, CR.mono hx (fun t q hq => ⟨t, hq⟩) h2⟩
theorem WR.push {ρ : Nat → Nat} {ws : va_W} {tys tys' : List (ClassId × FieldType)} {hp : List ACell} (h : WR ρ ws tys hp) (ht : ∀ (t : Nat) (q : ClassId × FieldType), tys[t]? = some q → ∃ t' : Nat, tys'[t']? = some q) {a : Nat} {c : ACell} {e : va_E} (hl : hp.length < 1000) (hc : CR ρ (ws ++ [(a, e)]) tys' c e) : WR ρ (ws ++ [(a, e)]) tys' (hp ++ [c]) := by
  have hx : Ext ws (ws ++ [(a, e)]) := Ext.app _ _
  refine ⟨by simp [h.1], by simp; omega, fun j c2 hj => ?_⟩
  by_cases hlt : j < hp.length
  · rw [List.getElem?_append_left hlt] at hj
    obtain ⟨b, e2, h1, h2⟩ := h.2.2 j c2 hj
    obtain ⟨e3, h3⟩ := hx j _ h1
    have h4 : (ws ++ [(a, e)])[j]? = some (b, e2) := by rw [List.getElem?_append_left (by rw [h.1]; exact hlt)]; exact h1
    exact ⟨b, e2, h4, CR.mono hx ht h2⟩
  · rw [List.getElem?_append_right (by omega)] at hj
    have hz : j - hp.length < 1 := (List.getElem?_eq_some_iff.mp hj).1
    rw [show j - hp.length = 0 by omega] at hj
    cases hj
    refine ⟨a, e, ?_, hc⟩
    rw [List.getElem?_append_right (by rw [h.1]; omega), h.1, show j - hp.length = 0 by omega]
    rfl
theorem lkA.new {ρ : Nat → Nat} {ws : va_W} {n a : Nat} {e : va_E} (hn : ws.length = n) (hl : n < 1000) : lkA ρ (ws ++ [(a, e)]) n = some a := by
  unfold lkA
  rw [if_neg (by omega), List.getElem?_append_right (by omega), hn, Nat.sub_self]
  rfl
theorem lkA.at {ρ : Nat → Nat} {ws : va_W} {tys : List (ClassId × FieldType)} {hp : List ACell} (h : WR ρ ws tys hp) {k a : Nat} {c : ACell} (hk : hp[k]? = some c) (ha : lkA ρ ws k = some a) : ∃ e, ws[k]? = some (a, e) ∧ CR ρ ws tys c e := by
  obtain ⟨b, e, h1, h2⟩ := h.2.2 k c hk
  have hlt : k < hp.length := (List.getElem?_eq_some_iff.mp hk).1
  unfold lkA at ha
  rw [if_neg (by have := h.2.1; omega), h1] at ha
  cases ha
  exact ⟨e, h1, h2⟩
/-- the locals at a method's entry -/
def entL : List Value → List (Option Value)
  | [] => []
  | v :: vs => if v.category = 2 then some v :: none :: entL vs else some v :: entL vs
def entN (as : List Value) (n : Nat) : List (Option Value) := entL as ++ List.replicate (n - (entL as).length) none

/-! ===== throws, catches ===== -/
def exNames : List String := ["java/lang/RuntimeException", "java/lang/Exception"]
def thrCm (X : String) : List Cond := ((Bundle.throwableAtoms ++ Bundle.throwableSAtoms ++ Bundle.chainSAtoms X exNames) ++
  ([.instantiable X 6, .selects X Bundle.tFill0 Bundle.tFill0, .selects X Bundle.tFill Bundle.tFill,
   .lays X Bundle.tN "cause" "Ljava/lang/Throwable;", .lays X Bundle.tN "stackTrace" Bundle.steD, .lays X Bundle.tN "suppressedExceptions" Bundle.listD, .lays X Bundle.tN "detailMessage" "Ljava/lang/String;",
   .fieldLink Bundle.tN 198 Bundle.tN "backtrace" "Ljava/lang/Object;", .lays Bundle.tN Bundle.tN "backtrace" "Ljava/lang/Object;", .lays X Bundle.tN "backtrace" "Ljava/lang/Object;"] : List Cond)).filter vx_no
theorem thr_at {own X : String} {ic : Nat} {w : Cond} (h : w ∈ vx_atS own ic X exNames) : w = .methodLink own ic (Bundle.initS X) ∨ w = .castable X X ∨ w ∈ thrCm X := by
  obtain ⟨h1, h2⟩ := List.mem_filter.mp h
  unfold Bundle.ownAtoms at h1
  rcases List.mem_append.mp h1 with h1 | h1
  · exact Or.inr (Or.inr (List.mem_filter.mpr ⟨List.mem_append_left _ h1, h2⟩))
  · simp only [List.mem_cons, List.not_mem_nil, or_false] at h1
    rcases h1 with h1 | h1 | h1 | h1 | h1 | h1 | h1 | h1 | h1 | h1 | h1 | h1 | h1 | h1
    · exact Or.inl h1
    all_goals first
      | (exact Or.inr (Or.inl h1); done)
      | (refine Or.inr (Or.inr (List.mem_filter.mpr ⟨List.mem_append_right _ ?_, h2⟩)); subst h1; simp; done)
      | (exfalso; subst h1; simp [vx_no] at h2; done)
def iExc (X : String) : Prop := X ∈ exTab ∧ (∀ w ∈ thrCm X, w ∈ dclWords ∨ w ∈ lw_good) ∧ Cond.initialized X ∈ lw_good ∧ Bundle.fit X = true
theorem ex_names_fit : ∀ n ∈ exNames, Bundle.fit n = true := by decide +kernel
def iThrow (M : Mth) (pc : Nat) (X : String) : Prop := ∃ (ik is ic : Nat) (tx : String), (Cond.classLink M.1.cls ik X ∈ lw_good ∧ Cond.methodLink M.1.cls ic (Bundle.initS X) ∈ lw_good ∧ (M.1.cls, is, tx) ∈ msgTab) ∧
  decode M.2.1 pc = .ok (.new ik, 3) ∧ decode M.2.1 (pc + 3) = .ok (.dup, 1) ∧ ((decode M.2.1 (pc + 4) = .ok (.ldc is, 2) ∧ decode M.2.1 (pc + 6) = .ok (.invokespecial ic, 3) ∧ decode M.2.1 (pc + 9) = .ok (.athrow, 1)) ∨ (decode M.2.1 (pc + 4) = .ok (.ldc_w is, 3) ∧ decode M.2.1 (pc + 7) = .ok (.invokespecial ic, 3) ∧ decode M.2.1 (pc + 10) = .ok (.athrow, 1)))
abbrev Sto.thrown (S : Sto) : Sto := (S.1, S.2.1 + 1, S.2.2 + 6)
section RulesT
variable {scr : Scr} {l : Launch} {d : Nat} {M M' : Mth} {pc n ci : Nat} {L : List (Option Value)} {st as : List Value} {S S1 : Sto} {r : Res} {v0 : Option Value} {E0 : String}
theorem ev_throw {X : String} (h : iThrow M pc X) (hX : iExc X) (hh : M.2.2.2.2 = []) (hlen : L.length = M.2.2.1) (hcat : (st.map fun v => v.category).sum ≤ 8) : Ev scr l d M pc L st S (.inr X, S.thrown) := by
  obtain ⟨ik, is, ic, tx, ⟨hk, hlk, hms⟩, d0, d3, dd⟩ := h
  obtain ⟨hxt, hcm, hini, hfit⟩ := hX
  refine ⟨⟨Nat.le_succ _, Nat.le_add_right _ _⟩, fun p e R s m args below meth c ρ dC dI A ws0 mc ms Q hC hR hE H locs cells slots ws tys ls st0 hW hL hS hc hs => ?_⟩
  have hc : cells + (S.2.1 + 1) = mc + S.2.1 := hc
  have hs : slots + (S.2.2 + 6) = ms + S.2.2 := hs
  rcases hE with rfl | ⟨v, hv, -⟩
  · have hg : ∀ w ∈ lw_good, w.before args s = true := hC.2.2.2.2.1
    have hG := hC.2.2.2.2.2.2.2.2.2.1
    obtain ⟨sa, hsa⟩ := hG.2.2.1 _ hms
    have hin : ∀ w ∈ Cond.classLink M.1.cls ik X :: Cond.initialized X :: vx_atS M.1.cls ic X exNames, w = .castable X X ∨ w ∈ dclWords ∨ w ∈ lw_good := fun w hw => by
      rcases List.mem_cons.mp hw with h | hw
      · rw [h]; exact Or.inr (Or.inr hk)
      rcases List.mem_cons.mp hw with h | hw
      · rw [h]; exact Or.inr (Or.inr hini)
      rcases thr_at hw with h | h | h
      · rw [h]; exact Or.inr (Or.inr hlk)
      · exact Or.inl h
      · exact Or.inr (hcm w h)
    have hat : ∀ w ∈ vx_atS M.1.cls ic X exNames, w.before args s = true := fun w hw => by
      rcases hin w (List.mem_cons_of_mem _ (List.mem_cons_of_mem _ hw)) with h | h | h
      · rw [h]; exact va_Nw.use rfl (hG.2.2.2.2.2.2.2.2.1 X hxt)
      · obtain ⟨Y, hY, rfl⟩ := List.mem_map.mp h
        exact va_Nw.use rfl (hG.2.2.2.2.2.2.2.2.2.1 Y hY)
      · exact hg w h
    have hgood : ∀ w ∈ Cond.classLink M.1.cls ik X :: Cond.initialized X :: vx_atS M.1.cls ic X exNames, vx_ot w = true := fun w hw => by
      rcases hin w hw with h | h | h
      · rw [h]; rfl
      · obtain ⟨Y, hY, rfl⟩ := List.mem_map.mp h
        rfl
      · have := (List.mem_filter.mp h).2
        unfold vx_ot
        rw [this, Bool.or_true]
    have hex : c.exceptionTable.toList = [] := by rw [hC.2.2.2.2.2.2.2.2.1, hh]; rfl
    have hno : ∀ k : Nat, ∀ x ∈ c.exceptionTable.toList, covers x k = false := fun k x hx => by rw [hex] at hx; cases hx
    have hsz : ls.size = c.maxLocals := by rw [hL.1, hlen]; exact hC.2.2.1.symm
    have hcat' : (st0.map fun v => v.category).sum ≤ 8 := by rw [SR.cat hS]; exact hcat
    have hxx : ∀ t : State, s.vm.Alike t.vm → H.size ≤ t.heap.size → (∀ q : Nat, q < H.size → t.heap[q]? = H[q]?) → RX (.inr X, S.thrown) ρ dC dI A ws0 X s t := fun t ha hz hk9 =>
      ⟨⟨ws, tys, rfl, hW.1, hW.2.1, hW.2.2.1.kept (fun k x hx => hk9 _ ((hW.2.2.1 k x hx).lt)), va_K.moved ha hW.2.2.2.1, hW.2.2.2.2.1⟩, Nat.le_trans hW.2.2.2.2.2.1 hz, fun q h1 h2 => (hk9 q (Nat.lt_of_lt_of_le h1 hW.2.2.2.2.2.1)).trans (hW.2.2.2.2.2.2.1 q h1 h2)⟩
    rcases dd with ⟨d4, d6, d9⟩ | ⟨d4, d7, d10⟩
    · exact vx_throwS (names := exNames) (sa := sa) hC.1 hC.2.1 hC.2.2.2.2.2.2.2.2.2.2.2 hC.2.2.2.2.2.1 hfit ex_names_fit (hg _ hk) (hg _ hini) hsa hat hgood hG.2.2.2.1 hG.2.2.2.2.1 hW.2.2.2.2.2 hsz d0 d3 d4 d6 d9 (hno _) (by show 2 + 3 < R.frames; omega) (by show (st0.map fun v => v.category).sum + (13 * (2 + 1) + 43) ≤ R.locals; omega) (by omega) (by omega) hC.2.2.2.2.2.2.1 hxx hW.2.2.2.2.2.2.2 (by omega) (by omega)
    · exact vx_throwSW (names := exNames) (sa := sa) hC.1 hC.2.1 hC.2.2.2.2.2.2.2.2.2.2.2 hC.2.2.2.2.2.1 hfit ex_names_fit (hg _ hk) (hg _ hini) hsa hat hgood hG.2.2.2.1 hG.2.2.2.2.1 hW.2.2.2.2.2 hsz d0 d3 d4 d7 d10 (hno _) (by show 2 + 3 < R.frames; omega) (by show (st0.map fun v => v.category).sum + (13 * (2 + 1) + 43) ≤ R.locals; omega) (by omega) (by omega) hC.2.2.2.2.2.2.1 hxx hW.2.2.2.2.2.2.2 (by omega) (by omega)
  · cases hv
end RulesT
abbrev xIae : String := "java/lang/IllegalArgumentException"
theorem ex_Iae : iExc xIae := ⟨by decide +kernel, by decide +kernel, by decide +kernel, by decide +kernel⟩
abbrev xIse : String := "java/lang/IllegalStateException"
theorem ex_Ise : iExc xIse := ⟨by decide +kernel, by decide +kernel, by decide +kernel, by decide +kernel⟩
abbrev xIob : String := "java/lang/IndexOutOfBoundsException"
theorem ex_Iob : iExc xIob := ⟨by decide +kernel, by decide +kernel, by decide +kernel, by decide +kernel⟩
abbrev xAri : String := "java/lang/ArithmeticException"
theorem ex_Ari : iExc xAri := ⟨by decide +kernel, by decide +kernel, by decide +kernel, by decide +kernel⟩
abbrev xNse : String := "java/util/NoSuchElementException"

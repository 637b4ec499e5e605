/-! what lies outside, at the law's entry -/
abbrev NV : Cond := Jvm.Cond.and given_1 narrow_1
def xkT : List Nat := [411, 399, 401, 403, 405, 407, 409]
def mkT : List Nat := [262, 268, 270, 272, 274, 276, 278]
abbrev tmx (i : Nat) : Term := Term.string "ParallelRewriting" (xkT.getD i 0)
abbrev tmv (i : Nat) : Term := Term.field (tmx i) "java/lang/String" "value" "[B"
theorem eqR {t u : Term} {a c : Nat} {args : Array Value} {s : State} (h : (Cond.eq t u).before args s = true) (h1 : t.eval args s none [] s = some (.ref a)) (h2 : u.eval args s none [] s = some (.ref c)) : a = c := by
  simp [Cond.before, Cond.holds, Cond.value, h1, h2] at h
  exact h
theorem pl {a b : Cond} {args : Array Value} {s : State} (h : (Jvm.Cond.and a b).before args s = true) : a.before args s = true := by
  simp only [Cond.before, Cond.holds_and, Bool.and_eq_true] at h
  exact h.1
theorem pr {a b : Cond} {args : Array Value} {s : State} (h : (Jvm.Cond.and a b).before args s = true) : b.before args s = true := by
  simp only [Cond.before, Cond.holds_and, Bool.and_eq_true] at h
  exact h.2
def lastT : List Cond := [Cond.arrayOver (.object "ParallelRewriting$Table"), Cond.arrayOver (.object "ParallelRewriting$Word"), Cond.arrayOver (.array .double), Cond.laysStatic "java/lang/Throwable" "UNASSIGNED_STACK" "[Ljava/lang/StackTraceElement;", Cond.laysStatic "java/lang/Throwable" "SUPPRESSED_SENTINEL" "Ljava/util/List;", Cond.laysStatic "java/lang/String" "COMPACT_STRINGS" "Z", Cond.laysStatic "jdk/internal/util/Preconditions" "SIOOBE_FORMATTER" "Ljava/util/function/BiFunction;", Cond.laysStatic "java/lang/Math" "negativeZeroDoubleBits" "J", Cond.initialized "java/lang/Throwable", Cond.initialized "java/lang/String", Cond.initialized "jdk/internal/util/Preconditions", Cond.initialized "java/lang/Math", Cond.instantiable "ParallelRewriting" 14, Cond.instantiable "ParallelRewritingModel" 35]
def needT : List Cond := (ldcTab.map fun q => Cond.stringRef q.1 q.2.1 (cmdTxt.getD q.2.2 "")) ++ (msgTab.map fun q => Cond.stringRef q.1 q.2.1 q.2.2) ++ (exTab.map fun X => Cond.castable X X) ++ (dclTab.map fun Y => Cond.declares (Bundle.initS Y)) ++ lastT
theorem needT_in : needT.all (fun w => tables_1.contains w) = true := by decide +kernel
theorem msg_own : ∀ q ∈ msgTab, q.1 = "ParallelRewriting" ∨ q.1 = "ParallelRewritingModel" := by decide +kernel
theorem ldc_own : ∀ q ∈ ldcTab, q.2.2 < 7 ∧ (q = ("ParallelRewriting", xkT.getD q.2.2 0, q.2.2) ∨ q = ("ParallelRewritingModel", mkT.getD q.2.2 0, q.2.2)) := by decide +kernel
theorem first_byte : ∀ i, i < 7 → ∀ j, j < 7 → (cmdByt.getD i []).getD 0 0 = (cmdByt.getD j []).getD 0 0 → i = j := by decide +kernel
theorem cmd_len0 : ∀ i, i < 7 → 0 < cmdLen.getD i 0 ∧ cmdLen.getD i 0 < 2 ^ 31 := by decide +kernel
theorem gl_start {s : State} {b L : Nat} {xs : Nat → Int32} (hts : ∀ w ∈ lw_tbl, w.before #[Value.ref b] s = true) (hgv : NV.before #[Value.ref b] s = true) (hX : va_X b L xs s s.heap) (hb : b < s.heap.size) : ∃ ρ : Nat → Nat, ρ 100 = b ∧ Gl (L, xs) ρ (fun q => s.heap.size ≤ q) s s.heap := by
  have hA : ∀ a : Nat, a < s.heap.size → ¬ (s.heap.size ≤ a) := fun a h q => by omega
  have w0 : narrow_1.before #[Value.ref b] s = true := pr hgv
  have w1 : narrow_1_1.before #[Value.ref b] s = true := pl (pl w0)
  have w2 : narrow_1_2.before #[Value.ref b] s = true := pr (pl w0)
  have w3 : narrow_1_3.before #[Value.ref b] s = true := pl (pr w0)
  have w4 : narrow_1_4.before #[Value.ref b] s = true := pr (pr w0)
  have ht : ∀ w ∈ needT, w.before #[Value.ref b] s = true := fun w hw => hts w (by
    have := List.all_eq_true.mp needT_in w hw
    exact List.mem_append_right _ (List.contains_iff_mem.mp this))
  have n1 : ∀ i, i < 7 → (Cond.exactly (tmx i) "java/lang/String").before #[Value.ref b] s = true := fun i hi => by
    match i, hi with
    | 0, _ => exact (pr (pr (pl (pl (pr (pr (pl (pr (pl w3)))))))))
    | 1, _ => exact (pr (pr (pl (pl (pr (pr (pr (pl (pl w3)))))))))
    | 2, _ => exact (pr (pl (pr (pr (pr (pr (pr (pl (pl w3)))))))))
    | 3, _ => exact (pr (pr (pr (pl (pl (pl (pl (pr (pl w3)))))))))
    | 4, _ => exact (pl (pr (pl (pl (pr (pl (pl (pr (pl w3)))))))))
    | 5, _ => exact (pr (pl (pr (pr (pr (pl (pl (pr (pl w3)))))))))
    | 6, _ => exact (pr (pr (pr (pl (pl (pr (pl (pr (pl w3)))))))))
  have n2 : ∀ i, i < 7 → (Cond.eq (.field (tmx i) "java/lang/String" "coder" "B") (.int 0)).before #[Value.ref b] s = true := fun i hi => by
    match i, hi with
    | 0, _ => exact (pl (pr (pl (pr (pr (pl (pr (pl w3))))))))
    | 1, _ => exact (pl (pr (pl (pr (pr (pr (pl (pl w3))))))))
    | 2, _ => exact (pl (pr (pr (pr (pr (pr (pr (pl (pl w3)))))))))
    | 3, _ => exact (pl (pl (pr (pl (pl (pl (pr (pl w3))))))))
    | 4, _ => exact (pr (pr (pl (pl (pr (pl (pl (pr (pl w3)))))))))
    | 5, _ => exact (pl (pr (pr (pr (pr (pl (pl (pr (pl w3)))))))))
    | 6, _ => exact (pl (pl (pr (pl (pr (pl (pr (pl w3))))))))
  have n3 : ∀ i, i < 7 → (Cond.arrayOf (tmv i) .byte).before #[Value.ref b] s = true := fun i hi => by
    match i, hi with
    | 0, _ => exact (pl (pr (pr (pl (pr (pr (pl (pr (pl w3)))))))))
    | 1, _ => exact (pl (pr (pr (pl (pr (pr (pr (pl (pl w3)))))))))
    | 2, _ => exact (pr (pr (pr (pr (pr (pr (pr (pl (pl w3)))))))))
    | 3, _ => exact (pl (pr (pl (pr (pl (pl (pl (pr (pl w3)))))))))
    | 4, _ => exact (pl (pr (pl (pr (pl (pl (pr (pl w3))))))))
    | 5, _ => exact (pr (pr (pr (pr (pr (pl (pl (pr (pl w3)))))))))
    | 6, _ => exact (pl (pr (pl (pr (pl (pr (pl (pr (pl w3)))))))))
  have n4 : ∀ i, i < 7 → (Cond.eq (.length (tmv i)) (.int (Int32.ofNat (cmdLen.getD i 0)))).before #[Value.ref b] s = true := fun i hi => by
    match i, hi with
    | 0, _ => exact (pr (pr (pr (pl (pr (pr (pl (pr (pl w3)))))))))
    | 1, _ => exact (pr (pr (pr (pl (pr (pr (pr (pl (pl w3)))))))))
    | 2, _ => exact (pl (pl (pl (pl (pl (pl (pr (pl w3))))))))
    | 3, _ => exact (pr (pr (pl (pr (pl (pl (pl (pr (pl w3)))))))))
    | 4, _ => exact (pl (pr (pr (pl (pr (pl (pl (pr (pl w3)))))))))
    | 5, _ => exact (pl (pl (pl (pl (pr (pl (pr (pl w3))))))))
    | 6, _ => exact (pr (pr (pl (pr (pl (pr (pl (pr (pl w3)))))))))
  have n5 : ∀ i, i < 7 → (Cond.eq (tmx i) (Term.string "ParallelRewritingModel" (mkT.getD i 0))).before #[Value.ref b] s = true := fun i hi => by
    match i, hi with
    | 0, _ => exact (pl (pr (pl (pr (pr (pr (pl (pr (pr w3)))))))))
    | 1, _ => exact (pl (pr (pl (pl (pl (pr (pr (pr w3))))))))
    | 2, _ => exact (pl (pl (pl (pr (pl (pr (pr (pr w3))))))))
    | 3, _ => exact (pl (pl (pr (pr (pr (pl (pr (pr (pr w3)))))))))
    | 4, _ => exact (pl (pl (pr (pl (pr (pr (pr (pr w3))))))))
    | 5, _ => exact (pl (pr (pl (pr (pr (pr (pr (pr w3))))))))
    | 6, _ => exact w4
  have n6 : ∀ i, i < 7 → ∀ j, j < cmdLen.getD i 0 → (Cond.eq (.elem (tmv i) (.int (Int32.ofNat j))) (.int ((cmdByt.getD i []).getD j 0))).before #[Value.ref b] s = true := fun i hi j hj => by
    match i, hi, j, hj with
    | 0, _, 0, _ => exact (pl (pl (pr (pr (pr (pl (pr (pl w3))))))))
    | 0, _, 1, _ => exact (pl (pr (pl (pr (pr (pr (pl (pr (pl w3)))))))))
    | 0, _, 2, _ => exact (pr (pr (pl (pr (pr (pr (pl (pr (pl w3)))))))))
    | 0, _, 3, _ => exact (pl (pl (pr (pr (pr (pr (pl (pr (pl w3)))))))))
    | 0, _, j + 4, hj => exact absurd hj (by show ¬ j + 4 < 4; omega)
    | 1, _, 0, _ => exact (pl (pl (pr (pr (pr (pr (pl (pl w3))))))))
    | 1, _, 1, _ => exact (pl (pr (pl (pr (pr (pr (pr (pl (pl w3)))))))))
    | 1, _, 2, _ => exact (pr (pr (pl (pr (pr (pr (pr (pl (pl w3)))))))))
    | 1, _, 3, _ => exact (pl (pl (pr (pr (pr (pr (pr (pl (pl w3)))))))))
    | 1, _, j + 4, hj => exact absurd hj (by show ¬ j + 4 < 4; omega)
    | 2, _, 0, _ => exact (pl (pr (pl (pl (pl (pl (pl (pr (pl w3)))))))))
    | 2, _, 1, _ => exact (pr (pr (pl (pl (pl (pl (pl (pr (pl w3)))))))))
    | 2, _, 2, _ => exact (pl (pr (pl (pl (pl (pl (pr (pl w3))))))))
    | 2, _, 3, _ => exact (pl (pr (pr (pl (pl (pl (pl (pr (pl w3)))))))))
    | 2, _, j + 4, hj => exact absurd hj (by show ¬ j + 4 < 4; omega)
    | 3, _, 0, _ => exact (pl (pr (pr (pl (pl (pl (pr (pl w3))))))))
    | 3, _, 1, _ => exact (pl (pr (pr (pr (pl (pl (pl (pr (pl w3)))))))))
    | 3, _, 2, _ => exact (pr (pr (pr (pr (pl (pl (pl (pr (pl w3)))))))))
    | 3, _, 3, _ => exact (pl (pl (pl (pr (pl (pl (pr (pl w3))))))))
    | 3, _, j + 4, hj => exact absurd hj (by show ¬ j + 4 < 4; omega)
    | 4, _, 0, _ => exact (pr (pr (pr (pl (pr (pl (pl (pr (pl w3)))))))))
    | 4, _, 1, _ => exact (pl (pl (pr (pr (pl (pl (pr (pl w3))))))))
    | 4, _, 2, _ => exact (pl (pr (pl (pr (pr (pl (pl (pr (pl w3)))))))))
    | 4, _, 3, _ => exact (pr (pr (pl (pr (pr (pl (pl (pr (pl w3)))))))))
    | 4, _, 4, _ => exact (pl (pl (pr (pr (pr (pl (pl (pr (pl w3)))))))))
    | 4, _, j + 5, hj => exact absurd hj (by show ¬ j + 5 < 5; omega)
    | 5, _, 0, _ => exact (pl (pr (pl (pl (pl (pr (pl (pr (pl w3)))))))))
    | 5, _, 1, _ => exact (pr (pr (pl (pl (pl (pr (pl (pr (pl w3)))))))))
    | 5, _, 2, _ => exact (pl (pr (pl (pl (pr (pl (pr (pl w3))))))))
    | 5, _, 3, _ => exact (pl (pr (pr (pl (pl (pr (pl (pr (pl w3)))))))))
    | 5, _, j + 4, hj => exact absurd hj (by show ¬ j + 4 < 4; omega)
    | 6, _, 0, _ => exact (pl (pr (pr (pl (pr (pl (pr (pl w3))))))))
    | 6, _, 1, _ => exact (pl (pr (pr (pr (pl (pr (pl (pr (pl w3)))))))))
    | 6, _, 2, _ => exact (pr (pr (pr (pr (pl (pr (pl (pr (pl w3)))))))))
    | 6, _, 3, _ => exact (pl (pl (pl (pr (pr (pl (pr (pl w3))))))))
    | 6, _, 4, _ => exact (pl (pr (pl (pl (pr (pr (pl (pr (pl w3)))))))))
    | 6, _, j + 5, hj => exact absurd hj (by show ¬ j + 5 < 5; omega)
  have n7 : ∀ q ∈ ncTab, (Cond.not (.castable q.1 q.2)).before #[Value.ref b] s = true := by
    unfold ncTab
    exact List.forall_mem_cons.mpr ⟨(pl (pr (pr (pr (pr (pl (pl (pl (pl w1))))))))), List.forall_mem_cons.mpr ⟨(pl (pl (pl (pl (pr (pl (pl (pl w1)))))))), List.forall_mem_cons.mpr ⟨(pl (pr (pl (pl (pl (pr (pl (pl (pl w1))))))))), List.forall_mem_cons.mpr ⟨(pr (pr (pl (pl (pl (pr (pl (pl (pl w1))))))))), List.forall_mem_cons.mpr ⟨(pl (pr (pr (pl (pr (pr (pl (pl (pl w1))))))))), List.forall_mem_cons.mpr ⟨(pl (pl (pr (pr (pr (pl (pl (pl w1)))))))), List.forall_mem_cons.mpr ⟨(pl (pr (pl (pr (pr (pr (pl (pl (pl w1))))))))), List.forall_mem_cons.mpr ⟨(pr (pr (pl (pr (pr (pr (pl (pl (pl w1))))))))), List.forall_mem_cons.mpr ⟨(pl (pr (pr (pl (pl (pr (pl (pl w1)))))))), List.forall_mem_cons.mpr ⟨(pl (pr (pr (pr (pl (pl (pr (pl (pl w1))))))))), List.forall_mem_cons.mpr ⟨(pr (pr (pr (pr (pl (pl (pr (pl (pl w1))))))))), List.forall_mem_cons.mpr ⟨(pl (pl (pl (pr (pl (pr (pl (pl w1)))))))), List.forall_mem_cons.mpr ⟨(pl (pr (pl (pl (pl (pr (pr (pl (pl w1))))))))), List.forall_mem_cons.mpr ⟨(pr (pr (pl (pl (pl (pr (pr (pl (pl w1))))))))), List.forall_mem_cons.mpr ⟨(pl (pr (pr (pl (pl (pr (pr (pl (pl w1))))))))), List.forall_mem_cons.mpr ⟨(pr (pr (pr (pl (pl (pr (pr (pl (pl w1))))))))), List.forall_mem_cons.mpr ⟨(pl (pr (pl (pr (pr (pr (pr (pl (pl w1))))))))), List.forall_mem_cons.mpr ⟨(pr (pr (pl (pr (pr (pr (pr (pl (pl w1))))))))), List.forall_mem_cons.mpr ⟨(pr (pl (pr (pr (pr (pr (pr (pl (pl w1))))))))), List.forall_mem_cons.mpr ⟨(pl (pr (pr (pr (pr (pr (pr (pl (pl w1))))))))), fun _ h => absurd h List.not_mem_nil⟩⟩⟩⟩⟩⟩⟩⟩⟩⟩⟩⟩⟩⟩⟩⟩⟩⟩⟩⟩
  have z1 : (Cond.isRef (.static "java/lang/Throwable" "UNASSIGNED_STACK" "[Ljava/lang/StackTraceElement;")).before #[Value.ref b] s = true := (pr (pr (pl (pl (pl (pl (pl (pl (pl w1)))))))))
  have z2 : (Cond.isRef (.static "java/lang/Throwable" "SUPPRESSED_SENTINEL" "Ljava/util/List;")).before #[Value.ref b] s = true := (pl (pr (pl (pl (pl (pl (pl (pl w1))))))))
  have z3 : (Cond.eq (.static "java/lang/String" "COMPACT_STRINGS" "Z") (.int 1)).before #[Value.ref b] s = true := (pl (pr (pr (pl (pl (pl (pl (pl (pl w1)))))))))
  have z4 : (Cond.isRef (.static "jdk/internal/util/Preconditions" "SIOOBE_FORMATTER" "Ljava/util/function/BiFunction;")).before #[Value.ref b] s = true := (pr (pr (pr (pl (pl (pl (pl (pl (pl w1)))))))))
  have z5 : (Cond.eq (.static "java/lang/Math" "negativeZeroDoubleBits" "J") (.long (-9223372036854775808))).before #[Value.ref b] s = true := (pl (pr (pr (pl (pl (pl (pl (pl w1))))))))
  have t1 : ∀ q ∈ ldcTab, (Cond.stringRef q.1 q.2.1 (cmdTxt.getD q.2.2 "")).before #[Value.ref b] s = true := fun q hq => ht _ (List.mem_append_left _ (List.mem_append_left _ (List.mem_append_left _ (List.mem_append_left _ (List.mem_map.mpr ⟨q, hq, rfl⟩)))))
  have t2 : ∀ q ∈ msgTab, (Cond.stringRef q.1 q.2.1 q.2.2).before #[Value.ref b] s = true := fun q hq => ht _ (List.mem_append_left _ (List.mem_append_left _ (List.mem_append_left _ (List.mem_append_right _ (List.mem_map.mpr ⟨q, hq, rfl⟩)))))
  have t3 : ∀ X ∈ exTab, (Cond.castable X X).before #[Value.ref b] s = true := fun q hq => ht _ (List.mem_append_left _ (List.mem_append_left _ (List.mem_append_right _ (List.mem_map.mpr ⟨q, hq, rfl⟩))))
  have t4 : ∀ Y ∈ dclTab, (Cond.declares (Bundle.initS Y)).before #[Value.ref b] s = true := fun q hq => ht _ (List.mem_append_left _ (List.mem_append_right _ (List.mem_map.mpr ⟨q, hq, rfl⟩)))
  have tl : ∀ w ∈ lastT, w.before #[Value.ref b] s = true := fun w hw => ht _ (List.mem_append_right _ hw)
  have own1 : ∃ c, s.vm.findClass "ParallelRewriting" = some c := by
    obtain ⟨c, k, h, -⟩ := Cond.instantiable_spec (tl (Cond.instantiable "ParallelRewriting" 14) (by unfold lastT; simp))
    exact ⟨c, h⟩
  have own2 : ∃ c, s.vm.findClass "ParallelRewritingModel" = some c := by
    obtain ⟨c, k, h, -⟩ := Cond.instantiable_spec (tl (Cond.instantiable "ParallelRewritingModel" 35) (by unfold lastT; simp))
    exact ⟨c, h⟩
  have h1 : ∀ i, ∃ q : Nat × Nat, i < 7 → (tmx i).eval #[Value.ref b] s none [] s = some (.ref q.1) ∧ va_O "java/lang/String" q.1 (fun q => s.heap.size ≤ q) s s.heap ∧ va_OF "java/lang/String" "coder" "B" (.int 0) q.1 (fun q => s.heap.size ≤ q) s s.heap ∧ va_OF "java/lang/String" "value" "[B" (.ref q.2) q.1 (fun q => s.heap.size ≤ q) s s.heap ∧ va_T .byte q.2 (cmdLen.getD i 0) (fun j => .int ((cmdByt.getD i []).getD j 0)) (fun q => s.heap.size ≤ q) s s.heap := fun i => by
    by_cases hi : i < 7
    · obtain ⟨adK, adV, hS, he⟩ := vk_Sof (N := 1) (tm := fun _ => tmx i) (len := [cmdLen.getD i 0]) (byt := [cmdByt.getD i []]) (A := fun q => s.heap.size ≤ q) (args := #[Value.ref b]) (s := s) (fun k hk => by rw [show k = 0 by omega]; exact (cmd_len0 i hi).2) (fun k hk => n1 i hi) (fun k hk => n2 i hi) (fun k hk => n3 i hi) (fun k hk => by rw [show k = 0 by omega]; exact n4 i hi) (fun k hk j hj => by
        rw [show k = 0 by omega] at hj ⊢
        exact n6 i hi j hj) (fun k j hk hj hne => absurd (show k = j by omega) hne) hA
      exact ⟨(adK 0, adV 0), fun _ => ⟨he 0 (by decide), hS.1 0 (by decide)⟩⟩
    · exact ⟨(0, 0), fun q => absurd q hi⟩
  obtain ⟨ad, had⟩ := Classical.axiomOfChoice h1
  have inj : ∀ i j, i < 7 → j < 7 → (ad i).1 = (ad j).1 → i = j := fun i j hi hj e => by
    obtain ⟨-, -, -, ⟨cf, k, fi, f, cell, a1, -, a2, -, a3, -⟩, ⟨ce, b1, -, -, -, -, b2, -⟩⟩ := had i hi
    obtain ⟨-, -, -, ⟨cf', k', fi', f', cell', a1', -, a2', -, a3', -⟩, ⟨ce', b1', -, -, -, -, b2', -⟩⟩ := had j hj
    rw [a1] at a1'
    cases a1'
    rw [← e, a2] at a2'
    cases a2'
    have e2 : (ad i).2 = (ad j).2 := Value.ref.inj (Option.some.inj (a3.symm.trans a3'))
    rw [← e2, b1] at b1'
    cases b1'
    have q1 := b2 0 (cmd_len0 i hi).1
    have q2 := b2' 0 (cmd_len0 j hj).1
    exact first_byte i hi j hj (Value.int.inj (Option.some.inj (q1.symm.trans q2)))
  refine ⟨fun n => if n < 7 then (ad n).1 else if n = 100 then b else (ad (n - 200)).2, by simp, ⟨fun i hi => ?_, fun i j hi hj e => ?_⟩, fun q hq => ?_, fun q hq => ?_, ?_, ?_, fun q hq => va_Nc.of (n7 q hq), ⟨?_, ?_, ?_⟩, ⟨?_, ?_, ?_⟩, fun X hX => va_Nw.of rfl (t3 X hX), fun Y hY => va_Nw.of rfl (t4 Y hY), va_AO.of (tl _ (by unfold lastT; simp)), va_AO.of (tl _ (by unfold lastT; simp)), va_AOA.of (tl _ (by unfold lastT; simp))⟩
  · have := (had i hi).2
    simp only [if_pos hi, show ¬ 200 + i < 7 by omega, show ¬ 200 + i = 100 by omega, if_false, show 200 + i - 200 = i by omega]
    exact this
  · simp only [if_pos hi, if_pos hj] at e
    exact inj i j hi hj e
  · obtain ⟨hq7, hq2⟩ := ldc_own q hq
    have he := (had _ hq7).1
    refine vk_R.of (A := #[Value.ref b]) (t1 q hq) ?_
    simp only [if_pos hq7]
    rcases hq2 with e | e
    · rw [e]
      exact he
    · obtain ⟨c, hc⟩ := own2
      have hst := t1 q hq
      rw [e] at hst ⊢
      obtain ⟨k, cf, i, a, -, -, -, -, -, hev⟩ := Cond.stringRef_spec (args := #[Value.ref b]) (first := s) (o := none) (idx := []) hc hst
      have heq := eqR (n5 _ hq7) he hev
      exact hev.trans (congrArg (fun x => some (Value.ref x)) heq.symm)
  · have hst := t2 q hq
    rcases msg_own q hq with e | e
    · obtain ⟨c, hc⟩ := own1
      rw [← e] at hc
      obtain ⟨k, cf, i, a, -, -, -, -, -, hev⟩ := Cond.stringRef_spec (args := #[Value.ref b]) (first := s) (o := none) (idx := []) hc hst
      exact ⟨a, vk_R.of (A := #[Value.ref b]) hst hev⟩
    · obtain ⟨c, hc⟩ := own2
      rw [← e] at hc
      obtain ⟨k, cf, i, a, -, -, -, -, -, hev⟩ := Cond.stringRef_spec (args := #[Value.ref b]) (first := s) (o := none) (idx := []) hc hst
      exact ⟨a, vk_R.of (A := #[Value.ref b]) hst hev⟩
  · exact vx_Zqof (C := "java/lang/Throwable") (n := "UNASSIGNED_STACK") (d := "[Ljava/lang/StackTraceElement;") (args := #[Value.ref b]) (tl _ (by unfold lastT; simp)) (tl _ (by unfold lastT; simp)) z1 hA
  · exact vx_Zqof (C := "java/lang/Throwable") (n := "SUPPRESSED_SENTINEL") (d := "Ljava/util/List;") (args := #[Value.ref b]) (tl _ (by unfold lastT; simp)) (tl _ (by unfold lastT; simp)) z2 hA
  · simp only [show ¬ (100 : Nat) < 7 by omega, if_false, if_true]
    exact hX
  · simp only [show ¬ (100 : Nat) < 7 by omega, if_false, if_true]
    exact hb
  · simp only [show ¬ (100 : Nat) < 7 by omega, if_false, if_true]
    exact hA b hb
  · exact va_Zof (args := #[Value.ref b]) (tl _ (by unfold lastT; simp)) (tl _ (by unfold lastT; simp)) (va_eqtl z5) hA
  · exact va_Zof (args := #[Value.ref b]) (tl _ (by unfold lastT; simp)) (tl _ (by unfold lastT; simp)) (va_eqt z3) hA
  · exact va_Zqof (args := #[Value.ref b]) (tl _ (by unfold lastT; simp)) (tl _ (by unfold lastT; simp)) z4 hA

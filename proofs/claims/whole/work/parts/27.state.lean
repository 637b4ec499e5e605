/-! State -/
/-- tables, current word, target word, commands -/
abbrev Core : Type := (Nat → TabV) × List Nat × List Nat × (Nat → Nat)
/-- a State object at b, all that it holds behind it -/
def StAt (S : Sto) (b : Nat) (C : Core) : Prop := S.1[b]? = some (oB 8 [.ref (b + 1), .ref (b + 14), .ref (b + 16), .ref (b + 18)]) ∧ (∃ f, S.1[b + 1]? = some (aQ "ParallelRewriting$Table" 3 f) ∧ ∀ j, j < 3 → f j = some (b + 2 + 4 * j)) ∧ (∀ j, j < 3 → TabAt S (b + 2 + 4 * j) (C.1 j)) ∧ WordAt S (b + 14) (b + 15) C.2.1 ∧ WordAt S (b + 16) (b + 17) C.2.2.1 ∧ ∃ g, S.1[b + 18]? = some (aI 6 g) ∧ ∀ j, j < 6 → g j = nI (C.2.2.2 j) ∧ C.2.2.2 j < 7
theorem StAt.fr {K : List Nat} {S S1 : Sto} {b : Nat} {C : Core} (h : StAt S b C) (hF : Fr K S S1) (hk : ∀ i, i < 19 → b + i ∉ K) : StAt S1 b C := by
  obtain ⟨h1, ⟨f, h2, h3⟩, h4, h5, h6, g, h7, h8⟩ := h
  refine ⟨hF.at h1 (hk 0 (by omega)), ⟨f, hF.at h2 (hk 1 (by omega)), h3⟩, fun j hj => (h4 j hj).fr hF ⟨?_, ?_, ?_, ?_⟩, h5.fr hF ⟨hk 14 (by omega), hk 15 (by omega)⟩, h6.fr hF ⟨hk 16 (by omega), hk 17 (by omega)⟩, g, hF.at h7 (hk 18 (by omega)), h8⟩
  · rw [show b + 2 + 4 * j = b + (2 + 4 * j) by omega]; exact hk (2 + 4 * j) (by omega)
  · rw [show b + 2 + 4 * j + 1 = b + (2 + 4 * j + 1) by omega]; exact hk (2 + 4 * j + 1) (by omega)
  · rw [show b + 2 + 4 * j + 2 = b + (2 + 4 * j + 2) by omega]; exact hk (2 + 4 * j + 2) (by omega)
  · rw [show b + 2 + 4 * j + 3 = b + (2 + 4 * j + 3) by omega]; exact hk (2 + 4 * j + 3) (by omega)
theorem Fr.w {K K' : List Nat} {S1 S2 : Sto} (h : Fr K S1 S2) (hs : ∀ k, k ∈ K → k ∈ K') : Fr K' S1 S2 := h.mono hs
theorem lp_St_copy {scr : Scr} {l : Launch} {S : Sto} {b e : Nat} {D : Core} {f : Nat → Option Nat} {T : Nat → TabV} {r : Nat → Sto → Prop} (hd : b + 19 ≤ e ∨ e + 19 ≤ b) (hb : S.1[b]? = some (oB 8 [.ref (b + 1), .ref (b + 14), .ref (b + 16), .ref (b + 18)])) (hf : S.1[b + 1]? = some (aQ "ParallelRewriting$Table" 3 f)) (hf2 : ∀ j, j < 3 → f j = some (b + 2 + 4 * j)) (he : StAt S e D) : ∀ (k i : Nat), i + k = 3 → ∀ S2, (∀ j, j < i → TabAt S2 (b + 2 + 4 * j) (D.1 j)) → (∀ j, i ≤ j → j < 3 → TabAt S2 (b + 2 + 4 * j) (T j)) → Fr (List.range' (b + 2) 12) S S2 → ∃ S3, (∀ (rr : Res), (∀ d, Ev scr l (d + 1) M_St_copy 28 [some (.ref b), some (.ref e), some (.int (nI 3))] [] S3 rr) → ∀ d, Ev scr l (d + 1) M_St_copy 2 [some (.ref b), some (.ref e), some (.int (nI i))] [] S2 rr) ∧ (∀ j, j < 3 → TabAt S3 (b + 2 + 4 * j) (D.1 j)) ∧ Fr (List.range' (b + 2) 12) S S3 := by
  intro k
  induction k with
  | zero =>
    intro i hi S2 h1 h2 hF
    have hi : i = 3 := by omega
    subst hi
    refine ⟨S2, fun rr hk d => ?_, h1, hF⟩
    refine ev_iload_n i_St_copy_2 rfl ?_
    refine ev_iconstN (v := 3) i_St_copy_3 (by decide) ?_
    refine ev_icmp_geN i_St_copy_4 (by omega) (by omega) (fun hc_4 => ?_) (fun hc_4 => ?_)
    · skip
      exact hk d
    · skip
      exfalso; omega
  | succ k ih =>
    intro i hi S2 h1 h2 hF
    have he2 := he.fr hF (fun i hi q => by rw [List.mem_range'_1] at q; omega)
    have hb2 := hF.at hb (fun q => by rw [List.mem_range'_1] at q; omega)
    have hf3 := hF.at hf (fun q => by rw [List.mem_range'_1] at q; omega)
    obtain ⟨e1, ⟨g, e2, e3⟩, e4, -⟩ := he2
    have hti := h2 i (Nat.le_refl _) (by omega)
    obtain ⟨S3, m3, t3, f3⟩ := t_copy (scr := scr) (l := l) hti (e4 i (by omega))
    have hfw : Fr (List.range' (b + 2) 12) S2 S3 := f3.mono (fun k hk => by simp at hk; rw [List.mem_range'_1]; omega)
    obtain ⟨S4, e5, t5, f5⟩ := ih (i + 1) (by omega) S3 (fun j hj => by
      by_cases q : j = i
      · subst q; exact t3
      · exact (h1 j (by omega)).fr f3 ⟨by simp; omega, by simp; omega, by simp; omega, by simp; omega⟩) (fun j h3 h4 => (h2 j (by omega) h4).fr f3 ⟨by simp; omega, by simp; omega, by simp; omega, by simp; omega⟩) (hF.tr hfw)
    refine ⟨S4, fun rr hk d => ?_, t5, f5⟩
    have e5 := e5 rr hk
    refine ev_iload_n i_St_copy_2 rfl ?_
    refine ev_iconstN (v := 3) i_St_copy_3 (by decide) ?_
    refine ev_icmp_geN i_St_copy_4 (by omega) (by omega) (fun hc_4 => ?_) (fun hc_4 => ?_)
    · skip
      exfalso; omega
    · skip
      refine ev_aload_n i_St_copy_7 rfl ?_
      refine ev_get i_St_copy_8 hb2 rfl ?_
      refine ev_iload_n i_St_copy_11 rfl ?_
      refine ev_qaldN i_St_copy_12 hf3 (by omega) (by decide) (hf2 i (by omega)) ?_
      refine ev_aload_n i_St_copy_13 rfl ?_
      refine ev_get i_St_copy_14 e1 rfl ?_
      refine ev_iload_n i_St_copy_17 rfl ?_
      refine ev_qaldN i_St_copy_18 e2 (by omega) (by decide) (e3 i (by omega)) ?_
      refine ev_callV1 i_St_copy_19 rfl (hti).choose_spec.choose_spec.choose_spec.choose_spec.1.1 (Nat.le_of_ble_eq_true rfl) (m3 _) ?_
      refine ev_iincN (c := 1) i_St_copy_22 (by decide) rfl ?_
      refine ev_goto i_St_copy_25 ?_
      exact e5 d
theorem s_copy {scr : Scr} {l : Launch} {S : Sto} {b e : Nat} {C D : Core} (h : StAt S b C) (he : StAt S e D) (hd : b + 19 ≤ e ∨ e + 19 ≤ b) : ∃ S1, (∀ d, MetA scr l (d + 1) M_St_copy [.ref b, .ref e] S (.inl none, S1)) ∧ StAt S1 b D ∧ Fr (List.range' b 19) S S1 := by
  obtain ⟨h1, ⟨f, h2, h3⟩, h4, h5, h6, g, h7, h8⟩ := id h
  obtain ⟨S1, e5, t5, f5⟩ := lp_St_copy (scr := scr) (l := l) (r := fun _ _ => True) (T := C.1) hd h1 h2 h3 he 3 0 (by omega) S (fun j hj => by omega) (fun j _ hj => h4 j hj) (Fr.rf _ _)
  have he1 := he.fr f5 (fun i hi q => by rw [List.mem_range'_1] at q; omega)
  have a1 := f5.at h1 (fun q => by rw [List.mem_range'_1] at q; omega)
  have af := f5.at h2 (fun q => by rw [List.mem_range'_1] at q; omega)
  have w1 := h5.fr f5 ⟨fun q => by rw [List.mem_range'_1] at q; omega, fun q => by rw [List.mem_range'_1] at q; omega⟩
  have u1 := h6.fr f5 ⟨fun q => by rw [List.mem_range'_1] at q; omega, fun q => by rw [List.mem_range'_1] at q; omega⟩
  have g1 := f5.at h7 (fun q => by rw [List.mem_range'_1] at q; omega)
  have o1 := he1.1
  obtain ⟨S2, mA, w2, f2⟩ := w_copy (scr := scr) (l := l) w1 he1.2.2.2.1
  have he2 := he1.fr f2 (fun i hi q => by simp at q; omega)
  have a2 := f2.at a1 (by simp)
  have u2 := u1.fr f2 ⟨by simp, by simp⟩
  have g2 := f2.at g1 (by simp)
  have o2 := he2.1
  obtain ⟨S3, mB, u3, f3⟩ := w_copy (scr := scr) (l := l) u2 he2.2.2.2.2.1
  have he3 := he2.fr f3 (fun i hi q => by simp at q; omega)
  have a3 := f3.at a2 (by simp)
  have w3 := w2.fr f3 ⟨by simp, by simp⟩
  have gb3 := f3.at g2 (by simp)
  have o3 := he3.1
  obtain ⟨go, go3, go4⟩ := he3.2.2.2.2.2
  have f4 : Fr [b + 18] S3 (S3.put (b + 18) (aI 6 (fillF g 0 go 6))) := Fr.put _ _ (by simp)
  have af3 := f3.at (f2.at af (by simp)) (by simp)
  have hk : ∀ d, Ev scr l (d + 1) M_St_copy 28 [some (.ref b), some (.ref e), some (.int (nI 3))] [] S1 (.inl none, S3.put (b + 18) (aI 6 (fillF g 0 go 6))) := by
    intro d
    refine ev_aload_n i_St_copy_28 rfl ?_
    refine ev_get i_St_copy_29 a1 rfl ?_
    refine ev_aload_n i_St_copy_32 rfl ?_
    refine ev_get i_St_copy_33 o1 rfl ?_
    refine ev_callV1 i_St_copy_36 rfl w1.1 (Nat.le_of_ble_eq_true rfl) (mA _) ?_
    refine ev_aload_n i_St_copy_39 rfl ?_
    refine ev_get i_St_copy_40 a2 rfl ?_
    refine ev_aload_n i_St_copy_43 rfl ?_
    refine ev_get i_St_copy_44 o2 rfl ?_
    refine ev_callV1 i_St_copy_47 rfl u2.1 (Nat.le_of_ble_eq_true rfl) (mB _) ?_
    refine ev_aload_n i_St_copy_50 rfl ?_
    refine ev_get i_St_copy_51 o3 rfl ?_
    refine ev_iconstN (v := 0) i_St_copy_54 (by decide) ?_
    refine ev_aload_n i_St_copy_55 rfl ?_
    refine ev_get i_St_copy_56 a3 rfl ?_
    refine ev_iconstN (v := 0) i_St_copy_59 (by decide) ?_
    refine ev_bipushN (v := 6) i_St_copy_60 (by decide) ?_
    have e0 : (nI 0).toNatClampNeg = 0 := nI_clamp (by omega)
    have em : (nI 6).toNatClampNeg = 6 := nI_clamp (by omega)
    refine ev_cpyI i_St_copy_62 rfl (Nat.le_of_ble_eq_true rfl) go3 gb3 (nI_pos (by omega)) (nI_pos (by omega)) (nI_pos (by omega)) (by rw [e0, em]; exact Nat.le_refl _) (by rw [e0, em]; exact Nat.le_refl _) ?_
    rw [e0, em, cpy_fill]
    exact ev_vret i_St_copy_65 rfl
  refine ⟨S3.put (b + 18) (aI 6 (fillF g 0 go 6)), fun d => ?_, ⟨f4.at a3 (by simp), ⟨f, f4.at af3 (by simp), h3⟩, fun j hj => ?_, w3.fr f4 ⟨by simp, by simp⟩, u3.fr f4 ⟨by simp, by simp⟩, _, put_self gb3, fun j hj => by rw [fill_eq hj]; exact go4 j hj⟩, ?_⟩
  · refine MetA.of rfl (by decide +kernel) (Nat.le_of_ble_eq_true rfl) ?_
    refine ev_iconstN (v := 0) i_St_copy_0 (by decide) ?_
    refine ev_istore_n i_St_copy_1 (Nat.le_of_ble_eq_true rfl) ?_
    exact e5 _ hk d
  · exact (((t5 j hj).fr f2 ⟨by simp; omega, by simp; omega, by simp; omega, by simp; omega⟩).fr f3 ⟨by simp; omega, by simp; omega, by simp; omega, by simp; omega⟩).fr f4 ⟨by simp; omega, by simp; omega, by simp; omega, by simp; omega⟩
  · exact (((f5.mono (fun k hk => by rw [List.mem_range'_1] at hk ⊢; omega)).tr (f2.mono (fun k hk => by simp at hk; rw [List.mem_range'_1]; omega))).tr (f3.mono (fun k hk => by simp at hk; rw [List.mem_range'_1]; omega))).tr (f4.mono (fun k hk => by simp at hk; rw [List.mem_range'_1]; omega))

/-! names of commands: String.length, String.charAt; bits of doubles; statics -/
def cmdN : List (List Nat) := [[115, 107, 105, 112], [100, 114, 97, 119], [109, 111, 118, 101], [108, 101, 102, 116], [114, 105, 103, 104, 116], [111, 112, 101, 110], [99, 108, 111, 115, 101]]
def iSgf (M : Mth) (pc : Nat) (n d : String) : Prop := ∃ ix : Nat, decode M.2.1 pc = .ok (.getfield ix, 3) ∧ Cond.fieldLink M.1.cls ix "java/lang/String" n d ∈ lw_good
def iGst (M : Mth) (pc : Nat) (C n d : String) : Prop := ∃ ix : Nat, decode M.2.1 pc = .ok (.getstatic ix, 3) ∧ Cond.fieldLink M.1.cls ix C n d ∈ lw_good
def iDnat (M : Mth) (pc : Nat) (y : MethodName) : Prop := ∃ ix : Nat, decode M.2.1 pc = .ok (.invokestatic ix, 3) ∧ Cond.methodLink M.1.cls ix y ∈ lw_good ∧ Cond.native y ∈ lw_good ∧ Cond.static y ∈ lw_good ∧ Cond.initialized "java/lang/Double" ∈ lw_good
def iCallVS (M : Mth) (pc : Nat) (M' : Mth) (n : Nat) : Prop := (∃ ix : Nat, decode M.2.1 pc = .ok (.invokevirtual ix, 3) ∧ Cond.methodLink M.1.cls ix M'.1 ∈ lw_good) ∧ (Cond.instanceMethod M'.1 ∈ lw_good ∧ Cond.selects M'.1.cls M'.1 M'.1 ∈ lw_good ∧ M'.1.cls = "java/lang/String") ∧ iMeth M' n ∧ iPlain M'
section RulesSt
variable {scr : Scr} {l : Launch} {d : Nat} {M M' : Mth} {pc n i : Nat} {L : List (Option Value)} {st as : List Value} {S S1 : Sto} {r r1 : Res} {v0 : Option Value}
theorem lkA_hi {ρ : Nat → Nat} {ws : va_W} {k : Nat} : lkA ρ ws (1000 + k) = some (ρ k) := by
  unfold lkA
  rw [if_pos (by omega), show 1000 + k - 1000 = k by omega]
theorem lkA_hi2 {ρ : Nat → Nat} {ws : va_W} {k : Nat} : lkA ρ ws (1200 + k) = some (ρ (200 + k)) := by
  unfold lkA
  rw [if_pos (by omega), show 1200 + k - 1000 = 200 + k by omega]
theorem ev_sgetV (h : iSgf M pc "value" "[B") (hi : i < 7) (k : Ev scr l d M (pc + 3) L (.ref (1200 + i) :: st) S r) : Ev scr l d M pc L (.ref (1000 + i) :: st) S r := by
  obtain ⟨ix, hd, hm⟩ := h
  refine ⟨k.1, fun p e R s m args below meth c ρ dC dI A ws0 mc ms Q hC hR hE H locs cells slots ws tys ls st0 hW hL hS hc hs => ?_⟩
  obtain ⟨v0, r0, rfl, ⟨a, ea, rfl⟩, hS⟩ := hS
  rw [lkA_hi] at ea
  cases ea
  exact vk_getf hC.1 hC.2.1 (hC.2.2.2.2.2.2.2.2.2.1.1.1 i hi).2.2.1 hW.2.2.2.2.2 hC.2.2.2.2.2.1 (hC.2.2.2.2.1 _ hm) (fun _ q => q) hd (k.2 p e R s m args below meth c ρ dC dI A ws0 mc ms Q hC hR hE H locs cells slots ws tys ls _ hW hL ⟨_, _, rfl, ⟨_, lkA_hi2, rfl⟩, hS⟩ hc hs)
theorem ev_sgetC (h : iSgf M pc "coder" "B") (hi : i < 7) (k : Ev scr l d M (pc + 3) L (.int (nI 0) :: st) S r) : Ev scr l d M pc L (.ref (1000 + i) :: st) S r := by
  obtain ⟨ix, hd, hm⟩ := h
  refine ⟨k.1, fun p e R s m args below meth c ρ dC dI A ws0 mc ms Q hC hR hE H locs cells slots ws tys ls st0 hW hL hS hc hs => ?_⟩
  obtain ⟨v0, r0, rfl, ⟨a, ea, rfl⟩, hS⟩ := hS
  rw [lkA_hi] at ea
  cases ea
  exact vk_getf hC.1 hC.2.1 (hC.2.2.2.2.2.2.2.2.2.1.1.1 i hi).2.1 hW.2.2.2.2.2 hC.2.2.2.2.2.1 (hC.2.2.2.2.1 _ hm) (fun _ q => q) hd (k.2 p e R s m args below meth c ρ dC dI A ws0 mc ms Q hC hR hE H locs cells slots ws tys ls _ hW hL ⟨_, _, rfl, rfl, hS⟩ hc hs)
theorem ev_stlen (h : iIns M pc .arraylength 1) (hi : i < 7) (k : Ev scr l d M (pc + 1) L (.int (nI (cmdLen.getD i 0)) :: st) S r) : Ev scr l d M pc L (.ref (1200 + i) :: st) S r := by
  refine ⟨k.1, fun p e R s m args below meth c ρ dC dI A ws0 mc ms Q hC hR hE H locs cells slots ws tys ls st0 hW hL hS hc hs => ?_⟩
  obtain ⟨v0, r0, rfl, ⟨a, ea, rfl⟩, hS⟩ := hS
  rw [lkA_hi2] at ea
  cases ea
  exact va_tlen hC.1 hC.2.1 (hC.2.2.2.2.2.2.2.2.2.1.1.1 i hi).2.2.2 hW.2.2.2.2.2 rfl h (k.2 p e R s m args below meth c ρ dC dI A ws0 mc ms Q hC hR hE H locs cells slots ws tys ls _ hW hL ⟨_, _, rfl, rfl, hS⟩ hc hs)
theorem ev_stald {j : Nat} (h : iIns M pc .baload 1) (hi : i < 7) (hj : j < cmdLen.getD i 0) (hb : cmdLen.getD i 0 < 2 ^ 31) (k : Ev scr l d M (pc + 1) L (.int ((cmdByt.getD i []).getD j 0) :: st) S r) : Ev scr l d M pc L (.int (nI j) :: .ref (1200 + i) :: st) S r := by
  refine ⟨k.1, fun p e R s m args below meth c ρ dC dI A ws0 mc ms Q hC hR hE H locs cells slots ws tys ls st0 hW hL hS hc hs => ?_⟩
  obtain ⟨v0, r0, rfl, hv0, hS⟩ := hS
  have hv0 : v0 = .int (nI j) := hv0
  subst hv0
  obtain ⟨v1, r1, rfl, ⟨a, ea, rfl⟩, hS⟩ := hS
  rw [lkA_hi2] at ea
  cases ea
  exact va_tb hC.1 hC.2.1 (hC.2.2.2.2.2.2.2.2.2.1.1.1 i hi).2.2.2 hW.2.2.2.2.2 (vp_in_nI hj hb) (by show Value.int _ = _; rw [nI_clamp (Nat.lt_trans hj hb)]) h (k.2 p e R s m args below meth c ρ dC dI A ws0 mc ms Q hC hR hE H locs cells slots ws tys ls _ hW hL ⟨_, _, rfl, rfl, hS⟩ hc hs)
theorem ev_gstC (h : iGst M pc "java/lang/String" "COMPACT_STRINGS" "Z") (k : Ev scr l d M (pc + 3) L (.int (nI 1) :: st) S r) : Ev scr l d M pc L st S r := by
  obtain ⟨ix, hd, hm⟩ := h
  refine ⟨k.1, fun p e R s m args below meth c ρ dC dI A ws0 mc ms Q hC hR hE H locs cells slots ws tys ls st0 hW hL hS hc hs => ?_⟩
  exact va_gets hC.1 hC.2.1 hC.2.2.2.2.2.2.2.2.2.1.2.2.2.2.2.2.2.1.2.1 hW.2.2.2.2.2 hC.2.2.2.2.2.1 (hC.2.2.2.2.1 _ hm) (fun _ q => q) hd (k.2 p e R s m args below meth c ρ dC dI A ws0 mc ms Q hC hR hE H locs cells slots ws tys ls _ hW hL ⟨_, _, rfl, rfl, hS⟩ hc hs)
theorem ev_gstL (h : iGst M pc "java/lang/Math" "negativeZeroDoubleBits" "J") (k : Ev scr l d M (pc + 3) L (.long (-9223372036854775808) :: st) S r) : Ev scr l d M pc L st S r := by
  obtain ⟨ix, hd, hm⟩ := h
  refine ⟨k.1, fun p e R s m args below meth c ρ dC dI A ws0 mc ms Q hC hR hE H locs cells slots ws tys ls st0 hW hL hS hc hs => ?_⟩
  exact va_gets hC.1 hC.2.1 hC.2.2.2.2.2.2.2.2.2.1.2.2.2.2.2.2.2.1.1 hW.2.2.2.2.2 hC.2.2.2.2.2.1 (hC.2.2.2.2.1 _ hm) (fun _ q => q) hd (k.2 p e R s m args below meth c ρ dC dI A ws0 mc ms Q hC hR hE H locs cells slots ws tys ls _ hW hL ⟨_, _, rfl, rfl, hS⟩ hc hs)
theorem ev_gstQ (h : iGst M pc "jdk/internal/util/Preconditions" "SIOOBE_FORMATTER" "Ljava/util/function/BiFunction;") (k : Ev scr l d M (pc + 3) L (.retAddr 0 :: st) S r) : Ev scr l d M pc L st S r := by
  obtain ⟨ix, hd, hm⟩ := h
  refine ⟨k.1, fun p e R s m args below meth c ρ dC dI A ws0 mc ms Q hC hR hE H locs cells slots ws tys ls st0 hW hL hS hc hs => ?_⟩
  rcases hC.2.2.2.2.2.2.2.2.2.1.2.2.2.2.2.2.2.1.2.2 with hz | ⟨t, hz⟩
  · exact va_gets hC.1 hC.2.1 hz hW.2.2.2.2.2 hC.2.2.2.2.2.1 (hC.2.2.2.2.1 _ hm) (fun _ q => q) hd (k.2 p e R s m args below meth c ρ dC dI A ws0 mc ms Q hC hR hE H locs cells slots ws tys ls _ hW hL ⟨_, _, rfl, Or.inl rfl, hS⟩ hc hs)
  · exact va_gets hC.1 hC.2.1 hz hW.2.2.2.2.2 hC.2.2.2.2.2.1 (hC.2.2.2.2.1 _ hm) (fun _ q => q) hd (k.2 p e R s m args below meth c ρ dC dI A ws0 mc ms Q hC hR hE H locs cells slots ws tys ls _ hW hL ⟨_, _, rfl, Or.inr ⟨t, rfl⟩, hS⟩ hc hs)
theorem ev_dbits {x : UInt64} (h : iDnat M pc ⟨"java/lang/Double", "doubleToRawLongBits", "(D)J"⟩) (hlen : L.length = M.2.2.1) (hcat : (st.map fun v => v.category).sum ≤ 8) (k : Ev scr l d M (pc + 3) L (.long x.toInt64 :: st) S r) : Ev scr l d M pc L (.double x :: st) S r := by
  obtain ⟨ix, hd, h1, h2, h3, h4⟩ := h
  refine ⟨k.1, fun p e R s m args below meth c ρ dC dI A ws0 mc ms Q hC hR hE H locs cells slots ws tys ls st0 hW hL hS hc hs => ?_⟩
  obtain ⟨v0, r0, rfl, hv0, hS⟩ := hS
  have hv0 : v0 = .double x := hv0
  subst hv0
  have hcat' : (r0.map fun v => v.category).sum ≤ 8 := by rw [SR.cat hS]; exact hcat
  exact vn_d2l hC.1 hC.2.1 (by rw [hL.1, hlen]; exact hC.2.2.1) hC.2.2.2.2.2.1 (hC.2.2.2.2.1 _ h1) (hC.2.2.2.2.1 _ h2) (hC.2.2.2.2.1 _ h3) (hC.2.2.2.2.1 _ h4) (by omega) (by omega) hd (k.2 p e R s m args below meth c ρ dC dI A ws0 mc ms Q hC hR hE H locs cells slots ws tys ls _ hW hL ⟨_, _, rfl, rfl, hS⟩ hc hs)
theorem ev_bitsd {x : Int64} (h : iDnat M pc ⟨"java/lang/Double", "longBitsToDouble", "(J)D"⟩) (hv : vn_snl2d x = false) (hlen : L.length = M.2.2.1) (hcat : (st.map fun v => v.category).sum ≤ 8) (k : Ev scr l d M (pc + 3) L (.double x.toUInt64 :: st) S r) : Ev scr l d M pc L (.long x :: st) S r := by
  obtain ⟨ix, hd, h1, h2, h3, h4⟩ := h
  refine ⟨k.1, fun p e R s m args below meth c ρ dC dI A ws0 mc ms Q hC hR hE H locs cells slots ws tys ls st0 hW hL hS hc hs => ?_⟩
  obtain ⟨v0, r0, rfl, hv0, hS⟩ := hS
  have hv0 : v0 = .long x := hv0
  subst hv0
  have hcat' : (r0.map fun v => v.category).sum ≤ 8 := by rw [SR.cat hS]; exact hcat
  exact vn_l2d hC.1 hC.2.1 (by rw [hL.1, hlen]; exact hC.2.2.1) hC.2.2.2.2.2.1 (hC.2.2.2.2.1 _ h1) (hC.2.2.2.2.1 _ h2) (hC.2.2.2.2.1 _ h3) (hC.2.2.2.2.1 _ h4) hv (by omega) (by omega) hd (k.2 p e R s m args below meth c ρ dC dI A ws0 mc ms Q hC hR hE H locs cells slots ws tys ls _ hW hL ⟨_, _, rfl, rfl, hS⟩ hc hs)
theorem runVS {p : Program} {e : Env} {R : Room} {s : State} {m : MethodId} {args : Array Value} {below : List Frame} {meth : Method} {c : Code} {ρ : Nat → Nat} {dC : Nat → ClassId} {dI : Nat → Nat → Nat} {A : Nat → Prop} {ws0 : va_W} {H : Heap} {locs : List Loc} {cells slots : Nat} {ws : va_W} {tys : List (ClassId × FieldType)} {ls : Array Slot} {rest as' : List Value} (hC : Cx l p s m args meth c M scr ρ A) (hR : d + 1 + 8 ≤ R.frames ∧ 200 + 100 * (d + 1) ≤ R.locals) (hW : Wd s ρ dC dI A ws0 H locs ws tys S) (hL : ls.size = M.2.2.1) (h : iCallVS M pc M' n)
    (hM : MetA scr l d M' (.ref (1000 + i) :: as) S r1) (hi : i < 7) (has : SR ρ ws as as') (hn : as.length = n) (hcat : (rest.map fun v => v.category).sum ≤ 8) (hf : cells + (r1.2.2.1 - S.2.1) ≤ R.cells ∧ slots + (r1.2.2.2 - S.2.2) ≤ R.slots) :
    Run0 l p e R s m args below meth c ρ dC dI H locs cells slots ws S r1 pc ls (as'.reverse ++ .ref (ρ i) :: rest) rest := by
  obtain ⟨⟨ix, hd, hlk⟩, ⟨hin, hse, hcl⟩, ⟨hini, hmh, hpar, hmx⟩, hpl, hcode⟩ := h
  have hg : ∀ w ∈ lw_good, w.before args s = true := hC.2.2.2.2.1
  have hws : Mws M' = Cond.code M'.1 M'.2.1 M'.2.2.1 M'.2.2.2.1 :: lw_good := by unfold Mws; rw [if_pos hpl]
  have hm := hM.2 ρ dC dI ws tys H.size (.ref (ρ i) :: as') hW.1 ⟨_, _, rfl, ⟨ρ i, lkA_hi, rfl⟩, has⟩ hC.2.2.2.2.2.2.2.2.2.2.2
  have cw : CallB R s args M.1.cls ix M'.1 M'.2.1 M'.2.2.1 M'.2.2.2.1 (Mws M') (Rm d (r1.2.2.1 - S.2.1) (r1.2.2.2 - S.2.2)) (r1.2.2.1 - S.2.1) (r1.2.2.2 - S.2.2) n :=
    callB_of n hg (by rw [hws]; exact goodIn_good _ hcode) hws rfl rfl (hg _ hini) (hg _ hlk) ⟨hmh.1, hmh.2, hpar⟩ ⟨by show d + 8 + 1 ≤ R.frames; omega, by show 8 + (M'.2.2.1 + 11) + (200 + 100 * d) ≤ R.locals; omega⟩
  exact vx_runV (cc := M.2.1) (nL := M.2.2.1) (Ts := lw_good) (C := M'.1.cls) ⟨hC.1, hC.2.1, hC.2.2.1, hC.2.2.2.2.2.1, hg⟩ hm ⟨cw, hg _ hin, hg _ hse⟩ ⟨Pc0.blind _ _, by rw [hcl]; exact vk_recv hC.2.2.2.2.2.2.2.2.2.1.1 hi hW.2.2.2.2.2, Pc0.now hC hW _⟩ rfl ((SR.len has).trans hn) hL rfl (lv_room hcat) hd hf
theorem ev_callVS (h : iCallVS M pc M' n) (hlen : L.length = M.2.2.1) (hi : i < 7) (hn : as.length = n) (hcat : (st.map fun v => v.category).sum ≤ 8) (hM : MetA scr l d M' (.ref (1000 + i) :: as) S (.inl v0, S1)) (k : Ev scr l (d + 1) M (pc + 3) L (v0.toList ++ st) S1 r) : Ev scr l (d + 1) M pc L (as.reverse ++ .ref (1000 + i) :: st) S r := by
  refine ⟨⟨Nat.le_trans hM.1.1 k.1.1, Nat.le_trans hM.1.2 k.1.2⟩, fun p e R s m args below meth c ρ dC dI A ws0 mc ms Q hC hR hE H locs cells slots ws tys ls st0 hW hL hS hc hs => ?_⟩
  obtain ⟨ra, rb, rfl, hra, hrb⟩ := SR.split hS
  obtain ⟨v1, rest', rfl, ⟨b', eb, rfl⟩, hrest⟩ := hrb
  rw [lkA_hi] at eb
  cases eb
  have has := SR.rev hra
  rw [List.reverse_reverse] at has
  have hm1 : S.2.1 ≤ S1.2.1 ∧ S.2.2 ≤ S1.2.2 := hM.1
  have hm2 : S1.2.1 ≤ r.2.2.1 ∧ S1.2.2 ≤ r.2.2.2 := k.1
  have hr := runVS (e := e) (R := R) (below := below) (cells := cells) (slots := slots) (rest := rest') hC ⟨hR.1, hR.2.1⟩ hW (by rw [hL.1]; exact hlen) h hM hi has hn (by rw [SR.cat hrest]; exact hcat) ⟨by show cells + (S1.2.1 - S.2.1) ≤ R.cells; omega, by show slots + (S1.2.2 - S.2.2) ≤ R.slots; omega⟩
  rw [List.reverse_reverse] at hr
  exact ret_of hC hR hE hW hL hrest hc hs hm1 hr k
theorem ev_callVS0 (h : iCallVS M pc M' 0) (hlen : L.length = M.2.2.1) (hi : i < 7) (hcat : (st.map fun v => v.category).sum ≤ 8) (hM : MetA scr l d M' [.ref (1000 + i)] S (.inl v0, S1)) (k : Ev scr l (d + 1) M (pc + 3) L (v0.toList ++ st) S1 r) : Ev scr l (d + 1) M pc L (.ref (1000 + i) :: st) S r := ev_callVS (as := []) h hlen hi rfl hcat hM k
theorem ev_callVS1 {x1 : Value} (h : iCallVS M pc M' 1) (hlen : L.length = M.2.2.1) (hi : i < 7) (hcat : (st.map fun v => v.category).sum ≤ 8) (hM : MetA scr l d M' [.ref (1000 + i), x1] S (.inl v0, S1)) (k : Ev scr l (d + 1) M (pc + 3) L (v0.toList ++ st) S1 r) : Ev scr l (d + 1) M pc L (x1 :: .ref (1000 + i) :: st) S r := ev_callVS (as := [x1]) h hlen hi rfl hcat hM k
end RulesSt
theorem i_Sg_length_0 : iIns M_Sg_length 0 (.aload_n 0) 1 := (by decide +kernel : decode prog_28_method_54_code 0 = .ok (.aload_n 0, 1))
theorem i_Sg_length_4 : iIns M_Sg_length 4 .arraylength 1 := (by decide +kernel : decode prog_28_method_54_code 4 = .ok (.arraylength, 1))
theorem i_Sg_length_5 : iIns M_Sg_length 5 (.aload_n 0) 1 := (by decide +kernel : decode prog_28_method_54_code 5 = .ok (.aload_n 0, 1))
theorem i_Sg_length_9 : iIns M_Sg_length 9 .ishr 1 := (by decide +kernel : decode prog_28_method_54_code 9 = .ok (.ishr, 1))
theorem i_Sg_length_10 : iIns M_Sg_length 10 .ireturn 1 := (by decide +kernel : decode prog_28_method_54_code 10 = .ok (.ireturn, 1))
theorem i_Sg_coder_3 : iIf M_Sg_coder 3 .eq 13 := ⟨10, (by decide +kernel : decode prog_28_method_152_code 3 = .ok (.ifCond .eq (10), 3)), by decide⟩
theorem i_Sg_coder_6 : iIns M_Sg_coder 6 (.aload_n 0) 1 := (by decide +kernel : decode prog_28_method_152_code 6 = .ok (.aload_n 0, 1))
theorem i_Sg_coder_10 : iGoto M_Sg_coder 10 14 := ⟨4, (by decide +kernel : decode prog_28_method_152_code 10 = .ok (.goto (4), 3)), by decide⟩
theorem i_Sg_coder_13 : iIns M_Sg_coder 13 (.iconst 1) 1 := (by decide +kernel : decode prog_28_method_152_code 13 = .ok (.iconst 1, 1))
theorem i_Sg_coder_14 : iIns M_Sg_coder 14 .ireturn 1 := (by decide +kernel : decode prog_28_method_152_code 14 = .ok (.ireturn, 1))
theorem i_Sg_charAt_0 : iIns M_Sg_charAt 0 (.aload_n 0) 1 := (by decide +kernel : decode prog_28_method_56_code 0 = .ok (.aload_n 0, 1))
theorem i_Sg_charAt_4 : iIf M_Sg_charAt 4 .eq 16 := ⟨12, (by decide +kernel : decode prog_28_method_56_code 4 = .ok (.ifCond .eq (12), 3)), by decide⟩
theorem i_Sg_charAt_7 : iIns M_Sg_charAt 7 (.aload_n 0) 1 := (by decide +kernel : decode prog_28_method_56_code 7 = .ok (.aload_n 0, 1))
theorem i_Sg_charAt_11 : iIns M_Sg_charAt 11 (.iload_n 1) 1 := (by decide +kernel : decode prog_28_method_56_code 11 = .ok (.iload_n 1, 1))
theorem i_Sg_charAt_12 : iCallS M_Sg_charAt 12 M_Sl_charAt 2 := ⟨⟨495, (by decide +kernel : decode prog_28_method_56_code 12 = .ok (.invokestatic 495, 3)), lw_k5 109 rfl rfl⟩, sm_Sl_charAt, me_Sl_charAt, pn_Sl_charAt⟩
theorem i_Sg_charAt_15 : iIns M_Sg_charAt 15 .ireturn 1 := (by decide +kernel : decode prog_28_method_56_code 15 = .ok (.ireturn, 1))
theorem i_Sg_charAt_16 : iIns M_Sg_charAt 16 (.aload_n 0) 1 := (by decide +kernel : decode prog_28_method_56_code 16 = .ok (.aload_n 0, 1))
theorem i_Sg_charAt_20 : iIns M_Sg_charAt 20 (.iload_n 1) 1 := (by decide +kernel : decode prog_28_method_56_code 20 = .ok (.iload_n 1, 1))
theorem i_Sg_charAt_24 : iIns M_Sg_charAt 24 .ireturn 1 := (by decide +kernel : decode prog_28_method_56_code 24 = .ok (.ireturn, 1))
theorem i_Sg_isLatin1_3 : iIf M_Sg_isLatin1 3 .eq 17 := ⟨14, (by decide +kernel : decode prog_28_method_154_code 3 = .ok (.ifCond .eq (14), 3)), by decide⟩
theorem i_Sg_isLatin1_6 : iIns M_Sg_isLatin1 6 (.aload_n 0) 1 := (by decide +kernel : decode prog_28_method_154_code 6 = .ok (.aload_n 0, 1))
theorem i_Sg_isLatin1_10 : iIf M_Sg_isLatin1 10 .ne 17 := ⟨7, (by decide +kernel : decode prog_28_method_154_code 10 = .ok (.ifCond .ne (7), 3)), by decide⟩
theorem i_Sg_isLatin1_13 : iIns M_Sg_isLatin1 13 (.iconst 1) 1 := (by decide +kernel : decode prog_28_method_154_code 13 = .ok (.iconst 1, 1))
theorem i_Sg_isLatin1_14 : iGoto M_Sg_isLatin1 14 18 := ⟨4, (by decide +kernel : decode prog_28_method_154_code 14 = .ok (.goto (4), 3)), by decide⟩
theorem i_Sg_isLatin1_17 : iIns M_Sg_isLatin1 17 (.iconst 0) 1 := (by decide +kernel : decode prog_28_method_154_code 17 = .ok (.iconst 0, 1))
theorem i_Sg_isLatin1_18 : iIns M_Sg_isLatin1 18 .ireturn 1 := (by decide +kernel : decode prog_28_method_154_code 18 = .ok (.ireturn, 1))
theorem i_Sg_checkIndex_0 : iIns M_Sg_checkIndex 0 (.iload_n 0) 1 := (by decide +kernel : decode prog_28_method_155_code 0 = .ok (.iload_n 0, 1))
theorem i_Sg_checkIndex_1 : iIns M_Sg_checkIndex 1 (.iload_n 1) 1 := (by decide +kernel : decode prog_28_method_155_code 1 = .ok (.iload_n 1, 1))
theorem i_Sg_checkIndex_5 : iCallS M_Sg_checkIndex 5 M_Pc_checkIndex 3 := ⟨⟨1059, (by decide +kernel : decode prog_28_method_155_code 5 = .ok (.invokestatic 1059, 3)), lw_k5 117 rfl rfl⟩, sm_Pc_checkIndex, me_Pc_checkIndex, pn_Pc_checkIndex⟩
theorem i_Sg_checkIndex_8 : iIns M_Sg_checkIndex 8 .pop 1 := (by decide +kernel : decode prog_28_method_155_code 8 = .ok (.pop, 1))
theorem i_Sg_checkIndex_9 : iIns M_Sg_checkIndex 9 .return_ 1 := (by decide +kernel : decode prog_28_method_155_code 9 = .ok (.return_, 1))
theorem i_Sl_charAt_0 : iIns M_Sl_charAt 0 (.iload_n 1) 1 := (by decide +kernel : decode prog_29_method_2_code 0 = .ok (.iload_n 1, 1))
theorem i_Sl_charAt_1 : iIns M_Sl_charAt 1 (.aload_n 0) 1 := (by decide +kernel : decode prog_29_method_2_code 1 = .ok (.aload_n 0, 1))
theorem i_Sl_charAt_2 : iIns M_Sl_charAt 2 .arraylength 1 := (by decide +kernel : decode prog_29_method_2_code 2 = .ok (.arraylength, 1))
theorem i_Sl_charAt_3 : iCallS M_Sl_charAt 3 M_Sg_checkIndex 2 := ⟨⟨9, (by decide +kernel : decode prog_29_method_2_code 3 = .ok (.invokestatic 9, 3)), lw_k5 112 rfl rfl⟩, sm_Sg_checkIndex, me_Sg_checkIndex, pn_Sg_checkIndex⟩
theorem i_Sl_charAt_6 : iIns M_Sl_charAt 6 (.aload_n 0) 1 := (by decide +kernel : decode prog_29_method_2_code 6 = .ok (.aload_n 0, 1))
theorem i_Sl_charAt_7 : iIns M_Sl_charAt 7 (.iload_n 1) 1 := (by decide +kernel : decode prog_29_method_2_code 7 = .ok (.iload_n 1, 1))
theorem i_Sl_charAt_8 : iIns M_Sl_charAt 8 .baload 1 := (by decide +kernel : decode prog_29_method_2_code 8 = .ok (.baload, 1))
theorem i_Sl_charAt_9 : iIns M_Sl_charAt 9 (.sipush 255) 3 := (by decide +kernel : decode prog_29_method_2_code 9 = .ok (.sipush 255, 3))
theorem i_Sl_charAt_12 : iIns M_Sl_charAt 12 .iand 1 := (by decide +kernel : decode prog_29_method_2_code 12 = .ok (.iand, 1))
theorem i_Sl_charAt_13 : iIns M_Sl_charAt 13 .i2c 1 := (by decide +kernel : decode prog_29_method_2_code 13 = .ok (.i2c, 1))
theorem i_Sl_charAt_14 : iIns M_Sl_charAt 14 .ireturn 1 := (by decide +kernel : decode prog_29_method_2_code 14 = .ok (.ireturn, 1))
theorem i_Pc_checkIndex_0 : iIns M_Pc_checkIndex 0 (.iload_n 0) 1 := (by decide +kernel : decode prog_37_method_11_code 0 = .ok (.iload_n 0, 1))
theorem i_Pc_checkIndex_1 : iIf M_Pc_checkIndex 1 .lt 9 := ⟨8, (by decide +kernel : decode prog_37_method_11_code 1 = .ok (.ifCond .lt (8), 3)), by decide⟩
theorem i_Pc_checkIndex_4 : iIns M_Pc_checkIndex 4 (.iload_n 0) 1 := (by decide +kernel : decode prog_37_method_11_code 4 = .ok (.iload_n 0, 1))
theorem i_Pc_checkIndex_5 : iIns M_Pc_checkIndex 5 (.iload_n 1) 1 := (by decide +kernel : decode prog_37_method_11_code 5 = .ok (.iload_n 1, 1))
theorem i_Pc_checkIndex_6 : iIcmp M_Pc_checkIndex 6 .lt 16 := ⟨10, (by decide +kernel : decode prog_37_method_11_code 6 = .ok (.if_icmp .lt (10), 3)), by decide⟩
theorem i_Pc_checkIndex_9 : iIns M_Pc_checkIndex 9 (.aload_n 2) 1 := (by decide +kernel : decode prog_37_method_11_code 9 = .ok (.aload_n 2, 1))
theorem i_Pc_checkIndex_10 : iIns M_Pc_checkIndex 10 (.iload_n 0) 1 := (by decide +kernel : decode prog_37_method_11_code 10 = .ok (.iload_n 0, 1))
theorem i_Pc_checkIndex_11 : iIns M_Pc_checkIndex 11 (.iload_n 1) 1 := (by decide +kernel : decode prog_37_method_11_code 11 = .ok (.iload_n 1, 1))
theorem i_Pc_checkIndex_15 : iIns M_Pc_checkIndex 15 .athrow 1 := (by decide +kernel : decode prog_37_method_11_code 15 = .ok (.athrow, 1))
theorem i_Pc_checkIndex_16 : iIns M_Pc_checkIndex 16 (.iload_n 0) 1 := (by decide +kernel : decode prog_37_method_11_code 16 = .ok (.iload_n 0, 1))
theorem i_Pc_checkIndex_17 : iIns M_Pc_checkIndex 17 .ireturn 1 := (by decide +kernel : decode prog_37_method_11_code 17 = .ok (.ireturn, 1))
theorem i_Sg_length_1 : iSgf M_Sg_length 1 "value" "[B" := ⟨9, (by decide +kernel : decode prog_28_method_54_code 1 = .ok (.getfield 9, 3)), lw_k8 20 rfl rfl⟩
theorem i_Sg_length_6 : iCallVS M_Sg_length 6 M_Sg_coder 0 := ⟨⟨335, (by decide +kernel : decode prog_28_method_54_code 6 = .ok (.invokevirtual 335, 3)), lw_k5 95 rfl rfl⟩, ⟨lw_k5 96 rfl rfl, lw_k5 97 rfl rfl, rfl⟩, me_Sg_coder, pn_Sg_coder⟩
theorem i_Sg_coder_0 : iGst M_Sg_coder 0 "java/lang/String" "COMPACT_STRINGS" "Z" := ⟨38, (by decide +kernel : decode prog_28_method_152_code 0 = .ok (.getstatic 38, 3)), lw_k5 99 rfl rfl⟩
theorem i_Sg_coder_7 : iSgf M_Sg_coder 7 "coder" "B" := ⟨15, (by decide +kernel : decode prog_28_method_152_code 7 = .ok (.getfield 15, 3)), lw_k8 21 rfl rfl⟩
theorem i_Sg_charAt_1 : iCallVS M_Sg_charAt 1 M_Sg_isLatin1 0 := ⟨⟨492, (by decide +kernel : decode prog_28_method_56_code 1 = .ok (.invokevirtual 492, 3)), lw_k5 105 rfl rfl⟩, ⟨lw_k5 106 rfl rfl, lw_k5 107 rfl rfl, rfl⟩, me_Sg_isLatin1, pn_Sg_isLatin1⟩
theorem i_Sg_charAt_8 : iSgf M_Sg_charAt 8 "value" "[B" := ⟨9, (by decide +kernel : decode prog_28_method_56_code 8 = .ok (.getfield 9, 3)), lw_k8 20 rfl rfl⟩
theorem i_Sg_isLatin1_0 : iGst M_Sg_isLatin1 0 "java/lang/String" "COMPACT_STRINGS" "Z" := ⟨38, (by decide +kernel : decode prog_28_method_154_code 0 = .ok (.getstatic 38, 3)), lw_k5 99 rfl rfl⟩
theorem i_Sg_isLatin1_7 : iSgf M_Sg_isLatin1 7 "coder" "B" := ⟨15, (by decide +kernel : decode prog_28_method_154_code 7 = .ok (.getfield 15, 3)), lw_k8 21 rfl rfl⟩
theorem i_Sg_checkIndex_2 : iGst M_Sg_checkIndex 2 "jdk/internal/util/Preconditions" "SIOOBE_FORMATTER" "Ljava/util/function/BiFunction;" := ⟨1053, (by decide +kernel : decode prog_28_method_155_code 2 = .ok (.getstatic 1053, 3)), lw_k5 115 rfl rfl⟩
theorem i_Tx_says_5 : iCallVS M_Tx_says 5 M_Sg_length 0 := ⟨⟨19, (by decide +kernel : decode prog_10_method_5_code 5 = .ok (.invokevirtual 19, 3)), lw_k5 91 rfl rfl⟩, ⟨lw_k5 92 rfl rfl, lw_k5 93 rfl rfl, rfl⟩, me_Sg_length, pn_Sg_length⟩
theorem i_Tx_says_31 : iCallVS M_Tx_says 31 M_Sg_charAt 1 := ⟨⟨24, (by decide +kernel : decode prog_10_method_5_code 31 = .ok (.invokevirtual 24, 3)), lw_k5 101 rfl rfl⟩, ⟨lw_k5 102 rfl rfl, lw_k5 103 rfl rfl, rfl⟩, me_Sg_charAt, pn_Sg_charAt⟩
theorem i_Md_isText_5 : iCallVS M_Md_isText 5 M_Sg_length 0 := ⟨⟨253, (by decide +kernel : decode prog_14_method_68_code 5 = .ok (.invokevirtual 253, 3)), lw_k7 166 rfl rfl⟩, ⟨lw_k5 92 rfl rfl, lw_k5 93 rfl rfl, rfl⟩, me_Sg_length, pn_Sg_length⟩
theorem i_Md_isText_39 : iCallVS M_Md_isText 39 M_Sg_charAt 1 := ⟨⟨258, (by decide +kernel : decode prog_14_method_68_code 39 = .ok (.invokevirtual 258, 3)), lw_k7 167 rfl rfl⟩, ⟨lw_k5 102 rfl rfl, lw_k5 103 rfl rfl, rfl⟩, me_Sg_charAt, pn_Sg_charAt⟩
theorem i_Ma_absD_1 : iDnat M_Ma_absD 1 ⟨"java/lang/Double", "doubleToRawLongBits", "(D)J"⟩ := ⟨79, (by decide +kernel : decode prog_25_method_64_code 1 = .ok (.invokestatic 79, 3)), lw_k7 198 rfl rfl, lw_k7 200 rfl rfl, lw_k7 199 rfl rfl, lw_k1 31 rfl rfl⟩
theorem i_Ma_absD_8 : iDnat M_Ma_absD 8 ⟨"java/lang/Double", "longBitsToDouble", "(J)D"⟩ := ⟨166, (by decide +kernel : decode prog_25_method_64_code 8 = .ok (.invokestatic 166, 3)), lw_k7 202 rfl rfl, lw_k7 204 rfl rfl, lw_k7 203 rfl rfl, lw_k1 31 rfl rfl⟩
theorem i_Ma_minD_21 : iDnat M_Ma_minD 21 ⟨"java/lang/Double", "doubleToRawLongBits", "(D)J"⟩ := ⟨79, (by decide +kernel : decode prog_25_method_72_code 21 = .ok (.invokestatic 79, 3)), lw_k7 198 rfl rfl, lw_k7 200 rfl rfl, lw_k7 199 rfl rfl, lw_k1 31 rfl rfl⟩
theorem i_Ma_minD_24 : iGst M_Ma_minD 24 "java/lang/Math" "negativeZeroDoubleBits" "J" := ⟨174, (by decide +kernel : decode prog_25_method_72_code 24 = .ok (.getstatic 174, 3)), lw_k7 212 rfl rfl⟩
theorem i_Ma_maxD_21 : iDnat M_Ma_maxD 21 ⟨"java/lang/Double", "doubleToRawLongBits", "(D)J"⟩ := ⟨79, (by decide +kernel : decode prog_25_method_68_code 21 = .ok (.invokestatic 79, 3)), lw_k7 198 rfl rfl, lw_k7 200 rfl rfl, lw_k7 199 rfl rfl, lw_k1 31 rfl rfl⟩
theorem i_Ma_maxD_24 : iGst M_Ma_maxD 24 "java/lang/Math" "negativeZeroDoubleBits" "J" := ⟨174, (by decide +kernel : decode prog_25_method_68_code 24 = .ok (.getstatic 174, 3)), lw_k7 212 rfl rfl⟩
theorem c_coder {scr : Scr} {l : Launch} {S : Sto} {d i : Nat} (hi : i < 7) : MetA scr l d M_Sg_coder [.ref (1000 + i)] S (.inl (some (.int (nI 0))), S) := by
  refine MetA.ofF rfl (by decide +kernel) (Nat.le_of_ble_eq_true rfl) ?_
  refine ev_gstC i_Sg_coder_0 ?_
  refine ev_if_eqN i_Sg_coder_3 (by omega) (fun hc_3 => ?_) (fun hc_3 => ?_)
  · skip
    exfalso; omega
  · skip
    refine ev_aload_n i_Sg_coder_6 rfl ?_
    refine ev_sgetC i_Sg_coder_7 hi ?_
    refine ev_goto i_Sg_coder_10 ?_
    exact ev_iret i_Sg_coder_14 rfl (by first | rfl | decide)
theorem len_shr : ∀ i, i < 7 → nI (cmdLen.getD i 0) >>> (nI 0 &&& 31) = nI (cmdLen.getD i 0) := by decide
theorem c_length {scr : Scr} {l : Launch} {S : Sto} {d i : Nat} (hi : i < 7) : MetA scr l (d + 1) M_Sg_length [.ref (1000 + i)] S (.inl (some (.int (nI (cmdLen.getD i 0)))), S) := by
  refine MetA.ofF rfl (by decide +kernel) (Nat.le_of_ble_eq_true rfl) ?_
  refine ev_aload_n i_Sg_length_0 rfl ?_
  refine ev_sgetV i_Sg_length_1 hi ?_
  refine ev_stlen i_Sg_length_4 hi ?_
  refine ev_aload_n i_Sg_length_5 rfl ?_
  refine ev_callVS0 i_Sg_length_6 rfl hi (Nat.le_of_ble_eq_true rfl) (c_coder hi) ?_
  refine ev_ishr i_Sg_length_9 ?_
  rw [len_shr i hi]
  exact ev_iret i_Sg_length_10 rfl (by first | rfl | decide)
theorem c_latin {scr : Scr} {l : Launch} {S : Sto} {d i : Nat} (hi : i < 7) : MetA scr l d M_Sg_isLatin1 [.ref (1000 + i)] S (.inl (some (.int (nI 1))), S) := by
  refine MetA.ofF rfl (by decide +kernel) (Nat.le_of_ble_eq_true rfl) ?_
  refine ev_gstC i_Sg_isLatin1_0 ?_
  refine ev_if_eqN i_Sg_isLatin1_3 (by omega) (fun hc_3 => ?_) (fun hc_3 => ?_)
  · skip
    exfalso; omega
  · skip
    refine ev_aload_n i_Sg_isLatin1_6 rfl ?_
    refine ev_sgetC i_Sg_isLatin1_7 hi ?_
    refine ev_if_neN i_Sg_isLatin1_10 (by omega) (fun hc_10 => ?_) (fun hc_10 => ?_)
    · skip
      exfalso; omega
    · skip
      refine ev_iconstN (v := 1) i_Sg_isLatin1_13 (by decide) ?_
      refine ev_goto i_Sg_isLatin1_14 ?_
      exact ev_iret i_Sg_isLatin1_18 rfl (by first | rfl | decide)
theorem c_chkP {scr : Scr} {l : Launch} {S : Sto} {d i j : Nat} (hij : i < j) (hj : j < 2 ^ 31) : MetA scr l d M_Pc_checkIndex [.int (nI i), .int (nI j), .retAddr 0] S (.inl (some (.int (nI i))), S) := by
  refine MetA.of rfl (by decide +kernel) (Nat.le_of_ble_eq_true rfl) ?_
  refine ev_iload_n i_Pc_checkIndex_0 rfl ?_
  refine ev_if_lt_N i_Pc_checkIndex_1 (by omega) (fun hc_1 => ?_) (fun hc_1 => ?_)
  · skip
    exfalso; omega
  · skip
    refine ev_iload_n i_Pc_checkIndex_4 rfl ?_
    refine ev_iload_n i_Pc_checkIndex_5 rfl ?_
    refine ev_icmp_ltN i_Pc_checkIndex_6 (by omega) (by omega) (fun hc_6 => ?_) (fun hc_6 => ?_)
    · skip
      refine ev_iload_n i_Pc_checkIndex_16 rfl ?_
      exact ev_iret i_Pc_checkIndex_17 rfl (by first | rfl | decide)
    · skip
      exfalso; omega
theorem c_chkS {scr : Scr} {l : Launch} {S : Sto} {d i j : Nat} (hij : i < j) (hj : j < 2 ^ 31) : MetA scr l (d + 1) M_Sg_checkIndex [.int (nI i), .int (nI j)] S (.inl none, S) := by
  refine MetA.ofF rfl (by decide +kernel) (Nat.le_of_ble_eq_true rfl) ?_
  refine ev_iload_n i_Sg_checkIndex_0 rfl ?_
  refine ev_iload_n i_Sg_checkIndex_1 rfl ?_
  refine ev_gstQ i_Sg_checkIndex_2 ?_
  refine ev_callS3 i_Sg_checkIndex_5 rfl (Nat.le_of_ble_eq_true rfl) (c_chkP hij hj) ?_
  refine ev_pop i_Sg_checkIndex_8 rfl ?_
  exact ev_vret i_Sg_checkIndex_9 rfl
theorem cmd_len : ∀ i, i < 7 → cmdLen.getD i 0 < 2 ^ 31 ∧ cmdLen.getD i 0 = (cmdN.getD i []).length := by decide
theorem cmd_chr : ∀ i, i < 7 → ∀ j, j < cmdLen.getD i 0 → ((((cmdByt.getD i []).getD j 0 &&& nI 255).toUInt32 % 65536).toInt32) = nI ((cmdN.getD i []).getD j 0) := by decide
theorem cmd_nar : ∀ i, i < 7 → ∀ j, j < cmdLen.getD i 0 → narrow .char (.int (nI ((cmdN.getD i []).getD j 0))) = .int (nI ((cmdN.getD i []).getD j 0)) := by decide
theorem c_chrL {scr : Scr} {l : Launch} {S : Sto} {d i j : Nat} (hi : i < 7) (hj : j < cmdLen.getD i 0) : MetA scr l (d + 2) M_Sl_charAt [.ref (1200 + i), .int (nI j)] S (.inl (some (.int (nI ((cmdN.getD i []).getD j 0)))), S) := by
  refine MetA.of rfl (by decide +kernel) (Nat.le_of_ble_eq_true rfl) ?_
  refine ev_iload_n i_Sl_charAt_0 rfl ?_
  refine ev_aload_n i_Sl_charAt_1 rfl ?_
  refine ev_stlen i_Sl_charAt_2 hi ?_
  refine ev_callS2 i_Sl_charAt_3 rfl (Nat.le_of_ble_eq_true rfl) (c_chkS hj (cmd_len i hi).1) ?_
  refine ev_aload_n i_Sl_charAt_6 rfl ?_
  refine ev_iload_n i_Sl_charAt_7 rfl ?_
  refine ev_stald i_Sl_charAt_8 hi hj (cmd_len i hi).1 ?_
  refine ev_sipushN (v := 255) i_Sl_charAt_9 (by decide) ?_
  refine ev_iand i_Sl_charAt_12 ?_
  refine ev_i2c i_Sl_charAt_13 ?_
  rw [cmd_chr i hi j hj]
  exact ev_iret i_Sl_charAt_14 rfl (cmd_nar i hi j hj)
theorem c_charAt {scr : Scr} {l : Launch} {S : Sto} {d i j : Nat} (hi : i < 7) (hj : j < cmdLen.getD i 0) : MetA scr l (d + 3) M_Sg_charAt [.ref (1000 + i), .int (nI j)] S (.inl (some (.int (nI ((cmdN.getD i []).getD j 0)))), S) := by
  refine MetA.ofF rfl (by decide +kernel) (Nat.le_of_ble_eq_true rfl) ?_
  refine ev_aload_n i_Sg_charAt_0 rfl ?_
  refine ev_callVS0 i_Sg_charAt_1 rfl hi (Nat.le_of_ble_eq_true rfl) (c_latin hi) ?_
  refine ev_if_eqN i_Sg_charAt_4 (by omega) (fun hc_4 => ?_) (fun hc_4 => ?_)
  · skip
    exfalso; omega
  · skip
    refine ev_aload_n i_Sg_charAt_7 rfl ?_
    refine ev_sgetV i_Sg_charAt_8 hi ?_
    refine ev_iload_n i_Sg_charAt_11 rfl ?_
    refine ev_callS2 i_Sg_charAt_12 rfl (Nat.le_of_ble_eq_true rfl) (c_chrL hi hj) ?_
    exact ev_iret i_Sg_charAt_15 rfl (cmd_nar i hi j hj)

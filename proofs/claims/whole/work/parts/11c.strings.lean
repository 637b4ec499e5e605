/-! ===== the names of commands as constants ===== -/
section RulesStr
variable {scr : Scr} {l : Launch} {d : Nat} {M : Mth} {pc : Nat} {L : List (Option Value)} {st : List Value} {S : Sto} {r : Res}
def iLdcS (M : Mth) (pc i n : Nat) : Prop := ∃ ix : Nat, ((decode M.2.1 pc = .ok (.ldc ix, n) ∧ n = 2) ∨ (decode M.2.1 pc = .ok (.ldc_w ix, n) ∧ n = 3)) ∧ (M.1.cls, ix, i) ∈ ldcTab
theorem ev_LdcS {i n : Nat} (h : iLdcS M pc i n) (k : Ev scr l d M (pc + n) L (.ref (1000 + i) :: st) S r) : Ev scr l d M pc L st S r := by
  obtain ⟨ix, hd, hm⟩ := h
  refine ⟨k.1, fun p e R s m args below meth c ρ dC dI A ws0 mc ms Q hC hR hE H locs cells slots ws tys ls st0 hW hL hS hc hs => ?_⟩
  have hZ : vk_R M.1.cls ix (cmdTxt.getD i "") (ρ i) s := hC.2.2.2.2.2.2.2.2.2.1.2.1 _ hm
  have hlk : lkA ρ ws (1000 + i) = some (ρ i) := by
    unfold lkA
    rw [if_pos (by omega), show 1000 + i - 1000 = i by omega]
  have kk := k.2 p e R s m args below meth c ρ dC dI A ws0 mc ms Q hC hR hE H locs cells slots ws tys ls (.ref (ρ i) :: st0) hW hL ⟨_, _, rfl, ⟨_, hlk, rfl⟩, hS⟩ hc hs
  rcases hd with ⟨hd, rfl⟩ | ⟨hd, rfl⟩
  · exact va_ldcS hC.1 hC.2.1 hC.2.2.2.2.2.1 hZ hd kk
  · intro T hT X
    obtain ⟨t, a1, b1⟩ := kk T hT X
    exact ⟨t, X.ldcStringW hC.1 hC.2.2.2.2.2.1 (text := cmdTxt.getD i "") (a := ρ i) hZ.1 hZ.2 (g := F0 m pc ls st0) rfl (by rw [hC.2.1]; exact hd) t a1, b1⟩
end RulesStr

/-! ===== the rules over numbers: an int that is nI n (by program: wip/whole/gen13) ===== -/
section RulesNat
variable {scr : Scr} {l : Launch} {d : Nat} {M : Mth} {pc : Nat} {L : List (Option Value)} {st : List Value} {S : Sto} {r : Res}
theorem nI_sub {a b : Nat} (h : b ≤ a) : nI a - nI b = nI (a - b) := by
  have h1 : nI (a - b) + nI b = nI a := by rw [nI_add, Nat.sub_add_cancel h]
  rw [← h1, Int32.add_sub_cancel]
theorem nI_mul (a b : Nat) : nI a * nI b = nI (a * b) := (Int32.ofNat_mul a b).symm
theorem nI_eq_iff {a b : Nat} (ha : a < 2 ^ 31) (hb : b < 2 ^ 31) : nI a = nI b ↔ a = b := ⟨fun h => by rw [← nI_clamp ha, ← nI_clamp hb, h], fun h => by rw [h]⟩
theorem nI_le_iff {a b : Nat} (ha : a < 2 ^ 31) (hb : b < 2 ^ 31) : nI a ≤ nI b ↔ a ≤ b := ⟨fun h => by
  rcases Nat.lt_or_ge b a with q | q
  · exact absurd h (nI_ge q ha)
  · exact q, fun h => nI_le h hb⟩
theorem nI_lt_iff {a b : Nat} (ha : a < 2 ^ 31) (hb : b < 2 ^ 31) : nI a < nI b ↔ a < b := ⟨fun h => by
  rcases Nat.lt_or_ge a b with q | q
  · exact q
  · exact absurd h (nI_nlt q ha), fun h => nI_lt h hb⟩
/-- an int from 0 to n - 1 is a number below n -/
theorem nI_rng {x : Int32} {n : Nat} (hn : n < 2 ^ 31) (h1 : ¬ x < 0) (h2 : ¬ nI n ≤ x) : ∃ t, t < n ∧ x = nI t := by
  refine ⟨x.toInt.toNat, ?_, ?_⟩
  · rw [Int32.le_iff_toInt_le, nI_toInt hn] at h2
    rw [Int32.lt_iff_toInt_lt, Int32.toInt_zero] at h1
    omega
  · rw [Int32.lt_iff_toInt_lt, Int32.toInt_zero] at h1
    apply Int32.toInt_inj.mp
    have h3 : x.toInt < 2 ^ 31 := Int32.toInt_lt x
    rw [nI_toInt (by omega)]
    omega
theorem ev_iaddN {a b : Nat} (h : iIns M pc .iadd 1) (k : Ev scr l d M (pc + 1) L (.int (nI (a + b)) :: st) S r) : Ev scr l d M pc L (.int (nI b) :: .int (nI a) :: st) S r := ev_iadd h (by rw [nI_add]; exact k)
theorem ev_isubN {a b : Nat} (h : iIns M pc .isub 1) (hab : b ≤ a) (k : Ev scr l d M (pc + 1) L (.int (nI (a - b)) :: st) S r) : Ev scr l d M pc L (.int (nI b) :: .int (nI a) :: st) S r := ev_isub h (by rw [nI_sub hab]; exact k)
theorem ev_imulN {a b : Nat} (h : iIns M pc .imul 1) (k : Ev scr l d M (pc + 1) L (.int (nI (a * b)) :: st) S r) : Ev scr l d M pc L (.int (nI b) :: .int (nI a) :: st) S r := ev_imul h (by rw [nI_mul]; exact k)
theorem ev_iconstN {n : Int} {v : Nat} (h : iIns M pc (.iconst n) 1) (hv : Int32.ofInt n = nI v) (k : Ev scr l d M (pc + 1) L (.int (nI v) :: st) S r) : Ev scr l d M pc L st S r := ev_iconst h hv k
theorem ev_bipushN {n : Int} {v : Nat} (h : iIns M pc (.bipush n) 2) (hv : (Int8.ofInt n).toInt32 = nI v) (k : Ev scr l d M (pc + 2) L (.int (nI v) :: st) S r) : Ev scr l d M pc L st S r := ev_bipush h hv k
theorem ev_sipushN {n : Int} {v : Nat} (h : iIns M pc (.sipush n) 3) (hv : (Int16.ofInt n).toInt32 = nI v) (k : Ev scr l d M (pc + 3) L (.int (nI v) :: st) S r) : Ev scr l d M pc L st S r := ev_sipush h hv k
theorem ev_iincN {i : Nat} {n : Int} {x c : Nat} (h : iIns M pc (.iinc i n) 3) (hn : Int32.ofInt n = nI c) (hl : L[i]? = some (some (.int (nI x)))) (k : Ev scr l d M (pc + 3) (stL i (.int (nI (x + c))) L) st S r) : Ev scr l d M pc L st S r := ev_iinc h hl (by rw [hn, nI_add]; exact k)
theorem ev_icmp_geN {a b tgt : Nat} (h : iIcmp M pc .ge tgt) (ha : a < 2 ^ 31) (hb : b < 2 ^ 31) (kt : b ≤ a → Ev scr l d M tgt L st S r) (kf : ¬ b ≤ a → Ev scr l d M (pc + 3) L st S r) : Ev scr l d M pc L (.int (nI b) :: .int (nI a) :: st) S r := ev_icmp_ge h (fun q => kt ((nI_le_iff hb ha).mp q)) (fun q => kf (fun z => q ((nI_le_iff hb ha).mpr z)))
theorem ev_icmp_ltN {a b tgt : Nat} (h : iIcmp M pc .lt tgt) (ha : a < 2 ^ 31) (hb : b < 2 ^ 31) (kt : a < b → Ev scr l d M tgt L st S r) (kf : ¬ a < b → Ev scr l d M (pc + 3) L st S r) : Ev scr l d M pc L (.int (nI b) :: .int (nI a) :: st) S r := ev_icmp_lt h (fun q => kt ((nI_lt_iff ha hb).mp q)) (fun q => kf (fun z => q ((nI_lt_iff ha hb).mpr z)))
theorem ev_icmp_gtN {a b tgt : Nat} (h : iIcmp M pc .gt tgt) (ha : a < 2 ^ 31) (hb : b < 2 ^ 31) (kt : b < a → Ev scr l d M tgt L st S r) (kf : ¬ b < a → Ev scr l d M (pc + 3) L st S r) : Ev scr l d M pc L (.int (nI b) :: .int (nI a) :: st) S r := ev_icmp_gt h (fun q => kt ((nI_lt_iff hb ha).mp q)) (fun q => kf (fun z => q ((nI_lt_iff hb ha).mpr z)))
theorem ev_icmp_leN {a b tgt : Nat} (h : iIcmp M pc .le tgt) (ha : a < 2 ^ 31) (hb : b < 2 ^ 31) (kt : a ≤ b → Ev scr l d M tgt L st S r) (kf : ¬ a ≤ b → Ev scr l d M (pc + 3) L st S r) : Ev scr l d M pc L (.int (nI b) :: .int (nI a) :: st) S r := ev_icmp_le h (fun q => kt ((nI_le_iff ha hb).mp q)) (fun q => kf (fun z => q ((nI_le_iff ha hb).mpr z)))
theorem ev_icmp_eqN {a b tgt : Nat} (h : iIcmp M pc .eq tgt) (ha : a < 2 ^ 31) (hb : b < 2 ^ 31) (kt : a = b → Ev scr l d M tgt L st S r) (kf : ¬ a = b → Ev scr l d M (pc + 3) L st S r) : Ev scr l d M pc L (.int (nI b) :: .int (nI a) :: st) S r := ev_icmp_eq h (fun q => kt ((nI_eq_iff ha hb).mp q)) (fun q => kf (fun z => q ((nI_eq_iff ha hb).mpr z)))
theorem ev_icmp_neN {a b tgt : Nat} (h : iIcmp M pc .ne tgt) (ha : a < 2 ^ 31) (hb : b < 2 ^ 31) (kt : ¬ a = b → Ev scr l d M tgt L st S r) (kf : a = b → Ev scr l d M (pc + 3) L st S r) : Ev scr l d M pc L (.int (nI b) :: .int (nI a) :: st) S r := ev_icmp_ne h (fun q => kt (fun z => q ((nI_eq_iff ha hb).mpr z))) (fun q => kf ((nI_eq_iff ha hb).mp q))
theorem ev_if_eqN {a tgt : Nat} (h : iIf M pc .eq tgt) (ha : a < 2 ^ 31) (kt : a = 0 → Ev scr l d M tgt L st S r) (kf : ¬ a = 0 → Ev scr l d M (pc + 3) L st S r) : Ev scr l d M pc L (.int (nI a) :: st) S r := ev_if_eq h (fun q => kt ((nI_eq_iff ha (by omega)).mp (q.trans nI_0.symm))) (fun q => kf (fun z => q (by rw [z]; exact nI_0)))
theorem ev_if_neN {a tgt : Nat} (h : iIf M pc .ne tgt) (ha : a < 2 ^ 31) (kt : ¬ a = 0 → Ev scr l d M tgt L st S r) (kf : a = 0 → Ev scr l d M (pc + 3) L st S r) : Ev scr l d M pc L (.int (nI a) :: st) S r := ev_if_ne h (fun q => kt (fun z => q (by rw [z]; exact nI_0))) (fun q => kf ((nI_eq_iff ha (by omega)).mp (q.trans nI_0.symm)))
theorem ev_if_leN {a tgt : Nat} (h : iIf M pc .le tgt) (ha : a < 2 ^ 31) (kt : a = 0 → Ev scr l d M tgt L st S r) (kf : ¬ a = 0 → Ev scr l d M (pc + 3) L st S r) : Ev scr l d M pc L (.int (nI a) :: st) S r := ev_if_le h (fun q => kt (by rw [← nI_0, nI_le_iff ha (by omega)] at q; omega)) (fun q => kf (fun z => q (by rw [z, nI_0]; exact Int32.le_refl 0)))
theorem ev_if_gtN {a tgt : Nat} (h : iIf M pc .gt tgt) (ha : a < 2 ^ 31) (kt : 0 < a → Ev scr l d M tgt L st S r) (kf : a = 0 → Ev scr l d M (pc + 3) L st S r) : Ev scr l d M pc L (.int (nI a) :: st) S r := ev_if_gt h (fun q => kt (by rw [← nI_0, nI_lt_iff (by omega) ha] at q; exact q)) (fun q => kf (by rw [← nI_0, nI_lt_iff (by omega) ha] at q; omega))
theorem ev_if_ltN {a tgt : Nat} (h : iIf M pc .lt tgt) (ha : a < 2 ^ 31) (kf : Ev scr l d M (pc + 3) L st S r) : Ev scr l d M pc L (.int (nI a) :: st) S r := ev_if_lt h (fun q => absurd q (nI_pos ha)) (fun _ => kf)
theorem ev_if_geN {a tgt : Nat} (h : iIf M pc .ge tgt) (ha : a < 2 ^ 31) (kt : Ev scr l d M tgt L st S r) : Ev scr l d M pc L (.int (nI a) :: st) S r := ev_if_ge h (fun _ => kt) (fun q => absurd (nI_pos' ha) q)
theorem ev_ialdN {a n i : Nat} {f : Nat → Int32} (h : iIns M pc .iaload 1) (hk : S.1[a]? = some (aI n f)) (hin : i < n) (hb : n < 2 ^ 31) (k : Ev scr l d M (pc + 1) L (.int (f i) :: st) S r) : Ev scr l d M pc L (.int (nI i) :: .ref a :: st) S r := ev_iald h hk (vp_in_nI hin hb) (by rw [nI_clamp (Nat.lt_trans hin hb)]; exact k)
theorem ev_iastN {a n i : Nat} {f : Nat → Int32} {x : Int32} (h : iIns M pc .iastore 1) (hk : S.1[a]? = some (aI n f)) (hin : i < n) (hb : n < 2 ^ 31) (k : Ev scr l d M (pc + 1) L st (S.put a (aI n (upd f i x))) r) : Ev scr l d M pc L (.int x :: .int (nI i) :: .ref a :: st) S r := ev_iast h hk (vp_in_nI hin hb) (by rw [nI_clamp (Nat.lt_trans hin hb)]; exact k)
theorem ev_zaldN {a n i : Nat} {f : Nat → Int32} (h : iIns M pc .baload 1) (hk : S.1[a]? = some (aZ n f)) (hin : i < n) (hb : n < 2 ^ 31) (k : Ev scr l d M (pc + 1) L (.int (f i) :: st) S r) : Ev scr l d M pc L (.int (nI i) :: .ref a :: st) S r := ev_zald h hk (vp_in_nI hin hb) (by rw [nI_clamp (Nat.lt_trans hin hb)]; exact k)
theorem ev_zastN {a n i : Nat} {f : Nat → Int32} {x : Int32} (h : iIns M pc .bastore 1) (hk : S.1[a]? = some (aZ n f)) (hin : i < n) (hb : n < 2 ^ 31) (k : Ev scr l d M (pc + 1) L st (S.put a (aZ n (upd f i (vp_nar .boolean x)))) r) : Ev scr l d M pc L (.int x :: .int (nI i) :: .ref a :: st) S r := ev_zast h hk (vp_in_nI hin hb) (by rw [nI_clamp (Nat.lt_trans hin hb)]; exact k)
theorem ev_caldN {a n i : Nat} {f : Nat → Int32} (h : iIns M pc .caload 1) (hk : S.1[a]? = some (aC n f)) (hin : i < n) (hb : n < 2 ^ 31) (k : Ev scr l d M (pc + 1) L (.int (f i) :: st) S r) : Ev scr l d M pc L (.int (nI i) :: .ref a :: st) S r := ev_cald h hk (vp_in_nI hin hb) (by rw [nI_clamp (Nat.lt_trans hin hb)]; exact k)
theorem ev_castN {a n i : Nat} {f : Nat → Int32} {x : Int32} (h : iIns M pc .castore 1) (hk : S.1[a]? = some (aC n f)) (hin : i < n) (hb : n < 2 ^ 31) (k : Ev scr l d M (pc + 1) L st (S.put a (aC n (upd f i (vp_nar .char x)))) r) : Ev scr l d M pc L (.int x :: .int (nI i) :: .ref a :: st) S r := ev_cast h hk (vp_in_nI hin hb) (by rw [nI_clamp (Nat.lt_trans hin hb)]; exact k)
theorem ev_laldN {a n i : Nat} {f : Nat → Int64} (h : iIns M pc .laload 1) (hk : S.1[a]? = some (aJ n f)) (hin : i < n) (hb : n < 2 ^ 31) (k : Ev scr l d M (pc + 1) L (.long (f i) :: st) S r) : Ev scr l d M pc L (.int (nI i) :: .ref a :: st) S r := ev_lald h hk (vp_in_nI hin hb) (by rw [nI_clamp (Nat.lt_trans hin hb)]; exact k)
theorem ev_lastN {a n i : Nat} {f : Nat → Int64} {x : Int64} (h : iIns M pc .lastore 1) (hk : S.1[a]? = some (aJ n f)) (hin : i < n) (hb : n < 2 ^ 31) (k : Ev scr l d M (pc + 1) L st (S.put a (aJ n (vp_updL f i x))) r) : Ev scr l d M pc L (.long x :: .int (nI i) :: .ref a :: st) S r := ev_last h hk (vp_in_nI hin hb) (by rw [nI_clamp (Nat.lt_trans hin hb)]; exact k)
theorem ev_daldN {a n i : Nat} {f : Nat → UInt64} (h : iIns M pc .daload 1) (hk : S.1[a]? = some (aD n f)) (hin : i < n) (hb : n < 2 ^ 31) (k : Ev scr l d M (pc + 1) L (.double (f i) :: st) S r) : Ev scr l d M pc L (.int (nI i) :: .ref a :: st) S r := ev_dald h hk (vp_in_nI hin hb) (by rw [nI_clamp (Nat.lt_trans hin hb)]; exact k)
theorem ev_dastN {a n i : Nat} {f : Nat → UInt64} {x : UInt64} (h : iIns M pc .dastore 1) (hk : S.1[a]? = some (aD n f)) (hin : i < n) (hb : n < 2 ^ 31) (k : Ev scr l d M (pc + 1) L st (S.put a (aD n (vf_upd f i x))) r) : Ev scr l d M pc L (.double x :: .int (nI i) :: .ref a :: st) S r := ev_dast h hk (vp_in_nI hin hb) (by rw [nI_clamp (Nat.lt_trans hin hb)]; exact k)
theorem ev_qaldN {C : String} {a n i b : Nat} {f : Nat → Option Nat} (h : iIns M pc .aaload 1) (hk : S.1[a]? = some (aQ C n f)) (hin : i < n) (hb : n < 2 ^ 31) (hf : f i = some b) (k : Ev scr l d M (pc + 1) L (.ref b :: st) S r) : Ev scr l d M pc L (.int (nI i) :: .ref a :: st) S r := ev_qald h hk (vp_in_nI hin hb) (by rw [nI_clamp (Nat.lt_trans hin hb)]; exact hf) k
theorem ev_qqaldN {a n i b : Nat} {f : Nat → Option Nat} (h : iIns M pc .aaload 1) (hk : S.1[a]? = some (aQQ n f)) (hin : i < n) (hb : n < 2 ^ 31) (hf : f i = some b) (k : Ev scr l d M (pc + 1) L (.ref b :: st) S r) : Ev scr l d M pc L (.int (nI i) :: .ref a :: st) S r := ev_qqald h hk (vp_in_nI hin hb) (by rw [nI_clamp (Nat.lt_trans hin hb)]; exact hf) k
theorem ev_alenN {a : Nat} {ty : FieldType} {n : Nat} {x : (Nat → Int32) ⊕ (Nat → Int64) ⊕ (Nat → UInt32) ⊕ (Nat → UInt64) ⊕ (Nat → Option Nat)} (h : iIns M pc .arraylength 1) (hk : S.1[a]? = some (.inl (ty, n, x))) (k : Ev scr l d M (pc + 1) L (.int (nI n) :: st) S r) : Ev scr l d M pc L (.ref a :: st) S r := ev_alen h hk k
/-! ===== the store's laws ===== -/
theorem put_self {k : Nat} {c c0 : ACell} (h : S.1[k]? = some c0) : (S.put k c).1[k]? = some c := List.getElem?_set_self (List.getElem?_eq_some_iff.mp h).1
theorem put_ne {k j : Nat} {c : ACell} (h : k ≠ j) : (S.put k c).1[j]? = S.1[j]? := List.getElem?_set_ne h
theorem put_at {k j : Nat} {c cj : ACell} (hj : S.1[j]? = some cj) (h : k ≠ j) : (S.put k c).1[j]? = some cj := by rw [put_ne h]; exact hj
theorem cell_ne {k j : Nat} {c1 c2 : ACell} (h1 : S.1[k]? = some c1) (h2 : S.1[j]? = some c2) (hc : c1 ≠ c2) : k ≠ j := fun h => hc (by rw [h] at h1; exact Option.some.inj (h1.symm.trans h2))
/-- only the cells of K may differ -/
def Fr (K : List Nat) (S S' : Sto) : Prop := S'.1.length = S.1.length ∧ S'.2 = S.2 ∧ ∀ k, k ∉ K → S'.1[k]? = S.1[k]?
theorem Fr.rf (K : List Nat) (S : Sto) : Fr K S S := ⟨rfl, rfl, fun _ _ => rfl⟩
theorem Fr.tr {K : List Nat} {S1 S2 S3 : Sto} (h1 : Fr K S1 S2) (h2 : Fr K S2 S3) : Fr K S1 S3 := ⟨h2.1.trans h1.1, h2.2.1.trans h1.2.1, fun k hk => (h2.2.2 k hk).trans (h1.2.2 k hk)⟩
theorem Fr.mono {K K' : List Nat} {S1 S2 : Sto} (h : Fr K S1 S2) (hs : ∀ k, k ∈ K → k ∈ K') : Fr K' S1 S2 := ⟨h.1, h.2.1, fun k hk => h.2.2 k (fun q => hk (hs k q))⟩
theorem Fr.put {K : List Nat} (S : Sto) {k : Nat} (c : ACell) (hk : k ∈ K) : Fr K S (S.put k c) := ⟨List.length_set, rfl, fun j hj => put_ne (fun q => hj (q ▸ hk))⟩
theorem Fr.at {K : List Nat} {S1 S2 : Sto} (h : Fr K S1 S2) {k : Nat} {c : ACell} (hc : S1.1[k]? = some c) (hk : k ∉ K) : S2.1[k]? = some c := (h.2.2 k hk).trans hc
end RulesNat

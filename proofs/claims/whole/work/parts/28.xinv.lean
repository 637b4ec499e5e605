/-! the object x and all that it holds -/
def GrowOK (S : Sto) : Prop := ∃ (c1 c2 : Nat) (tot : Int64) (f1 f2 : Nat → Int64) (g1 g2 : Nat → Int32), ((c1 = 62 ∧ c2 = 63) ∨ (c1 = 63 ∧ c2 = 62)) ∧ S.1[61]? = some (oB 4 [.ref c1, .ref c2, .long tot, .ref 64, .ref 65]) ∧ S.1[62]? = some (aJ 6 f1) ∧ S.1[63]? = some (aJ 6 f2) ∧ S.1[64]? = some (aI 6 g1) ∧ S.1[65]? = some (aI 6 g2)
def RecOK (S : Sto) : Prop := ∃ (c1 c2 p2 p3 : Nat) (x y z : Int32) (f0 f1 f2 f3 f4 f5 : Nat → Int32), ((c1 = 68 ∧ c2 = 69) ∨ (c1 = 69 ∧ c2 = 68)) ∧ ((p2 = 71 ∧ p3 = 72) ∨ (p2 = 72 ∧ p3 = 71)) ∧ S.1[66]? = some (oB 6 [.ref 67, .ref c1, .ref c2, .ref 70, .ref p2, .ref p3, .int x, .int y, .int z]) ∧ S.1[67]? = some (aI 12 f0) ∧ S.1[68]? = some (aI 6 f1) ∧ S.1[69]? = some (aI 6 f2) ∧ S.1[70]? = some (aI 13 f3) ∧ S.1[71]? = some (aI 13 f4) ∧ S.1[72]? = some (aI 13 f5)
def AdOK (S : Sto) : Prop := S.1[73]? = some (oB 2 [.ref 74, .ref 76]) ∧ (∃ zs, WordAt S 74 75 zs) ∧ ∃ zs, WordAt S 76 77 zs
def WyOK (S : Sto) : Prop := ∃ (c1 c2 : Nat) (f1 f2 : Nat → Int64), ((c1 = 79 ∧ c2 = 80) ∨ (c1 = 80 ∧ c2 = 79)) ∧ S.1[78]? = some (oB 11 [.ref c1, .ref c2]) ∧ S.1[79]? = some (aJ 61 f1) ∧ S.1[80]? = some (aJ 61 f2)
def SqOK (S : Sto) : Prop := ∃ (x y : Int32) (f : Nat → Option Nat), S.1[81]? = some (oB 7 [.ref 82, .int x, .int y]) ∧ S.1[82]? = some (aQ "ParallelRewriting$Word" 6 f) ∧ (∀ j, j < 6 → f j = some (83 + 2 * j)) ∧ ∀ j, j < 6 → ∃ zs, WordAt S (83 + 2 * j) (84 + 2 * j) zs
def FiOK (S : Sto) : Prop := ∃ (x1 x2 x3 x4 x5 : Int32) (d1 d2 d3 d4 : UInt64) (f1 f2 f3 f4 : Nat → UInt64) (g : Nat → Int32), S.1[95]? = some (oB 3 [.ref 96, .ref 97, .int x1, .ref 98, .int x2, .double d1, .ref 99, .ref 100, .int x3, .int x4, .double d2, .double d3, .double d4, .int x5]) ∧ S.1[96]? = some (aD 61 f1) ∧ S.1[97]? = some (aD 61 f2) ∧ S.1[98]? = some (aD 240 f3) ∧ S.1[99]? = some (aD 60 f4) ∧ S.1[100]? = some (aI 20 g)
/-- the two rows: how many elements (0: missing), which -/
abbrev Rows : Type := Nat → Nat × (Nat → UInt64)
def RowOK (R : Rows) (S : Sto) : Prop := ∃ (f : Nat → Option Nat) (g : Nat → Int32), S.1[101]? = some (aQQ 2 f) ∧ f 0 = some 102 ∧ f 1 = some 103 ∧ (∀ j, j < 2 → ∃ h, S.1[102 + j]? = some (aD 122 h) ∧ ∀ i, i < (R j).1 → h i = (R j).2 i) ∧ S.1[104]? = some (aI 2 g) ∧ ∀ j, j < 2 → g j = nI (R j).1 ∧ (R j).1 ≤ 122
/-- text, live and saved state, whether saved, words before the latest steps, rows -/
abbrev Sg : Type := List Nat × Core × Core × Bool × List (List Nat) × Rows
def bI (b : Bool) : Nat := if b then 1 else 0
abbrev xObj (b : Bool) : ACell := oB 13 [.ref 1, .ref 3, .ref 22, .ref 41, .ref 59, .ref 61, .ref 66, .ref 73, .ref 78, .ref 81, .ref 95, .ref 101, .ref 104, .int (nI (bI b))]
def XInv (σ : Sg) (S : Sto) : Prop := S.1[0]? = some (xObj σ.2.2.2.1) ∧ TextAt S 1 2 σ.1 ∧ StAt S 3 σ.2.1 ∧ StAt S 22 σ.2.2.1 ∧ HistAt S σ.2.2.2.2.1 ∧ (∃ zs, WordAt S 59 60 zs) ∧ GrowOK S ∧ RecOK S ∧ AdOK S ∧ WyOK S ∧ SqOK S ∧ FiOK S ∧ RowOK σ.2.2.2.2.2 S
section XFr
variable {K : List Nat} {S S1 : Sto}
theorem GrowOK.fr (h : GrowOK S) (hF : Fr K S S1) (hk : ∀ k, 61 ≤ k → k < 66 → k ∉ K) : GrowOK S1 := by
  obtain ⟨c1, c2, tot, f1, f2, g1, g2, h0, h1, h2, h3, h4, h5⟩ := h
  exact ⟨c1, c2, tot, f1, f2, g1, g2, h0, hF.at h1 (hk _ (by omega) (by omega)), hF.at h2 (hk _ (by omega) (by omega)), hF.at h3 (hk _ (by omega) (by omega)), hF.at h4 (hk _ (by omega) (by omega)), hF.at h5 (hk _ (by omega) (by omega))⟩
theorem RecOK.fr (h : RecOK S) (hF : Fr K S S1) (hk : ∀ k, 66 ≤ k → k < 73 → k ∉ K) : RecOK S1 := by
  obtain ⟨c1, c2, p2, p3, x, y, z, f0, f1, f2, f3, f4, f5, h0, h00, h1, h2, h3, h4, h5, h6, h7⟩ := h
  exact ⟨c1, c2, p2, p3, x, y, z, f0, f1, f2, f3, f4, f5, h0, h00, hF.at h1 (hk _ (by omega) (by omega)), hF.at h2 (hk _ (by omega) (by omega)), hF.at h3 (hk _ (by omega) (by omega)), hF.at h4 (hk _ (by omega) (by omega)), hF.at h5 (hk _ (by omega) (by omega)), hF.at h6 (hk _ (by omega) (by omega)), hF.at h7 (hk _ (by omega) (by omega))⟩
theorem wfr {w : Nat} (h : ∃ zs, WordAt S w (w + 1) zs) (hF : Fr K S S1) (hk : w ∉ K ∧ w + 1 ∉ K) : ∃ zs, WordAt S1 w (w + 1) zs := by
  obtain ⟨zs, h⟩ := h
  exact ⟨zs, h.fr hF hk⟩
theorem AdOK.fr (h : AdOK S) (hF : Fr K S S1) (hk : ∀ k, 73 ≤ k → k < 78 → k ∉ K) : AdOK S1 := ⟨hF.at h.1 (hk _ (by omega) (by omega)), wfr h.2.1 hF ⟨hk _ (by omega) (by omega), hk _ (by omega) (by omega)⟩, wfr h.2.2 hF ⟨hk _ (by omega) (by omega), hk _ (by omega) (by omega)⟩⟩
theorem WyOK.fr (h : WyOK S) (hF : Fr K S S1) (hk : ∀ k, 78 ≤ k → k < 81 → k ∉ K) : WyOK S1 := by
  obtain ⟨c1, c2, f1, f2, h0, h1, h2, h3⟩ := h
  exact ⟨c1, c2, f1, f2, h0, hF.at h1 (hk _ (by omega) (by omega)), hF.at h2 (hk _ (by omega) (by omega)), hF.at h3 (hk _ (by omega) (by omega))⟩
theorem SqOK.fr (h : SqOK S) (hF : Fr K S S1) (hk : ∀ k, 81 ≤ k → k < 95 → k ∉ K) : SqOK S1 := by
  obtain ⟨x, y, f, h1, h2, h3, h4⟩ := h
  refine ⟨x, y, f, hF.at h1 (hk _ (by omega) (by omega)), hF.at h2 (hk _ (by omega) (by omega)), h3, fun j hj => ?_⟩
  obtain ⟨zs, h⟩ := h4 j hj
  exact ⟨zs, h.fr hF ⟨hk _ (by omega) (by omega), hk _ (by omega) (by omega)⟩⟩
theorem FiOK.fr (h : FiOK S) (hF : Fr K S S1) (hk : ∀ k, 95 ≤ k → k < 101 → k ∉ K) : FiOK S1 := by
  obtain ⟨x1, x2, x3, x4, x5, d1, d2, d3, d4, f1, f2, f3, f4, g, h1, h2, h3, h4, h5, h6⟩ := h
  exact ⟨x1, x2, x3, x4, x5, d1, d2, d3, d4, f1, f2, f3, f4, g, hF.at h1 (hk _ (by omega) (by omega)), hF.at h2 (hk _ (by omega) (by omega)), hF.at h3 (hk _ (by omega) (by omega)), hF.at h4 (hk _ (by omega) (by omega)), hF.at h5 (hk _ (by omega) (by omega)), hF.at h6 (hk _ (by omega) (by omega))⟩
theorem RowOK.fr {R : Rows} (h : RowOK R S) (hF : Fr K S S1) (hk : ∀ k, 101 ≤ k → k < 105 → k ∉ K) : RowOK R S1 := by
  obtain ⟨f, g, h1, h2, h3, h4, h5, h6⟩ := h
  refine ⟨f, g, hF.at h1 (hk _ (by omega) (by omega)), h2, h3, fun j hj => ?_, hF.at h5 (hk _ (by omega) (by omega)), h6⟩
  obtain ⟨e, e1, e2⟩ := h4 j hj
  exact ⟨e, hF.at e1 (hk _ (by omega) (by omega)), e2⟩
end XFr
theorem XInv.obj {σ : Sg} {b : Bool} {S S1 : Sto} {K : List Nat} (h : XInv σ S) (hF : Fr K S S1) (hk : ∀ k, k ∈ K → 0 ≤ k ∧ k < 1) (hn0 : S1.1[0]? = some (xObj b)) : XInv (σ.1, σ.2.1, σ.2.2.1, b, σ.2.2.2.2) S1 := by
  obtain ⟨h0, h1, h2, h3, h4, h5, h6, h7, h8, h9, h10, h11, h12⟩ := h
  have hn : ∀ k, ¬ (0 ≤ k ∧ k < 1) → k ∉ K := fun k q z => q (hk k z)
  exact ⟨hn0, h1.fr hF ⟨hn _ (by omega), hn _ (by omega)⟩, h2.fr hF (fun i hi => hn _ (by omega)), h3.fr hF (fun i hi => hn _ (by omega)), h4.fr hF (fun k hk => hn _ (by rw [List.mem_range'_1] at hk; omega)), wfr h5 hF ⟨hn _ (by omega), hn _ (by omega)⟩, h6.fr hF (fun k _ _ => hn k (by omega)), h7.fr hF (fun k _ _ => hn k (by omega)), h8.fr hF (fun k _ _ => hn k (by omega)), h9.fr hF (fun k _ _ => hn k (by omega)), h10.fr hF (fun k _ _ => hn k (by omega)), h11.fr hF (fun k _ _ => hn k (by omega)), h12.fr hF (fun k _ _ => hn k (by omega))⟩
theorem XInv.text {σ : Sg} {cs : List Nat} {S S1 : Sto} {K : List Nat} (h : XInv σ S) (hF : Fr K S S1) (hk : ∀ k, k ∈ K → 1 ≤ k ∧ k < 3) (hn0 : TextAt S1 1 2 cs) : XInv (cs, σ.2) S1 := by
  obtain ⟨h0, h1, h2, h3, h4, h5, h6, h7, h8, h9, h10, h11, h12⟩ := h
  have hn : ∀ k, ¬ (1 ≤ k ∧ k < 3) → k ∉ K := fun k q z => q (hk k z)
  exact ⟨hF.at h0 (hn 0 (by omega)), hn0, h2.fr hF (fun i hi => hn _ (by omega)), h3.fr hF (fun i hi => hn _ (by omega)), h4.fr hF (fun k hk => hn _ (by rw [List.mem_range'_1] at hk; omega)), wfr h5 hF ⟨hn _ (by omega), hn _ (by omega)⟩, h6.fr hF (fun k _ _ => hn k (by omega)), h7.fr hF (fun k _ _ => hn k (by omega)), h8.fr hF (fun k _ _ => hn k (by omega)), h9.fr hF (fun k _ _ => hn k (by omega)), h10.fr hF (fun k _ _ => hn k (by omega)), h11.fr hF (fun k _ _ => hn k (by omega)), h12.fr hF (fun k _ _ => hn k (by omega))⟩
theorem XInv.live {σ : Sg} {C : Core} {S S1 : Sto} {K : List Nat} (h : XInv σ S) (hF : Fr K S S1) (hk : ∀ k, k ∈ K → 3 ≤ k ∧ k < 22) (hn0 : StAt S1 3 C) : XInv (σ.1, C, σ.2.2) S1 := by
  obtain ⟨h0, h1, h2, h3, h4, h5, h6, h7, h8, h9, h10, h11, h12⟩ := h
  have hn : ∀ k, ¬ (3 ≤ k ∧ k < 22) → k ∉ K := fun k q z => q (hk k z)
  exact ⟨hF.at h0 (hn 0 (by omega)), h1.fr hF ⟨hn _ (by omega), hn _ (by omega)⟩, hn0, h3.fr hF (fun i hi => hn _ (by omega)), h4.fr hF (fun k hk => hn _ (by rw [List.mem_range'_1] at hk; omega)), wfr h5 hF ⟨hn _ (by omega), hn _ (by omega)⟩, h6.fr hF (fun k _ _ => hn k (by omega)), h7.fr hF (fun k _ _ => hn k (by omega)), h8.fr hF (fun k _ _ => hn k (by omega)), h9.fr hF (fun k _ _ => hn k (by omega)), h10.fr hF (fun k _ _ => hn k (by omega)), h11.fr hF (fun k _ _ => hn k (by omega)), h12.fr hF (fun k _ _ => hn k (by omega))⟩
theorem XInv.saved {σ : Sg} {C : Core} {S S1 : Sto} {K : List Nat} (h : XInv σ S) (hF : Fr K S S1) (hk : ∀ k, k ∈ K → 22 ≤ k ∧ k < 41) (hn0 : StAt S1 22 C) : XInv (σ.1, σ.2.1, C, σ.2.2.2) S1 := by
  obtain ⟨h0, h1, h2, h3, h4, h5, h6, h7, h8, h9, h10, h11, h12⟩ := h
  have hn : ∀ k, ¬ (22 ≤ k ∧ k < 41) → k ∉ K := fun k q z => q (hk k z)
  exact ⟨hF.at h0 (hn 0 (by omega)), h1.fr hF ⟨hn _ (by omega), hn _ (by omega)⟩, h2.fr hF (fun i hi => hn _ (by omega)), hn0, h4.fr hF (fun k hk => hn _ (by rw [List.mem_range'_1] at hk; omega)), wfr h5 hF ⟨hn _ (by omega), hn _ (by omega)⟩, h6.fr hF (fun k _ _ => hn k (by omega)), h7.fr hF (fun k _ _ => hn k (by omega)), h8.fr hF (fun k _ _ => hn k (by omega)), h9.fr hF (fun k _ _ => hn k (by omega)), h10.fr hF (fun k _ _ => hn k (by omega)), h11.fr hF (fun k _ _ => hn k (by omega)), h12.fr hF (fun k _ _ => hn k (by omega))⟩
theorem XInv.hist {σ : Sg} {ws : List (List Nat)} {S S1 : Sto} {K : List Nat} (h : XInv σ S) (hF : Fr K S S1) (hk : ∀ k, k ∈ K → 41 ≤ k ∧ k < 59) (hn0 : HistAt S1 ws) : XInv (σ.1, σ.2.1, σ.2.2.1, σ.2.2.2.1, ws, σ.2.2.2.2.2) S1 := by
  obtain ⟨h0, h1, h2, h3, h4, h5, h6, h7, h8, h9, h10, h11, h12⟩ := h
  have hn : ∀ k, ¬ (41 ≤ k ∧ k < 59) → k ∉ K := fun k q z => q (hk k z)
  exact ⟨hF.at h0 (hn 0 (by omega)), h1.fr hF ⟨hn _ (by omega), hn _ (by omega)⟩, h2.fr hF (fun i hi => hn _ (by omega)), h3.fr hF (fun i hi => hn _ (by omega)), hn0, wfr h5 hF ⟨hn _ (by omega), hn _ (by omega)⟩, h6.fr hF (fun k _ _ => hn k (by omega)), h7.fr hF (fun k _ _ => hn k (by omega)), h8.fr hF (fun k _ _ => hn k (by omega)), h9.fr hF (fun k _ _ => hn k (by omega)), h10.fr hF (fun k _ _ => hn k (by omega)), h11.fr hF (fun k _ _ => hn k (by omega)), h12.fr hF (fun k _ _ => hn k (by omega))⟩
theorem XInv.res {σ : Sg}  {S S1 : Sto} {K : List Nat} (h : XInv σ S) (hF : Fr K S S1) (hk : ∀ k, k ∈ K → 59 ≤ k ∧ k < 61) (hn0 : (∃ zs, WordAt S1 59 60 zs)) : XInv σ S1 := by
  obtain ⟨h0, h1, h2, h3, h4, h5, h6, h7, h8, h9, h10, h11, h12⟩ := h
  have hn : ∀ k, ¬ (59 ≤ k ∧ k < 61) → k ∉ K := fun k q z => q (hk k z)
  exact ⟨hF.at h0 (hn 0 (by omega)), h1.fr hF ⟨hn _ (by omega), hn _ (by omega)⟩, h2.fr hF (fun i hi => hn _ (by omega)), h3.fr hF (fun i hi => hn _ (by omega)), h4.fr hF (fun k hk => hn _ (by rw [List.mem_range'_1] at hk; omega)), hn0, h6.fr hF (fun k _ _ => hn k (by omega)), h7.fr hF (fun k _ _ => hn k (by omega)), h8.fr hF (fun k _ _ => hn k (by omega)), h9.fr hF (fun k _ _ => hn k (by omega)), h10.fr hF (fun k _ _ => hn k (by omega)), h11.fr hF (fun k _ _ => hn k (by omega)), h12.fr hF (fun k _ _ => hn k (by omega))⟩
theorem XInv.grow {σ : Sg}  {S S1 : Sto} {K : List Nat} (h : XInv σ S) (hF : Fr K S S1) (hk : ∀ k, k ∈ K → 61 ≤ k ∧ k < 66) (hn0 : GrowOK S1) : XInv σ S1 := by
  obtain ⟨h0, h1, h2, h3, h4, h5, h6, h7, h8, h9, h10, h11, h12⟩ := h
  have hn : ∀ k, ¬ (61 ≤ k ∧ k < 66) → k ∉ K := fun k q z => q (hk k z)
  exact ⟨hF.at h0 (hn 0 (by omega)), h1.fr hF ⟨hn _ (by omega), hn _ (by omega)⟩, h2.fr hF (fun i hi => hn _ (by omega)), h3.fr hF (fun i hi => hn _ (by omega)), h4.fr hF (fun k hk => hn _ (by rw [List.mem_range'_1] at hk; omega)), wfr h5 hF ⟨hn _ (by omega), hn _ (by omega)⟩, hn0, h7.fr hF (fun k _ _ => hn k (by omega)), h8.fr hF (fun k _ _ => hn k (by omega)), h9.fr hF (fun k _ _ => hn k (by omega)), h10.fr hF (fun k _ _ => hn k (by omega)), h11.fr hF (fun k _ _ => hn k (by omega)), h12.fr hF (fun k _ _ => hn k (by omega))⟩
theorem XInv.rec {σ : Sg}  {S S1 : Sto} {K : List Nat} (h : XInv σ S) (hF : Fr K S S1) (hk : ∀ k, k ∈ K → 66 ≤ k ∧ k < 73) (hn0 : RecOK S1) : XInv σ S1 := by
  obtain ⟨h0, h1, h2, h3, h4, h5, h6, h7, h8, h9, h10, h11, h12⟩ := h
  have hn : ∀ k, ¬ (66 ≤ k ∧ k < 73) → k ∉ K := fun k q z => q (hk k z)
  exact ⟨hF.at h0 (hn 0 (by omega)), h1.fr hF ⟨hn _ (by omega), hn _ (by omega)⟩, h2.fr hF (fun i hi => hn _ (by omega)), h3.fr hF (fun i hi => hn _ (by omega)), h4.fr hF (fun k hk => hn _ (by rw [List.mem_range'_1] at hk; omega)), wfr h5 hF ⟨hn _ (by omega), hn _ (by omega)⟩, h6.fr hF (fun k _ _ => hn k (by omega)), hn0, h8.fr hF (fun k _ _ => hn k (by omega)), h9.fr hF (fun k _ _ => hn k (by omega)), h10.fr hF (fun k _ _ => hn k (by omega)), h11.fr hF (fun k _ _ => hn k (by omega)), h12.fr hF (fun k _ _ => hn k (by omega))⟩
theorem XInv.ad {σ : Sg}  {S S1 : Sto} {K : List Nat} (h : XInv σ S) (hF : Fr K S S1) (hk : ∀ k, k ∈ K → 73 ≤ k ∧ k < 78) (hn0 : AdOK S1) : XInv σ S1 := by
  obtain ⟨h0, h1, h2, h3, h4, h5, h6, h7, h8, h9, h10, h11, h12⟩ := h
  have hn : ∀ k, ¬ (73 ≤ k ∧ k < 78) → k ∉ K := fun k q z => q (hk k z)
  exact ⟨hF.at h0 (hn 0 (by omega)), h1.fr hF ⟨hn _ (by omega), hn _ (by omega)⟩, h2.fr hF (fun i hi => hn _ (by omega)), h3.fr hF (fun i hi => hn _ (by omega)), h4.fr hF (fun k hk => hn _ (by rw [List.mem_range'_1] at hk; omega)), wfr h5 hF ⟨hn _ (by omega), hn _ (by omega)⟩, h6.fr hF (fun k _ _ => hn k (by omega)), h7.fr hF (fun k _ _ => hn k (by omega)), hn0, h9.fr hF (fun k _ _ => hn k (by omega)), h10.fr hF (fun k _ _ => hn k (by omega)), h11.fr hF (fun k _ _ => hn k (by omega)), h12.fr hF (fun k _ _ => hn k (by omega))⟩
theorem XInv.wy {σ : Sg}  {S S1 : Sto} {K : List Nat} (h : XInv σ S) (hF : Fr K S S1) (hk : ∀ k, k ∈ K → 78 ≤ k ∧ k < 81) (hn0 : WyOK S1) : XInv σ S1 := by
  obtain ⟨h0, h1, h2, h3, h4, h5, h6, h7, h8, h9, h10, h11, h12⟩ := h
  have hn : ∀ k, ¬ (78 ≤ k ∧ k < 81) → k ∉ K := fun k q z => q (hk k z)
  exact ⟨hF.at h0 (hn 0 (by omega)), h1.fr hF ⟨hn _ (by omega), hn _ (by omega)⟩, h2.fr hF (fun i hi => hn _ (by omega)), h3.fr hF (fun i hi => hn _ (by omega)), h4.fr hF (fun k hk => hn _ (by rw [List.mem_range'_1] at hk; omega)), wfr h5 hF ⟨hn _ (by omega), hn _ (by omega)⟩, h6.fr hF (fun k _ _ => hn k (by omega)), h7.fr hF (fun k _ _ => hn k (by omega)), h8.fr hF (fun k _ _ => hn k (by omega)), hn0, h10.fr hF (fun k _ _ => hn k (by omega)), h11.fr hF (fun k _ _ => hn k (by omega)), h12.fr hF (fun k _ _ => hn k (by omega))⟩
theorem XInv.sq {σ : Sg}  {S S1 : Sto} {K : List Nat} (h : XInv σ S) (hF : Fr K S S1) (hk : ∀ k, k ∈ K → 81 ≤ k ∧ k < 95) (hn0 : SqOK S1) : XInv σ S1 := by
  obtain ⟨h0, h1, h2, h3, h4, h5, h6, h7, h8, h9, h10, h11, h12⟩ := h
  have hn : ∀ k, ¬ (81 ≤ k ∧ k < 95) → k ∉ K := fun k q z => q (hk k z)
  exact ⟨hF.at h0 (hn 0 (by omega)), h1.fr hF ⟨hn _ (by omega), hn _ (by omega)⟩, h2.fr hF (fun i hi => hn _ (by omega)), h3.fr hF (fun i hi => hn _ (by omega)), h4.fr hF (fun k hk => hn _ (by rw [List.mem_range'_1] at hk; omega)), wfr h5 hF ⟨hn _ (by omega), hn _ (by omega)⟩, h6.fr hF (fun k _ _ => hn k (by omega)), h7.fr hF (fun k _ _ => hn k (by omega)), h8.fr hF (fun k _ _ => hn k (by omega)), h9.fr hF (fun k _ _ => hn k (by omega)), hn0, h11.fr hF (fun k _ _ => hn k (by omega)), h12.fr hF (fun k _ _ => hn k (by omega))⟩
theorem XInv.fi {σ : Sg}  {S S1 : Sto} {K : List Nat} (h : XInv σ S) (hF : Fr K S S1) (hk : ∀ k, k ∈ K → 95 ≤ k ∧ k < 101) (hn0 : FiOK S1) : XInv σ S1 := by
  obtain ⟨h0, h1, h2, h3, h4, h5, h6, h7, h8, h9, h10, h11, h12⟩ := h
  have hn : ∀ k, ¬ (95 ≤ k ∧ k < 101) → k ∉ K := fun k q z => q (hk k z)
  exact ⟨hF.at h0 (hn 0 (by omega)), h1.fr hF ⟨hn _ (by omega), hn _ (by omega)⟩, h2.fr hF (fun i hi => hn _ (by omega)), h3.fr hF (fun i hi => hn _ (by omega)), h4.fr hF (fun k hk => hn _ (by rw [List.mem_range'_1] at hk; omega)), wfr h5 hF ⟨hn _ (by omega), hn _ (by omega)⟩, h6.fr hF (fun k _ _ => hn k (by omega)), h7.fr hF (fun k _ _ => hn k (by omega)), h8.fr hF (fun k _ _ => hn k (by omega)), h9.fr hF (fun k _ _ => hn k (by omega)), h10.fr hF (fun k _ _ => hn k (by omega)), hn0, h12.fr hF (fun k _ _ => hn k (by omega))⟩
theorem XInv.row {σ : Sg} {R : Rows} {S S1 : Sto} {K : List Nat} (h : XInv σ S) (hF : Fr K S S1) (hk : ∀ k, k ∈ K → 101 ≤ k ∧ k < 105) (hn0 : RowOK R S1) : XInv (σ.1, σ.2.1, σ.2.2.1, σ.2.2.2.1, σ.2.2.2.2.1, R) S1 := by
  obtain ⟨h0, h1, h2, h3, h4, h5, h6, h7, h8, h9, h10, h11, h12⟩ := h
  have hn : ∀ k, ¬ (101 ≤ k ∧ k < 105) → k ∉ K := fun k q z => q (hk k z)
  exact ⟨hF.at h0 (hn 0 (by omega)), h1.fr hF ⟨hn _ (by omega), hn _ (by omega)⟩, h2.fr hF (fun i hi => hn _ (by omega)), h3.fr hF (fun i hi => hn _ (by omega)), h4.fr hF (fun k hk => hn _ (by rw [List.mem_range'_1] at hk; omega)), wfr h5 hF ⟨hn _ (by omega), hn _ (by omega)⟩, h6.fr hF (fun k _ _ => hn k (by omega)), h7.fr hF (fun k _ _ => hn k (by omega)), h8.fr hF (fun k _ _ => hn k (by omega)), h9.fr hF (fun k _ _ => hn k (by omega)), h10.fr hF (fun k _ _ => hn k (by omega)), h11.fr hF (fun k _ _ => hn k (by omega)), hn0⟩
theorem XInv.cnt {σ : Sg} {S : Sto} {q : Nat × Nat} (h : XInv σ S) : XInv σ (S.1, q) := h
theorem XInv.fr {σ : Sg} {S S1 : Sto} {K : List Nat} (h : XInv σ S) (hF : Fr K S S1) (hk : ∀ k, k ∈ K → 105 ≤ k) : XInv σ S1 := by
  obtain ⟨h0, h1, h2, h3, h4, h5, h6, h7, h8, h9, h10, h11, h12⟩ := h
  have hn : ∀ k, ¬ (105 ≤ k) → k ∉ K := fun k q z => q (hk k z)
  exact ⟨hF.at h0 (hn 0 (by omega)), h1.fr hF ⟨hn _ (by omega), hn _ (by omega)⟩, h2.fr hF (fun i hi => hn _ (by omega)), h3.fr hF (fun i hi => hn _ (by omega)), h4.fr hF (fun k hk => hn _ (by rw [List.mem_range'_1] at hk; omega)), wfr h5 hF ⟨hn _ (by omega), hn _ (by omega)⟩, h6.fr hF (fun k _ _ => hn k (by omega)), h7.fr hF (fun k _ _ => hn k (by omega)), h8.fr hF (fun k _ _ => hn k (by omega)), h9.fr hF (fun k _ _ => hn k (by omega)), h10.fr hF (fun k _ _ => hn k (by omega)), h11.fr hF (fun k _ _ => hn k (by omega)), h12.fr hF (fun k _ _ => hn k (by omega))⟩

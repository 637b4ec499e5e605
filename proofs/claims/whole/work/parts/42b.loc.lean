/-! locals as plain lists -/
def clr1 : Option Value → Option Value
  | some w => if w.category = 2 then none else some w
  | none => none
theorem clrL_s (j : Nat) (a : Option Value) (L : List (Option Value)) : clrL (j + 2) (a :: L) = a :: clrL (j + 1) L := by
  show (match (a :: L)[j + 1]? with | some (some w) => if w.category = 2 then (a :: L).set (j + 1) none else (a :: L) | _ => (a :: L)) = a :: (match L[j]? with | some (some w) => if w.category = 2 then L.set j none else L | _ => L)
  rw [List.getElem?_cons_succ]
  cases L[j]? with
  | none => rfl
  | some q =>
    cases q with
    | none => rfl
    | some w =>
      dsimp only
      by_cases h : w.category = 2
      · rw [if_pos h, if_pos h]; rfl
      · rw [if_neg h, if_neg h]
theorem clrL_1 (a : Option Value) (L : List (Option Value)) : clrL 1 (a :: L) = clr1 a :: L := by
  show (match (a :: L)[0]? with | some (some w) => if w.category = 2 then (a :: L).set 0 none else (a :: L) | _ => (a :: L)) = clr1 a :: L
  cases a with
  | none => rfl
  | some w =>
    show (if w.category = 2 then (some w :: L).set 0 none else (some w :: L)) = (if w.category = 2 then none else some w) :: L
    by_cases h : w.category = 2
    · rw [if_pos h, if_pos h]; rfl
    · rw [if_neg h, if_neg h]
theorem stL_0 (v : Value) (a : Option Value) (L : List (Option Value)) : stL 0 v (a :: L) = some v :: L := rfl
theorem stL_1 (v : Value) (a b : Option Value) (L : List (Option Value)) (h : clr1 a = a) : stL 1 v (a :: b :: L) = a :: some v :: L := by
  unfold stL
  rw [clrL_1, h]
  rfl
theorem stL_s (j : Nat) (v : Value) (a : Option Value) (L : List (Option Value)) : stL (j + 2) v (a :: L) = a :: stL (j + 1) v L := by
  unfold stL
  rw [clrL_s]
  rfl
theorem stL2_0 (v : Value) (a b : Option Value) (L : List (Option Value)) : stL2 0 v (a :: b :: L) = some v :: none :: L := rfl
theorem stL2_1 (v : Value) (a b c : Option Value) (L : List (Option Value)) (h : clr1 a = a) : stL2 1 v (a :: b :: c :: L) = a :: some v :: none :: L := by
  unfold stL2
  rw [clrL_1, h]
  rfl
theorem stL2_s (j : Nat) (v : Value) (a : Option Value) (L : List (Option Value)) : stL2 (j + 2) v (a :: L) = a :: stL2 (j + 1) v L := by
  unfold stL2
  rw [clrL_s]
  rfl
section LocR
variable {scr : Scr} {l : Launch} {d : Nat} {M : Mth} {pc : Nat} {L : List (Option Value)} {st : List Value} {S : Sto} {r : Res} {a0 a1 a2 a3 a4 a5 a6 a7 a8 a9 a10 a11 a12 a13 a14 a15 a16 a17 a18 a19 a20 a21 : Option Value}
theorem ev_ist_0 {x : Int32} (h : iIns M pc (.istore 0) 2) (k : Ev scr l d M (pc + 2) (some (.int x) :: L) st S r) : Ev scr l d M pc (a0 :: L) (.int x :: st) S r := ev_istore h (by show 0 < _; simp) (by
  show Ev _ _ _ _ _ (stL 0 _ _) _ _ _
  rw [stL_0]
  exact k)
theorem ev_ist_n_0 {x : Int32} (h : iIns M pc (.istore_n 0) 1) (k : Ev scr l d M (pc + 1) (some (.int x) :: L) st S r) : Ev scr l d M pc (a0 :: L) (.int x :: st) S r := ev_istore_n h (by show 0 < _; simp) (by
  show Ev _ _ _ _ _ (stL 0 _ _) _ _ _
  rw [stL_0]
  exact k)
theorem ev_ast_0 {x : Nat} (h : iIns M pc (.astore 0) 2) (k : Ev scr l d M (pc + 2) (some (.ref x) :: L) st S r) : Ev scr l d M pc (a0 :: L) (.ref x :: st) S r := ev_astore h (by show 0 < _; simp) (by
  show Ev _ _ _ _ _ (stL 0 _ _) _ _ _
  rw [stL_0]
  exact k)
theorem ev_ast_n_0 {x : Nat} (h : iIns M pc (.astore_n 0) 1) (k : Ev scr l d M (pc + 1) (some (.ref x) :: L) st S r) : Ev scr l d M pc (a0 :: L) (.ref x :: st) S r := ev_astore_n h (by show 0 < _; simp) (by
  show Ev _ _ _ _ _ (stL 0 _ _) _ _ _
  rw [stL_0]
  exact k)
theorem ev_lst_0 {x : Int64} (h : iIns M pc (.lstore 0) 2) (k : Ev scr l d M (pc + 2) (some (.long x) :: none :: L) st S r) : Ev scr l d M pc (a0 :: a1 :: L) (.long x :: st) S r := ev_lstore h (by show 1 < _; simp) (by
  show Ev _ _ _ _ _ (stL2 0 _ _) _ _ _
  rw [stL2_0]
  exact k)
theorem ev_lst_n_0 {x : Int64} (h : iIns M pc (.lstore_n 0) 1) (k : Ev scr l d M (pc + 1) (some (.long x) :: none :: L) st S r) : Ev scr l d M pc (a0 :: a1 :: L) (.long x :: st) S r := ev_lstore_n h (by show 1 < _; simp) (by
  show Ev _ _ _ _ _ (stL2 0 _ _) _ _ _
  rw [stL2_0]
  exact k)
theorem ev_dst_0 {x : UInt64} (h : iIns M pc (.dstore 0) 2) (k : Ev scr l d M (pc + 2) (some (.double x) :: none :: L) st S r) : Ev scr l d M pc (a0 :: a1 :: L) (.double x :: st) S r := ev_dstore h (by show 1 < _; simp) (by
  show Ev _ _ _ _ _ (stL2 0 _ _) _ _ _
  rw [stL2_0]
  exact k)
theorem ev_dst_n_0 {x : UInt64} (h : iIns M pc (.dstore_n 0) 1) (k : Ev scr l d M (pc + 1) (some (.double x) :: none :: L) st S r) : Ev scr l d M pc (a0 :: a1 :: L) (.double x :: st) S r := ev_dstore_n h (by show 1 < _; simp) (by
  show Ev _ _ _ _ _ (stL2 0 _ _) _ _ _
  rw [stL2_0]
  exact k)
theorem ev_iincN_0 {n : Int} {x c : Nat} (h : iIns M pc (.iinc 0 n) 3) (hn : Int32.ofInt n = nI c) (k : Ev scr l d M (pc + 3) (some (.int (nI (x + c))) :: L) st S r) : Ev scr l d M pc (some (.int (nI x)) :: L) st S r := ev_iincN h hn rfl (by
  show Ev _ _ _ _ _ (stL 0 _ _) _ _ _
  rw [stL_0]
  exact k)
theorem ev_iinc_0 {n : Int} {x : Int32} (h : iIns M pc (.iinc 0 n) 3) (k : Ev scr l d M (pc + 3) (some (.int (x + Int32.ofInt n)) :: L) st S r) : Ev scr l d M pc (some (.int x) :: L) st S r := ev_iinc h rfl (by
  show Ev _ _ _ _ _ (stL 0 _ _) _ _ _
  rw [stL_0]
  exact k)
theorem ev_ist_1 {x : Int32} (h : iIns M pc (.istore 1) 2) (hc : clr1 a0 = a0) (k : Ev scr l d M (pc + 2) (a0 :: some (.int x) :: L) st S r) : Ev scr l d M pc (a0 :: a1 :: L) (.int x :: st) S r := ev_istore h (by show 1 < _; simp) (by
  show Ev _ _ _ _ _ (stL 1 _ _) _ _ _
  rw [stL_1 _ _ _ _ hc]
  exact k)
theorem ev_ist_n_1 {x : Int32} (h : iIns M pc (.istore_n 1) 1) (hc : clr1 a0 = a0) (k : Ev scr l d M (pc + 1) (a0 :: some (.int x) :: L) st S r) : Ev scr l d M pc (a0 :: a1 :: L) (.int x :: st) S r := ev_istore_n h (by show 1 < _; simp) (by
  show Ev _ _ _ _ _ (stL 1 _ _) _ _ _
  rw [stL_1 _ _ _ _ hc]
  exact k)
theorem ev_ast_1 {x : Nat} (h : iIns M pc (.astore 1) 2) (hc : clr1 a0 = a0) (k : Ev scr l d M (pc + 2) (a0 :: some (.ref x) :: L) st S r) : Ev scr l d M pc (a0 :: a1 :: L) (.ref x :: st) S r := ev_astore h (by show 1 < _; simp) (by
  show Ev _ _ _ _ _ (stL 1 _ _) _ _ _
  rw [stL_1 _ _ _ _ hc]
  exact k)
theorem ev_ast_n_1 {x : Nat} (h : iIns M pc (.astore_n 1) 1) (hc : clr1 a0 = a0) (k : Ev scr l d M (pc + 1) (a0 :: some (.ref x) :: L) st S r) : Ev scr l d M pc (a0 :: a1 :: L) (.ref x :: st) S r := ev_astore_n h (by show 1 < _; simp) (by
  show Ev _ _ _ _ _ (stL 1 _ _) _ _ _
  rw [stL_1 _ _ _ _ hc]
  exact k)
theorem ev_lst_1 {x : Int64} (h : iIns M pc (.lstore 1) 2) (hc : clr1 a0 = a0) (k : Ev scr l d M (pc + 2) (a0 :: some (.long x) :: none :: L) st S r) : Ev scr l d M pc (a0 :: a1 :: a2 :: L) (.long x :: st) S r := ev_lstore h (by show 2 < _; simp) (by
  show Ev _ _ _ _ _ (stL2 1 _ _) _ _ _
  rw [stL2_1 _ _ _ _ _ hc]
  exact k)
theorem ev_lst_n_1 {x : Int64} (h : iIns M pc (.lstore_n 1) 1) (hc : clr1 a0 = a0) (k : Ev scr l d M (pc + 1) (a0 :: some (.long x) :: none :: L) st S r) : Ev scr l d M pc (a0 :: a1 :: a2 :: L) (.long x :: st) S r := ev_lstore_n h (by show 2 < _; simp) (by
  show Ev _ _ _ _ _ (stL2 1 _ _) _ _ _
  rw [stL2_1 _ _ _ _ _ hc]
  exact k)
theorem ev_dst_1 {x : UInt64} (h : iIns M pc (.dstore 1) 2) (hc : clr1 a0 = a0) (k : Ev scr l d M (pc + 2) (a0 :: some (.double x) :: none :: L) st S r) : Ev scr l d M pc (a0 :: a1 :: a2 :: L) (.double x :: st) S r := ev_dstore h (by show 2 < _; simp) (by
  show Ev _ _ _ _ _ (stL2 1 _ _) _ _ _
  rw [stL2_1 _ _ _ _ _ hc]
  exact k)
theorem ev_dst_n_1 {x : UInt64} (h : iIns M pc (.dstore_n 1) 1) (hc : clr1 a0 = a0) (k : Ev scr l d M (pc + 1) (a0 :: some (.double x) :: none :: L) st S r) : Ev scr l d M pc (a0 :: a1 :: a2 :: L) (.double x :: st) S r := ev_dstore_n h (by show 2 < _; simp) (by
  show Ev _ _ _ _ _ (stL2 1 _ _) _ _ _
  rw [stL2_1 _ _ _ _ _ hc]
  exact k)
theorem ev_iincN_1 {n : Int} {x c : Nat} (h : iIns M pc (.iinc 1 n) 3) (hn : Int32.ofInt n = nI c) (hc : clr1 a0 = a0) (k : Ev scr l d M (pc + 3) (a0 :: some (.int (nI (x + c))) :: L) st S r) : Ev scr l d M pc (a0 :: some (.int (nI x)) :: L) st S r := ev_iincN h hn rfl (by
  show Ev _ _ _ _ _ (stL 1 _ _) _ _ _
  rw [stL_1 _ _ _ _ hc]
  exact k)
theorem ev_iinc_1 {n : Int} {x : Int32} (h : iIns M pc (.iinc 1 n) 3) (hc : clr1 a0 = a0) (k : Ev scr l d M (pc + 3) (a0 :: some (.int (x + Int32.ofInt n)) :: L) st S r) : Ev scr l d M pc (a0 :: some (.int x) :: L) st S r := ev_iinc h rfl (by
  show Ev _ _ _ _ _ (stL 1 _ _) _ _ _
  rw [stL_1 _ _ _ _ hc]
  exact k)
theorem ev_ist_2 {x : Int32} (h : iIns M pc (.istore 2) 2) (hc : clr1 a1 = a1) (k : Ev scr l d M (pc + 2) (a0 :: a1 :: some (.int x) :: L) st S r) : Ev scr l d M pc (a0 :: a1 :: a2 :: L) (.int x :: st) S r := ev_istore h (by show 2 < _; simp) (by
  show Ev _ _ _ _ _ (stL 2 _ _) _ _ _
  rw [stL_s, stL_1 _ _ _ _ hc]
  exact k)
theorem ev_ist_n_2 {x : Int32} (h : iIns M pc (.istore_n 2) 1) (hc : clr1 a1 = a1) (k : Ev scr l d M (pc + 1) (a0 :: a1 :: some (.int x) :: L) st S r) : Ev scr l d M pc (a0 :: a1 :: a2 :: L) (.int x :: st) S r := ev_istore_n h (by show 2 < _; simp) (by
  show Ev _ _ _ _ _ (stL 2 _ _) _ _ _
  rw [stL_s, stL_1 _ _ _ _ hc]
  exact k)
theorem ev_ast_2 {x : Nat} (h : iIns M pc (.astore 2) 2) (hc : clr1 a1 = a1) (k : Ev scr l d M (pc + 2) (a0 :: a1 :: some (.ref x) :: L) st S r) : Ev scr l d M pc (a0 :: a1 :: a2 :: L) (.ref x :: st) S r := ev_astore h (by show 2 < _; simp) (by
  show Ev _ _ _ _ _ (stL 2 _ _) _ _ _
  rw [stL_s, stL_1 _ _ _ _ hc]
  exact k)
theorem ev_ast_n_2 {x : Nat} (h : iIns M pc (.astore_n 2) 1) (hc : clr1 a1 = a1) (k : Ev scr l d M (pc + 1) (a0 :: a1 :: some (.ref x) :: L) st S r) : Ev scr l d M pc (a0 :: a1 :: a2 :: L) (.ref x :: st) S r := ev_astore_n h (by show 2 < _; simp) (by
  show Ev _ _ _ _ _ (stL 2 _ _) _ _ _
  rw [stL_s, stL_1 _ _ _ _ hc]
  exact k)
theorem ev_lst_2 {x : Int64} (h : iIns M pc (.lstore 2) 2) (hc : clr1 a1 = a1) (k : Ev scr l d M (pc + 2) (a0 :: a1 :: some (.long x) :: none :: L) st S r) : Ev scr l d M pc (a0 :: a1 :: a2 :: a3 :: L) (.long x :: st) S r := ev_lstore h (by show 3 < _; simp) (by
  show Ev _ _ _ _ _ (stL2 2 _ _) _ _ _
  rw [stL2_s, stL2_1 _ _ _ _ _ hc]
  exact k)
theorem ev_lst_n_2 {x : Int64} (h : iIns M pc (.lstore_n 2) 1) (hc : clr1 a1 = a1) (k : Ev scr l d M (pc + 1) (a0 :: a1 :: some (.long x) :: none :: L) st S r) : Ev scr l d M pc (a0 :: a1 :: a2 :: a3 :: L) (.long x :: st) S r := ev_lstore_n h (by show 3 < _; simp) (by
  show Ev _ _ _ _ _ (stL2 2 _ _) _ _ _
  rw [stL2_s, stL2_1 _ _ _ _ _ hc]
  exact k)
theorem ev_dst_2 {x : UInt64} (h : iIns M pc (.dstore 2) 2) (hc : clr1 a1 = a1) (k : Ev scr l d M (pc + 2) (a0 :: a1 :: some (.double x) :: none :: L) st S r) : Ev scr l d M pc (a0 :: a1 :: a2 :: a3 :: L) (.double x :: st) S r := ev_dstore h (by show 3 < _; simp) (by
  show Ev _ _ _ _ _ (stL2 2 _ _) _ _ _
  rw [stL2_s, stL2_1 _ _ _ _ _ hc]
  exact k)
theorem ev_dst_n_2 {x : UInt64} (h : iIns M pc (.dstore_n 2) 1) (hc : clr1 a1 = a1) (k : Ev scr l d M (pc + 1) (a0 :: a1 :: some (.double x) :: none :: L) st S r) : Ev scr l d M pc (a0 :: a1 :: a2 :: a3 :: L) (.double x :: st) S r := ev_dstore_n h (by show 3 < _; simp) (by
  show Ev _ _ _ _ _ (stL2 2 _ _) _ _ _
  rw [stL2_s, stL2_1 _ _ _ _ _ hc]
  exact k)
theorem ev_iincN_2 {n : Int} {x c : Nat} (h : iIns M pc (.iinc 2 n) 3) (hn : Int32.ofInt n = nI c) (hc : clr1 a1 = a1) (k : Ev scr l d M (pc + 3) (a0 :: a1 :: some (.int (nI (x + c))) :: L) st S r) : Ev scr l d M pc (a0 :: a1 :: some (.int (nI x)) :: L) st S r := ev_iincN h hn rfl (by
  show Ev _ _ _ _ _ (stL 2 _ _) _ _ _
  rw [stL_s, stL_1 _ _ _ _ hc]
  exact k)
theorem ev_iinc_2 {n : Int} {x : Int32} (h : iIns M pc (.iinc 2 n) 3) (hc : clr1 a1 = a1) (k : Ev scr l d M (pc + 3) (a0 :: a1 :: some (.int (x + Int32.ofInt n)) :: L) st S r) : Ev scr l d M pc (a0 :: a1 :: some (.int x) :: L) st S r := ev_iinc h rfl (by
  show Ev _ _ _ _ _ (stL 2 _ _) _ _ _
  rw [stL_s, stL_1 _ _ _ _ hc]
  exact k)
theorem ev_ist_3 {x : Int32} (h : iIns M pc (.istore 3) 2) (hc : clr1 a2 = a2) (k : Ev scr l d M (pc + 2) (a0 :: a1 :: a2 :: some (.int x) :: L) st S r) : Ev scr l d M pc (a0 :: a1 :: a2 :: a3 :: L) (.int x :: st) S r := ev_istore h (by show 3 < _; simp) (by
  show Ev _ _ _ _ _ (stL 3 _ _) _ _ _
  rw [stL_s, stL_s, stL_1 _ _ _ _ hc]
  exact k)
theorem ev_ist_n_3 {x : Int32} (h : iIns M pc (.istore_n 3) 1) (hc : clr1 a2 = a2) (k : Ev scr l d M (pc + 1) (a0 :: a1 :: a2 :: some (.int x) :: L) st S r) : Ev scr l d M pc (a0 :: a1 :: a2 :: a3 :: L) (.int x :: st) S r := ev_istore_n h (by show 3 < _; simp) (by
  show Ev _ _ _ _ _ (stL 3 _ _) _ _ _
  rw [stL_s, stL_s, stL_1 _ _ _ _ hc]
  exact k)
theorem ev_ast_3 {x : Nat} (h : iIns M pc (.astore 3) 2) (hc : clr1 a2 = a2) (k : Ev scr l d M (pc + 2) (a0 :: a1 :: a2 :: some (.ref x) :: L) st S r) : Ev scr l d M pc (a0 :: a1 :: a2 :: a3 :: L) (.ref x :: st) S r := ev_astore h (by show 3 < _; simp) (by
  show Ev _ _ _ _ _ (stL 3 _ _) _ _ _
  rw [stL_s, stL_s, stL_1 _ _ _ _ hc]
  exact k)
theorem ev_ast_n_3 {x : Nat} (h : iIns M pc (.astore_n 3) 1) (hc : clr1 a2 = a2) (k : Ev scr l d M (pc + 1) (a0 :: a1 :: a2 :: some (.ref x) :: L) st S r) : Ev scr l d M pc (a0 :: a1 :: a2 :: a3 :: L) (.ref x :: st) S r := ev_astore_n h (by show 3 < _; simp) (by
  show Ev _ _ _ _ _ (stL 3 _ _) _ _ _
  rw [stL_s, stL_s, stL_1 _ _ _ _ hc]
  exact k)
theorem ev_lst_3 {x : Int64} (h : iIns M pc (.lstore 3) 2) (hc : clr1 a2 = a2) (k : Ev scr l d M (pc + 2) (a0 :: a1 :: a2 :: some (.long x) :: none :: L) st S r) : Ev scr l d M pc (a0 :: a1 :: a2 :: a3 :: a4 :: L) (.long x :: st) S r := ev_lstore h (by show 4 < _; simp) (by
  show Ev _ _ _ _ _ (stL2 3 _ _) _ _ _
  rw [stL2_s, stL2_s, stL2_1 _ _ _ _ _ hc]
  exact k)
theorem ev_lst_n_3 {x : Int64} (h : iIns M pc (.lstore_n 3) 1) (hc : clr1 a2 = a2) (k : Ev scr l d M (pc + 1) (a0 :: a1 :: a2 :: some (.long x) :: none :: L) st S r) : Ev scr l d M pc (a0 :: a1 :: a2 :: a3 :: a4 :: L) (.long x :: st) S r := ev_lstore_n h (by show 4 < _; simp) (by
  show Ev _ _ _ _ _ (stL2 3 _ _) _ _ _
  rw [stL2_s, stL2_s, stL2_1 _ _ _ _ _ hc]
  exact k)
theorem ev_dst_3 {x : UInt64} (h : iIns M pc (.dstore 3) 2) (hc : clr1 a2 = a2) (k : Ev scr l d M (pc + 2) (a0 :: a1 :: a2 :: some (.double x) :: none :: L) st S r) : Ev scr l d M pc (a0 :: a1 :: a2 :: a3 :: a4 :: L) (.double x :: st) S r := ev_dstore h (by show 4 < _; simp) (by
  show Ev _ _ _ _ _ (stL2 3 _ _) _ _ _
  rw [stL2_s, stL2_s, stL2_1 _ _ _ _ _ hc]
  exact k)
theorem ev_dst_n_3 {x : UInt64} (h : iIns M pc (.dstore_n 3) 1) (hc : clr1 a2 = a2) (k : Ev scr l d M (pc + 1) (a0 :: a1 :: a2 :: some (.double x) :: none :: L) st S r) : Ev scr l d M pc (a0 :: a1 :: a2 :: a3 :: a4 :: L) (.double x :: st) S r := ev_dstore_n h (by show 4 < _; simp) (by
  show Ev _ _ _ _ _ (stL2 3 _ _) _ _ _
  rw [stL2_s, stL2_s, stL2_1 _ _ _ _ _ hc]
  exact k)
theorem ev_iincN_3 {n : Int} {x c : Nat} (h : iIns M pc (.iinc 3 n) 3) (hn : Int32.ofInt n = nI c) (hc : clr1 a2 = a2) (k : Ev scr l d M (pc + 3) (a0 :: a1 :: a2 :: some (.int (nI (x + c))) :: L) st S r) : Ev scr l d M pc (a0 :: a1 :: a2 :: some (.int (nI x)) :: L) st S r := ev_iincN h hn rfl (by
  show Ev _ _ _ _ _ (stL 3 _ _) _ _ _
  rw [stL_s, stL_s, stL_1 _ _ _ _ hc]
  exact k)
theorem ev_iinc_3 {n : Int} {x : Int32} (h : iIns M pc (.iinc 3 n) 3) (hc : clr1 a2 = a2) (k : Ev scr l d M (pc + 3) (a0 :: a1 :: a2 :: some (.int (x + Int32.ofInt n)) :: L) st S r) : Ev scr l d M pc (a0 :: a1 :: a2 :: some (.int x) :: L) st S r := ev_iinc h rfl (by
  show Ev _ _ _ _ _ (stL 3 _ _) _ _ _
  rw [stL_s, stL_s, stL_1 _ _ _ _ hc]
  exact k)
theorem ev_ist_4 {x : Int32} (h : iIns M pc (.istore 4) 2) (hc : clr1 a3 = a3) (k : Ev scr l d M (pc + 2) (a0 :: a1 :: a2 :: a3 :: some (.int x) :: L) st S r) : Ev scr l d M pc (a0 :: a1 :: a2 :: a3 :: a4 :: L) (.int x :: st) S r := ev_istore h (by show 4 < _; simp) (by
  show Ev _ _ _ _ _ (stL 4 _ _) _ _ _
  rw [stL_s, stL_s, stL_s, stL_1 _ _ _ _ hc]
  exact k)
theorem ev_ast_4 {x : Nat} (h : iIns M pc (.astore 4) 2) (hc : clr1 a3 = a3) (k : Ev scr l d M (pc + 2) (a0 :: a1 :: a2 :: a3 :: some (.ref x) :: L) st S r) : Ev scr l d M pc (a0 :: a1 :: a2 :: a3 :: a4 :: L) (.ref x :: st) S r := ev_astore h (by show 4 < _; simp) (by
  show Ev _ _ _ _ _ (stL 4 _ _) _ _ _
  rw [stL_s, stL_s, stL_s, stL_1 _ _ _ _ hc]
  exact k)
theorem ev_lst_4 {x : Int64} (h : iIns M pc (.lstore 4) 2) (hc : clr1 a3 = a3) (k : Ev scr l d M (pc + 2) (a0 :: a1 :: a2 :: a3 :: some (.long x) :: none :: L) st S r) : Ev scr l d M pc (a0 :: a1 :: a2 :: a3 :: a4 :: a5 :: L) (.long x :: st) S r := ev_lstore h (by show 5 < _; simp) (by
  show Ev _ _ _ _ _ (stL2 4 _ _) _ _ _
  rw [stL2_s, stL2_s, stL2_s, stL2_1 _ _ _ _ _ hc]
  exact k)
theorem ev_dst_4 {x : UInt64} (h : iIns M pc (.dstore 4) 2) (hc : clr1 a3 = a3) (k : Ev scr l d M (pc + 2) (a0 :: a1 :: a2 :: a3 :: some (.double x) :: none :: L) st S r) : Ev scr l d M pc (a0 :: a1 :: a2 :: a3 :: a4 :: a5 :: L) (.double x :: st) S r := ev_dstore h (by show 5 < _; simp) (by
  show Ev _ _ _ _ _ (stL2 4 _ _) _ _ _
  rw [stL2_s, stL2_s, stL2_s, stL2_1 _ _ _ _ _ hc]
  exact k)
theorem ev_iincN_4 {n : Int} {x c : Nat} (h : iIns M pc (.iinc 4 n) 3) (hn : Int32.ofInt n = nI c) (hc : clr1 a3 = a3) (k : Ev scr l d M (pc + 3) (a0 :: a1 :: a2 :: a3 :: some (.int (nI (x + c))) :: L) st S r) : Ev scr l d M pc (a0 :: a1 :: a2 :: a3 :: some (.int (nI x)) :: L) st S r := ev_iincN h hn rfl (by
  show Ev _ _ _ _ _ (stL 4 _ _) _ _ _
  rw [stL_s, stL_s, stL_s, stL_1 _ _ _ _ hc]
  exact k)
theorem ev_iinc_4 {n : Int} {x : Int32} (h : iIns M pc (.iinc 4 n) 3) (hc : clr1 a3 = a3) (k : Ev scr l d M (pc + 3) (a0 :: a1 :: a2 :: a3 :: some (.int (x + Int32.ofInt n)) :: L) st S r) : Ev scr l d M pc (a0 :: a1 :: a2 :: a3 :: some (.int x) :: L) st S r := ev_iinc h rfl (by
  show Ev _ _ _ _ _ (stL 4 _ _) _ _ _
  rw [stL_s, stL_s, stL_s, stL_1 _ _ _ _ hc]
  exact k)
theorem ev_ist_5 {x : Int32} (h : iIns M pc (.istore 5) 2) (hc : clr1 a4 = a4) (k : Ev scr l d M (pc + 2) (a0 :: a1 :: a2 :: a3 :: a4 :: some (.int x) :: L) st S r) : Ev scr l d M pc (a0 :: a1 :: a2 :: a3 :: a4 :: a5 :: L) (.int x :: st) S r := ev_istore h (by show 5 < _; simp) (by
  show Ev _ _ _ _ _ (stL 5 _ _) _ _ _
  rw [stL_s, stL_s, stL_s, stL_s, stL_1 _ _ _ _ hc]
  exact k)
theorem ev_ast_5 {x : Nat} (h : iIns M pc (.astore 5) 2) (hc : clr1 a4 = a4) (k : Ev scr l d M (pc + 2) (a0 :: a1 :: a2 :: a3 :: a4 :: some (.ref x) :: L) st S r) : Ev scr l d M pc (a0 :: a1 :: a2 :: a3 :: a4 :: a5 :: L) (.ref x :: st) S r := ev_astore h (by show 5 < _; simp) (by
  show Ev _ _ _ _ _ (stL 5 _ _) _ _ _
  rw [stL_s, stL_s, stL_s, stL_s, stL_1 _ _ _ _ hc]
  exact k)
theorem ev_lst_5 {x : Int64} (h : iIns M pc (.lstore 5) 2) (hc : clr1 a4 = a4) (k : Ev scr l d M (pc + 2) (a0 :: a1 :: a2 :: a3 :: a4 :: some (.long x) :: none :: L) st S r) : Ev scr l d M pc (a0 :: a1 :: a2 :: a3 :: a4 :: a5 :: a6 :: L) (.long x :: st) S r := ev_lstore h (by show 6 < _; simp) (by
  show Ev _ _ _ _ _ (stL2 5 _ _) _ _ _
  rw [stL2_s, stL2_s, stL2_s, stL2_s, stL2_1 _ _ _ _ _ hc]
  exact k)
theorem ev_dst_5 {x : UInt64} (h : iIns M pc (.dstore 5) 2) (hc : clr1 a4 = a4) (k : Ev scr l d M (pc + 2) (a0 :: a1 :: a2 :: a3 :: a4 :: some (.double x) :: none :: L) st S r) : Ev scr l d M pc (a0 :: a1 :: a2 :: a3 :: a4 :: a5 :: a6 :: L) (.double x :: st) S r := ev_dstore h (by show 6 < _; simp) (by
  show Ev _ _ _ _ _ (stL2 5 _ _) _ _ _
  rw [stL2_s, stL2_s, stL2_s, stL2_s, stL2_1 _ _ _ _ _ hc]
  exact k)
theorem ev_iincN_5 {n : Int} {x c : Nat} (h : iIns M pc (.iinc 5 n) 3) (hn : Int32.ofInt n = nI c) (hc : clr1 a4 = a4) (k : Ev scr l d M (pc + 3) (a0 :: a1 :: a2 :: a3 :: a4 :: some (.int (nI (x + c))) :: L) st S r) : Ev scr l d M pc (a0 :: a1 :: a2 :: a3 :: a4 :: some (.int (nI x)) :: L) st S r := ev_iincN h hn rfl (by
  show Ev _ _ _ _ _ (stL 5 _ _) _ _ _
  rw [stL_s, stL_s, stL_s, stL_s, stL_1 _ _ _ _ hc]
  exact k)
theorem ev_iinc_5 {n : Int} {x : Int32} (h : iIns M pc (.iinc 5 n) 3) (hc : clr1 a4 = a4) (k : Ev scr l d M (pc + 3) (a0 :: a1 :: a2 :: a3 :: a4 :: some (.int (x + Int32.ofInt n)) :: L) st S r) : Ev scr l d M pc (a0 :: a1 :: a2 :: a3 :: a4 :: some (.int x) :: L) st S r := ev_iinc h rfl (by
  show Ev _ _ _ _ _ (stL 5 _ _) _ _ _
  rw [stL_s, stL_s, stL_s, stL_s, stL_1 _ _ _ _ hc]
  exact k)
theorem ev_ist_6 {x : Int32} (h : iIns M pc (.istore 6) 2) (hc : clr1 a5 = a5) (k : Ev scr l d M (pc + 2) (a0 :: a1 :: a2 :: a3 :: a4 :: a5 :: some (.int x) :: L) st S r) : Ev scr l d M pc (a0 :: a1 :: a2 :: a3 :: a4 :: a5 :: a6 :: L) (.int x :: st) S r := ev_istore h (by show 6 < _; simp) (by
  show Ev _ _ _ _ _ (stL 6 _ _) _ _ _
  rw [stL_s, stL_s, stL_s, stL_s, stL_s, stL_1 _ _ _ _ hc]
  exact k)
theorem ev_ast_6 {x : Nat} (h : iIns M pc (.astore 6) 2) (hc : clr1 a5 = a5) (k : Ev scr l d M (pc + 2) (a0 :: a1 :: a2 :: a3 :: a4 :: a5 :: some (.ref x) :: L) st S r) : Ev scr l d M pc (a0 :: a1 :: a2 :: a3 :: a4 :: a5 :: a6 :: L) (.ref x :: st) S r := ev_astore h (by show 6 < _; simp) (by
  show Ev _ _ _ _ _ (stL 6 _ _) _ _ _
  rw [stL_s, stL_s, stL_s, stL_s, stL_s, stL_1 _ _ _ _ hc]
  exact k)
theorem ev_lst_6 {x : Int64} (h : iIns M pc (.lstore 6) 2) (hc : clr1 a5 = a5) (k : Ev scr l d M (pc + 2) (a0 :: a1 :: a2 :: a3 :: a4 :: a5 :: some (.long x) :: none :: L) st S r) : Ev scr l d M pc (a0 :: a1 :: a2 :: a3 :: a4 :: a5 :: a6 :: a7 :: L) (.long x :: st) S r := ev_lstore h (by show 7 < _; simp) (by
  show Ev _ _ _ _ _ (stL2 6 _ _) _ _ _
  rw [stL2_s, stL2_s, stL2_s, stL2_s, stL2_s, stL2_1 _ _ _ _ _ hc]
  exact k)
theorem ev_dst_6 {x : UInt64} (h : iIns M pc (.dstore 6) 2) (hc : clr1 a5 = a5) (k : Ev scr l d M (pc + 2) (a0 :: a1 :: a2 :: a3 :: a4 :: a5 :: some (.double x) :: none :: L) st S r) : Ev scr l d M pc (a0 :: a1 :: a2 :: a3 :: a4 :: a5 :: a6 :: a7 :: L) (.double x :: st) S r := ev_dstore h (by show 7 < _; simp) (by
  show Ev _ _ _ _ _ (stL2 6 _ _) _ _ _
  rw [stL2_s, stL2_s, stL2_s, stL2_s, stL2_s, stL2_1 _ _ _ _ _ hc]
  exact k)
theorem ev_iincN_6 {n : Int} {x c : Nat} (h : iIns M pc (.iinc 6 n) 3) (hn : Int32.ofInt n = nI c) (hc : clr1 a5 = a5) (k : Ev scr l d M (pc + 3) (a0 :: a1 :: a2 :: a3 :: a4 :: a5 :: some (.int (nI (x + c))) :: L) st S r) : Ev scr l d M pc (a0 :: a1 :: a2 :: a3 :: a4 :: a5 :: some (.int (nI x)) :: L) st S r := ev_iincN h hn rfl (by
  show Ev _ _ _ _ _ (stL 6 _ _) _ _ _
  rw [stL_s, stL_s, stL_s, stL_s, stL_s, stL_1 _ _ _ _ hc]
  exact k)
theorem ev_iinc_6 {n : Int} {x : Int32} (h : iIns M pc (.iinc 6 n) 3) (hc : clr1 a5 = a5) (k : Ev scr l d M (pc + 3) (a0 :: a1 :: a2 :: a3 :: a4 :: a5 :: some (.int (x + Int32.ofInt n)) :: L) st S r) : Ev scr l d M pc (a0 :: a1 :: a2 :: a3 :: a4 :: a5 :: some (.int x) :: L) st S r := ev_iinc h rfl (by
  show Ev _ _ _ _ _ (stL 6 _ _) _ _ _
  rw [stL_s, stL_s, stL_s, stL_s, stL_s, stL_1 _ _ _ _ hc]
  exact k)
theorem ev_ist_7 {x : Int32} (h : iIns M pc (.istore 7) 2) (hc : clr1 a6 = a6) (k : Ev scr l d M (pc + 2) (a0 :: a1 :: a2 :: a3 :: a4 :: a5 :: a6 :: some (.int x) :: L) st S r) : Ev scr l d M pc (a0 :: a1 :: a2 :: a3 :: a4 :: a5 :: a6 :: a7 :: L) (.int x :: st) S r := ev_istore h (by show 7 < _; simp) (by
  show Ev _ _ _ _ _ (stL 7 _ _) _ _ _
  rw [stL_s, stL_s, stL_s, stL_s, stL_s, stL_s, stL_1 _ _ _ _ hc]
  exact k)
theorem ev_ast_7 {x : Nat} (h : iIns M pc (.astore 7) 2) (hc : clr1 a6 = a6) (k : Ev scr l d M (pc + 2) (a0 :: a1 :: a2 :: a3 :: a4 :: a5 :: a6 :: some (.ref x) :: L) st S r) : Ev scr l d M pc (a0 :: a1 :: a2 :: a3 :: a4 :: a5 :: a6 :: a7 :: L) (.ref x :: st) S r := ev_astore h (by show 7 < _; simp) (by
  show Ev _ _ _ _ _ (stL 7 _ _) _ _ _
  rw [stL_s, stL_s, stL_s, stL_s, stL_s, stL_s, stL_1 _ _ _ _ hc]
  exact k)
theorem ev_lst_7 {x : Int64} (h : iIns M pc (.lstore 7) 2) (hc : clr1 a6 = a6) (k : Ev scr l d M (pc + 2) (a0 :: a1 :: a2 :: a3 :: a4 :: a5 :: a6 :: some (.long x) :: none :: L) st S r) : Ev scr l d M pc (a0 :: a1 :: a2 :: a3 :: a4 :: a5 :: a6 :: a7 :: a8 :: L) (.long x :: st) S r := ev_lstore h (by show 8 < _; simp) (by
  show Ev _ _ _ _ _ (stL2 7 _ _) _ _ _
  rw [stL2_s, stL2_s, stL2_s, stL2_s, stL2_s, stL2_s, stL2_1 _ _ _ _ _ hc]
  exact k)
theorem ev_dst_7 {x : UInt64} (h : iIns M pc (.dstore 7) 2) (hc : clr1 a6 = a6) (k : Ev scr l d M (pc + 2) (a0 :: a1 :: a2 :: a3 :: a4 :: a5 :: a6 :: some (.double x) :: none :: L) st S r) : Ev scr l d M pc (a0 :: a1 :: a2 :: a3 :: a4 :: a5 :: a6 :: a7 :: a8 :: L) (.double x :: st) S r := ev_dstore h (by show 8 < _; simp) (by
  show Ev _ _ _ _ _ (stL2 7 _ _) _ _ _
  rw [stL2_s, stL2_s, stL2_s, stL2_s, stL2_s, stL2_s, stL2_1 _ _ _ _ _ hc]
  exact k)
theorem ev_iincN_7 {n : Int} {x c : Nat} (h : iIns M pc (.iinc 7 n) 3) (hn : Int32.ofInt n = nI c) (hc : clr1 a6 = a6) (k : Ev scr l d M (pc + 3) (a0 :: a1 :: a2 :: a3 :: a4 :: a5 :: a6 :: some (.int (nI (x + c))) :: L) st S r) : Ev scr l d M pc (a0 :: a1 :: a2 :: a3 :: a4 :: a5 :: a6 :: some (.int (nI x)) :: L) st S r := ev_iincN h hn rfl (by
  show Ev _ _ _ _ _ (stL 7 _ _) _ _ _
  rw [stL_s, stL_s, stL_s, stL_s, stL_s, stL_s, stL_1 _ _ _ _ hc]
  exact k)
theorem ev_iinc_7 {n : Int} {x : Int32} (h : iIns M pc (.iinc 7 n) 3) (hc : clr1 a6 = a6) (k : Ev scr l d M (pc + 3) (a0 :: a1 :: a2 :: a3 :: a4 :: a5 :: a6 :: some (.int (x + Int32.ofInt n)) :: L) st S r) : Ev scr l d M pc (a0 :: a1 :: a2 :: a3 :: a4 :: a5 :: a6 :: some (.int x) :: L) st S r := ev_iinc h rfl (by
  show Ev _ _ _ _ _ (stL 7 _ _) _ _ _
  rw [stL_s, stL_s, stL_s, stL_s, stL_s, stL_s, stL_1 _ _ _ _ hc]
  exact k)
theorem ev_ist_8 {x : Int32} (h : iIns M pc (.istore 8) 2) (hc : clr1 a7 = a7) (k : Ev scr l d M (pc + 2) (a0 :: a1 :: a2 :: a3 :: a4 :: a5 :: a6 :: a7 :: some (.int x) :: L) st S r) : Ev scr l d M pc (a0 :: a1 :: a2 :: a3 :: a4 :: a5 :: a6 :: a7 :: a8 :: L) (.int x :: st) S r := ev_istore h (by show 8 < _; simp) (by
  show Ev _ _ _ _ _ (stL 8 _ _) _ _ _
  rw [stL_s, stL_s, stL_s, stL_s, stL_s, stL_s, stL_s, stL_1 _ _ _ _ hc]
  exact k)
theorem ev_ast_8 {x : Nat} (h : iIns M pc (.astore 8) 2) (hc : clr1 a7 = a7) (k : Ev scr l d M (pc + 2) (a0 :: a1 :: a2 :: a3 :: a4 :: a5 :: a6 :: a7 :: some (.ref x) :: L) st S r) : Ev scr l d M pc (a0 :: a1 :: a2 :: a3 :: a4 :: a5 :: a6 :: a7 :: a8 :: L) (.ref x :: st) S r := ev_astore h (by show 8 < _; simp) (by
  show Ev _ _ _ _ _ (stL 8 _ _) _ _ _
  rw [stL_s, stL_s, stL_s, stL_s, stL_s, stL_s, stL_s, stL_1 _ _ _ _ hc]
  exact k)
theorem ev_lst_8 {x : Int64} (h : iIns M pc (.lstore 8) 2) (hc : clr1 a7 = a7) (k : Ev scr l d M (pc + 2) (a0 :: a1 :: a2 :: a3 :: a4 :: a5 :: a6 :: a7 :: some (.long x) :: none :: L) st S r) : Ev scr l d M pc (a0 :: a1 :: a2 :: a3 :: a4 :: a5 :: a6 :: a7 :: a8 :: a9 :: L) (.long x :: st) S r := ev_lstore h (by show 9 < _; simp) (by
  show Ev _ _ _ _ _ (stL2 8 _ _) _ _ _
  rw [stL2_s, stL2_s, stL2_s, stL2_s, stL2_s, stL2_s, stL2_s, stL2_1 _ _ _ _ _ hc]
  exact k)
theorem ev_dst_8 {x : UInt64} (h : iIns M pc (.dstore 8) 2) (hc : clr1 a7 = a7) (k : Ev scr l d M (pc + 2) (a0 :: a1 :: a2 :: a3 :: a4 :: a5 :: a6 :: a7 :: some (.double x) :: none :: L) st S r) : Ev scr l d M pc (a0 :: a1 :: a2 :: a3 :: a4 :: a5 :: a6 :: a7 :: a8 :: a9 :: L) (.double x :: st) S r := ev_dstore h (by show 9 < _; simp) (by
  show Ev _ _ _ _ _ (stL2 8 _ _) _ _ _
  rw [stL2_s, stL2_s, stL2_s, stL2_s, stL2_s, stL2_s, stL2_s, stL2_1 _ _ _ _ _ hc]
  exact k)
theorem ev_iincN_8 {n : Int} {x c : Nat} (h : iIns M pc (.iinc 8 n) 3) (hn : Int32.ofInt n = nI c) (hc : clr1 a7 = a7) (k : Ev scr l d M (pc + 3) (a0 :: a1 :: a2 :: a3 :: a4 :: a5 :: a6 :: a7 :: some (.int (nI (x + c))) :: L) st S r) : Ev scr l d M pc (a0 :: a1 :: a2 :: a3 :: a4 :: a5 :: a6 :: a7 :: some (.int (nI x)) :: L) st S r := ev_iincN h hn rfl (by
  show Ev _ _ _ _ _ (stL 8 _ _) _ _ _
  rw [stL_s, stL_s, stL_s, stL_s, stL_s, stL_s, stL_s, stL_1 _ _ _ _ hc]
  exact k)
theorem ev_iinc_8 {n : Int} {x : Int32} (h : iIns M pc (.iinc 8 n) 3) (hc : clr1 a7 = a7) (k : Ev scr l d M (pc + 3) (a0 :: a1 :: a2 :: a3 :: a4 :: a5 :: a6 :: a7 :: some (.int (x + Int32.ofInt n)) :: L) st S r) : Ev scr l d M pc (a0 :: a1 :: a2 :: a3 :: a4 :: a5 :: a6 :: a7 :: some (.int x) :: L) st S r := ev_iinc h rfl (by
  show Ev _ _ _ _ _ (stL 8 _ _) _ _ _
  rw [stL_s, stL_s, stL_s, stL_s, stL_s, stL_s, stL_s, stL_1 _ _ _ _ hc]
  exact k)
theorem ev_ist_9 {x : Int32} (h : iIns M pc (.istore 9) 2) (hc : clr1 a8 = a8) (k : Ev scr l d M (pc + 2) (a0 :: a1 :: a2 :: a3 :: a4 :: a5 :: a6 :: a7 :: a8 :: some (.int x) :: L) st S r) : Ev scr l d M pc (a0 :: a1 :: a2 :: a3 :: a4 :: a5 :: a6 :: a7 :: a8 :: a9 :: L) (.int x :: st) S r := ev_istore h (by show 9 < _; simp) (by
  show Ev _ _ _ _ _ (stL 9 _ _) _ _ _
  rw [stL_s, stL_s, stL_s, stL_s, stL_s, stL_s, stL_s, stL_s, stL_1 _ _ _ _ hc]
  exact k)
theorem ev_ast_9 {x : Nat} (h : iIns M pc (.astore 9) 2) (hc : clr1 a8 = a8) (k : Ev scr l d M (pc + 2) (a0 :: a1 :: a2 :: a3 :: a4 :: a5 :: a6 :: a7 :: a8 :: some (.ref x) :: L) st S r) : Ev scr l d M pc (a0 :: a1 :: a2 :: a3 :: a4 :: a5 :: a6 :: a7 :: a8 :: a9 :: L) (.ref x :: st) S r := ev_astore h (by show 9 < _; simp) (by
  show Ev _ _ _ _ _ (stL 9 _ _) _ _ _
  rw [stL_s, stL_s, stL_s, stL_s, stL_s, stL_s, stL_s, stL_s, stL_1 _ _ _ _ hc]
  exact k)
theorem ev_lst_9 {x : Int64} (h : iIns M pc (.lstore 9) 2) (hc : clr1 a8 = a8) (k : Ev scr l d M (pc + 2) (a0 :: a1 :: a2 :: a3 :: a4 :: a5 :: a6 :: a7 :: a8 :: some (.long x) :: none :: L) st S r) : Ev scr l d M pc (a0 :: a1 :: a2 :: a3 :: a4 :: a5 :: a6 :: a7 :: a8 :: a9 :: a10 :: L) (.long x :: st) S r := ev_lstore h (by show 10 < _; simp) (by
  show Ev _ _ _ _ _ (stL2 9 _ _) _ _ _
  rw [stL2_s, stL2_s, stL2_s, stL2_s, stL2_s, stL2_s, stL2_s, stL2_s, stL2_1 _ _ _ _ _ hc]
  exact k)
theorem ev_dst_9 {x : UInt64} (h : iIns M pc (.dstore 9) 2) (hc : clr1 a8 = a8) (k : Ev scr l d M (pc + 2) (a0 :: a1 :: a2 :: a3 :: a4 :: a5 :: a6 :: a7 :: a8 :: some (.double x) :: none :: L) st S r) : Ev scr l d M pc (a0 :: a1 :: a2 :: a3 :: a4 :: a5 :: a6 :: a7 :: a8 :: a9 :: a10 :: L) (.double x :: st) S r := ev_dstore h (by show 10 < _; simp) (by
  show Ev _ _ _ _ _ (stL2 9 _ _) _ _ _
  rw [stL2_s, stL2_s, stL2_s, stL2_s, stL2_s, stL2_s, stL2_s, stL2_s, stL2_1 _ _ _ _ _ hc]
  exact k)
theorem ev_iincN_9 {n : Int} {x c : Nat} (h : iIns M pc (.iinc 9 n) 3) (hn : Int32.ofInt n = nI c) (hc : clr1 a8 = a8) (k : Ev scr l d M (pc + 3) (a0 :: a1 :: a2 :: a3 :: a4 :: a5 :: a6 :: a7 :: a8 :: some (.int (nI (x + c))) :: L) st S r) : Ev scr l d M pc (a0 :: a1 :: a2 :: a3 :: a4 :: a5 :: a6 :: a7 :: a8 :: some (.int (nI x)) :: L) st S r := ev_iincN h hn rfl (by
  show Ev _ _ _ _ _ (stL 9 _ _) _ _ _
  rw [stL_s, stL_s, stL_s, stL_s, stL_s, stL_s, stL_s, stL_s, stL_1 _ _ _ _ hc]
  exact k)
theorem ev_iinc_9 {n : Int} {x : Int32} (h : iIns M pc (.iinc 9 n) 3) (hc : clr1 a8 = a8) (k : Ev scr l d M (pc + 3) (a0 :: a1 :: a2 :: a3 :: a4 :: a5 :: a6 :: a7 :: a8 :: some (.int (x + Int32.ofInt n)) :: L) st S r) : Ev scr l d M pc (a0 :: a1 :: a2 :: a3 :: a4 :: a5 :: a6 :: a7 :: a8 :: some (.int x) :: L) st S r := ev_iinc h rfl (by
  show Ev _ _ _ _ _ (stL 9 _ _) _ _ _
  rw [stL_s, stL_s, stL_s, stL_s, stL_s, stL_s, stL_s, stL_s, stL_1 _ _ _ _ hc]
  exact k)
theorem ev_ist_10 {x : Int32} (h : iIns M pc (.istore 10) 2) (hc : clr1 a9 = a9) (k : Ev scr l d M (pc + 2) (a0 :: a1 :: a2 :: a3 :: a4 :: a5 :: a6 :: a7 :: a8 :: a9 :: some (.int x) :: L) st S r) : Ev scr l d M pc (a0 :: a1 :: a2 :: a3 :: a4 :: a5 :: a6 :: a7 :: a8 :: a9 :: a10 :: L) (.int x :: st) S r := ev_istore h (by show 10 < _; simp) (by
  show Ev _ _ _ _ _ (stL 10 _ _) _ _ _
  rw [stL_s, stL_s, stL_s, stL_s, stL_s, stL_s, stL_s, stL_s, stL_s, stL_1 _ _ _ _ hc]
  exact k)
theorem ev_ast_10 {x : Nat} (h : iIns M pc (.astore 10) 2) (hc : clr1 a9 = a9) (k : Ev scr l d M (pc + 2) (a0 :: a1 :: a2 :: a3 :: a4 :: a5 :: a6 :: a7 :: a8 :: a9 :: some (.ref x) :: L) st S r) : Ev scr l d M pc (a0 :: a1 :: a2 :: a3 :: a4 :: a5 :: a6 :: a7 :: a8 :: a9 :: a10 :: L) (.ref x :: st) S r := ev_astore h (by show 10 < _; simp) (by
  show Ev _ _ _ _ _ (stL 10 _ _) _ _ _
  rw [stL_s, stL_s, stL_s, stL_s, stL_s, stL_s, stL_s, stL_s, stL_s, stL_1 _ _ _ _ hc]
  exact k)
theorem ev_lst_10 {x : Int64} (h : iIns M pc (.lstore 10) 2) (hc : clr1 a9 = a9) (k : Ev scr l d M (pc + 2) (a0 :: a1 :: a2 :: a3 :: a4 :: a5 :: a6 :: a7 :: a8 :: a9 :: some (.long x) :: none :: L) st S r) : Ev scr l d M pc (a0 :: a1 :: a2 :: a3 :: a4 :: a5 :: a6 :: a7 :: a8 :: a9 :: a10 :: a11 :: L) (.long x :: st) S r := ev_lstore h (by show 11 < _; simp) (by
  show Ev _ _ _ _ _ (stL2 10 _ _) _ _ _
  rw [stL2_s, stL2_s, stL2_s, stL2_s, stL2_s, stL2_s, stL2_s, stL2_s, stL2_s, stL2_1 _ _ _ _ _ hc]
  exact k)
theorem ev_dst_10 {x : UInt64} (h : iIns M pc (.dstore 10) 2) (hc : clr1 a9 = a9) (k : Ev scr l d M (pc + 2) (a0 :: a1 :: a2 :: a3 :: a4 :: a5 :: a6 :: a7 :: a8 :: a9 :: some (.double x) :: none :: L) st S r) : Ev scr l d M pc (a0 :: a1 :: a2 :: a3 :: a4 :: a5 :: a6 :: a7 :: a8 :: a9 :: a10 :: a11 :: L) (.double x :: st) S r := ev_dstore h (by show 11 < _; simp) (by
  show Ev _ _ _ _ _ (stL2 10 _ _) _ _ _
  rw [stL2_s, stL2_s, stL2_s, stL2_s, stL2_s, stL2_s, stL2_s, stL2_s, stL2_s, stL2_1 _ _ _ _ _ hc]
  exact k)
theorem ev_iincN_10 {n : Int} {x c : Nat} (h : iIns M pc (.iinc 10 n) 3) (hn : Int32.ofInt n = nI c) (hc : clr1 a9 = a9) (k : Ev scr l d M (pc + 3) (a0 :: a1 :: a2 :: a3 :: a4 :: a5 :: a6 :: a7 :: a8 :: a9 :: some (.int (nI (x + c))) :: L) st S r) : Ev scr l d M pc (a0 :: a1 :: a2 :: a3 :: a4 :: a5 :: a6 :: a7 :: a8 :: a9 :: some (.int (nI x)) :: L) st S r := ev_iincN h hn rfl (by
  show Ev _ _ _ _ _ (stL 10 _ _) _ _ _
  rw [stL_s, stL_s, stL_s, stL_s, stL_s, stL_s, stL_s, stL_s, stL_s, stL_1 _ _ _ _ hc]
  exact k)
theorem ev_iinc_10 {n : Int} {x : Int32} (h : iIns M pc (.iinc 10 n) 3) (hc : clr1 a9 = a9) (k : Ev scr l d M (pc + 3) (a0 :: a1 :: a2 :: a3 :: a4 :: a5 :: a6 :: a7 :: a8 :: a9 :: some (.int (x + Int32.ofInt n)) :: L) st S r) : Ev scr l d M pc (a0 :: a1 :: a2 :: a3 :: a4 :: a5 :: a6 :: a7 :: a8 :: a9 :: some (.int x) :: L) st S r := ev_iinc h rfl (by
  show Ev _ _ _ _ _ (stL 10 _ _) _ _ _
  rw [stL_s, stL_s, stL_s, stL_s, stL_s, stL_s, stL_s, stL_s, stL_s, stL_1 _ _ _ _ hc]
  exact k)
theorem ev_ist_11 {x : Int32} (h : iIns M pc (.istore 11) 2) (hc : clr1 a10 = a10) (k : Ev scr l d M (pc + 2) (a0 :: a1 :: a2 :: a3 :: a4 :: a5 :: a6 :: a7 :: a8 :: a9 :: a10 :: some (.int x) :: L) st S r) : Ev scr l d M pc (a0 :: a1 :: a2 :: a3 :: a4 :: a5 :: a6 :: a7 :: a8 :: a9 :: a10 :: a11 :: L) (.int x :: st) S r := ev_istore h (by show 11 < _; simp) (by
  show Ev _ _ _ _ _ (stL 11 _ _) _ _ _
  rw [stL_s, stL_s, stL_s, stL_s, stL_s, stL_s, stL_s, stL_s, stL_s, stL_s, stL_1 _ _ _ _ hc]
  exact k)
theorem ev_ast_11 {x : Nat} (h : iIns M pc (.astore 11) 2) (hc : clr1 a10 = a10) (k : Ev scr l d M (pc + 2) (a0 :: a1 :: a2 :: a3 :: a4 :: a5 :: a6 :: a7 :: a8 :: a9 :: a10 :: some (.ref x) :: L) st S r) : Ev scr l d M pc (a0 :: a1 :: a2 :: a3 :: a4 :: a5 :: a6 :: a7 :: a8 :: a9 :: a10 :: a11 :: L) (.ref x :: st) S r := ev_astore h (by show 11 < _; simp) (by
  show Ev _ _ _ _ _ (stL 11 _ _) _ _ _
  rw [stL_s, stL_s, stL_s, stL_s, stL_s, stL_s, stL_s, stL_s, stL_s, stL_s, stL_1 _ _ _ _ hc]
  exact k)
theorem ev_lst_11 {x : Int64} (h : iIns M pc (.lstore 11) 2) (hc : clr1 a10 = a10) (k : Ev scr l d M (pc + 2) (a0 :: a1 :: a2 :: a3 :: a4 :: a5 :: a6 :: a7 :: a8 :: a9 :: a10 :: some (.long x) :: none :: L) st S r) : Ev scr l d M pc (a0 :: a1 :: a2 :: a3 :: a4 :: a5 :: a6 :: a7 :: a8 :: a9 :: a10 :: a11 :: a12 :: L) (.long x :: st) S r := ev_lstore h (by show 12 < _; simp) (by
  show Ev _ _ _ _ _ (stL2 11 _ _) _ _ _
  rw [stL2_s, stL2_s, stL2_s, stL2_s, stL2_s, stL2_s, stL2_s, stL2_s, stL2_s, stL2_s, stL2_1 _ _ _ _ _ hc]
  exact k)
theorem ev_dst_11 {x : UInt64} (h : iIns M pc (.dstore 11) 2) (hc : clr1 a10 = a10) (k : Ev scr l d M (pc + 2) (a0 :: a1 :: a2 :: a3 :: a4 :: a5 :: a6 :: a7 :: a8 :: a9 :: a10 :: some (.double x) :: none :: L) st S r) : Ev scr l d M pc (a0 :: a1 :: a2 :: a3 :: a4 :: a5 :: a6 :: a7 :: a8 :: a9 :: a10 :: a11 :: a12 :: L) (.double x :: st) S r := ev_dstore h (by show 12 < _; simp) (by
  show Ev _ _ _ _ _ (stL2 11 _ _) _ _ _
  rw [stL2_s, stL2_s, stL2_s, stL2_s, stL2_s, stL2_s, stL2_s, stL2_s, stL2_s, stL2_s, stL2_1 _ _ _ _ _ hc]
  exact k)
theorem ev_iincN_11 {n : Int} {x c : Nat} (h : iIns M pc (.iinc 11 n) 3) (hn : Int32.ofInt n = nI c) (hc : clr1 a10 = a10) (k : Ev scr l d M (pc + 3) (a0 :: a1 :: a2 :: a3 :: a4 :: a5 :: a6 :: a7 :: a8 :: a9 :: a10 :: some (.int (nI (x + c))) :: L) st S r) : Ev scr l d M pc (a0 :: a1 :: a2 :: a3 :: a4 :: a5 :: a6 :: a7 :: a8 :: a9 :: a10 :: some (.int (nI x)) :: L) st S r := ev_iincN h hn rfl (by
  show Ev _ _ _ _ _ (stL 11 _ _) _ _ _
  rw [stL_s, stL_s, stL_s, stL_s, stL_s, stL_s, stL_s, stL_s, stL_s, stL_s, stL_1 _ _ _ _ hc]
  exact k)
theorem ev_iinc_11 {n : Int} {x : Int32} (h : iIns M pc (.iinc 11 n) 3) (hc : clr1 a10 = a10) (k : Ev scr l d M (pc + 3) (a0 :: a1 :: a2 :: a3 :: a4 :: a5 :: a6 :: a7 :: a8 :: a9 :: a10 :: some (.int (x + Int32.ofInt n)) :: L) st S r) : Ev scr l d M pc (a0 :: a1 :: a2 :: a3 :: a4 :: a5 :: a6 :: a7 :: a8 :: a9 :: a10 :: some (.int x) :: L) st S r := ev_iinc h rfl (by
  show Ev _ _ _ _ _ (stL 11 _ _) _ _ _
  rw [stL_s, stL_s, stL_s, stL_s, stL_s, stL_s, stL_s, stL_s, stL_s, stL_s, stL_1 _ _ _ _ hc]
  exact k)
theorem ev_ist_12 {x : Int32} (h : iIns M pc (.istore 12) 2) (hc : clr1 a11 = a11) (k : Ev scr l d M (pc + 2) (a0 :: a1 :: a2 :: a3 :: a4 :: a5 :: a6 :: a7 :: a8 :: a9 :: a10 :: a11 :: some (.int x) :: L) st S r) : Ev scr l d M pc (a0 :: a1 :: a2 :: a3 :: a4 :: a5 :: a6 :: a7 :: a8 :: a9 :: a10 :: a11 :: a12 :: L) (.int x :: st) S r := ev_istore h (by show 12 < _; simp) (by
  show Ev _ _ _ _ _ (stL 12 _ _) _ _ _
  rw [stL_s, stL_s, stL_s, stL_s, stL_s, stL_s, stL_s, stL_s, stL_s, stL_s, stL_s, stL_1 _ _ _ _ hc]
  exact k)
theorem ev_ast_12 {x : Nat} (h : iIns M pc (.astore 12) 2) (hc : clr1 a11 = a11) (k : Ev scr l d M (pc + 2) (a0 :: a1 :: a2 :: a3 :: a4 :: a5 :: a6 :: a7 :: a8 :: a9 :: a10 :: a11 :: some (.ref x) :: L) st S r) : Ev scr l d M pc (a0 :: a1 :: a2 :: a3 :: a4 :: a5 :: a6 :: a7 :: a8 :: a9 :: a10 :: a11 :: a12 :: L) (.ref x :: st) S r := ev_astore h (by show 12 < _; simp) (by
  show Ev _ _ _ _ _ (stL 12 _ _) _ _ _
  rw [stL_s, stL_s, stL_s, stL_s, stL_s, stL_s, stL_s, stL_s, stL_s, stL_s, stL_s, stL_1 _ _ _ _ hc]
  exact k)
theorem ev_lst_12 {x : Int64} (h : iIns M pc (.lstore 12) 2) (hc : clr1 a11 = a11) (k : Ev scr l d M (pc + 2) (a0 :: a1 :: a2 :: a3 :: a4 :: a5 :: a6 :: a7 :: a8 :: a9 :: a10 :: a11 :: some (.long x) :: none :: L) st S r) : Ev scr l d M pc (a0 :: a1 :: a2 :: a3 :: a4 :: a5 :: a6 :: a7 :: a8 :: a9 :: a10 :: a11 :: a12 :: a13 :: L) (.long x :: st) S r := ev_lstore h (by show 13 < _; simp) (by
  show Ev _ _ _ _ _ (stL2 12 _ _) _ _ _
  rw [stL2_s, stL2_s, stL2_s, stL2_s, stL2_s, stL2_s, stL2_s, stL2_s, stL2_s, stL2_s, stL2_s, stL2_1 _ _ _ _ _ hc]
  exact k)
theorem ev_dst_12 {x : UInt64} (h : iIns M pc (.dstore 12) 2) (hc : clr1 a11 = a11) (k : Ev scr l d M (pc + 2) (a0 :: a1 :: a2 :: a3 :: a4 :: a5 :: a6 :: a7 :: a8 :: a9 :: a10 :: a11 :: some (.double x) :: none :: L) st S r) : Ev scr l d M pc (a0 :: a1 :: a2 :: a3 :: a4 :: a5 :: a6 :: a7 :: a8 :: a9 :: a10 :: a11 :: a12 :: a13 :: L) (.double x :: st) S r := ev_dstore h (by show 13 < _; simp) (by
  show Ev _ _ _ _ _ (stL2 12 _ _) _ _ _
  rw [stL2_s, stL2_s, stL2_s, stL2_s, stL2_s, stL2_s, stL2_s, stL2_s, stL2_s, stL2_s, stL2_s, stL2_1 _ _ _ _ _ hc]
  exact k)
theorem ev_iincN_12 {n : Int} {x c : Nat} (h : iIns M pc (.iinc 12 n) 3) (hn : Int32.ofInt n = nI c) (hc : clr1 a11 = a11) (k : Ev scr l d M (pc + 3) (a0 :: a1 :: a2 :: a3 :: a4 :: a5 :: a6 :: a7 :: a8 :: a9 :: a10 :: a11 :: some (.int (nI (x + c))) :: L) st S r) : Ev scr l d M pc (a0 :: a1 :: a2 :: a3 :: a4 :: a5 :: a6 :: a7 :: a8 :: a9 :: a10 :: a11 :: some (.int (nI x)) :: L) st S r := ev_iincN h hn rfl (by
  show Ev _ _ _ _ _ (stL 12 _ _) _ _ _
  rw [stL_s, stL_s, stL_s, stL_s, stL_s, stL_s, stL_s, stL_s, stL_s, stL_s, stL_s, stL_1 _ _ _ _ hc]
  exact k)
theorem ev_iinc_12 {n : Int} {x : Int32} (h : iIns M pc (.iinc 12 n) 3) (hc : clr1 a11 = a11) (k : Ev scr l d M (pc + 3) (a0 :: a1 :: a2 :: a3 :: a4 :: a5 :: a6 :: a7 :: a8 :: a9 :: a10 :: a11 :: some (.int (x + Int32.ofInt n)) :: L) st S r) : Ev scr l d M pc (a0 :: a1 :: a2 :: a3 :: a4 :: a5 :: a6 :: a7 :: a8 :: a9 :: a10 :: a11 :: some (.int x) :: L) st S r := ev_iinc h rfl (by
  show Ev _ _ _ _ _ (stL 12 _ _) _ _ _
  rw [stL_s, stL_s, stL_s, stL_s, stL_s, stL_s, stL_s, stL_s, stL_s, stL_s, stL_s, stL_1 _ _ _ _ hc]
  exact k)
theorem ev_ist_13 {x : Int32} (h : iIns M pc (.istore 13) 2) (hc : clr1 a12 = a12) (k : Ev scr l d M (pc + 2) (a0 :: a1 :: a2 :: a3 :: a4 :: a5 :: a6 :: a7 :: a8 :: a9 :: a10 :: a11 :: a12 :: some (.int x) :: L) st S r) : Ev scr l d M pc (a0 :: a1 :: a2 :: a3 :: a4 :: a5 :: a6 :: a7 :: a8 :: a9 :: a10 :: a11 :: a12 :: a13 :: L) (.int x :: st) S r := ev_istore h (by show 13 < _; simp) (by
  show Ev _ _ _ _ _ (stL 13 _ _) _ _ _
  rw [stL_s, stL_s, stL_s, stL_s, stL_s, stL_s, stL_s, stL_s, stL_s, stL_s, stL_s, stL_s, stL_1 _ _ _ _ hc]
  exact k)
theorem ev_ast_13 {x : Nat} (h : iIns M pc (.astore 13) 2) (hc : clr1 a12 = a12) (k : Ev scr l d M (pc + 2) (a0 :: a1 :: a2 :: a3 :: a4 :: a5 :: a6 :: a7 :: a8 :: a9 :: a10 :: a11 :: a12 :: some (.ref x) :: L) st S r) : Ev scr l d M pc (a0 :: a1 :: a2 :: a3 :: a4 :: a5 :: a6 :: a7 :: a8 :: a9 :: a10 :: a11 :: a12 :: a13 :: L) (.ref x :: st) S r := ev_astore h (by show 13 < _; simp) (by
  show Ev _ _ _ _ _ (stL 13 _ _) _ _ _
  rw [stL_s, stL_s, stL_s, stL_s, stL_s, stL_s, stL_s, stL_s, stL_s, stL_s, stL_s, stL_s, stL_1 _ _ _ _ hc]
  exact k)
theorem ev_lst_13 {x : Int64} (h : iIns M pc (.lstore 13) 2) (hc : clr1 a12 = a12) (k : Ev scr l d M (pc + 2) (a0 :: a1 :: a2 :: a3 :: a4 :: a5 :: a6 :: a7 :: a8 :: a9 :: a10 :: a11 :: a12 :: some (.long x) :: none :: L) st S r) : Ev scr l d M pc (a0 :: a1 :: a2 :: a3 :: a4 :: a5 :: a6 :: a7 :: a8 :: a9 :: a10 :: a11 :: a12 :: a13 :: a14 :: L) (.long x :: st) S r := ev_lstore h (by show 14 < _; simp) (by
  show Ev _ _ _ _ _ (stL2 13 _ _) _ _ _
  rw [stL2_s, stL2_s, stL2_s, stL2_s, stL2_s, stL2_s, stL2_s, stL2_s, stL2_s, stL2_s, stL2_s, stL2_s, stL2_1 _ _ _ _ _ hc]
  exact k)
theorem ev_dst_13 {x : UInt64} (h : iIns M pc (.dstore 13) 2) (hc : clr1 a12 = a12) (k : Ev scr l d M (pc + 2) (a0 :: a1 :: a2 :: a3 :: a4 :: a5 :: a6 :: a7 :: a8 :: a9 :: a10 :: a11 :: a12 :: some (.double x) :: none :: L) st S r) : Ev scr l d M pc (a0 :: a1 :: a2 :: a3 :: a4 :: a5 :: a6 :: a7 :: a8 :: a9 :: a10 :: a11 :: a12 :: a13 :: a14 :: L) (.double x :: st) S r := ev_dstore h (by show 14 < _; simp) (by
  show Ev _ _ _ _ _ (stL2 13 _ _) _ _ _
  rw [stL2_s, stL2_s, stL2_s, stL2_s, stL2_s, stL2_s, stL2_s, stL2_s, stL2_s, stL2_s, stL2_s, stL2_s, stL2_1 _ _ _ _ _ hc]
  exact k)
theorem ev_iincN_13 {n : Int} {x c : Nat} (h : iIns M pc (.iinc 13 n) 3) (hn : Int32.ofInt n = nI c) (hc : clr1 a12 = a12) (k : Ev scr l d M (pc + 3) (a0 :: a1 :: a2 :: a3 :: a4 :: a5 :: a6 :: a7 :: a8 :: a9 :: a10 :: a11 :: a12 :: some (.int (nI (x + c))) :: L) st S r) : Ev scr l d M pc (a0 :: a1 :: a2 :: a3 :: a4 :: a5 :: a6 :: a7 :: a8 :: a9 :: a10 :: a11 :: a12 :: some (.int (nI x)) :: L) st S r := ev_iincN h hn rfl (by
  show Ev _ _ _ _ _ (stL 13 _ _) _ _ _
  rw [stL_s, stL_s, stL_s, stL_s, stL_s, stL_s, stL_s, stL_s, stL_s, stL_s, stL_s, stL_s, stL_1 _ _ _ _ hc]
  exact k)
theorem ev_iinc_13 {n : Int} {x : Int32} (h : iIns M pc (.iinc 13 n) 3) (hc : clr1 a12 = a12) (k : Ev scr l d M (pc + 3) (a0 :: a1 :: a2 :: a3 :: a4 :: a5 :: a6 :: a7 :: a8 :: a9 :: a10 :: a11 :: a12 :: some (.int (x + Int32.ofInt n)) :: L) st S r) : Ev scr l d M pc (a0 :: a1 :: a2 :: a3 :: a4 :: a5 :: a6 :: a7 :: a8 :: a9 :: a10 :: a11 :: a12 :: some (.int x) :: L) st S r := ev_iinc h rfl (by
  show Ev _ _ _ _ _ (stL 13 _ _) _ _ _
  rw [stL_s, stL_s, stL_s, stL_s, stL_s, stL_s, stL_s, stL_s, stL_s, stL_s, stL_s, stL_s, stL_1 _ _ _ _ hc]
  exact k)
theorem ev_ist_14 {x : Int32} (h : iIns M pc (.istore 14) 2) (hc : clr1 a13 = a13) (k : Ev scr l d M (pc + 2) (a0 :: a1 :: a2 :: a3 :: a4 :: a5 :: a6 :: a7 :: a8 :: a9 :: a10 :: a11 :: a12 :: a13 :: some (.int x) :: L) st S r) : Ev scr l d M pc (a0 :: a1 :: a2 :: a3 :: a4 :: a5 :: a6 :: a7 :: a8 :: a9 :: a10 :: a11 :: a12 :: a13 :: a14 :: L) (.int x :: st) S r := ev_istore h (by show 14 < _; simp) (by
  show Ev _ _ _ _ _ (stL 14 _ _) _ _ _
  rw [stL_s, stL_s, stL_s, stL_s, stL_s, stL_s, stL_s, stL_s, stL_s, stL_s, stL_s, stL_s, stL_s, stL_1 _ _ _ _ hc]
  exact k)
theorem ev_ast_14 {x : Nat} (h : iIns M pc (.astore 14) 2) (hc : clr1 a13 = a13) (k : Ev scr l d M (pc + 2) (a0 :: a1 :: a2 :: a3 :: a4 :: a5 :: a6 :: a7 :: a8 :: a9 :: a10 :: a11 :: a12 :: a13 :: some (.ref x) :: L) st S r) : Ev scr l d M pc (a0 :: a1 :: a2 :: a3 :: a4 :: a5 :: a6 :: a7 :: a8 :: a9 :: a10 :: a11 :: a12 :: a13 :: a14 :: L) (.ref x :: st) S r := ev_astore h (by show 14 < _; simp) (by
  show Ev _ _ _ _ _ (stL 14 _ _) _ _ _
  rw [stL_s, stL_s, stL_s, stL_s, stL_s, stL_s, stL_s, stL_s, stL_s, stL_s, stL_s, stL_s, stL_s, stL_1 _ _ _ _ hc]
  exact k)
theorem ev_lst_14 {x : Int64} (h : iIns M pc (.lstore 14) 2) (hc : clr1 a13 = a13) (k : Ev scr l d M (pc + 2) (a0 :: a1 :: a2 :: a3 :: a4 :: a5 :: a6 :: a7 :: a8 :: a9 :: a10 :: a11 :: a12 :: a13 :: some (.long x) :: none :: L) st S r) : Ev scr l d M pc (a0 :: a1 :: a2 :: a3 :: a4 :: a5 :: a6 :: a7 :: a8 :: a9 :: a10 :: a11 :: a12 :: a13 :: a14 :: a15 :: L) (.long x :: st) S r := ev_lstore h (by show 15 < _; simp) (by
  show Ev _ _ _ _ _ (stL2 14 _ _) _ _ _
  rw [stL2_s, stL2_s, stL2_s, stL2_s, stL2_s, stL2_s, stL2_s, stL2_s, stL2_s, stL2_s, stL2_s, stL2_s, stL2_s, stL2_1 _ _ _ _ _ hc]
  exact k)
theorem ev_dst_14 {x : UInt64} (h : iIns M pc (.dstore 14) 2) (hc : clr1 a13 = a13) (k : Ev scr l d M (pc + 2) (a0 :: a1 :: a2 :: a3 :: a4 :: a5 :: a6 :: a7 :: a8 :: a9 :: a10 :: a11 :: a12 :: a13 :: some (.double x) :: none :: L) st S r) : Ev scr l d M pc (a0 :: a1 :: a2 :: a3 :: a4 :: a5 :: a6 :: a7 :: a8 :: a9 :: a10 :: a11 :: a12 :: a13 :: a14 :: a15 :: L) (.double x :: st) S r := ev_dstore h (by show 15 < _; simp) (by
  show Ev _ _ _ _ _ (stL2 14 _ _) _ _ _
  rw [stL2_s, stL2_s, stL2_s, stL2_s, stL2_s, stL2_s, stL2_s, stL2_s, stL2_s, stL2_s, stL2_s, stL2_s, stL2_s, stL2_1 _ _ _ _ _ hc]
  exact k)
theorem ev_iincN_14 {n : Int} {x c : Nat} (h : iIns M pc (.iinc 14 n) 3) (hn : Int32.ofInt n = nI c) (hc : clr1 a13 = a13) (k : Ev scr l d M (pc + 3) (a0 :: a1 :: a2 :: a3 :: a4 :: a5 :: a6 :: a7 :: a8 :: a9 :: a10 :: a11 :: a12 :: a13 :: some (.int (nI (x + c))) :: L) st S r) : Ev scr l d M pc (a0 :: a1 :: a2 :: a3 :: a4 :: a5 :: a6 :: a7 :: a8 :: a9 :: a10 :: a11 :: a12 :: a13 :: some (.int (nI x)) :: L) st S r := ev_iincN h hn rfl (by
  show Ev _ _ _ _ _ (stL 14 _ _) _ _ _
  rw [stL_s, stL_s, stL_s, stL_s, stL_s, stL_s, stL_s, stL_s, stL_s, stL_s, stL_s, stL_s, stL_s, stL_1 _ _ _ _ hc]
  exact k)
theorem ev_iinc_14 {n : Int} {x : Int32} (h : iIns M pc (.iinc 14 n) 3) (hc : clr1 a13 = a13) (k : Ev scr l d M (pc + 3) (a0 :: a1 :: a2 :: a3 :: a4 :: a5 :: a6 :: a7 :: a8 :: a9 :: a10 :: a11 :: a12 :: a13 :: some (.int (x + Int32.ofInt n)) :: L) st S r) : Ev scr l d M pc (a0 :: a1 :: a2 :: a3 :: a4 :: a5 :: a6 :: a7 :: a8 :: a9 :: a10 :: a11 :: a12 :: a13 :: some (.int x) :: L) st S r := ev_iinc h rfl (by
  show Ev _ _ _ _ _ (stL 14 _ _) _ _ _
  rw [stL_s, stL_s, stL_s, stL_s, stL_s, stL_s, stL_s, stL_s, stL_s, stL_s, stL_s, stL_s, stL_s, stL_1 _ _ _ _ hc]
  exact k)
theorem ev_ist_15 {x : Int32} (h : iIns M pc (.istore 15) 2) (hc : clr1 a14 = a14) (k : Ev scr l d M (pc + 2) (a0 :: a1 :: a2 :: a3 :: a4 :: a5 :: a6 :: a7 :: a8 :: a9 :: a10 :: a11 :: a12 :: a13 :: a14 :: some (.int x) :: L) st S r) : Ev scr l d M pc (a0 :: a1 :: a2 :: a3 :: a4 :: a5 :: a6 :: a7 :: a8 :: a9 :: a10 :: a11 :: a12 :: a13 :: a14 :: a15 :: L) (.int x :: st) S r := ev_istore h (by show 15 < _; simp) (by
  show Ev _ _ _ _ _ (stL 15 _ _) _ _ _
  rw [stL_s, stL_s, stL_s, stL_s, stL_s, stL_s, stL_s, stL_s, stL_s, stL_s, stL_s, stL_s, stL_s, stL_s, stL_1 _ _ _ _ hc]
  exact k)
theorem ev_ast_15 {x : Nat} (h : iIns M pc (.astore 15) 2) (hc : clr1 a14 = a14) (k : Ev scr l d M (pc + 2) (a0 :: a1 :: a2 :: a3 :: a4 :: a5 :: a6 :: a7 :: a8 :: a9 :: a10 :: a11 :: a12 :: a13 :: a14 :: some (.ref x) :: L) st S r) : Ev scr l d M pc (a0 :: a1 :: a2 :: a3 :: a4 :: a5 :: a6 :: a7 :: a8 :: a9 :: a10 :: a11 :: a12 :: a13 :: a14 :: a15 :: L) (.ref x :: st) S r := ev_astore h (by show 15 < _; simp) (by
  show Ev _ _ _ _ _ (stL 15 _ _) _ _ _
  rw [stL_s, stL_s, stL_s, stL_s, stL_s, stL_s, stL_s, stL_s, stL_s, stL_s, stL_s, stL_s, stL_s, stL_s, stL_1 _ _ _ _ hc]
  exact k)
theorem ev_lst_15 {x : Int64} (h : iIns M pc (.lstore 15) 2) (hc : clr1 a14 = a14) (k : Ev scr l d M (pc + 2) (a0 :: a1 :: a2 :: a3 :: a4 :: a5 :: a6 :: a7 :: a8 :: a9 :: a10 :: a11 :: a12 :: a13 :: a14 :: some (.long x) :: none :: L) st S r) : Ev scr l d M pc (a0 :: a1 :: a2 :: a3 :: a4 :: a5 :: a6 :: a7 :: a8 :: a9 :: a10 :: a11 :: a12 :: a13 :: a14 :: a15 :: a16 :: L) (.long x :: st) S r := ev_lstore h (by show 16 < _; simp) (by
  show Ev _ _ _ _ _ (stL2 15 _ _) _ _ _
  rw [stL2_s, stL2_s, stL2_s, stL2_s, stL2_s, stL2_s, stL2_s, stL2_s, stL2_s, stL2_s, stL2_s, stL2_s, stL2_s, stL2_s, stL2_1 _ _ _ _ _ hc]
  exact k)
theorem ev_dst_15 {x : UInt64} (h : iIns M pc (.dstore 15) 2) (hc : clr1 a14 = a14) (k : Ev scr l d M (pc + 2) (a0 :: a1 :: a2 :: a3 :: a4 :: a5 :: a6 :: a7 :: a8 :: a9 :: a10 :: a11 :: a12 :: a13 :: a14 :: some (.double x) :: none :: L) st S r) : Ev scr l d M pc (a0 :: a1 :: a2 :: a3 :: a4 :: a5 :: a6 :: a7 :: a8 :: a9 :: a10 :: a11 :: a12 :: a13 :: a14 :: a15 :: a16 :: L) (.double x :: st) S r := ev_dstore h (by show 16 < _; simp) (by
  show Ev _ _ _ _ _ (stL2 15 _ _) _ _ _
  rw [stL2_s, stL2_s, stL2_s, stL2_s, stL2_s, stL2_s, stL2_s, stL2_s, stL2_s, stL2_s, stL2_s, stL2_s, stL2_s, stL2_s, stL2_1 _ _ _ _ _ hc]
  exact k)
theorem ev_iincN_15 {n : Int} {x c : Nat} (h : iIns M pc (.iinc 15 n) 3) (hn : Int32.ofInt n = nI c) (hc : clr1 a14 = a14) (k : Ev scr l d M (pc + 3) (a0 :: a1 :: a2 :: a3 :: a4 :: a5 :: a6 :: a7 :: a8 :: a9 :: a10 :: a11 :: a12 :: a13 :: a14 :: some (.int (nI (x + c))) :: L) st S r) : Ev scr l d M pc (a0 :: a1 :: a2 :: a3 :: a4 :: a5 :: a6 :: a7 :: a8 :: a9 :: a10 :: a11 :: a12 :: a13 :: a14 :: some (.int (nI x)) :: L) st S r := ev_iincN h hn rfl (by
  show Ev _ _ _ _ _ (stL 15 _ _) _ _ _
  rw [stL_s, stL_s, stL_s, stL_s, stL_s, stL_s, stL_s, stL_s, stL_s, stL_s, stL_s, stL_s, stL_s, stL_s, stL_1 _ _ _ _ hc]
  exact k)
theorem ev_iinc_15 {n : Int} {x : Int32} (h : iIns M pc (.iinc 15 n) 3) (hc : clr1 a14 = a14) (k : Ev scr l d M (pc + 3) (a0 :: a1 :: a2 :: a3 :: a4 :: a5 :: a6 :: a7 :: a8 :: a9 :: a10 :: a11 :: a12 :: a13 :: a14 :: some (.int (x + Int32.ofInt n)) :: L) st S r) : Ev scr l d M pc (a0 :: a1 :: a2 :: a3 :: a4 :: a5 :: a6 :: a7 :: a8 :: a9 :: a10 :: a11 :: a12 :: a13 :: a14 :: some (.int x) :: L) st S r := ev_iinc h rfl (by
  show Ev _ _ _ _ _ (stL 15 _ _) _ _ _
  rw [stL_s, stL_s, stL_s, stL_s, stL_s, stL_s, stL_s, stL_s, stL_s, stL_s, stL_s, stL_s, stL_s, stL_s, stL_1 _ _ _ _ hc]
  exact k)
theorem ev_ist_16 {x : Int32} (h : iIns M pc (.istore 16) 2) (hc : clr1 a15 = a15) (k : Ev scr l d M (pc + 2) (a0 :: a1 :: a2 :: a3 :: a4 :: a5 :: a6 :: a7 :: a8 :: a9 :: a10 :: a11 :: a12 :: a13 :: a14 :: a15 :: some (.int x) :: L) st S r) : Ev scr l d M pc (a0 :: a1 :: a2 :: a3 :: a4 :: a5 :: a6 :: a7 :: a8 :: a9 :: a10 :: a11 :: a12 :: a13 :: a14 :: a15 :: a16 :: L) (.int x :: st) S r := ev_istore h (by show 16 < _; simp) (by
  show Ev _ _ _ _ _ (stL 16 _ _) _ _ _
  rw [stL_s, stL_s, stL_s, stL_s, stL_s, stL_s, stL_s, stL_s, stL_s, stL_s, stL_s, stL_s, stL_s, stL_s, stL_s, stL_1 _ _ _ _ hc]
  exact k)
theorem ev_ast_16 {x : Nat} (h : iIns M pc (.astore 16) 2) (hc : clr1 a15 = a15) (k : Ev scr l d M (pc + 2) (a0 :: a1 :: a2 :: a3 :: a4 :: a5 :: a6 :: a7 :: a8 :: a9 :: a10 :: a11 :: a12 :: a13 :: a14 :: a15 :: some (.ref x) :: L) st S r) : Ev scr l d M pc (a0 :: a1 :: a2 :: a3 :: a4 :: a5 :: a6 :: a7 :: a8 :: a9 :: a10 :: a11 :: a12 :: a13 :: a14 :: a15 :: a16 :: L) (.ref x :: st) S r := ev_astore h (by show 16 < _; simp) (by
  show Ev _ _ _ _ _ (stL 16 _ _) _ _ _
  rw [stL_s, stL_s, stL_s, stL_s, stL_s, stL_s, stL_s, stL_s, stL_s, stL_s, stL_s, stL_s, stL_s, stL_s, stL_s, stL_1 _ _ _ _ hc]
  exact k)
theorem ev_lst_16 {x : Int64} (h : iIns M pc (.lstore 16) 2) (hc : clr1 a15 = a15) (k : Ev scr l d M (pc + 2) (a0 :: a1 :: a2 :: a3 :: a4 :: a5 :: a6 :: a7 :: a8 :: a9 :: a10 :: a11 :: a12 :: a13 :: a14 :: a15 :: some (.long x) :: none :: L) st S r) : Ev scr l d M pc (a0 :: a1 :: a2 :: a3 :: a4 :: a5 :: a6 :: a7 :: a8 :: a9 :: a10 :: a11 :: a12 :: a13 :: a14 :: a15 :: a16 :: a17 :: L) (.long x :: st) S r := ev_lstore h (by show 17 < _; simp) (by
  show Ev _ _ _ _ _ (stL2 16 _ _) _ _ _
  rw [stL2_s, stL2_s, stL2_s, stL2_s, stL2_s, stL2_s, stL2_s, stL2_s, stL2_s, stL2_s, stL2_s, stL2_s, stL2_s, stL2_s, stL2_s, stL2_1 _ _ _ _ _ hc]
  exact k)
theorem ev_dst_16 {x : UInt64} (h : iIns M pc (.dstore 16) 2) (hc : clr1 a15 = a15) (k : Ev scr l d M (pc + 2) (a0 :: a1 :: a2 :: a3 :: a4 :: a5 :: a6 :: a7 :: a8 :: a9 :: a10 :: a11 :: a12 :: a13 :: a14 :: a15 :: some (.double x) :: none :: L) st S r) : Ev scr l d M pc (a0 :: a1 :: a2 :: a3 :: a4 :: a5 :: a6 :: a7 :: a8 :: a9 :: a10 :: a11 :: a12 :: a13 :: a14 :: a15 :: a16 :: a17 :: L) (.double x :: st) S r := ev_dstore h (by show 17 < _; simp) (by
  show Ev _ _ _ _ _ (stL2 16 _ _) _ _ _
  rw [stL2_s, stL2_s, stL2_s, stL2_s, stL2_s, stL2_s, stL2_s, stL2_s, stL2_s, stL2_s, stL2_s, stL2_s, stL2_s, stL2_s, stL2_s, stL2_1 _ _ _ _ _ hc]
  exact k)
theorem ev_iincN_16 {n : Int} {x c : Nat} (h : iIns M pc (.iinc 16 n) 3) (hn : Int32.ofInt n = nI c) (hc : clr1 a15 = a15) (k : Ev scr l d M (pc + 3) (a0 :: a1 :: a2 :: a3 :: a4 :: a5 :: a6 :: a7 :: a8 :: a9 :: a10 :: a11 :: a12 :: a13 :: a14 :: a15 :: some (.int (nI (x + c))) :: L) st S r) : Ev scr l d M pc (a0 :: a1 :: a2 :: a3 :: a4 :: a5 :: a6 :: a7 :: a8 :: a9 :: a10 :: a11 :: a12 :: a13 :: a14 :: a15 :: some (.int (nI x)) :: L) st S r := ev_iincN h hn rfl (by
  show Ev _ _ _ _ _ (stL 16 _ _) _ _ _
  rw [stL_s, stL_s, stL_s, stL_s, stL_s, stL_s, stL_s, stL_s, stL_s, stL_s, stL_s, stL_s, stL_s, stL_s, stL_s, stL_1 _ _ _ _ hc]
  exact k)
theorem ev_iinc_16 {n : Int} {x : Int32} (h : iIns M pc (.iinc 16 n) 3) (hc : clr1 a15 = a15) (k : Ev scr l d M (pc + 3) (a0 :: a1 :: a2 :: a3 :: a4 :: a5 :: a6 :: a7 :: a8 :: a9 :: a10 :: a11 :: a12 :: a13 :: a14 :: a15 :: some (.int (x + Int32.ofInt n)) :: L) st S r) : Ev scr l d M pc (a0 :: a1 :: a2 :: a3 :: a4 :: a5 :: a6 :: a7 :: a8 :: a9 :: a10 :: a11 :: a12 :: a13 :: a14 :: a15 :: some (.int x) :: L) st S r := ev_iinc h rfl (by
  show Ev _ _ _ _ _ (stL 16 _ _) _ _ _
  rw [stL_s, stL_s, stL_s, stL_s, stL_s, stL_s, stL_s, stL_s, stL_s, stL_s, stL_s, stL_s, stL_s, stL_s, stL_s, stL_1 _ _ _ _ hc]
  exact k)
theorem ev_ist_17 {x : Int32} (h : iIns M pc (.istore 17) 2) (hc : clr1 a16 = a16) (k : Ev scr l d M (pc + 2) (a0 :: a1 :: a2 :: a3 :: a4 :: a5 :: a6 :: a7 :: a8 :: a9 :: a10 :: a11 :: a12 :: a13 :: a14 :: a15 :: a16 :: some (.int x) :: L) st S r) : Ev scr l d M pc (a0 :: a1 :: a2 :: a3 :: a4 :: a5 :: a6 :: a7 :: a8 :: a9 :: a10 :: a11 :: a12 :: a13 :: a14 :: a15 :: a16 :: a17 :: L) (.int x :: st) S r := ev_istore h (by show 17 < _; simp) (by
  show Ev _ _ _ _ _ (stL 17 _ _) _ _ _
  rw [stL_s, stL_s, stL_s, stL_s, stL_s, stL_s, stL_s, stL_s, stL_s, stL_s, stL_s, stL_s, stL_s, stL_s, stL_s, stL_s, stL_1 _ _ _ _ hc]
  exact k)
theorem ev_ast_17 {x : Nat} (h : iIns M pc (.astore 17) 2) (hc : clr1 a16 = a16) (k : Ev scr l d M (pc + 2) (a0 :: a1 :: a2 :: a3 :: a4 :: a5 :: a6 :: a7 :: a8 :: a9 :: a10 :: a11 :: a12 :: a13 :: a14 :: a15 :: a16 :: some (.ref x) :: L) st S r) : Ev scr l d M pc (a0 :: a1 :: a2 :: a3 :: a4 :: a5 :: a6 :: a7 :: a8 :: a9 :: a10 :: a11 :: a12 :: a13 :: a14 :: a15 :: a16 :: a17 :: L) (.ref x :: st) S r := ev_astore h (by show 17 < _; simp) (by
  show Ev _ _ _ _ _ (stL 17 _ _) _ _ _
  rw [stL_s, stL_s, stL_s, stL_s, stL_s, stL_s, stL_s, stL_s, stL_s, stL_s, stL_s, stL_s, stL_s, stL_s, stL_s, stL_s, stL_1 _ _ _ _ hc]
  exact k)
theorem ev_lst_17 {x : Int64} (h : iIns M pc (.lstore 17) 2) (hc : clr1 a16 = a16) (k : Ev scr l d M (pc + 2) (a0 :: a1 :: a2 :: a3 :: a4 :: a5 :: a6 :: a7 :: a8 :: a9 :: a10 :: a11 :: a12 :: a13 :: a14 :: a15 :: a16 :: some (.long x) :: none :: L) st S r) : Ev scr l d M pc (a0 :: a1 :: a2 :: a3 :: a4 :: a5 :: a6 :: a7 :: a8 :: a9 :: a10 :: a11 :: a12 :: a13 :: a14 :: a15 :: a16 :: a17 :: a18 :: L) (.long x :: st) S r := ev_lstore h (by show 18 < _; simp) (by
  show Ev _ _ _ _ _ (stL2 17 _ _) _ _ _
  rw [stL2_s, stL2_s, stL2_s, stL2_s, stL2_s, stL2_s, stL2_s, stL2_s, stL2_s, stL2_s, stL2_s, stL2_s, stL2_s, stL2_s, stL2_s, stL2_s, stL2_1 _ _ _ _ _ hc]
  exact k)
theorem ev_dst_17 {x : UInt64} (h : iIns M pc (.dstore 17) 2) (hc : clr1 a16 = a16) (k : Ev scr l d M (pc + 2) (a0 :: a1 :: a2 :: a3 :: a4 :: a5 :: a6 :: a7 :: a8 :: a9 :: a10 :: a11 :: a12 :: a13 :: a14 :: a15 :: a16 :: some (.double x) :: none :: L) st S r) : Ev scr l d M pc (a0 :: a1 :: a2 :: a3 :: a4 :: a5 :: a6 :: a7 :: a8 :: a9 :: a10 :: a11 :: a12 :: a13 :: a14 :: a15 :: a16 :: a17 :: a18 :: L) (.double x :: st) S r := ev_dstore h (by show 18 < _; simp) (by
  show Ev _ _ _ _ _ (stL2 17 _ _) _ _ _
  rw [stL2_s, stL2_s, stL2_s, stL2_s, stL2_s, stL2_s, stL2_s, stL2_s, stL2_s, stL2_s, stL2_s, stL2_s, stL2_s, stL2_s, stL2_s, stL2_s, stL2_1 _ _ _ _ _ hc]
  exact k)
theorem ev_iincN_17 {n : Int} {x c : Nat} (h : iIns M pc (.iinc 17 n) 3) (hn : Int32.ofInt n = nI c) (hc : clr1 a16 = a16) (k : Ev scr l d M (pc + 3) (a0 :: a1 :: a2 :: a3 :: a4 :: a5 :: a6 :: a7 :: a8 :: a9 :: a10 :: a11 :: a12 :: a13 :: a14 :: a15 :: a16 :: some (.int (nI (x + c))) :: L) st S r) : Ev scr l d M pc (a0 :: a1 :: a2 :: a3 :: a4 :: a5 :: a6 :: a7 :: a8 :: a9 :: a10 :: a11 :: a12 :: a13 :: a14 :: a15 :: a16 :: some (.int (nI x)) :: L) st S r := ev_iincN h hn rfl (by
  show Ev _ _ _ _ _ (stL 17 _ _) _ _ _
  rw [stL_s, stL_s, stL_s, stL_s, stL_s, stL_s, stL_s, stL_s, stL_s, stL_s, stL_s, stL_s, stL_s, stL_s, stL_s, stL_s, stL_1 _ _ _ _ hc]
  exact k)
theorem ev_iinc_17 {n : Int} {x : Int32} (h : iIns M pc (.iinc 17 n) 3) (hc : clr1 a16 = a16) (k : Ev scr l d M (pc + 3) (a0 :: a1 :: a2 :: a3 :: a4 :: a5 :: a6 :: a7 :: a8 :: a9 :: a10 :: a11 :: a12 :: a13 :: a14 :: a15 :: a16 :: some (.int (x + Int32.ofInt n)) :: L) st S r) : Ev scr l d M pc (a0 :: a1 :: a2 :: a3 :: a4 :: a5 :: a6 :: a7 :: a8 :: a9 :: a10 :: a11 :: a12 :: a13 :: a14 :: a15 :: a16 :: some (.int x) :: L) st S r := ev_iinc h rfl (by
  show Ev _ _ _ _ _ (stL 17 _ _) _ _ _
  rw [stL_s, stL_s, stL_s, stL_s, stL_s, stL_s, stL_s, stL_s, stL_s, stL_s, stL_s, stL_s, stL_s, stL_s, stL_s, stL_s, stL_1 _ _ _ _ hc]
  exact k)
theorem ev_ist_18 {x : Int32} (h : iIns M pc (.istore 18) 2) (hc : clr1 a17 = a17) (k : Ev scr l d M (pc + 2) (a0 :: a1 :: a2 :: a3 :: a4 :: a5 :: a6 :: a7 :: a8 :: a9 :: a10 :: a11 :: a12 :: a13 :: a14 :: a15 :: a16 :: a17 :: some (.int x) :: L) st S r) : Ev scr l d M pc (a0 :: a1 :: a2 :: a3 :: a4 :: a5 :: a6 :: a7 :: a8 :: a9 :: a10 :: a11 :: a12 :: a13 :: a14 :: a15 :: a16 :: a17 :: a18 :: L) (.int x :: st) S r := ev_istore h (by show 18 < _; simp) (by
  show Ev _ _ _ _ _ (stL 18 _ _) _ _ _
  rw [stL_s, stL_s, stL_s, stL_s, stL_s, stL_s, stL_s, stL_s, stL_s, stL_s, stL_s, stL_s, stL_s, stL_s, stL_s, stL_s, stL_s, stL_1 _ _ _ _ hc]
  exact k)
theorem ev_ast_18 {x : Nat} (h : iIns M pc (.astore 18) 2) (hc : clr1 a17 = a17) (k : Ev scr l d M (pc + 2) (a0 :: a1 :: a2 :: a3 :: a4 :: a5 :: a6 :: a7 :: a8 :: a9 :: a10 :: a11 :: a12 :: a13 :: a14 :: a15 :: a16 :: a17 :: some (.ref x) :: L) st S r) : Ev scr l d M pc (a0 :: a1 :: a2 :: a3 :: a4 :: a5 :: a6 :: a7 :: a8 :: a9 :: a10 :: a11 :: a12 :: a13 :: a14 :: a15 :: a16 :: a17 :: a18 :: L) (.ref x :: st) S r := ev_astore h (by show 18 < _; simp) (by
  show Ev _ _ _ _ _ (stL 18 _ _) _ _ _
  rw [stL_s, stL_s, stL_s, stL_s, stL_s, stL_s, stL_s, stL_s, stL_s, stL_s, stL_s, stL_s, stL_s, stL_s, stL_s, stL_s, stL_s, stL_1 _ _ _ _ hc]
  exact k)
theorem ev_lst_18 {x : Int64} (h : iIns M pc (.lstore 18) 2) (hc : clr1 a17 = a17) (k : Ev scr l d M (pc + 2) (a0 :: a1 :: a2 :: a3 :: a4 :: a5 :: a6 :: a7 :: a8 :: a9 :: a10 :: a11 :: a12 :: a13 :: a14 :: a15 :: a16 :: a17 :: some (.long x) :: none :: L) st S r) : Ev scr l d M pc (a0 :: a1 :: a2 :: a3 :: a4 :: a5 :: a6 :: a7 :: a8 :: a9 :: a10 :: a11 :: a12 :: a13 :: a14 :: a15 :: a16 :: a17 :: a18 :: a19 :: L) (.long x :: st) S r := ev_lstore h (by show 19 < _; simp) (by
  show Ev _ _ _ _ _ (stL2 18 _ _) _ _ _
  rw [stL2_s, stL2_s, stL2_s, stL2_s, stL2_s, stL2_s, stL2_s, stL2_s, stL2_s, stL2_s, stL2_s, stL2_s, stL2_s, stL2_s, stL2_s, stL2_s, stL2_s, stL2_1 _ _ _ _ _ hc]
  exact k)
theorem ev_dst_18 {x : UInt64} (h : iIns M pc (.dstore 18) 2) (hc : clr1 a17 = a17) (k : Ev scr l d M (pc + 2) (a0 :: a1 :: a2 :: a3 :: a4 :: a5 :: a6 :: a7 :: a8 :: a9 :: a10 :: a11 :: a12 :: a13 :: a14 :: a15 :: a16 :: a17 :: some (.double x) :: none :: L) st S r) : Ev scr l d M pc (a0 :: a1 :: a2 :: a3 :: a4 :: a5 :: a6 :: a7 :: a8 :: a9 :: a10 :: a11 :: a12 :: a13 :: a14 :: a15 :: a16 :: a17 :: a18 :: a19 :: L) (.double x :: st) S r := ev_dstore h (by show 19 < _; simp) (by
  show Ev _ _ _ _ _ (stL2 18 _ _) _ _ _
  rw [stL2_s, stL2_s, stL2_s, stL2_s, stL2_s, stL2_s, stL2_s, stL2_s, stL2_s, stL2_s, stL2_s, stL2_s, stL2_s, stL2_s, stL2_s, stL2_s, stL2_s, stL2_1 _ _ _ _ _ hc]
  exact k)
theorem ev_iincN_18 {n : Int} {x c : Nat} (h : iIns M pc (.iinc 18 n) 3) (hn : Int32.ofInt n = nI c) (hc : clr1 a17 = a17) (k : Ev scr l d M (pc + 3) (a0 :: a1 :: a2 :: a3 :: a4 :: a5 :: a6 :: a7 :: a8 :: a9 :: a10 :: a11 :: a12 :: a13 :: a14 :: a15 :: a16 :: a17 :: some (.int (nI (x + c))) :: L) st S r) : Ev scr l d M pc (a0 :: a1 :: a2 :: a3 :: a4 :: a5 :: a6 :: a7 :: a8 :: a9 :: a10 :: a11 :: a12 :: a13 :: a14 :: a15 :: a16 :: a17 :: some (.int (nI x)) :: L) st S r := ev_iincN h hn rfl (by
  show Ev _ _ _ _ _ (stL 18 _ _) _ _ _
  rw [stL_s, stL_s, stL_s, stL_s, stL_s, stL_s, stL_s, stL_s, stL_s, stL_s, stL_s, stL_s, stL_s, stL_s, stL_s, stL_s, stL_s, stL_1 _ _ _ _ hc]
  exact k)
theorem ev_iinc_18 {n : Int} {x : Int32} (h : iIns M pc (.iinc 18 n) 3) (hc : clr1 a17 = a17) (k : Ev scr l d M (pc + 3) (a0 :: a1 :: a2 :: a3 :: a4 :: a5 :: a6 :: a7 :: a8 :: a9 :: a10 :: a11 :: a12 :: a13 :: a14 :: a15 :: a16 :: a17 :: some (.int (x + Int32.ofInt n)) :: L) st S r) : Ev scr l d M pc (a0 :: a1 :: a2 :: a3 :: a4 :: a5 :: a6 :: a7 :: a8 :: a9 :: a10 :: a11 :: a12 :: a13 :: a14 :: a15 :: a16 :: a17 :: some (.int x) :: L) st S r := ev_iinc h rfl (by
  show Ev _ _ _ _ _ (stL 18 _ _) _ _ _
  rw [stL_s, stL_s, stL_s, stL_s, stL_s, stL_s, stL_s, stL_s, stL_s, stL_s, stL_s, stL_s, stL_s, stL_s, stL_s, stL_s, stL_s, stL_1 _ _ _ _ hc]
  exact k)
theorem ev_ist_19 {x : Int32} (h : iIns M pc (.istore 19) 2) (hc : clr1 a18 = a18) (k : Ev scr l d M (pc + 2) (a0 :: a1 :: a2 :: a3 :: a4 :: a5 :: a6 :: a7 :: a8 :: a9 :: a10 :: a11 :: a12 :: a13 :: a14 :: a15 :: a16 :: a17 :: a18 :: some (.int x) :: L) st S r) : Ev scr l d M pc (a0 :: a1 :: a2 :: a3 :: a4 :: a5 :: a6 :: a7 :: a8 :: a9 :: a10 :: a11 :: a12 :: a13 :: a14 :: a15 :: a16 :: a17 :: a18 :: a19 :: L) (.int x :: st) S r := ev_istore h (by show 19 < _; simp) (by
  show Ev _ _ _ _ _ (stL 19 _ _) _ _ _
  rw [stL_s, stL_s, stL_s, stL_s, stL_s, stL_s, stL_s, stL_s, stL_s, stL_s, stL_s, stL_s, stL_s, stL_s, stL_s, stL_s, stL_s, stL_s, stL_1 _ _ _ _ hc]
  exact k)
theorem ev_ast_19 {x : Nat} (h : iIns M pc (.astore 19) 2) (hc : clr1 a18 = a18) (k : Ev scr l d M (pc + 2) (a0 :: a1 :: a2 :: a3 :: a4 :: a5 :: a6 :: a7 :: a8 :: a9 :: a10 :: a11 :: a12 :: a13 :: a14 :: a15 :: a16 :: a17 :: a18 :: some (.ref x) :: L) st S r) : Ev scr l d M pc (a0 :: a1 :: a2 :: a3 :: a4 :: a5 :: a6 :: a7 :: a8 :: a9 :: a10 :: a11 :: a12 :: a13 :: a14 :: a15 :: a16 :: a17 :: a18 :: a19 :: L) (.ref x :: st) S r := ev_astore h (by show 19 < _; simp) (by
  show Ev _ _ _ _ _ (stL 19 _ _) _ _ _
  rw [stL_s, stL_s, stL_s, stL_s, stL_s, stL_s, stL_s, stL_s, stL_s, stL_s, stL_s, stL_s, stL_s, stL_s, stL_s, stL_s, stL_s, stL_s, stL_1 _ _ _ _ hc]
  exact k)
theorem ev_lst_19 {x : Int64} (h : iIns M pc (.lstore 19) 2) (hc : clr1 a18 = a18) (k : Ev scr l d M (pc + 2) (a0 :: a1 :: a2 :: a3 :: a4 :: a5 :: a6 :: a7 :: a8 :: a9 :: a10 :: a11 :: a12 :: a13 :: a14 :: a15 :: a16 :: a17 :: a18 :: some (.long x) :: none :: L) st S r) : Ev scr l d M pc (a0 :: a1 :: a2 :: a3 :: a4 :: a5 :: a6 :: a7 :: a8 :: a9 :: a10 :: a11 :: a12 :: a13 :: a14 :: a15 :: a16 :: a17 :: a18 :: a19 :: a20 :: L) (.long x :: st) S r := ev_lstore h (by show 20 < _; simp) (by
  show Ev _ _ _ _ _ (stL2 19 _ _) _ _ _
  rw [stL2_s, stL2_s, stL2_s, stL2_s, stL2_s, stL2_s, stL2_s, stL2_s, stL2_s, stL2_s, stL2_s, stL2_s, stL2_s, stL2_s, stL2_s, stL2_s, stL2_s, stL2_s, stL2_1 _ _ _ _ _ hc]
  exact k)
theorem ev_dst_19 {x : UInt64} (h : iIns M pc (.dstore 19) 2) (hc : clr1 a18 = a18) (k : Ev scr l d M (pc + 2) (a0 :: a1 :: a2 :: a3 :: a4 :: a5 :: a6 :: a7 :: a8 :: a9 :: a10 :: a11 :: a12 :: a13 :: a14 :: a15 :: a16 :: a17 :: a18 :: some (.double x) :: none :: L) st S r) : Ev scr l d M pc (a0 :: a1 :: a2 :: a3 :: a4 :: a5 :: a6 :: a7 :: a8 :: a9 :: a10 :: a11 :: a12 :: a13 :: a14 :: a15 :: a16 :: a17 :: a18 :: a19 :: a20 :: L) (.double x :: st) S r := ev_dstore h (by show 20 < _; simp) (by
  show Ev _ _ _ _ _ (stL2 19 _ _) _ _ _
  rw [stL2_s, stL2_s, stL2_s, stL2_s, stL2_s, stL2_s, stL2_s, stL2_s, stL2_s, stL2_s, stL2_s, stL2_s, stL2_s, stL2_s, stL2_s, stL2_s, stL2_s, stL2_s, stL2_1 _ _ _ _ _ hc]
  exact k)
theorem ev_iincN_19 {n : Int} {x c : Nat} (h : iIns M pc (.iinc 19 n) 3) (hn : Int32.ofInt n = nI c) (hc : clr1 a18 = a18) (k : Ev scr l d M (pc + 3) (a0 :: a1 :: a2 :: a3 :: a4 :: a5 :: a6 :: a7 :: a8 :: a9 :: a10 :: a11 :: a12 :: a13 :: a14 :: a15 :: a16 :: a17 :: a18 :: some (.int (nI (x + c))) :: L) st S r) : Ev scr l d M pc (a0 :: a1 :: a2 :: a3 :: a4 :: a5 :: a6 :: a7 :: a8 :: a9 :: a10 :: a11 :: a12 :: a13 :: a14 :: a15 :: a16 :: a17 :: a18 :: some (.int (nI x)) :: L) st S r := ev_iincN h hn rfl (by
  show Ev _ _ _ _ _ (stL 19 _ _) _ _ _
  rw [stL_s, stL_s, stL_s, stL_s, stL_s, stL_s, stL_s, stL_s, stL_s, stL_s, stL_s, stL_s, stL_s, stL_s, stL_s, stL_s, stL_s, stL_s, stL_1 _ _ _ _ hc]
  exact k)
theorem ev_iinc_19 {n : Int} {x : Int32} (h : iIns M pc (.iinc 19 n) 3) (hc : clr1 a18 = a18) (k : Ev scr l d M (pc + 3) (a0 :: a1 :: a2 :: a3 :: a4 :: a5 :: a6 :: a7 :: a8 :: a9 :: a10 :: a11 :: a12 :: a13 :: a14 :: a15 :: a16 :: a17 :: a18 :: some (.int (x + Int32.ofInt n)) :: L) st S r) : Ev scr l d M pc (a0 :: a1 :: a2 :: a3 :: a4 :: a5 :: a6 :: a7 :: a8 :: a9 :: a10 :: a11 :: a12 :: a13 :: a14 :: a15 :: a16 :: a17 :: a18 :: some (.int x) :: L) st S r := ev_iinc h rfl (by
  show Ev _ _ _ _ _ (stL 19 _ _) _ _ _
  rw [stL_s, stL_s, stL_s, stL_s, stL_s, stL_s, stL_s, stL_s, stL_s, stL_s, stL_s, stL_s, stL_s, stL_s, stL_s, stL_s, stL_s, stL_s, stL_1 _ _ _ _ hc]
  exact k)
end LocR

/-! methods, classes, links: by program (wip/whole/gen12.py) -/
theorem uw_Ad : ∀ w ∈ u_ws RX0 TX0 2, w ∈ lw_good := by
  have h : u_ws RX0 TX0 2 = [235, 237].filterMap (fun i => tables_1[i]?) := by decide +kernel
  have hg : (u_ws RX0 TX0 2).all goodWord = true := by decide +kernel
  intro w hw
  have h2 := List.all_eq_true.mp hg w hw
  rw [h] at hw
  obtain ⟨i, -, hi⟩ := List.mem_filterMap.mp hw
  exact lw_inT i hi h2
theorem uw_Fi : ∀ w ∈ u_ws RX1 TX1 14, w ∈ lw_good := by
  have h : u_ws RX1 TX1 14 = [299, 301, 303, 305, 307, 309, 311, 313, 315, 317, 319, 321, 323, 325].filterMap (fun i => tables_1[i]?) := by decide +kernel
  have hg : (u_ws RX1 TX1 14).all goodWord = true := by decide +kernel
  intro w hw
  have h2 := List.all_eq_true.mp hg w hw
  rw [h] at hw
  obtain ⟨i, -, hi⟩ := List.mem_filterMap.mp hw
  exact lw_inT i hi h2
theorem uw_Gr : ∀ w ∈ u_ws RX2 TX2 5, w ∈ lw_good := by
  have h : u_ws RX2 TX2 5 = [178, 180, 182, 184, 186].filterMap (fun i => tables_1[i]?) := by decide +kernel
  have hg : (u_ws RX2 TX2 5).all goodWord = true := by decide +kernel
  intro w hw
  have h2 := List.all_eq_true.mp hg w hw
  rw [h] at hw
  obtain ⟨i, -, hi⟩ := List.mem_filterMap.mp hw
  exact lw_inT i hi h2
theorem uw_Hi : ∀ w ∈ u_ws RX3 TX3 3, w ∈ lw_good := by
  have h : u_ws RX3 TX3 3 = [156, 158, 160].filterMap (fun i => tables_1[i]?) := by decide +kernel
  have hg : (u_ws RX3 TX3 3).all goodWord = true := by decide +kernel
  intro w hw
  have h2 := List.all_eq_true.mp hg w hw
  rw [h] at hw
  obtain ⟨i, -, hi⟩ := List.mem_filterMap.mp hw
  exact lw_inT i hi h2
theorem uw_Re : ∀ w ∈ u_ws RX4 TX4 9, w ∈ lw_good := by
  have h : u_ws RX4 TX4 9 = [206, 208, 210, 212, 214, 216, 218, 220, 222].filterMap (fun i => tables_1[i]?) := by decide +kernel
  have hg : (u_ws RX4 TX4 9).all goodWord = true := by decide +kernel
  intro w hw
  have h2 := List.all_eq_true.mp hg w hw
  rw [h] at hw
  obtain ⟨i, -, hi⟩ := List.mem_filterMap.mp hw
  exact lw_inT i hi h2
theorem uw_Sq : ∀ w ∈ u_ws RX5 TX5 3, w ∈ lw_good := by
  have h : u_ws RX5 TX5 3 = [266, 268, 270].filterMap (fun i => tables_1[i]?) := by decide +kernel
  have hg : (u_ws RX5 TX5 3).all goodWord = true := by decide +kernel
  intro w hw
  have h2 := List.all_eq_true.mp hg w hw
  rw [h] at hw
  obtain ⟨i, -, hi⟩ := List.mem_filterMap.mp hw
  exact lw_inT i hi h2
theorem uw_St : ∀ w ∈ u_ws RX6 TX6 4, w ∈ lw_good := by
  have h : u_ws RX6 TX6 4 = [135, 137, 139, 141].filterMap (fun i => tables_1[i]?) := by decide +kernel
  have hg : (u_ws RX6 TX6 4).all goodWord = true := by decide +kernel
  intro w hw
  have h2 := List.all_eq_true.mp hg w hw
  rw [h] at hw
  obtain ⟨i, -, hi⟩ := List.mem_filterMap.mp hw
  exact lw_inT i hi h2
theorem uw_Tb : ∀ w ∈ u_ws RX7 TX7 4, w ∈ lw_good := by
  have h : u_ws RX7 TX7 4 = [86, 88, 90, 92].filterMap (fun i => tables_1[i]?) := by decide +kernel
  have hg : (u_ws RX7 TX7 4).all goodWord = true := by decide +kernel
  intro w hw
  have h2 := List.all_eq_true.mp hg w hw
  rw [h] at hw
  obtain ⟨i, -, hi⟩ := List.mem_filterMap.mp hw
  exact lw_inT i hi h2
theorem uw_Tx : ∀ w ∈ u_ws RX8 TX8 2, w ∈ lw_good := by
  have h : u_ws RX8 TX8 2 = [51, 53].filterMap (fun i => tables_1[i]?) := by decide +kernel
  have hg : (u_ws RX8 TX8 2).all goodWord = true := by decide +kernel
  intro w hw
  have h2 := List.all_eq_true.mp hg w hw
  rw [h] at hw
  obtain ⟨i, -, hi⟩ := List.mem_filterMap.mp hw
  exact lw_inT i hi h2
theorem uw_Wy : ∀ w ∈ u_ws RX9 TX9 2, w ∈ lw_good := by
  have h : u_ws RX9 TX9 2 = [248, 250].filterMap (fun i => tables_1[i]?) := by decide +kernel
  have hg : (u_ws RX9 TX9 2).all goodWord = true := by decide +kernel
  intro w hw
  have h2 := List.all_eq_true.mp hg w hw
  rw [h] at hw
  obtain ⟨i, -, hi⟩ := List.mem_filterMap.mp hw
  exact lw_inT i hi h2
theorem uw_Wd : ∀ w ∈ u_ws RX10 TX10 2, w ∈ lw_good := by
  have h : u_ws RX10 TX10 2 = [118, 120].filterMap (fun i => tables_1[i]?) := by decide +kernel
  have hg : (u_ws RX10 TX10 2).all goodWord = true := by decide +kernel
  intro w hw
  have h2 := List.all_eq_true.mp hg w hw
  rw [h] at hw
  obtain ⟨i, -, hi⟩ := List.mem_filterMap.mp hw
  exact lw_inT i hi h2
theorem uw_Pr : ∀ w ∈ u_ws RX11 TX11 14, w ∈ lw_good := by
  have h : u_ws RX11 TX11 14 = [345, 347, 349, 351, 353, 355, 357, 359, 361, 363, 365, 367, 369, 371].filterMap (fun i => tables_1[i]?) := by decide +kernel
  have hg : (u_ws RX11 TX11 14).all goodWord = true := by decide +kernel
  intro w hw
  have h2 := List.all_eq_true.mp hg w hw
  rw [h] at hw
  obtain ⟨i, -, hi⟩ := List.mem_filterMap.mp hw
  exact lw_inT i hi h2
theorem uw_Md : ∀ w ∈ u_ws RX12 TX12 35, w ∈ lw_good := by
  have h : u_ws RX12 TX12 35 = [1261, 1263, 1265, 1267, 1269, 1271, 1273, 1275, 1277, 1279, 1281, 1283, 1285, 1287, 1289, 1291, 1293, 1295, 1297, 1299, 1301, 1303, 1305, 1307, 1309, 1311, 1313, 1315, 1317, 1319, 1321, 1323, 1325, 1327, 1329].filterMap (fun i => tables_1[i]?) := by decide +kernel
  have hg : (u_ws RX12 TX12 35).all goodWord = true := by decide +kernel
  intro w hw
  have h2 := List.all_eq_true.mp hg w hw
  rw [h] at hw
  obtain ⟨i, -, hi⟩ := List.mem_filterMap.mp hw
  exact lw_inT i hi h2
abbrev M_Pr_init : Mth := (⟨"ParallelRewriting", "<init>", "()V"⟩, prog_1_method_1_code, 1, none, [])
theorem me_Pr_init : iMeth M_Pr_init 0 := ⟨lw_k1 1 rfl rfl, ⟨by decide +kernel, by decide +kernel⟩, by decide +kernel, by decide⟩
theorem pn_Pr_init : iPlain M_Pr_init := ⟨rfl, lw_k1 36 rfl rfl⟩
theorem im_Pr_init : Cond.instanceMethod M_Pr_init.1 ∈ lw_good ∧ M_Pr_init.1.name = "<init>" ∧ M_Pr_init.2.2.2.1 = none := ⟨lw_k1 35 rfl rfl, rfl, rfl⟩
abbrev M_Tx_init : Mth := (⟨"ParallelRewriting$Text", "<init>", "()V"⟩, prog_10_method_1_code, 1, none, [])
theorem me_Tx_init : iMeth M_Tx_init 0 := ⟨lw_k1 2 rfl rfl, ⟨by decide +kernel, by decide +kernel⟩, by decide +kernel, by decide⟩
theorem pn_Tx_init : iPlain M_Tx_init := ⟨rfl, lw_k1 44 rfl rfl⟩
theorem im_Tx_init : Cond.instanceMethod M_Tx_init.1 ∈ lw_good ∧ M_Tx_init.1.name = "<init>" ∧ M_Tx_init.2.2.2.1 = none := ⟨lw_k1 43 rfl rfl, rfl, rfl⟩
abbrev M_St_init : Mth := (⟨"ParallelRewriting$State", "<init>", "()V"⟩, prog_8_method_1_code, 2, none, [])
theorem me_St_init : iMeth M_St_init 0 := ⟨lw_k1 3 rfl rfl, ⟨by decide +kernel, by decide +kernel⟩, by decide +kernel, by decide⟩
theorem pn_St_init : iPlain M_St_init := ⟨rfl, lw_k1 61 rfl rfl⟩
theorem im_St_init : Cond.instanceMethod M_St_init.1 ∈ lw_good ∧ M_St_init.1.name = "<init>" ∧ M_St_init.2.2.2.1 = none := ⟨lw_k1 60 rfl rfl, rfl, rfl⟩
abbrev M_Tb_init : Mth := (⟨"ParallelRewriting$Table", "<init>", "()V"⟩, prog_9_method_1_code, 3, none, [])
theorem me_Tb_init : iMeth M_Tb_init 0 := ⟨lw_k1 4 rfl rfl, ⟨by decide +kernel, by decide +kernel⟩, by decide +kernel, by decide⟩
theorem pn_Tb_init : iPlain M_Tb_init := ⟨rfl, lw_k1 68 rfl rfl⟩
theorem im_Tb_init : Cond.instanceMethod M_Tb_init.1 ∈ lw_good ∧ M_Tb_init.1.name = "<init>" ∧ M_Tb_init.2.2.2.1 = none := ⟨lw_k1 67 rfl rfl, rfl, rfl⟩
abbrev M_Ar_fillI : Mth := (⟨"java/util/Arrays", "fill", "([II)V"⟩, prog_35_method_103_code, 4, none, [])
theorem me_Ar_fillI : iMeth M_Ar_fillI 2 := ⟨lw_k1 5 rfl rfl, ⟨by decide +kernel, by decide +kernel⟩, by decide +kernel, by decide⟩
theorem pn_Ar_fillI : iPlain M_Ar_fillI := ⟨rfl, lw_k1 72 rfl rfl⟩
theorem sm_Ar_fillI : Cond.static M_Ar_fillI.1 ∈ lw_good := lw_k1 71 rfl rfl
abbrev M_Tb_listSlot : Mth := (⟨"ParallelRewriting$Table", "listSlot", "(II)I"⟩, prog_9_method_2_code, 2, (some .int), [])
theorem me_Tb_listSlot : iMeth M_Tb_listSlot 2 := ⟨lw_k1 4 rfl rfl, ⟨by decide +kernel, by decide +kernel⟩, by decide +kernel, by decide⟩
theorem pn_Tb_listSlot : iPlain M_Tb_listSlot := ⟨rfl, lw_k1 75 rfl rfl⟩
theorem sm_Tb_listSlot : Cond.static M_Tb_listSlot.1 ∈ lw_good := lw_k1 74 rfl rfl
abbrev M_Wd_init : Mth := (⟨"ParallelRewriting$Word", "<init>", "()V"⟩, prog_12_method_1_code, 1, none, [])
theorem me_Wd_init : iMeth M_Wd_init 0 := ⟨lw_k1 6 rfl rfl, ⟨by decide +kernel, by decide +kernel⟩, by decide +kernel, by decide⟩
theorem pn_Wd_init : iPlain M_Wd_init := ⟨rfl, lw_k1 100 rfl rfl⟩
theorem im_Wd_init : Cond.instanceMethod M_Wd_init.1 ∈ lw_good ∧ M_Wd_init.1.name = "<init>" ∧ M_Wd_init.2.2.2.1 = none := ⟨lw_k1 99 rfl rfl, rfl, rfl⟩
abbrev M_Hi_init : Mth := (⟨"ParallelRewriting$History", "<init>", "()V"⟩, prog_5_method_1_code, 2, none, [])
theorem me_Hi_init : iMeth M_Hi_init 0 := ⟨lw_k1 7 rfl rfl, ⟨by decide +kernel, by decide +kernel⟩, by decide +kernel, by decide⟩
theorem pn_Hi_init : iPlain M_Hi_init := ⟨rfl, lw_k1 148 rfl rfl⟩
theorem im_Hi_init : Cond.instanceMethod M_Hi_init.1 ∈ lw_good ∧ M_Hi_init.1.name = "<init>" ∧ M_Hi_init.2.2.2.1 = none := ⟨lw_k1 147 rfl rfl, rfl, rfl⟩
abbrev M_Gr_init : Mth := (⟨"ParallelRewriting$Growth", "<init>", "()V"⟩, prog_4_method_1_code, 1, none, [])
theorem me_Gr_init : iMeth M_Gr_init 0 := ⟨lw_k1 8 rfl rfl, ⟨by decide +kernel, by decide +kernel⟩, by decide +kernel, by decide⟩
theorem pn_Gr_init : iPlain M_Gr_init := ⟨rfl, lw_k1 169 rfl rfl⟩
theorem im_Gr_init : Cond.instanceMethod M_Gr_init.1 ∈ lw_good ∧ M_Gr_init.1.name = "<init>" ∧ M_Gr_init.2.2.2.1 = none := ⟨lw_k1 168 rfl rfl, rfl, rfl⟩
abbrev M_Re_init : Mth := (⟨"ParallelRewriting$Recurrence", "<init>", "()V"⟩, prog_6_method_1_code, 1, none, [])
theorem me_Re_init : iMeth M_Re_init 0 := ⟨lw_k1 9 rfl rfl, ⟨by decide +kernel, by decide +kernel⟩, by decide +kernel, by decide⟩
theorem pn_Re_init : iPlain M_Re_init := ⟨rfl, lw_k1 194 rfl rfl⟩
theorem im_Re_init : Cond.instanceMethod M_Re_init.1 ∈ lw_good ∧ M_Re_init.1.name = "<init>" ∧ M_Re_init.2.2.2.1 = none := ⟨lw_k1 193 rfl rfl, rfl, rfl⟩
abbrev M_Ad_init : Mth := (⟨"ParallelRewriting$Adults", "<init>", "()V"⟩, prog_2_method_1_code, 1, none, [])
theorem me_Ad_init : iMeth M_Ad_init 0 := ⟨lw_k1 10 rfl rfl, ⟨by decide +kernel, by decide +kernel⟩, by decide +kernel, by decide⟩
theorem pn_Ad_init : iPlain M_Ad_init := ⟨rfl, lw_k1 229 rfl rfl⟩
theorem im_Ad_init : Cond.instanceMethod M_Ad_init.1 ∈ lw_good ∧ M_Ad_init.1.name = "<init>" ∧ M_Ad_init.2.2.2.1 = none := ⟨lw_k1 228 rfl rfl, rfl, rfl⟩
abbrev M_Wy_init : Mth := (⟨"ParallelRewriting$WayCounter", "<init>", "()V"⟩, prog_11_method_1_code, 1, none, [])
theorem me_Wy_init : iMeth M_Wy_init 0 := ⟨lw_k1 11 rfl rfl, ⟨by decide +kernel, by decide +kernel⟩, by decide +kernel, by decide⟩
theorem pn_Wy_init : iPlain M_Wy_init := ⟨rfl, lw_k2 4 rfl rfl⟩
theorem im_Wy_init : Cond.instanceMethod M_Wy_init.1 ∈ lw_good ∧ M_Wy_init.1.name = "<init>" ∧ M_Wy_init.2.2.2.1 = none := ⟨lw_k2 3 rfl rfl, rfl, rfl⟩
abbrev M_Sq_init : Mth := (⟨"ParallelRewriting$SequenceSearch", "<init>", "()V"⟩, prog_7_method_1_code, 2, none, [])
theorem me_Sq_init : iMeth M_Sq_init 0 := ⟨lw_k1 12 rfl rfl, ⟨by decide +kernel, by decide +kernel⟩, by decide +kernel, by decide⟩
theorem pn_Sq_init : iPlain M_Sq_init := ⟨rfl, lw_k2 17 rfl rfl⟩
theorem im_Sq_init : Cond.instanceMethod M_Sq_init.1 ∈ lw_good ∧ M_Sq_init.1.name = "<init>" ∧ M_Sq_init.2.2.2.1 = none := ⟨lw_k2 16 rfl rfl, rfl, rfl⟩
abbrev M_Fi_init : Mth := (⟨"ParallelRewriting$Figure", "<init>", "()V"⟩, prog_3_method_1_code, 1, none, [])
theorem me_Fi_init : iMeth M_Fi_init 0 := ⟨lw_k1 13 rfl rfl, ⟨by decide +kernel, by decide +kernel⟩, by decide +kernel, by decide⟩
theorem pn_Fi_init : iPlain M_Fi_init := ⟨rfl, lw_k2 37 rfl rfl⟩
theorem im_Fi_init : Cond.instanceMethod M_Fi_init.1 ∈ lw_good ∧ M_Fi_init.1.name = "<init>" ∧ M_Fi_init.2.2.2.1 = none := ⟨lw_k2 36 rfl rfl, rfl, rfl⟩
abbrev M_Pr_clearText : Mth := (⟨"ParallelRewriting", "clearText", "()I"⟩, prog_1_method_3_code, 2, (some .int), [])
theorem me_Pr_clearText : iMeth M_Pr_clearText 0 := ⟨lw_k1 1 rfl rfl, ⟨by decide +kernel, by decide +kernel⟩, by decide +kernel, by decide⟩
theorem pn_Pr_clearText : iPlain M_Pr_clearText := ⟨rfl, lw_k2 137 rfl rfl⟩
theorem vm_Pr_clearText : Cond.instanceMethod M_Pr_clearText.1 ∈ lw_good ∧ Cond.selects M_Pr_clearText.1.cls M_Pr_clearText.1 M_Pr_clearText.1 ∈ lw_good ∧ ∃ (T : u_T) (N : Nat), vwCl[13]? = some (M_Pr_clearText.1.cls, T, N) := ⟨lw_k2 135 rfl rfl, lw_k2 136 rfl rfl, TX11, 14, rfl⟩
abbrev M_Pr_wordLength : Mth := (⟨"ParallelRewriting", "wordLength", "()I"⟩, prog_1_method_13_code, 1, (some .int), [])
theorem me_Pr_wordLength : iMeth M_Pr_wordLength 0 := ⟨lw_k1 1 rfl rfl, ⟨by decide +kernel, by decide +kernel⟩, by decide +kernel, by decide⟩
theorem pn_Pr_wordLength : iPlain M_Pr_wordLength := ⟨rfl, lw_k2 141 rfl rfl⟩
theorem vm_Pr_wordLength : Cond.instanceMethod M_Pr_wordLength.1 ∈ lw_good ∧ Cond.selects M_Pr_wordLength.1.cls M_Pr_wordLength.1 M_Pr_wordLength.1 ∈ lw_good ∧ ∃ (T : u_T) (N : Nat), vwCl[13]? = some (M_Pr_wordLength.1.cls, T, N) := ⟨lw_k2 139 rfl rfl, lw_k2 140 rfl rfl, TX11, 14, rfl⟩
abbrev M_Pr_isTarget : Mth := (⟨"ParallelRewriting", "isTarget", "()Z"⟩, prog_1_method_15_code, 1, (some .boolean), [])
theorem me_Pr_isTarget : iMeth M_Pr_isTarget 0 := ⟨lw_k1 1 rfl rfl, ⟨by decide +kernel, by decide +kernel⟩, by decide +kernel, by decide⟩
theorem pn_Pr_isTarget : iPlain M_Pr_isTarget := ⟨rfl, lw_k2 145 rfl rfl⟩
theorem vm_Pr_isTarget : Cond.instanceMethod M_Pr_isTarget.1 ∈ lw_good ∧ Cond.selects M_Pr_isTarget.1.cls M_Pr_isTarget.1 M_Pr_isTarget.1 ∈ lw_good ∧ ∃ (T : u_T) (N : Nat), vwCl[13]? = some (M_Pr_isTarget.1.cls, T, N) := ⟨lw_k2 143 rfl rfl, lw_k2 144 rfl rfl, TX11, 14, rfl⟩
abbrev M_Wd_sameAs : Mth := (⟨"ParallelRewriting$Word", "sameAs", "(LParallelRewriting$Word;)Z"⟩, prog_12_method_5_code, 2, (some .boolean), [])
theorem me_Wd_sameAs : iMeth M_Wd_sameAs 1 := ⟨lw_k1 6 rfl rfl, ⟨by decide +kernel, by decide +kernel⟩, by decide +kernel, by decide⟩
theorem pn_Wd_sameAs : iPlain M_Wd_sameAs := ⟨rfl, lw_k2 149 rfl rfl⟩
theorem vm_Wd_sameAs : Cond.instanceMethod M_Wd_sameAs.1 ∈ lw_good ∧ Cond.selects M_Wd_sameAs.1.cls M_Wd_sameAs.1 M_Wd_sameAs.1 ∈ lw_good ∧ ∃ (T : u_T) (N : Nat), vwCl[12]? = some (M_Wd_sameAs.1.cls, T, N) := ⟨lw_k2 147 rfl rfl, lw_k2 148 rfl rfl, TX10, 2, rfl⟩
abbrev M_Wd_agreesWith : Mth := (⟨"ParallelRewriting$Word", "agreesWith", "(LParallelRewriting$Word;)Z"⟩, prog_12_method_6_code, 4, (some .boolean), [])
theorem me_Wd_agreesWith : iMeth M_Wd_agreesWith 1 := ⟨lw_k1 6 rfl rfl, ⟨by decide +kernel, by decide +kernel⟩, by decide +kernel, by decide⟩
theorem pn_Wd_agreesWith : iPlain M_Wd_agreesWith := ⟨rfl, lw_k2 153 rfl rfl⟩
theorem vm_Wd_agreesWith : Cond.instanceMethod M_Wd_agreesWith.1 ∈ lw_good ∧ Cond.selects M_Wd_agreesWith.1.cls M_Wd_agreesWith.1 M_Wd_agreesWith.1 ∈ lw_good ∧ ∃ (T : u_T) (N : Nat), vwCl[12]? = some (M_Wd_agreesWith.1.cls, T, N) := ⟨lw_k2 151 rfl rfl, lw_k2 152 rfl rfl, TX10, 2, rfl⟩
abbrev M_Ma_minI : Mth := (⟨"java/lang/Math", "min", "(II)I"⟩, prog_25_method_69_code, 2, (some .int), [])
theorem me_Ma_minI : iMeth M_Ma_minI 2 := ⟨lw_k1 23 rfl rfl, ⟨by decide +kernel, by decide +kernel⟩, by decide +kernel, by decide⟩
theorem pn_Ma_minI : iPlain M_Ma_minI := ⟨rfl, lw_k2 156 rfl rfl⟩
theorem sm_Ma_minI : Cond.static M_Ma_minI.1 ∈ lw_good := lw_k2 155 rfl rfl
abbrev M_Pr_undo : Mth := (⟨"ParallelRewriting", "undo", "()Z"⟩, prog_1_method_17_code, 1, (some .boolean), [])
theorem me_Pr_undo : iMeth M_Pr_undo 0 := ⟨lw_k1 1 rfl rfl, ⟨by decide +kernel, by decide +kernel⟩, by decide +kernel, by decide⟩
theorem pn_Pr_undo : iPlain M_Pr_undo := ⟨rfl, lw_k2 160 rfl rfl⟩
theorem vm_Pr_undo : Cond.instanceMethod M_Pr_undo.1 ∈ lw_good ∧ Cond.selects M_Pr_undo.1.cls M_Pr_undo.1 M_Pr_undo.1 ∈ lw_good ∧ ∃ (T : u_T) (N : Nat), vwCl[13]? = some (M_Pr_undo.1.cls, T, N) := ⟨lw_k2 158 rfl rfl, lw_k2 159 rfl rfl, TX11, 14, rfl⟩
abbrev M_Hi_takeBack : Mth := (⟨"ParallelRewriting$History", "takeBack", "(LParallelRewriting$Word;)Z"⟩, prog_5_method_3_code, 2, (some .boolean), [])
theorem me_Hi_takeBack : iMeth M_Hi_takeBack 1 := ⟨lw_k1 7 rfl rfl, ⟨by decide +kernel, by decide +kernel⟩, by decide +kernel, by decide⟩
theorem pn_Hi_takeBack : iPlain M_Hi_takeBack := ⟨rfl, lw_k2 164 rfl rfl⟩
theorem vm_Hi_takeBack : Cond.instanceMethod M_Hi_takeBack.1 ∈ lw_good ∧ Cond.selects M_Hi_takeBack.1.cls M_Hi_takeBack.1 M_Hi_takeBack.1 ∈ lw_good ∧ ∃ (T : u_T) (N : Nat), vwCl[5]? = some (M_Hi_takeBack.1.cls, T, N) := ⟨lw_k2 162 rfl rfl, lw_k2 163 rfl rfl, TX3, 3, rfl⟩
abbrev M_Wd_copy : Mth := (⟨"ParallelRewriting$Word", "copy", "(LParallelRewriting$Word;)V"⟩, prog_12_method_4_code, 2, none, [])
theorem me_Wd_copy : iMeth M_Wd_copy 1 := ⟨lw_k1 6 rfl rfl, ⟨by decide +kernel, by decide +kernel⟩, by decide +kernel, by decide⟩
theorem pn_Wd_copy : iPlain M_Wd_copy := ⟨rfl, lw_k2 168 rfl rfl⟩
theorem vm_Wd_copy : Cond.instanceMethod M_Wd_copy.1 ∈ lw_good ∧ Cond.selects M_Wd_copy.1.cls M_Wd_copy.1 M_Wd_copy.1 ∈ lw_good ∧ ∃ (T : u_T) (N : Nat), vwCl[12]? = some (M_Wd_copy.1.cls, T, N) := ⟨lw_k2 166 rfl rfl, lw_k2 167 rfl rfl, TX10, 2, rfl⟩
abbrev M_Pr_save : Mth := (⟨"ParallelRewriting", "save", "()V"⟩, prog_1_method_37_code, 1, none, [])
theorem me_Pr_save : iMeth M_Pr_save 0 := ⟨lw_k1 1 rfl rfl, ⟨by decide +kernel, by decide +kernel⟩, by decide +kernel, by decide⟩
theorem pn_Pr_save : iPlain M_Pr_save := ⟨rfl, lw_k2 175 rfl rfl⟩
theorem vm_Pr_save : Cond.instanceMethod M_Pr_save.1 ∈ lw_good ∧ Cond.selects M_Pr_save.1.cls M_Pr_save.1 M_Pr_save.1 ∈ lw_good ∧ ∃ (T : u_T) (N : Nat), vwCl[13]? = some (M_Pr_save.1.cls, T, N) := ⟨lw_k2 173 rfl rfl, lw_k2 174 rfl rfl, TX11, 14, rfl⟩
abbrev M_St_copy : Mth := (⟨"ParallelRewriting$State", "copy", "(LParallelRewriting$State;)V"⟩, prog_8_method_2_code, 3, none, [])
theorem me_St_copy : iMeth M_St_copy 1 := ⟨lw_k1 3 rfl rfl, ⟨by decide +kernel, by decide +kernel⟩, by decide +kernel, by decide⟩
theorem pn_St_copy : iPlain M_St_copy := ⟨rfl, lw_k2 179 rfl rfl⟩
theorem vm_St_copy : Cond.instanceMethod M_St_copy.1 ∈ lw_good ∧ Cond.selects M_St_copy.1.cls M_St_copy.1 M_St_copy.1 ∈ lw_good ∧ ∃ (T : u_T) (N : Nat), vwCl[8]? = some (M_St_copy.1.cls, T, N) := ⟨lw_k2 177 rfl rfl, lw_k2 178 rfl rfl, TX6, 4, rfl⟩
abbrev M_Tb_copy : Mth := (⟨"ParallelRewriting$Table", "copy", "(LParallelRewriting$Table;)V"⟩, prog_9_method_4_code, 2, none, [])
theorem me_Tb_copy : iMeth M_Tb_copy 1 := ⟨lw_k1 4 rfl rfl, ⟨by decide +kernel, by decide +kernel⟩, by decide +kernel, by decide⟩
theorem pn_Tb_copy : iPlain M_Tb_copy := ⟨rfl, lw_k2 183 rfl rfl⟩
theorem vm_Tb_copy : Cond.instanceMethod M_Tb_copy.1 ∈ lw_good ∧ Cond.selects M_Tb_copy.1.cls M_Tb_copy.1 M_Tb_copy.1 ∈ lw_good ∧ ∃ (T : u_T) (N : Nat), vwCl[9]? = some (M_Tb_copy.1.cls, T, N) := ⟨lw_k2 181 rfl rfl, lw_k2 182 rfl rfl, TX7, 4, rfl⟩
abbrev M_Lw_appendCharacter : Mth := (⟨"ParallelRewritingLaw", "appendCharacter", "(LParallelRewriting;I[J)I"⟩, method_3_code, 4, (some .int), [(0, 9, 12, 13), (0, 9, 15, 15)])
theorem me_Lw_appendCharacter : iMeth M_Lw_appendCharacter 3 := ⟨lw_k1 0 rfl rfl, ⟨by decide +kernel, by decide +kernel⟩, by decide +kernel, by decide⟩
theorem sm_Lw_appendCharacter : Cond.static M_Lw_appendCharacter.1 ∈ lw_good := lw_k2 188 rfl rfl
abbrev M_Pr_appendCharacter : Mth := (⟨"ParallelRewriting", "appendCharacter", "(I)I"⟩, prog_1_method_2_code, 2, (some .int), [])
theorem me_Pr_appendCharacter : iMeth M_Pr_appendCharacter 1 := ⟨lw_k1 1 rfl rfl, ⟨by decide +kernel, by decide +kernel⟩, by decide +kernel, by decide⟩
theorem pn_Pr_appendCharacter : iPlain M_Pr_appendCharacter := ⟨rfl, lw_k2 195 rfl rfl⟩
theorem vm_Pr_appendCharacter : Cond.instanceMethod M_Pr_appendCharacter.1 ∈ lw_good ∧ Cond.selects M_Pr_appendCharacter.1.cls M_Pr_appendCharacter.1 M_Pr_appendCharacter.1 ∈ lw_good ∧ ∃ (T : u_T) (N : Nat), vwCl[13]? = some (M_Pr_appendCharacter.1.cls, T, N) := ⟨lw_k2 193 rfl rfl, lw_k2 194 rfl rfl, TX11, 14, rfl⟩
abbrev M_Tx_append : Mth := (⟨"ParallelRewriting$Text", "append", "(C)Z"⟩, prog_10_method_2_code, 2, (some .boolean), [])
theorem me_Tx_append : iMeth M_Tx_append 1 := ⟨lw_k1 2 rfl rfl, ⟨by decide +kernel, by decide +kernel⟩, by decide +kernel, by decide⟩
theorem pn_Tx_append : iPlain M_Tx_append := ⟨rfl, lw_k3 30 rfl rfl⟩
theorem vm_Tx_append : Cond.instanceMethod M_Tx_append.1 ∈ lw_good ∧ Cond.selects M_Tx_append.1.cls M_Tx_append.1 M_Tx_append.1 ∈ lw_good ∧ ∃ (T : u_T) (N : Nat), vwCl[10]? = some (M_Tx_append.1.cls, T, N) := ⟨lw_k3 28 rfl rfl, lw_k3 29 rfl rfl, TX8, 2, rfl⟩
abbrev M_Lw_setProduction : Mth := (⟨"ParallelRewritingLaw", "setProduction", "(LParallelRewriting;II[J)I"⟩, method_4_code, 5, (some .int), [(0, 10, 13, 21), (0, 10, 17, 13)])
theorem me_Lw_setProduction : iMeth M_Lw_setProduction 4 := ⟨lw_k1 0 rfl rfl, ⟨by decide +kernel, by decide +kernel⟩, by decide +kernel, by decide⟩
theorem sm_Lw_setProduction : Cond.static M_Lw_setProduction.1 ∈ lw_good := lw_k3 48 rfl rfl
abbrev M_Pr_setProduction : Mth := (⟨"ParallelRewriting", "setProduction", "(II)I"⟩, prog_1_method_4_code, 4, (some .int), [])
theorem me_Pr_setProduction : iMeth M_Pr_setProduction 2 := ⟨lw_k1 1 rfl rfl, ⟨by decide +kernel, by decide +kernel⟩, by decide +kernel, by decide⟩
theorem pn_Pr_setProduction : iPlain M_Pr_setProduction := ⟨rfl, lw_k3 77 rfl rfl⟩
theorem vm_Pr_setProduction : Cond.instanceMethod M_Pr_setProduction.1 ∈ lw_good ∧ Cond.selects M_Pr_setProduction.1.cls M_Pr_setProduction.1 M_Pr_setProduction.1 ∈ lw_good ∧ ∃ (T : u_T) (N : Nat), vwCl[13]? = some (M_Pr_setProduction.1.cls, T, N) := ⟨lw_k3 75 rfl rfl, lw_k3 76 rfl rfl, TX11, 14, rfl⟩
abbrev M_Pr_tableAt : Mth := (⟨"ParallelRewriting", "tableAt", "(I)LParallelRewriting$Table;"⟩, prog_1_method_39_code, 2, (some (.object "ParallelRewriting$Table")), [])
theorem me_Pr_tableAt : iMeth M_Pr_tableAt 1 := ⟨lw_k1 1 rfl rfl, ⟨by decide +kernel, by decide +kernel⟩, by decide +kernel, by decide⟩
theorem pn_Pr_tableAt : iPlain M_Pr_tableAt := ⟨rfl, lw_k3 81 rfl rfl⟩
theorem vm_Pr_tableAt : Cond.instanceMethod M_Pr_tableAt.1 ∈ lw_good ∧ Cond.selects M_Pr_tableAt.1.cls M_Pr_tableAt.1 M_Pr_tableAt.1 ∈ lw_good ∧ ∃ (T : u_T) (N : Nat), vwCl[13]? = some (M_Pr_tableAt.1.cls, T, N) := ⟨lw_k3 80 rfl rfl, lw_inP (q := (⟨"ParallelRewriting", "tableAt", "(I)LParallelRewriting$Table;"⟩, 14)) 1 rfl rfl, TX11, 14, rfl⟩
abbrev M_Pr_checkLetter : Mth := (⟨"ParallelRewriting", "checkLetter", "(I)V"⟩, prog_1_method_40_code, 1, none, [])
theorem me_Pr_checkLetter : iMeth M_Pr_checkLetter 1 := ⟨lw_k1 1 rfl rfl, ⟨by decide +kernel, by decide +kernel⟩, by decide +kernel, by decide⟩
theorem pn_Pr_checkLetter : iPlain M_Pr_checkLetter := ⟨rfl, lw_k3 97 rfl rfl⟩
theorem sm_Pr_checkLetter : Cond.static M_Pr_checkLetter.1 ∈ lw_good := lw_k3 96 rfl rfl
abbrev M_Pr_checkWordInText : Mth := (⟨"ParallelRewriting", "checkWordInText", "(I)V"⟩, prog_1_method_41_code, 2, none, [])
theorem me_Pr_checkWordInText : iMeth M_Pr_checkWordInText 1 := ⟨lw_k1 1 rfl rfl, ⟨by decide +kernel, by decide +kernel⟩, by decide +kernel, by decide⟩
theorem pn_Pr_checkWordInText : iPlain M_Pr_checkWordInText := ⟨rfl, lw_k3 102 rfl rfl⟩
theorem vm_Pr_checkWordInText : Cond.instanceMethod M_Pr_checkWordInText.1 ∈ lw_good ∧ Cond.selects M_Pr_checkWordInText.1.cls M_Pr_checkWordInText.1 M_Pr_checkWordInText.1 ∈ lw_good ∧ ∃ (T : u_T) (N : Nat), vwCl[13]? = some (M_Pr_checkWordInText.1.cls, T, N) := ⟨lw_k3 101 rfl rfl, lw_inP (q := (⟨"ParallelRewriting", "checkWordInText", "(I)V"⟩, 14)) 2 rfl rfl, TX11, 14, rfl⟩
abbrev M_Tx_hasOnlyLetters : Mth := (⟨"ParallelRewriting$Text", "hasOnlyLetters", "()Z"⟩, prog_10_method_3_code, 2, (some .boolean), [])
theorem me_Tx_hasOnlyLetters : iMeth M_Tx_hasOnlyLetters 0 := ⟨lw_k1 2 rfl rfl, ⟨by decide +kernel, by decide +kernel⟩, by decide +kernel, by decide⟩
theorem pn_Tx_hasOnlyLetters : iPlain M_Tx_hasOnlyLetters := ⟨rfl, lw_k3 106 rfl rfl⟩
theorem vm_Tx_hasOnlyLetters : Cond.instanceMethod M_Tx_hasOnlyLetters.1 ∈ lw_good ∧ Cond.selects M_Tx_hasOnlyLetters.1.cls M_Tx_hasOnlyLetters.1 M_Tx_hasOnlyLetters.1 ∈ lw_good ∧ ∃ (T : u_T) (N : Nat), vwCl[10]? = some (M_Tx_hasOnlyLetters.1.cls, T, N) := ⟨lw_k3 104 rfl rfl, lw_k3 105 rfl rfl, TX8, 2, rfl⟩
abbrev M_Tb_replaceList : Mth := (⟨"ParallelRewriting$Table", "replaceList", "(ILParallelRewriting$Text;)V"⟩, prog_9_method_6_code, 3, none, [])
theorem me_Tb_replaceList : iMeth M_Tb_replaceList 2 := ⟨lw_k1 4 rfl rfl, ⟨by decide +kernel, by decide +kernel⟩, by decide +kernel, by decide⟩
theorem pn_Tb_replaceList : iPlain M_Tb_replaceList := ⟨rfl, lw_k3 111 rfl rfl⟩
theorem vm_Tb_replaceList : Cond.instanceMethod M_Tb_replaceList.1 ∈ lw_good ∧ Cond.selects M_Tb_replaceList.1.cls M_Tb_replaceList.1 M_Tb_replaceList.1 ∈ lw_good ∧ ∃ (T : u_T) (N : Nat), vwCl[9]? = some (M_Tb_replaceList.1.cls, T, N) := ⟨lw_k3 109 rfl rfl, lw_k3 110 rfl rfl, TX7, 4, rfl⟩
abbrev M_Tb_fillSlot : Mth := (⟨"ParallelRewriting$Table", "fillSlot", "(ILParallelRewriting$Text;)V"⟩, prog_9_method_5_code, 5, none, [])
theorem me_Tb_fillSlot : iMeth M_Tb_fillSlot 2 := ⟨lw_k1 4 rfl rfl, ⟨by decide +kernel, by decide +kernel⟩, by decide +kernel, by decide⟩
theorem pn_Tb_fillSlot : iPlain M_Tb_fillSlot := ⟨rfl, lw_k3 115 rfl rfl⟩
theorem vm_Tb_fillSlot : Cond.instanceMethod M_Tb_fillSlot.1 ∈ lw_good ∧ Cond.selects M_Tb_fillSlot.1.cls M_Tb_fillSlot.1 M_Tb_fillSlot.1 ∈ lw_good ∧ ∃ (T : u_T) (N : Nat), vwCl[9]? = some (M_Tb_fillSlot.1.cls, T, N) := ⟨lw_k3 114 rfl rfl, lw_inP (q := (⟨"ParallelRewriting$Table", "fillSlot", "(ILParallelRewriting$Text;)V"⟩, 4)) 3 rfl rfl, TX7, 4, rfl⟩
abbrev M_Tx_letterAt : Mth := (⟨"ParallelRewriting$Text", "letterAt", "(I)I"⟩, prog_10_method_4_code, 2, (some .int), [])
theorem me_Tx_letterAt : iMeth M_Tx_letterAt 1 := ⟨lw_k1 2 rfl rfl, ⟨by decide +kernel, by decide +kernel⟩, by decide +kernel, by decide⟩
theorem pn_Tx_letterAt : iPlain M_Tx_letterAt := ⟨rfl, lw_k3 120 rfl rfl⟩
theorem vm_Tx_letterAt : Cond.instanceMethod M_Tx_letterAt.1 ∈ lw_good ∧ Cond.selects M_Tx_letterAt.1.cls M_Tx_letterAt.1 M_Tx_letterAt.1 ∈ lw_good ∧ ∃ (T : u_T) (N : Nat), vwCl[10]? = some (M_Tx_letterAt.1.cls, T, N) := ⟨lw_k3 118 rfl rfl, lw_k3 119 rfl rfl, TX8, 2, rfl⟩
abbrev M_Lw_addProduction : Mth := (⟨"ParallelRewritingLaw", "addProduction", "(LParallelRewriting;II[J)I"⟩, method_5_code, 5, (some .int), [(0, 10, 13, 21), (0, 10, 17, 13), (0, 10, 21, 15)])
theorem me_Lw_addProduction : iMeth M_Lw_addProduction 4 := ⟨lw_k1 0 rfl rfl, ⟨by decide +kernel, by decide +kernel⟩, by decide +kernel, by decide⟩
theorem sm_Lw_addProduction : Cond.static M_Lw_addProduction.1 ∈ lw_good := lw_k3 122 rfl rfl
abbrev M_Pr_addProduction : Mth := (⟨"ParallelRewriting", "addProduction", "(II)I"⟩, prog_1_method_5_code, 5, (some .int), [])
theorem me_Pr_addProduction : iMeth M_Pr_addProduction 2 := ⟨lw_k1 1 rfl rfl, ⟨by decide +kernel, by decide +kernel⟩, by decide +kernel, by decide⟩
theorem pn_Pr_addProduction : iPlain M_Pr_addProduction := ⟨rfl, lw_k3 127 rfl rfl⟩
theorem vm_Pr_addProduction : Cond.instanceMethod M_Pr_addProduction.1 ∈ lw_good ∧ Cond.selects M_Pr_addProduction.1.cls M_Pr_addProduction.1 M_Pr_addProduction.1 ∈ lw_good ∧ ∃ (T : u_T) (N : Nat), vwCl[13]? = some (M_Pr_addProduction.1.cls, T, N) := ⟨lw_k3 125 rfl rfl, lw_k3 126 rfl rfl, TX11, 14, rfl⟩
abbrev M_Tb_extendList : Mth := (⟨"ParallelRewriting$Table", "extendList", "(ILParallelRewriting$Text;)I"⟩, prog_9_method_7_code, 4, (some .int), [])
theorem me_Tb_extendList : iMeth M_Tb_extendList 2 := ⟨lw_k1 4 rfl rfl, ⟨by decide +kernel, by decide +kernel⟩, by decide +kernel, by decide⟩
theorem pn_Tb_extendList : iPlain M_Tb_extendList := ⟨rfl, lw_k3 131 rfl rfl⟩
theorem vm_Tb_extendList : Cond.instanceMethod M_Tb_extendList.1 ∈ lw_good ∧ Cond.selects M_Tb_extendList.1.cls M_Tb_extendList.1 M_Tb_extendList.1 ∈ lw_good ∧ ∃ (T : u_T) (N : Nat), vwCl[9]? = some (M_Tb_extendList.1.cls, T, N) := ⟨lw_k3 129 rfl rfl, lw_k3 130 rfl rfl, TX7, 4, rfl⟩
abbrev M_Lw_productionCount : Mth := (⟨"ParallelRewritingLaw", "productionCount", "(LParallelRewriting;II[J)I"⟩, method_6_code, 5, (some .int), [(0, 10, 13, 21)])
theorem me_Lw_productionCount : iMeth M_Lw_productionCount 4 := ⟨lw_k1 0 rfl rfl, ⟨by decide +kernel, by decide +kernel⟩, by decide +kernel, by decide⟩
theorem sm_Lw_productionCount : Cond.static M_Lw_productionCount.1 ∈ lw_good := lw_k3 134 rfl rfl
abbrev M_Pr_productionCount : Mth := (⟨"ParallelRewriting", "productionCount", "(II)I"⟩, prog_1_method_6_code, 4, (some .int), [])
theorem me_Pr_productionCount : iMeth M_Pr_productionCount 2 := ⟨lw_k1 1 rfl rfl, ⟨by decide +kernel, by decide +kernel⟩, by decide +kernel, by decide⟩
theorem pn_Pr_productionCount : iPlain M_Pr_productionCount := ⟨rfl, lw_k3 139 rfl rfl⟩
theorem vm_Pr_productionCount : Cond.instanceMethod M_Pr_productionCount.1 ∈ lw_good ∧ Cond.selects M_Pr_productionCount.1.cls M_Pr_productionCount.1 M_Pr_productionCount.1 ∈ lw_good ∧ ∃ (T : u_T) (N : Nat), vwCl[13]? = some (M_Pr_productionCount.1.cls, T, N) := ⟨lw_k3 137 rfl rfl, lw_k3 138 rfl rfl, TX11, 14, rfl⟩
abbrev M_Lw_setContextRule : Mth := (⟨"ParallelRewritingLaw", "setContextRule", "(LParallelRewriting;III[J)I"⟩, method_7_code, 6, (some .int), [(0, 19, 22, 21), (0, 19, 26, 13), (0, 19, 30, 15)])
theorem me_Lw_setContextRule : iMeth M_Lw_setContextRule 5 := ⟨lw_k1 0 rfl rfl, ⟨by decide +kernel, by decide +kernel⟩, by decide +kernel, by decide⟩
theorem sm_Lw_setContextRule : Cond.static M_Lw_setContextRule.1 ∈ lw_good := lw_k3 141 rfl rfl
abbrev M_Pr_setContextRule : Mth := (⟨"ParallelRewriting", "setContextRule", "(III)Z"⟩, prog_1_method_7_code, 6, (some .boolean), [])
theorem me_Pr_setContextRule : iMeth M_Pr_setContextRule 3 := ⟨lw_k1 1 rfl rfl, ⟨by decide +kernel, by decide +kernel⟩, by decide +kernel, by decide⟩
theorem pn_Pr_setContextRule : iPlain M_Pr_setContextRule := ⟨rfl, lw_k3 146 rfl rfl⟩
theorem vm_Pr_setContextRule : Cond.instanceMethod M_Pr_setContextRule.1 ∈ lw_good ∧ Cond.selects M_Pr_setContextRule.1.cls M_Pr_setContextRule.1 M_Pr_setContextRule.1 ∈ lw_good ∧ ∃ (T : u_T) (N : Nat), vwCl[13]? = some (M_Pr_setContextRule.1.cls, T, N) := ⟨lw_k3 144 rfl rfl, lw_k3 145 rfl rfl, TX11, 14, rfl⟩
abbrev M_Tb_hasRule : Mth := (⟨"ParallelRewriting$Table", "hasRule", "(II)Z"⟩, prog_9_method_8_code, 3, (some .boolean), [])
theorem me_Tb_hasRule : iMeth M_Tb_hasRule 2 := ⟨lw_k1 4 rfl rfl, ⟨by decide +kernel, by decide +kernel⟩, by decide +kernel, by decide⟩
theorem pn_Tb_hasRule : iPlain M_Tb_hasRule := ⟨rfl, lw_k3 150 rfl rfl⟩
theorem vm_Tb_hasRule : Cond.instanceMethod M_Tb_hasRule.1 ∈ lw_good ∧ Cond.selects M_Tb_hasRule.1.cls M_Tb_hasRule.1 M_Tb_hasRule.1 ∈ lw_good ∧ ∃ (T : u_T) (N : Nat), vwCl[9]? = some (M_Tb_hasRule.1.cls, T, N) := ⟨lw_k3 148 rfl rfl, lw_k3 149 rfl rfl, TX7, 4, rfl⟩
abbrev M_Tb_ruleSlot : Mth := (⟨"ParallelRewriting$Table", "ruleSlot", "(II)I"⟩, prog_9_method_3_code, 2, (some .int), [])
theorem me_Tb_ruleSlot : iMeth M_Tb_ruleSlot 2 := ⟨lw_k1 4 rfl rfl, ⟨by decide +kernel, by decide +kernel⟩, by decide +kernel, by decide⟩
theorem pn_Tb_ruleSlot : iPlain M_Tb_ruleSlot := ⟨rfl, lw_k3 153 rfl rfl⟩
theorem sm_Tb_ruleSlot : Cond.static M_Tb_ruleSlot.1 ∈ lw_good := lw_k3 152 rfl rfl
abbrev M_Tb_putRule : Mth := (⟨"ParallelRewriting$Table", "putRule", "(IILParallelRewriting$Text;)V"⟩, prog_9_method_9_code, 4, none, [])
theorem me_Tb_putRule : iMeth M_Tb_putRule 3 := ⟨lw_k1 4 rfl rfl, ⟨by decide +kernel, by decide +kernel⟩, by decide +kernel, by decide⟩
theorem pn_Tb_putRule : iPlain M_Tb_putRule := ⟨rfl, lw_k3 158 rfl rfl⟩
theorem vm_Tb_putRule : Cond.instanceMethod M_Tb_putRule.1 ∈ lw_good ∧ Cond.selects M_Tb_putRule.1.cls M_Tb_putRule.1 M_Tb_putRule.1 ∈ lw_good ∧ ∃ (T : u_T) (N : Nat), vwCl[9]? = some (M_Tb_putRule.1.cls, T, N) := ⟨lw_k3 156 rfl rfl, lw_k3 157 rfl rfl, TX7, 4, rfl⟩
abbrev M_Lw_removeContextRule : Mth := (⟨"ParallelRewritingLaw", "removeContextRule", "(LParallelRewriting;III[J)I"⟩, method_8_code, 6, (some .int), [(0, 19, 22, 21)])
theorem me_Lw_removeContextRule : iMeth M_Lw_removeContextRule 5 := ⟨lw_k1 0 rfl rfl, ⟨by decide +kernel, by decide +kernel⟩, by decide +kernel, by decide⟩
theorem sm_Lw_removeContextRule : Cond.static M_Lw_removeContextRule.1 ∈ lw_good := lw_k3 161 rfl rfl
abbrev M_Pr_removeContextRule : Mth := (⟨"ParallelRewriting", "removeContextRule", "(III)Z"⟩, prog_1_method_8_code, 5, (some .boolean), [])
theorem me_Pr_removeContextRule : iMeth M_Pr_removeContextRule 3 := ⟨lw_k1 1 rfl rfl, ⟨by decide +kernel, by decide +kernel⟩, by decide +kernel, by decide⟩
theorem pn_Pr_removeContextRule : iPlain M_Pr_removeContextRule := ⟨rfl, lw_k3 166 rfl rfl⟩
theorem vm_Pr_removeContextRule : Cond.instanceMethod M_Pr_removeContextRule.1 ∈ lw_good ∧ Cond.selects M_Pr_removeContextRule.1.cls M_Pr_removeContextRule.1 M_Pr_removeContextRule.1 ∈ lw_good ∧ ∃ (T : u_T) (N : Nat), vwCl[13]? = some (M_Pr_removeContextRule.1.cls, T, N) := ⟨lw_k3 164 rfl rfl, lw_k3 165 rfl rfl, TX11, 14, rfl⟩
abbrev M_Tb_dropRule : Mth := (⟨"ParallelRewriting$Table", "dropRule", "(II)Z"⟩, prog_9_method_10_code, 3, (some .boolean), [])
theorem me_Tb_dropRule : iMeth M_Tb_dropRule 2 := ⟨lw_k1 4 rfl rfl, ⟨by decide +kernel, by decide +kernel⟩, by decide +kernel, by decide⟩
theorem pn_Tb_dropRule : iPlain M_Tb_dropRule := ⟨rfl, lw_k3 170 rfl rfl⟩
theorem vm_Tb_dropRule : Cond.instanceMethod M_Tb_dropRule.1 ∈ lw_good ∧ Cond.selects M_Tb_dropRule.1.cls M_Tb_dropRule.1 M_Tb_dropRule.1 ∈ lw_good ∧ ∃ (T : u_T) (N : Nat), vwCl[9]? = some (M_Tb_dropRule.1.cls, T, N) := ⟨lw_k3 168 rfl rfl, lw_k3 169 rfl rfl, TX7, 4, rfl⟩
abbrev M_Lw_isDeterministic : Mth := (⟨"ParallelRewritingLaw", "isDeterministic", "(LParallelRewriting;I[J)I"⟩, method_9_code, 4, (some .int), [(0, 16, 19, 21)])
theorem me_Lw_isDeterministic : iMeth M_Lw_isDeterministic 3 := ⟨lw_k1 0 rfl rfl, ⟨by decide +kernel, by decide +kernel⟩, by decide +kernel, by decide⟩
theorem sm_Lw_isDeterministic : Cond.static M_Lw_isDeterministic.1 ∈ lw_good := lw_k3 172 rfl rfl
abbrev M_Pr_isDeterministic : Mth := (⟨"ParallelRewriting", "isDeterministic", "(I)Z"⟩, prog_1_method_9_code, 2, (some .boolean), [])
theorem me_Pr_isDeterministic : iMeth M_Pr_isDeterministic 1 := ⟨lw_k1 1 rfl rfl, ⟨by decide +kernel, by decide +kernel⟩, by decide +kernel, by decide⟩
theorem pn_Pr_isDeterministic : iPlain M_Pr_isDeterministic := ⟨rfl, lw_k3 177 rfl rfl⟩
theorem vm_Pr_isDeterministic : Cond.instanceMethod M_Pr_isDeterministic.1 ∈ lw_good ∧ Cond.selects M_Pr_isDeterministic.1.cls M_Pr_isDeterministic.1 M_Pr_isDeterministic.1 ∈ lw_good ∧ ∃ (T : u_T) (N : Nat), vwCl[13]? = some (M_Pr_isDeterministic.1.cls, T, N) := ⟨lw_k3 175 rfl rfl, lw_k3 176 rfl rfl, TX11, 14, rfl⟩
abbrev M_Tb_leavesNoChoice : Mth := (⟨"ParallelRewriting$Table", "leavesNoChoice", "()Z"⟩, prog_9_method_11_code, 2, (some .boolean), [])
theorem me_Tb_leavesNoChoice : iMeth M_Tb_leavesNoChoice 0 := ⟨lw_k1 4 rfl rfl, ⟨by decide +kernel, by decide +kernel⟩, by decide +kernel, by decide⟩
theorem pn_Tb_leavesNoChoice : iPlain M_Tb_leavesNoChoice := ⟨rfl, lw_k3 181 rfl rfl⟩
theorem vm_Tb_leavesNoChoice : Cond.instanceMethod M_Tb_leavesNoChoice.1 ∈ lw_good ∧ Cond.selects M_Tb_leavesNoChoice.1.cls M_Tb_leavesNoChoice.1 M_Tb_leavesNoChoice.1 ∈ lw_good ∧ ∃ (T : u_T) (N : Nat), vwCl[9]? = some (M_Tb_leavesNoChoice.1.cls, T, N) := ⟨lw_k3 179 rfl rfl, lw_k3 180 rfl rfl, TX7, 4, rfl⟩
abbrev M_Lw_isPlain : Mth := (⟨"ParallelRewritingLaw", "isPlain", "(LParallelRewriting;I[J)I"⟩, method_10_code, 4, (some .int), [(0, 16, 19, 21)])
theorem me_Lw_isPlain : iMeth M_Lw_isPlain 3 := ⟨lw_k1 0 rfl rfl, ⟨by decide +kernel, by decide +kernel⟩, by decide +kernel, by decide⟩
theorem sm_Lw_isPlain : Cond.static M_Lw_isPlain.1 ∈ lw_good := lw_k3 183 rfl rfl
abbrev M_Pr_isPlain : Mth := (⟨"ParallelRewriting", "isPlain", "(I)Z"⟩, prog_1_method_10_code, 2, (some .boolean), [])
theorem me_Pr_isPlain : iMeth M_Pr_isPlain 1 := ⟨lw_k1 1 rfl rfl, ⟨by decide +kernel, by decide +kernel⟩, by decide +kernel, by decide⟩
theorem pn_Pr_isPlain : iPlain M_Pr_isPlain := ⟨rfl, lw_k3 188 rfl rfl⟩
theorem vm_Pr_isPlain : Cond.instanceMethod M_Pr_isPlain.1 ∈ lw_good ∧ Cond.selects M_Pr_isPlain.1.cls M_Pr_isPlain.1 M_Pr_isPlain.1 ∈ lw_good ∧ ∃ (T : u_T) (N : Nat), vwCl[13]? = some (M_Pr_isPlain.1.cls, T, N) := ⟨lw_k3 186 rfl rfl, lw_k3 187 rfl rfl, TX11, 14, rfl⟩
abbrev M_Lw_setWord : Mth := (⟨"ParallelRewritingLaw", "setWord", "(LParallelRewriting;[J)I"⟩, method_11_code, 3, (some .int), [(0, 8, 11, 13)])
theorem me_Lw_setWord : iMeth M_Lw_setWord 2 := ⟨lw_k1 0 rfl rfl, ⟨by decide +kernel, by decide +kernel⟩, by decide +kernel, by decide⟩
theorem sm_Lw_setWord : Cond.static M_Lw_setWord.1 ∈ lw_good := lw_k3 190 rfl rfl
abbrev M_Pr_setWord : Mth := (⟨"ParallelRewriting", "setWord", "()I"⟩, prog_1_method_11_code, 1, (some .int), [])
theorem me_Pr_setWord : iMeth M_Pr_setWord 0 := ⟨lw_k1 1 rfl rfl, ⟨by decide +kernel, by decide +kernel⟩, by decide +kernel, by decide⟩
theorem pn_Pr_setWord : iPlain M_Pr_setWord := ⟨rfl, lw_k3 195 rfl rfl⟩
theorem vm_Pr_setWord : Cond.instanceMethod M_Pr_setWord.1 ∈ lw_good ∧ Cond.selects M_Pr_setWord.1.cls M_Pr_setWord.1 M_Pr_setWord.1 ∈ lw_good ∧ ∃ (T : u_T) (N : Nat), vwCl[13]? = some (M_Pr_setWord.1.cls, T, N) := ⟨lw_k3 193 rfl rfl, lw_k3 194 rfl rfl, TX11, 14, rfl⟩
abbrev M_Wd_read : Mth := (⟨"ParallelRewriting$Word", "read", "(LParallelRewriting$Text;)V"⟩, prog_12_method_2_code, 3, none, [])
theorem me_Wd_read : iMeth M_Wd_read 1 := ⟨lw_k1 6 rfl rfl, ⟨by decide +kernel, by decide +kernel⟩, by decide +kernel, by decide⟩
theorem pn_Wd_read : iPlain M_Wd_read := ⟨rfl, lw_k3 199 rfl rfl⟩
theorem vm_Wd_read : Cond.instanceMethod M_Wd_read.1 ∈ lw_good ∧ Cond.selects M_Wd_read.1.cls M_Wd_read.1 M_Wd_read.1 ∈ lw_good ∧ ∃ (T : u_T) (N : Nat), vwCl[12]? = some (M_Wd_read.1.cls, T, N) := ⟨lw_k3 197 rfl rfl, lw_k3 198 rfl rfl, TX10, 2, rfl⟩
abbrev M_Wd_append : Mth := (⟨"ParallelRewriting$Word", "append", "(I)Z"⟩, prog_12_method_3_code, 2, (some .boolean), [])
theorem me_Wd_append : iMeth M_Wd_append 1 := ⟨lw_k1 6 rfl rfl, ⟨by decide +kernel, by decide +kernel⟩, by decide +kernel, by decide⟩
theorem pn_Wd_append : iPlain M_Wd_append := ⟨rfl, lw_k3 204 rfl rfl⟩
theorem vm_Wd_append : Cond.instanceMethod M_Wd_append.1 ∈ lw_good ∧ Cond.selects M_Wd_append.1.cls M_Wd_append.1 M_Wd_append.1 ∈ lw_good ∧ ∃ (T : u_T) (N : Nat), vwCl[12]? = some (M_Wd_append.1.cls, T, N) := ⟨lw_k3 202 rfl rfl, lw_k3 203 rfl rfl, TX10, 2, rfl⟩
abbrev M_Hi_forget : Mth := (⟨"ParallelRewriting$History", "forget", "()V"⟩, prog_5_method_4_code, 1, none, [])
theorem me_Hi_forget : iMeth M_Hi_forget 0 := ⟨lw_k1 7 rfl rfl, ⟨by decide +kernel, by decide +kernel⟩, by decide +kernel, by decide⟩
theorem pn_Hi_forget : iPlain M_Hi_forget := ⟨rfl, lw_k3 208 rfl rfl⟩
theorem vm_Hi_forget : Cond.instanceMethod M_Hi_forget.1 ∈ lw_good ∧ Cond.selects M_Hi_forget.1.cls M_Hi_forget.1 M_Hi_forget.1 ∈ lw_good ∧ ∃ (T : u_T) (N : Nat), vwCl[5]? = some (M_Hi_forget.1.cls, T, N) := ⟨lw_k3 206 rfl rfl, lw_k3 207 rfl rfl, TX3, 3, rfl⟩
abbrev M_Lw_setTarget : Mth := (⟨"ParallelRewritingLaw", "setTarget", "(LParallelRewriting;[J)I"⟩, method_12_code, 3, (some .int), [(0, 8, 11, 13)])
theorem me_Lw_setTarget : iMeth M_Lw_setTarget 2 := ⟨lw_k1 0 rfl rfl, ⟨by decide +kernel, by decide +kernel⟩, by decide +kernel, by decide⟩
theorem sm_Lw_setTarget : Cond.static M_Lw_setTarget.1 ∈ lw_good := lw_k3 210 rfl rfl
abbrev M_Pr_setTarget : Mth := (⟨"ParallelRewriting", "setTarget", "()I"⟩, prog_1_method_12_code, 1, (some .int), [])
theorem me_Pr_setTarget : iMeth M_Pr_setTarget 0 := ⟨lw_k1 1 rfl rfl, ⟨by decide +kernel, by decide +kernel⟩, by decide +kernel, by decide⟩
theorem pn_Pr_setTarget : iPlain M_Pr_setTarget := ⟨rfl, lw_k3 215 rfl rfl⟩
theorem vm_Pr_setTarget : Cond.instanceMethod M_Pr_setTarget.1 ∈ lw_good ∧ Cond.selects M_Pr_setTarget.1.cls M_Pr_setTarget.1 M_Pr_setTarget.1 ∈ lw_good ∧ ∃ (T : u_T) (N : Nat), vwCl[13]? = some (M_Pr_setTarget.1.cls, T, N) := ⟨lw_k3 213 rfl rfl, lw_k3 214 rfl rfl, TX11, 14, rfl⟩
abbrev M_Lw_wordLetter : Mth := (⟨"ParallelRewritingLaw", "wordLetter", "(LParallelRewriting;I[J)I"⟩, method_13_code, 4, (some .int), [(0, 9, 12, 21)])
theorem me_Lw_wordLetter : iMeth M_Lw_wordLetter 3 := ⟨lw_k1 0 rfl rfl, ⟨by decide +kernel, by decide +kernel⟩, by decide +kernel, by decide⟩
theorem sm_Lw_wordLetter : Cond.static M_Lw_wordLetter.1 ∈ lw_good := lw_k3 217 rfl rfl
abbrev M_Pr_wordLetter : Mth := (⟨"ParallelRewriting", "wordLetter", "(I)I"⟩, prog_1_method_14_code, 2, (some .int), [])
theorem me_Pr_wordLetter : iMeth M_Pr_wordLetter 1 := ⟨lw_k1 1 rfl rfl, ⟨by decide +kernel, by decide +kernel⟩, by decide +kernel, by decide⟩
theorem pn_Pr_wordLetter : iPlain M_Pr_wordLetter := ⟨rfl, lw_k3 222 rfl rfl⟩
theorem vm_Pr_wordLetter : Cond.instanceMethod M_Pr_wordLetter.1 ∈ lw_good ∧ Cond.selects M_Pr_wordLetter.1.cls M_Pr_wordLetter.1 M_Pr_wordLetter.1 ∈ lw_good ∧ ∃ (T : u_T) (N : Nat), vwCl[13]? = some (M_Pr_wordLetter.1.cls, T, N) := ⟨lw_k3 220 rfl rfl, lw_k3 221 rfl rfl, TX11, 14, rfl⟩
abbrev M_Lw_step : Mth := (⟨"ParallelRewritingLaw", "step", "(LParallelRewriting;II[J)I"⟩, method_14_code, 5, (some .int), [(0, 10, 13, 21), (0, 10, 17, 15)])
theorem me_Lw_step : iMeth M_Lw_step 4 := ⟨lw_k1 0 rfl rfl, ⟨by decide +kernel, by decide +kernel⟩, by decide +kernel, by decide⟩
theorem sm_Lw_step : Cond.static M_Lw_step.1 ∈ lw_good := lw_k3 225 rfl rfl
abbrev M_Pr_step : Mth := (⟨"ParallelRewriting", "step", "(II)I"⟩, prog_1_method_16_code, 4, (some .int), [])
theorem me_Pr_step : iMeth M_Pr_step 2 := ⟨lw_k1 1 rfl rfl, ⟨by decide +kernel, by decide +kernel⟩, by decide +kernel, by decide⟩
theorem pn_Pr_step : iPlain M_Pr_step := ⟨rfl, lw_k3 230 rfl rfl⟩
theorem vm_Pr_step : Cond.instanceMethod M_Pr_step.1 ∈ lw_good ∧ Cond.selects M_Pr_step.1.cls M_Pr_step.1 M_Pr_step.1 ∈ lw_good ∧ ∃ (T : u_T) (N : Nat), vwCl[13]? = some (M_Pr_step.1.cls, T, N) := ⟨lw_k3 228 rfl rfl, lw_k3 229 rfl rfl, TX11, 14, rfl⟩
abbrev M_Tb_rewrite : Mth := (⟨"ParallelRewriting$Table", "rewrite", "(LParallelRewriting$Word;ILParallelRewriting$Word;)Z"⟩, prog_9_method_14_code, 7, (some .boolean), [])
theorem me_Tb_rewrite : iMeth M_Tb_rewrite 3 := ⟨lw_k1 4 rfl rfl, ⟨by decide +kernel, by decide +kernel⟩, by decide +kernel, by decide⟩
theorem pn_Tb_rewrite : iPlain M_Tb_rewrite := ⟨rfl, lw_k3 234 rfl rfl⟩
theorem vm_Tb_rewrite : Cond.instanceMethod M_Tb_rewrite.1 ∈ lw_good ∧ Cond.selects M_Tb_rewrite.1.cls M_Tb_rewrite.1 M_Tb_rewrite.1 ∈ lw_good ∧ ∃ (T : u_T) (N : Nat), vwCl[9]? = some (M_Tb_rewrite.1.cls, T, N) := ⟨lw_k3 232 rfl rfl, lw_k3 233 rfl rfl, TX7, 4, rfl⟩
abbrev M_Tb_ruleSlotAt : Mth := (⟨"ParallelRewriting$Table", "ruleSlotAt", "(LParallelRewriting$Word;I)I"⟩, prog_9_method_13_code, 4, (some .int), [])
theorem me_Tb_ruleSlotAt : iMeth M_Tb_ruleSlotAt 2 := ⟨lw_k1 4 rfl rfl, ⟨by decide +kernel, by decide +kernel⟩, by decide +kernel, by decide⟩
theorem pn_Tb_ruleSlotAt : iPlain M_Tb_ruleSlotAt := ⟨rfl, lw_k3 238 rfl rfl⟩
theorem vm_Tb_ruleSlotAt : Cond.instanceMethod M_Tb_ruleSlotAt.1 ∈ lw_good ∧ Cond.selects M_Tb_ruleSlotAt.1.cls M_Tb_ruleSlotAt.1 M_Tb_ruleSlotAt.1 ∈ lw_good ∧ ∃ (T : u_T) (N : Nat), vwCl[9]? = some (M_Tb_ruleSlotAt.1.cls, T, N) := ⟨lw_k3 236 rfl rfl, lw_k3 237 rfl rfl, TX7, 4, rfl⟩
abbrev M_Tb_chosenSlot : Mth := (⟨"ParallelRewriting$Table", "chosenSlot", "(II)I"⟩, prog_9_method_15_code, 4, (some .int), [])
theorem me_Tb_chosenSlot : iMeth M_Tb_chosenSlot 2 := ⟨lw_k1 4 rfl rfl, ⟨by decide +kernel, by decide +kernel⟩, by decide +kernel, by decide⟩
theorem pn_Tb_chosenSlot : iPlain M_Tb_chosenSlot := ⟨rfl, lw_k4 3 rfl rfl⟩
theorem vm_Tb_chosenSlot : Cond.instanceMethod M_Tb_chosenSlot.1 ∈ lw_good ∧ Cond.selects M_Tb_chosenSlot.1.cls M_Tb_chosenSlot.1 M_Tb_chosenSlot.1 ∈ lw_good ∧ ∃ (T : u_T) (N : Nat), vwCl[9]? = some (M_Tb_chosenSlot.1.cls, T, N) := ⟨lw_k4 2 rfl rfl, lw_inP (q := (⟨"ParallelRewriting$Table", "chosenSlot", "(II)I"⟩, 4)) 4 rfl rfl, TX7, 4, rfl⟩
abbrev M_Tb_appendSlot : Mth := (⟨"ParallelRewriting$Table", "appendSlot", "(ILParallelRewriting$Word;)Z"⟩, prog_9_method_16_code, 4, (some .boolean), [])
theorem me_Tb_appendSlot : iMeth M_Tb_appendSlot 2 := ⟨lw_k1 4 rfl rfl, ⟨by decide +kernel, by decide +kernel⟩, by decide +kernel, by decide⟩
theorem pn_Tb_appendSlot : iPlain M_Tb_appendSlot := ⟨rfl, lw_k4 7 rfl rfl⟩
theorem vm_Tb_appendSlot : Cond.instanceMethod M_Tb_appendSlot.1 ∈ lw_good ∧ Cond.selects M_Tb_appendSlot.1.cls M_Tb_appendSlot.1 M_Tb_appendSlot.1 ∈ lw_good ∧ ∃ (T : u_T) (N : Nat), vwCl[9]? = some (M_Tb_appendSlot.1.cls, T, N) := ⟨lw_k4 6 rfl rfl, lw_inP (q := (⟨"ParallelRewriting$Table", "appendSlot", "(ILParallelRewriting$Word;)Z"⟩, 4)) 5 rfl rfl, TX7, 4, rfl⟩
abbrev M_Tb_letterOf : Mth := (⟨"ParallelRewriting$Table", "letterOf", "(II)I"⟩, prog_9_method_12_code, 3, (some .int), [])
theorem me_Tb_letterOf : iMeth M_Tb_letterOf 2 := ⟨lw_k1 4 rfl rfl, ⟨by decide +kernel, by decide +kernel⟩, by decide +kernel, by decide⟩
theorem pn_Tb_letterOf : iPlain M_Tb_letterOf := ⟨rfl, lw_k4 11 rfl rfl⟩
theorem vm_Tb_letterOf : Cond.instanceMethod M_Tb_letterOf.1 ∈ lw_good ∧ Cond.selects M_Tb_letterOf.1.cls M_Tb_letterOf.1 M_Tb_letterOf.1 ∈ lw_good ∧ ∃ (T : u_T) (N : Nat), vwCl[9]? = some (M_Tb_letterOf.1.cls, T, N) := ⟨lw_k4 9 rfl rfl, lw_k4 10 rfl rfl, TX7, 4, rfl⟩
abbrev M_Hi_remember : Mth := (⟨"ParallelRewriting$History", "remember", "(LParallelRewriting$Word;)V"⟩, prog_5_method_2_code, 2, none, [])
theorem me_Hi_remember : iMeth M_Hi_remember 1 := ⟨lw_k1 7 rfl rfl, ⟨by decide +kernel, by decide +kernel⟩, by decide +kernel, by decide⟩
theorem pn_Hi_remember : iPlain M_Hi_remember := ⟨rfl, lw_k4 17 rfl rfl⟩
theorem vm_Hi_remember : Cond.instanceMethod M_Hi_remember.1 ∈ lw_good ∧ Cond.selects M_Hi_remember.1.cls M_Hi_remember.1 M_Hi_remember.1 ∈ lw_good ∧ ∃ (T : u_T) (N : Nat), vwCl[5]? = some (M_Hi_remember.1.cls, T, N) := ⟨lw_k4 15 rfl rfl, lw_k4 16 rfl rfl, TX3, 3, rfl⟩
abbrev M_Lw_lengthAfter : Mth := (⟨"ParallelRewritingLaw", "lengthAfter", "(LParallelRewriting;II[J)I"⟩, method_15_code, 5, (some .int), [(0, 9, 12, 21), (0, 9, 16, 13), (0, 9, 20, 15), (0, 9, 24, 60)])
theorem me_Lw_lengthAfter : iMeth M_Lw_lengthAfter 4 := ⟨lw_k1 0 rfl rfl, ⟨by decide +kernel, by decide +kernel⟩, by decide +kernel, by decide⟩
theorem sm_Lw_lengthAfter : Cond.static M_Lw_lengthAfter.1 ∈ lw_good := lw_k4 20 rfl rfl
abbrev M_Pr_lengthAfter : Mth := (⟨"ParallelRewriting", "lengthAfter", "(II)J"⟩, prog_1_method_18_code, 4, (some .long), [])
theorem me_Pr_lengthAfter : iMeth M_Pr_lengthAfter 2 := ⟨lw_k1 1 rfl rfl, ⟨by decide +kernel, by decide +kernel⟩, by decide +kernel, by decide⟩
theorem pn_Pr_lengthAfter : iPlain M_Pr_lengthAfter := ⟨rfl, lw_k4 39 rfl rfl⟩
theorem vm_Pr_lengthAfter : Cond.instanceMethod M_Pr_lengthAfter.1 ∈ lw_good ∧ Cond.selects M_Pr_lengthAfter.1.cls M_Pr_lengthAfter.1 M_Pr_lengthAfter.1 ∈ lw_good ∧ ∃ (T : u_T) (N : Nat), vwCl[13]? = some (M_Pr_lengthAfter.1.cls, T, N) := ⟨lw_k4 37 rfl rfl, lw_k4 38 rfl rfl, TX11, 14, rfl⟩
abbrev M_Pr_advanceGrowth : Mth := (⟨"ParallelRewriting", "advanceGrowth", "(LParallelRewriting$Table;I)V"⟩, prog_1_method_43_code, 3, none, [])
theorem me_Pr_advanceGrowth : iMeth M_Pr_advanceGrowth 2 := ⟨lw_k1 1 rfl rfl, ⟨by decide +kernel, by decide +kernel⟩, by decide +kernel, by decide⟩
theorem pn_Pr_advanceGrowth : iPlain M_Pr_advanceGrowth := ⟨rfl, lw_k4 43 rfl rfl⟩
theorem vm_Pr_advanceGrowth : Cond.instanceMethod M_Pr_advanceGrowth.1 ∈ lw_good ∧ Cond.selects M_Pr_advanceGrowth.1.cls M_Pr_advanceGrowth.1 M_Pr_advanceGrowth.1 ∈ lw_good ∧ ∃ (T : u_T) (N : Nat), vwCl[13]? = some (M_Pr_advanceGrowth.1.cls, T, N) := ⟨lw_k4 42 rfl rfl, lw_inP (q := (⟨"ParallelRewriting", "advanceGrowth", "(LParallelRewriting$Table;I)V"⟩, 14)) 6 rfl rfl, TX11, 14, rfl⟩
abbrev M_Pr_checkPlainAndDeterministic : Mth := (⟨"ParallelRewriting", "checkPlainAndDeterministic", "(LParallelRewriting$Table;)V"⟩, prog_1_method_42_code, 1, none, [])
theorem me_Pr_checkPlainAndDeterministic : iMeth M_Pr_checkPlainAndDeterministic 1 := ⟨lw_k1 1 rfl rfl, ⟨by decide +kernel, by decide +kernel⟩, by decide +kernel, by decide⟩
theorem pn_Pr_checkPlainAndDeterministic : iPlain M_Pr_checkPlainAndDeterministic := ⟨rfl, lw_k4 47 rfl rfl⟩
theorem sm_Pr_checkPlainAndDeterministic : Cond.static M_Pr_checkPlainAndDeterministic.1 ∈ lw_good := lw_k4 46 rfl rfl
abbrev M_Gr_advance : Mth := (⟨"ParallelRewriting$Growth", "advance", "(LParallelRewriting$Table;LParallelRewriting$Word;I)Z"⟩, prog_4_method_2_code, 5, (some .boolean), [])
theorem me_Gr_advance : iMeth M_Gr_advance 3 := ⟨lw_k1 8 rfl rfl, ⟨by decide +kernel, by decide +kernel⟩, by decide +kernel, by decide⟩
theorem pn_Gr_advance : iPlain M_Gr_advance := ⟨rfl, lw_k4 52 rfl rfl⟩
theorem vm_Gr_advance : Cond.instanceMethod M_Gr_advance.1 ∈ lw_good ∧ Cond.selects M_Gr_advance.1.cls M_Gr_advance.1 M_Gr_advance.1 ∈ lw_good ∧ ∃ (T : u_T) (N : Nat), vwCl[4]? = some (M_Gr_advance.1.cls, T, N) := ⟨lw_k4 50 rfl rfl, lw_k4 51 rfl rfl, TX2, 5, rfl⟩
abbrev M_Ar_fillJ : Mth := (⟨"java/util/Arrays", "fill", "([JJ)V"⟩, prog_35_method_101_code, 5, none, [])
theorem me_Ar_fillJ : iMeth M_Ar_fillJ 2 := ⟨lw_k1 5 rfl rfl, ⟨by decide +kernel, by decide +kernel⟩, by decide +kernel, by decide⟩
theorem pn_Ar_fillJ : iPlain M_Ar_fillJ := ⟨rfl, lw_k4 55 rfl rfl⟩
theorem sm_Ar_fillJ : Cond.static M_Ar_fillJ.1 ∈ lw_good := lw_k4 54 rfl rfl
abbrev M_Gr_advanceOnce : Mth := (⟨"ParallelRewriting$Growth", "advanceOnce", "(LParallelRewriting$Table;)Z"⟩, prog_4_method_3_code, 5, (some .boolean), [])
theorem me_Gr_advanceOnce : iMeth M_Gr_advanceOnce 1 := ⟨lw_k1 8 rfl rfl, ⟨by decide +kernel, by decide +kernel⟩, by decide +kernel, by decide⟩
theorem pn_Gr_advanceOnce : iPlain M_Gr_advanceOnce := ⟨rfl, lw_k4 59 rfl rfl⟩
theorem vm_Gr_advanceOnce : Cond.instanceMethod M_Gr_advanceOnce.1 ∈ lw_good ∧ Cond.selects M_Gr_advanceOnce.1.cls M_Gr_advanceOnce.1 M_Gr_advanceOnce.1 ∈ lw_good ∧ ∃ (T : u_T) (N : Nat), vwCl[4]? = some (M_Gr_advanceOnce.1.cls, T, N) := ⟨lw_k4 58 rfl rfl, lw_inP (q := (⟨"ParallelRewriting$Growth", "advanceOnce", "(LParallelRewriting$Table;)Z"⟩, 5)) 7 rfl rfl, TX2, 5, rfl⟩
abbrev M_Lw_countAfter : Mth := (⟨"ParallelRewritingLaw", "countAfter", "(LParallelRewriting;III[J)I"⟩, method_16_code, 6, (some .int), [(0, 11, 14, 21), (0, 11, 18, 13), (0, 11, 22, 15), (0, 11, 26, 60)])
theorem me_Lw_countAfter : iMeth M_Lw_countAfter 5 := ⟨lw_k1 0 rfl rfl, ⟨by decide +kernel, by decide +kernel⟩, by decide +kernel, by decide⟩
theorem sm_Lw_countAfter : Cond.static M_Lw_countAfter.1 ∈ lw_good := lw_k4 67 rfl rfl
abbrev M_Pr_countAfter : Mth := (⟨"ParallelRewriting", "countAfter", "(III)J"⟩, prog_1_method_19_code, 5, (some .long), [])
theorem me_Pr_countAfter : iMeth M_Pr_countAfter 3 := ⟨lw_k1 1 rfl rfl, ⟨by decide +kernel, by decide +kernel⟩, by decide +kernel, by decide⟩
theorem pn_Pr_countAfter : iPlain M_Pr_countAfter := ⟨rfl, lw_k4 72 rfl rfl⟩
theorem vm_Pr_countAfter : Cond.instanceMethod M_Pr_countAfter.1 ∈ lw_good ∧ Cond.selects M_Pr_countAfter.1.cls M_Pr_countAfter.1 M_Pr_countAfter.1 ∈ lw_good ∧ ∃ (T : u_T) (N : Nat), vwCl[13]? = some (M_Pr_countAfter.1.cls, T, N) := ⟨lw_k4 70 rfl rfl, lw_k4 71 rfl rfl, TX11, 14, rfl⟩
abbrev M_Lw_growthKind : Mth := (⟨"ParallelRewritingLaw", "growthKind", "(LParallelRewriting;I[J)I"⟩, method_17_code, 4, (some .int), [(0, 9, 12, 21), (0, 9, 15, 15)])
theorem me_Lw_growthKind : iMeth M_Lw_growthKind 3 := ⟨lw_k1 0 rfl rfl, ⟨by decide +kernel, by decide +kernel⟩, by decide +kernel, by decide⟩
theorem sm_Lw_growthKind : Cond.static M_Lw_growthKind.1 ∈ lw_good := lw_k4 74 rfl rfl
abbrev M_Pr_growthKind : Mth := (⟨"ParallelRewriting", "growthKind", "(I)I"⟩, prog_1_method_20_code, 4, (some .int), [])
theorem me_Pr_growthKind : iMeth M_Pr_growthKind 1 := ⟨lw_k1 1 rfl rfl, ⟨by decide +kernel, by decide +kernel⟩, by decide +kernel, by decide⟩
theorem pn_Pr_growthKind : iPlain M_Pr_growthKind := ⟨rfl, lw_k4 79 rfl rfl⟩
theorem vm_Pr_growthKind : Cond.instanceMethod M_Pr_growthKind.1 ∈ lw_good ∧ Cond.selects M_Pr_growthKind.1.cls M_Pr_growthKind.1 M_Pr_growthKind.1 ∈ lw_good ∧ ∃ (T : u_T) (N : Nat), vwCl[13]? = some (M_Pr_growthKind.1.cls, T, N) := ⟨lw_k4 77 rfl rfl, lw_k4 78 rfl rfl, TX11, 14, rfl⟩
abbrev M_Gr_longestChain : Mth := (⟨"ParallelRewriting$Growth", "longestChain", "(LParallelRewriting$Table;LParallelRewriting$Word;)I"⟩, prog_4_method_4_code, 6, (some .int), [])
theorem me_Gr_longestChain : iMeth M_Gr_longestChain 2 := ⟨lw_k1 8 rfl rfl, ⟨by decide +kernel, by decide +kernel⟩, by decide +kernel, by decide⟩
theorem pn_Gr_longestChain : iPlain M_Gr_longestChain := ⟨rfl, lw_k4 83 rfl rfl⟩
theorem vm_Gr_longestChain : Cond.instanceMethod M_Gr_longestChain.1 ∈ lw_good ∧ Cond.selects M_Gr_longestChain.1.cls M_Gr_longestChain.1 M_Gr_longestChain.1 ∈ lw_good ∧ ∃ (T : u_T) (N : Nat), vwCl[4]? = some (M_Gr_longestChain.1.cls, T, N) := ⟨lw_k4 81 rfl rfl, lw_k4 82 rfl rfl, TX2, 5, rfl⟩
abbrev M_Gr_findReach : Mth := (⟨"ParallelRewriting$Growth", "findReach", "(LParallelRewriting$Table;)V"⟩, prog_4_method_6_code, 5, none, [])
theorem me_Gr_findReach : iMeth M_Gr_findReach 1 := ⟨lw_k1 8 rfl rfl, ⟨by decide +kernel, by decide +kernel⟩, by decide +kernel, by decide⟩
theorem pn_Gr_findReach : iPlain M_Gr_findReach := ⟨rfl, lw_k4 87 rfl rfl⟩
theorem vm_Gr_findReach : Cond.instanceMethod M_Gr_findReach.1 ∈ lw_good ∧ Cond.selects M_Gr_findReach.1.cls M_Gr_findReach.1 M_Gr_findReach.1 ∈ lw_good ∧ ∃ (T : u_T) (N : Nat), vwCl[4]? = some (M_Gr_findReach.1.cls, T, N) := ⟨lw_k4 86 rfl rfl, lw_inP (q := (⟨"ParallelRewriting$Growth", "findReach", "(LParallelRewriting$Table;)V"⟩, 5)) 8 rfl rfl, TX2, 5, rfl⟩
abbrev M_Gr_contains : Mth := (⟨"ParallelRewriting$Growth", "contains", "(II)Z"⟩, prog_4_method_5_code, 2, (some .boolean), [])
theorem me_Gr_contains : iMeth M_Gr_contains 2 := ⟨lw_k1 8 rfl rfl, ⟨by decide +kernel, by decide +kernel⟩, by decide +kernel, by decide⟩
theorem pn_Gr_contains : iPlain M_Gr_contains := ⟨rfl, lw_k4 90 rfl rfl⟩
theorem sm_Gr_contains : Cond.static M_Gr_contains.1 ∈ lw_good := lw_k4 89 rfl rfl
abbrev M_Gr_findChains : Mth := (⟨"ParallelRewriting$Growth", "findChains", "()V"⟩, prog_4_method_7_code, 3, none, [])
theorem me_Gr_findChains : iMeth M_Gr_findChains 0 := ⟨lw_k1 8 rfl rfl, ⟨by decide +kernel, by decide +kernel⟩, by decide +kernel, by decide⟩
theorem pn_Gr_findChains : iPlain M_Gr_findChains := ⟨rfl, lw_k4 94 rfl rfl⟩
theorem vm_Gr_findChains : Cond.instanceMethod M_Gr_findChains.1 ∈ lw_good ∧ Cond.selects M_Gr_findChains.1.cls M_Gr_findChains.1 M_Gr_findChains.1 ∈ lw_good ∧ ∃ (T : u_T) (N : Nat), vwCl[4]? = some (M_Gr_findChains.1.cls, T, N) := ⟨lw_k4 93 rfl rfl, lw_inP (q := (⟨"ParallelRewriting$Growth", "findChains", "()V"⟩, 5)) 9 rfl rfl, TX2, 5, rfl⟩
abbrev M_Gr_lengthenChain : Mth := (⟨"ParallelRewriting$Growth", "lengthenChain", "(I)V"⟩, prog_4_method_8_code, 3, none, [])
theorem me_Gr_lengthenChain : iMeth M_Gr_lengthenChain 1 := ⟨lw_k1 8 rfl rfl, ⟨by decide +kernel, by decide +kernel⟩, by decide +kernel, by decide⟩
theorem pn_Gr_lengthenChain : iPlain M_Gr_lengthenChain := ⟨rfl, lw_k4 98 rfl rfl⟩
theorem vm_Gr_lengthenChain : Cond.instanceMethod M_Gr_lengthenChain.1 ∈ lw_good ∧ Cond.selects M_Gr_lengthenChain.1.cls M_Gr_lengthenChain.1 M_Gr_lengthenChain.1 ∈ lw_good ∧ ∃ (T : u_T) (N : Nat), vwCl[4]? = some (M_Gr_lengthenChain.1.cls, T, N) := ⟨lw_k4 97 rfl rfl, lw_inP (q := (⟨"ParallelRewriting$Growth", "lengthenChain", "(I)V"⟩, 5)) 10 rfl rfl, TX2, 5, rfl⟩
abbrev M_Ma_maxI : Mth := (⟨"java/lang/Math", "max", "(II)I"⟩, prog_25_method_65_code, 2, (some .int), [])
theorem me_Ma_maxI : iMeth M_Ma_maxI 2 := ⟨lw_k1 23 rfl rfl, ⟨by decide +kernel, by decide +kernel⟩, by decide +kernel, by decide⟩
theorem pn_Ma_maxI : iPlain M_Ma_maxI := ⟨rfl, lw_k4 101 rfl rfl⟩
theorem sm_Ma_maxI : Cond.static M_Ma_maxI.1 ∈ lw_good := lw_k4 100 rfl rfl
abbrev M_Gr_lettersReached : Mth := (⟨"ParallelRewriting$Growth", "lettersReached", "(LParallelRewriting$Word;)I"⟩, prog_4_method_9_code, 4, (some .int), [])
theorem me_Gr_lettersReached : iMeth M_Gr_lettersReached 1 := ⟨lw_k1 8 rfl rfl, ⟨by decide +kernel, by decide +kernel⟩, by decide +kernel, by decide⟩
theorem pn_Gr_lettersReached : iPlain M_Gr_lettersReached := ⟨rfl, lw_k4 105 rfl rfl⟩
theorem vm_Gr_lettersReached : Cond.instanceMethod M_Gr_lettersReached.1 ∈ lw_good ∧ Cond.selects M_Gr_lettersReached.1.cls M_Gr_lettersReached.1 M_Gr_lettersReached.1 ∈ lw_good ∧ ∃ (T : u_T) (N : Nat), vwCl[4]? = some (M_Gr_lettersReached.1.cls, T, N) := ⟨lw_k4 104 rfl rfl, lw_inP (q := (⟨"ParallelRewriting$Growth", "lettersReached", "(LParallelRewriting$Word;)I"⟩, 5)) 11 rfl rfl, TX2, 5, rfl⟩
abbrev M_Gr_returnsTo : Mth := (⟨"ParallelRewriting$Growth", "returnsTo", "(ILParallelRewriting$Table;)I"⟩, prog_4_method_10_code, 6, (some .int), [])
theorem me_Gr_returnsTo : iMeth M_Gr_returnsTo 2 := ⟨lw_k1 8 rfl rfl, ⟨by decide +kernel, by decide +kernel⟩, by decide +kernel, by decide⟩
theorem pn_Gr_returnsTo : iPlain M_Gr_returnsTo := ⟨rfl, lw_k4 109 rfl rfl⟩
theorem vm_Gr_returnsTo : Cond.instanceMethod M_Gr_returnsTo.1 ∈ lw_good ∧ Cond.selects M_Gr_returnsTo.1.cls M_Gr_returnsTo.1 M_Gr_returnsTo.1 ∈ lw_good ∧ ∃ (T : u_T) (N : Nat), vwCl[4]? = some (M_Gr_returnsTo.1.cls, T, N) := ⟨lw_k4 108 rfl rfl, lw_inP (q := (⟨"ParallelRewriting$Growth", "returnsTo", "(ILParallelRewriting$Table;)I"⟩, 5)) 12 rfl rfl, TX2, 5, rfl⟩
abbrev M_Lw_growthDegree : Mth := (⟨"ParallelRewritingLaw", "growthDegree", "(LParallelRewriting;I[J)I"⟩, method_18_code, 4, (some .int), [(0, 9, 12, 21), (0, 9, 15, 15), (0, 9, 18, 60)])
theorem me_Lw_growthDegree : iMeth M_Lw_growthDegree 3 := ⟨lw_k1 0 rfl rfl, ⟨by decide +kernel, by decide +kernel⟩, by decide +kernel, by decide⟩
theorem sm_Lw_growthDegree : Cond.static M_Lw_growthDegree.1 ∈ lw_good := lw_k4 112 rfl rfl
abbrev M_Pr_growthDegree : Mth := (⟨"ParallelRewriting", "growthDegree", "(I)I"⟩, prog_1_method_21_code, 4, (some .int), [])
theorem me_Pr_growthDegree : iMeth M_Pr_growthDegree 1 := ⟨lw_k1 1 rfl rfl, ⟨by decide +kernel, by decide +kernel⟩, by decide +kernel, by decide⟩
theorem pn_Pr_growthDegree : iPlain M_Pr_growthDegree := ⟨rfl, lw_k4 117 rfl rfl⟩
theorem vm_Pr_growthDegree : Cond.instanceMethod M_Pr_growthDegree.1 ∈ lw_good ∧ Cond.selects M_Pr_growthDegree.1.cls M_Pr_growthDegree.1 M_Pr_growthDegree.1 ∈ lw_good ∧ ∃ (T : u_T) (N : Nat), vwCl[13]? = some (M_Pr_growthDegree.1.cls, T, N) := ⟨lw_k4 115 rfl rfl, lw_k4 116 rfl rfl, TX11, 14, rfl⟩
abbrev M_Lw_recurrenceOrder : Mth := (⟨"ParallelRewritingLaw", "recurrenceOrder", "(LParallelRewriting;I[J)I"⟩, method_19_code, 4, (some .int), [(0, 9, 12, 21), (0, 9, 15, 15)])
theorem me_Lw_recurrenceOrder : iMeth M_Lw_recurrenceOrder 3 := ⟨lw_k1 0 rfl rfl, ⟨by decide +kernel, by decide +kernel⟩, by decide +kernel, by decide⟩
theorem sm_Lw_recurrenceOrder : Cond.static M_Lw_recurrenceOrder.1 ∈ lw_good := lw_k4 121 rfl rfl
abbrev M_Pr_recurrenceOrder : Mth := (⟨"ParallelRewriting", "recurrenceOrder", "(I)I"⟩, prog_1_method_22_code, 3, (some .int), [])
theorem me_Pr_recurrenceOrder : iMeth M_Pr_recurrenceOrder 1 := ⟨lw_k1 1 rfl rfl, ⟨by decide +kernel, by decide +kernel⟩, by decide +kernel, by decide⟩
theorem pn_Pr_recurrenceOrder : iPlain M_Pr_recurrenceOrder := ⟨rfl, lw_k4 126 rfl rfl⟩
theorem vm_Pr_recurrenceOrder : Cond.instanceMethod M_Pr_recurrenceOrder.1 ∈ lw_good ∧ Cond.selects M_Pr_recurrenceOrder.1.cls M_Pr_recurrenceOrder.1 M_Pr_recurrenceOrder.1 ∈ lw_good ∧ ∃ (T : u_T) (N : Nat), vwCl[13]? = some (M_Pr_recurrenceOrder.1.cls, T, N) := ⟨lw_k4 124 rfl rfl, lw_k4 125 rfl rfl, TX11, 14, rfl⟩
abbrev M_Re_find : Mth := (⟨"ParallelRewriting$Recurrence", "find", "(LParallelRewriting$Table;LParallelRewriting$Word;)V"⟩, prog_6_method_3_code, 5, none, [])
theorem me_Re_find : iMeth M_Re_find 2 := ⟨lw_k1 9 rfl rfl, ⟨by decide +kernel, by decide +kernel⟩, by decide +kernel, by decide⟩
theorem pn_Re_find : iPlain M_Re_find := ⟨rfl, lw_k4 130 rfl rfl⟩
theorem vm_Re_find : Cond.instanceMethod M_Re_find.1 ∈ lw_good ∧ Cond.selects M_Re_find.1.cls M_Re_find.1 M_Re_find.1 ∈ lw_good ∧ ∃ (T : u_T) (N : Nat), vwCl[6]? = some (M_Re_find.1.cls, T, N) := ⟨lw_k4 128 rfl rfl, lw_k4 129 rfl rfl, TX4, 9, rfl⟩
abbrev M_Re_fillElements : Mth := (⟨"ParallelRewriting$Recurrence", "fillElements", "(LParallelRewriting$Table;LParallelRewriting$Word;)V"⟩, prog_6_method_4_code, 6, none, [])
theorem me_Re_fillElements : iMeth M_Re_fillElements 2 := ⟨lw_k1 9 rfl rfl, ⟨by decide +kernel, by decide +kernel⟩, by decide +kernel, by decide⟩
theorem pn_Re_fillElements : iPlain M_Re_fillElements := ⟨rfl, lw_k4 134 rfl rfl⟩
theorem vm_Re_fillElements : Cond.instanceMethod M_Re_fillElements.1 ∈ lw_good ∧ Cond.selects M_Re_fillElements.1.cls M_Re_fillElements.1 M_Re_fillElements.1 ∈ lw_good ∧ ∃ (T : u_T) (N : Nat), vwCl[6]? = some (M_Re_fillElements.1.cls, T, N) := ⟨lw_k4 133 rfl rfl, lw_inP (q := (⟨"ParallelRewriting$Recurrence", "fillElements", "(LParallelRewriting$Table;LParallelRewriting$Word;)V"⟩, 9)) 13 rfl rfl, TX4, 9, rfl⟩
abbrev M_Re_advanceCounts : Mth := (⟨"ParallelRewriting$Recurrence", "advanceCounts", "(LParallelRewriting$Table;)V"⟩, prog_6_method_5_code, 6, none, [])
theorem me_Re_advanceCounts : iMeth M_Re_advanceCounts 1 := ⟨lw_k1 9 rfl rfl, ⟨by decide +kernel, by decide +kernel⟩, by decide +kernel, by decide⟩
theorem pn_Re_advanceCounts : iPlain M_Re_advanceCounts := ⟨rfl, lw_k4 139 rfl rfl⟩
theorem vm_Re_advanceCounts : Cond.instanceMethod M_Re_advanceCounts.1 ∈ lw_good ∧ Cond.selects M_Re_advanceCounts.1.cls M_Re_advanceCounts.1 M_Re_advanceCounts.1 ∈ lw_good ∧ ∃ (T : u_T) (N : Nat), vwCl[6]? = some (M_Re_advanceCounts.1.cls, T, N) := ⟨lw_k4 138 rfl rfl, lw_inP (q := (⟨"ParallelRewriting$Recurrence", "advanceCounts", "(LParallelRewriting$Table;)V"⟩, 9)) 14 rfl rfl, TX4, 9, rfl⟩
abbrev M_Re_missAt : Mth := (⟨"ParallelRewriting$Recurrence", "missAt", "(I)I"⟩, prog_6_method_6_code, 4, (some .int), [])
theorem me_Re_missAt : iMeth M_Re_missAt 1 := ⟨lw_k1 9 rfl rfl, ⟨by decide +kernel, by decide +kernel⟩, by decide +kernel, by decide⟩
theorem pn_Re_missAt : iPlain M_Re_missAt := ⟨rfl, lw_k4 145 rfl rfl⟩
theorem vm_Re_missAt : Cond.instanceMethod M_Re_missAt.1 ∈ lw_good ∧ Cond.selects M_Re_missAt.1.cls M_Re_missAt.1 M_Re_missAt.1 ∈ lw_good ∧ ∃ (T : u_T) (N : Nat), vwCl[6]? = some (M_Re_missAt.1.cls, T, N) := ⟨lw_k4 144 rfl rfl, lw_inP (q := (⟨"ParallelRewriting$Recurrence", "missAt", "(I)I"⟩, 9)) 15 rfl rfl, TX4, 9, rfl⟩
abbrev M_Re_correct : Mth := (⟨"ParallelRewriting$Recurrence", "correct", "(II)V"⟩, prog_6_method_7_code, 6, none, [])
theorem me_Re_correct : iMeth M_Re_correct 2 := ⟨lw_k1 9 rfl rfl, ⟨by decide +kernel, by decide +kernel⟩, by decide +kernel, by decide⟩
theorem pn_Re_correct : iPlain M_Re_correct := ⟨rfl, lw_k4 149 rfl rfl⟩
theorem vm_Re_correct : Cond.instanceMethod M_Re_correct.1 ∈ lw_good ∧ Cond.selects M_Re_correct.1.cls M_Re_correct.1 M_Re_correct.1 ∈ lw_good ∧ ∃ (T : u_T) (N : Nat), vwCl[6]? = some (M_Re_correct.1.cls, T, N) := ⟨lw_k4 148 rfl rfl, lw_inP (q := (⟨"ParallelRewriting$Recurrence", "correct", "(II)V"⟩, 9)) 16 rfl rfl, TX4, 9, rfl⟩
abbrev M_Re_inverse : Mth := (⟨"ParallelRewriting$Recurrence", "inverse", "(I)I"⟩, prog_6_method_8_code, 4, (some .int), [])
theorem me_Re_inverse : iMeth M_Re_inverse 1 := ⟨lw_k1 9 rfl rfl, ⟨by decide +kernel, by decide +kernel⟩, by decide +kernel, by decide⟩
theorem pn_Re_inverse : iPlain M_Re_inverse := ⟨rfl, lw_k4 152 rfl rfl⟩
theorem sm_Re_inverse : Cond.static M_Re_inverse.1 ∈ lw_good := lw_k4 151 rfl rfl
abbrev M_Lw_recurrenceCoefficient : Mth := (⟨"ParallelRewritingLaw", "recurrenceCoefficient", "(LParallelRewriting;II[J)I"⟩, method_20_code, 5, (some .int), [(0, 10, 13, 21), (0, 10, 17, 15), (0, 10, 21, 78)])
theorem me_Lw_recurrenceCoefficient : iMeth M_Lw_recurrenceCoefficient 4 := ⟨lw_k1 0 rfl rfl, ⟨by decide +kernel, by decide +kernel⟩, by decide +kernel, by decide⟩
theorem sm_Lw_recurrenceCoefficient : Cond.static M_Lw_recurrenceCoefficient.1 ∈ lw_good := lw_k4 155 rfl rfl
abbrev M_Pr_recurrenceCoefficient : Mth := (⟨"ParallelRewriting", "recurrenceCoefficient", "(II)I"⟩, prog_1_method_23_code, 4, (some .int), [])
theorem me_Pr_recurrenceCoefficient : iMeth M_Pr_recurrenceCoefficient 2 := ⟨lw_k1 1 rfl rfl, ⟨by decide +kernel, by decide +kernel⟩, by decide +kernel, by decide⟩
theorem pn_Pr_recurrenceCoefficient : iPlain M_Pr_recurrenceCoefficient := ⟨rfl, lw_k4 161 rfl rfl⟩
theorem vm_Pr_recurrenceCoefficient : Cond.instanceMethod M_Pr_recurrenceCoefficient.1 ∈ lw_good ∧ Cond.selects M_Pr_recurrenceCoefficient.1.cls M_Pr_recurrenceCoefficient.1 M_Pr_recurrenceCoefficient.1 ∈ lw_good ∧ ∃ (T : u_T) (N : Nat), vwCl[13]? = some (M_Pr_recurrenceCoefficient.1.cls, T, N) := ⟨lw_k4 159 rfl rfl, lw_k4 160 rfl rfl, TX11, 14, rfl⟩
abbrev M_Re_coefficient : Mth := (⟨"ParallelRewriting$Recurrence", "coefficient", "(I)I"⟩, prog_6_method_2_code, 2, (some .int), [])
theorem me_Re_coefficient : iMeth M_Re_coefficient 1 := ⟨lw_k1 9 rfl rfl, ⟨by decide +kernel, by decide +kernel⟩, by decide +kernel, by decide⟩
theorem pn_Re_coefficient : iPlain M_Re_coefficient := ⟨rfl, lw_k4 181 rfl rfl⟩
theorem vm_Re_coefficient : Cond.instanceMethod M_Re_coefficient.1 ∈ lw_good ∧ Cond.selects M_Re_coefficient.1.cls M_Re_coefficient.1 M_Re_coefficient.1 ∈ lw_good ∧ ∃ (T : u_T) (N : Nat), vwCl[6]? = some (M_Re_coefficient.1.cls, T, N) := ⟨lw_k4 179 rfl rfl, lw_k4 180 rfl rfl, TX4, 9, rfl⟩
abbrev M_Lw_isAdult : Mth := (⟨"ParallelRewritingLaw", "isAdult", "(LParallelRewriting;I[J)I"⟩, method_21_code, 4, (some .int), [(0, 16, 19, 21)])
theorem me_Lw_isAdult : iMeth M_Lw_isAdult 3 := ⟨lw_k1 0 rfl rfl, ⟨by decide +kernel, by decide +kernel⟩, by decide +kernel, by decide⟩
theorem sm_Lw_isAdult : Cond.static M_Lw_isAdult.1 ∈ lw_good := lw_k4 183 rfl rfl
abbrev M_Pr_isAdult : Mth := (⟨"ParallelRewriting", "isAdult", "(I)Z"⟩, prog_1_method_24_code, 2, (some .boolean), [])
theorem me_Pr_isAdult : iMeth M_Pr_isAdult 1 := ⟨lw_k1 1 rfl rfl, ⟨by decide +kernel, by decide +kernel⟩, by decide +kernel, by decide⟩
theorem pn_Pr_isAdult : iPlain M_Pr_isAdult := ⟨rfl, lw_k4 188 rfl rfl⟩
theorem vm_Pr_isAdult : Cond.instanceMethod M_Pr_isAdult.1 ∈ lw_good ∧ Cond.selects M_Pr_isAdult.1.cls M_Pr_isAdult.1 M_Pr_isAdult.1 ∈ lw_good ∧ ∃ (T : u_T) (N : Nat), vwCl[13]? = some (M_Pr_isAdult.1.cls, T, N) := ⟨lw_k4 186 rfl rfl, lw_k4 187 rfl rfl, TX11, 14, rfl⟩
abbrev M_Ad_isKept : Mth := (⟨"ParallelRewriting$Adults", "isKept", "(LParallelRewriting$Table;LParallelRewriting$Word;)Z"⟩, prog_2_method_2_code, 3, (some .boolean), [])
theorem me_Ad_isKept : iMeth M_Ad_isKept 2 := ⟨lw_k1 10 rfl rfl, ⟨by decide +kernel, by decide +kernel⟩, by decide +kernel, by decide⟩
theorem pn_Ad_isKept : iPlain M_Ad_isKept := ⟨rfl, lw_k4 192 rfl rfl⟩
theorem vm_Ad_isKept : Cond.instanceMethod M_Ad_isKept.1 ∈ lw_good ∧ Cond.selects M_Ad_isKept.1.cls M_Ad_isKept.1 M_Ad_isKept.1 ∈ lw_good ∧ ∃ (T : u_T) (N : Nat), vwCl[2]? = some (M_Ad_isKept.1.cls, T, N) := ⟨lw_k4 190 rfl rfl, lw_k4 191 rfl rfl, TX0, 2, rfl⟩
abbrev M_Ad_hasOneImage : Mth := (⟨"ParallelRewriting$Adults", "hasOneImage", "(LParallelRewriting$Table;LParallelRewriting$Word;)Z"⟩, prog_2_method_3_code, 3, (some .boolean), [])
theorem me_Ad_hasOneImage : iMeth M_Ad_hasOneImage 2 := ⟨lw_k1 10 rfl rfl, ⟨by decide +kernel, by decide +kernel⟩, by decide +kernel, by decide⟩
theorem pn_Ad_hasOneImage : iPlain M_Ad_hasOneImage := ⟨rfl, lw_k4 195 rfl rfl⟩
theorem sm_Ad_hasOneImage : Cond.static M_Ad_hasOneImage.1 ∈ lw_good := lw_k4 194 rfl rfl
abbrev M_Tb_listIsUniform : Mth := (⟨"ParallelRewriting$Table", "listIsUniform", "(I)Z"⟩, prog_9_method_17_code, 3, (some .boolean), [])
theorem me_Tb_listIsUniform : iMeth M_Tb_listIsUniform 1 := ⟨lw_k1 4 rfl rfl, ⟨by decide +kernel, by decide +kernel⟩, by decide +kernel, by decide⟩
theorem pn_Tb_listIsUniform : iPlain M_Tb_listIsUniform := ⟨rfl, lw_k4 200 rfl rfl⟩
theorem vm_Tb_listIsUniform : Cond.instanceMethod M_Tb_listIsUniform.1 ∈ lw_good ∧ Cond.selects M_Tb_listIsUniform.1.cls M_Tb_listIsUniform.1 M_Tb_listIsUniform.1 ∈ lw_good ∧ ∃ (T : u_T) (N : Nat), vwCl[9]? = some (M_Tb_listIsUniform.1.cls, T, N) := ⟨lw_k4 198 rfl rfl, lw_k4 199 rfl rfl, TX7, 4, rfl⟩
abbrev M_Tb_sameProductions : Mth := (⟨"ParallelRewriting$Table", "sameProductions", "(II)Z"⟩, prog_9_method_18_code, 4, (some .boolean), [])
theorem me_Tb_sameProductions : iMeth M_Tb_sameProductions 2 := ⟨lw_k1 4 rfl rfl, ⟨by decide +kernel, by decide +kernel⟩, by decide +kernel, by decide⟩
theorem pn_Tb_sameProductions : iPlain M_Tb_sameProductions := ⟨rfl, lw_k4 204 rfl rfl⟩
theorem vm_Tb_sameProductions : Cond.instanceMethod M_Tb_sameProductions.1 ∈ lw_good ∧ Cond.selects M_Tb_sameProductions.1.cls M_Tb_sameProductions.1 M_Tb_sameProductions.1 ∈ lw_good ∧ ∃ (T : u_T) (N : Nat), vwCl[9]? = some (M_Tb_sameProductions.1.cls, T, N) := ⟨lw_k4 203 rfl rfl, lw_inP (q := (⟨"ParallelRewriting$Table", "sameProductions", "(II)Z"⟩, 4)) 17 rfl rfl, TX7, 4, rfl⟩
abbrev M_Lw_stepsToAdult : Mth := (⟨"ParallelRewritingLaw", "stepsToAdult", "(LParallelRewriting;II[J)I"⟩, method_22_code, 5, (some .int), [(0, 10, 13, 21), (0, 10, 17, 13), (0, 10, 21, 15), (0, 10, 25, 78)])
theorem me_Lw_stepsToAdult : iMeth M_Lw_stepsToAdult 4 := ⟨lw_k1 0 rfl rfl, ⟨by decide +kernel, by decide +kernel⟩, by decide +kernel, by decide⟩
theorem sm_Lw_stepsToAdult : Cond.static M_Lw_stepsToAdult.1 ∈ lw_good := lw_k4 208 rfl rfl
abbrev M_Pr_stepsToAdult : Mth := (⟨"ParallelRewriting", "stepsToAdult", "(II)I"⟩, prog_1_method_25_code, 5, (some .int), [])
theorem me_Pr_stepsToAdult : iMeth M_Pr_stepsToAdult 2 := ⟨lw_k1 1 rfl rfl, ⟨by decide +kernel, by decide +kernel⟩, by decide +kernel, by decide⟩
theorem pn_Pr_stepsToAdult : iPlain M_Pr_stepsToAdult := ⟨rfl, lw_k4 213 rfl rfl⟩
theorem vm_Pr_stepsToAdult : Cond.instanceMethod M_Pr_stepsToAdult.1 ∈ lw_good ∧ Cond.selects M_Pr_stepsToAdult.1.cls M_Pr_stepsToAdult.1 M_Pr_stepsToAdult.1 ∈ lw_good ∧ ∃ (T : u_T) (N : Nat), vwCl[13]? = some (M_Pr_stepsToAdult.1.cls, T, N) := ⟨lw_k4 211 rfl rfl, lw_k4 212 rfl rfl, TX11, 14, rfl⟩
abbrev M_Ad_stepsUntilKept : Mth := (⟨"ParallelRewriting$Adults", "stepsUntilKept", "(LParallelRewriting$Table;LParallelRewriting$Word;I)I"⟩, prog_2_method_4_code, 5, (some .int), [])
theorem me_Ad_stepsUntilKept : iMeth M_Ad_stepsUntilKept 3 := ⟨lw_k1 10 rfl rfl, ⟨by decide +kernel, by decide +kernel⟩, by decide +kernel, by decide⟩
theorem pn_Ad_stepsUntilKept : iPlain M_Ad_stepsUntilKept := ⟨rfl, lw_k4 219 rfl rfl⟩
theorem vm_Ad_stepsUntilKept : Cond.instanceMethod M_Ad_stepsUntilKept.1 ∈ lw_good ∧ Cond.selects M_Ad_stepsUntilKept.1.cls M_Ad_stepsUntilKept.1 M_Ad_stepsUntilKept.1 ∈ lw_good ∧ ∃ (T : u_T) (N : Nat), vwCl[2]? = some (M_Ad_stepsUntilKept.1.cls, T, N) := ⟨lw_k4 217 rfl rfl, lw_k4 218 rfl rfl, TX0, 2, rfl⟩
abbrev M_Lw_adultWords : Mth := (⟨"ParallelRewritingLaw", "adultWords", "(LParallelRewriting;II[J)I"⟩, method_23_code, 5, (some .int), [(0, 10, 13, 21), (0, 10, 17, 13)])
theorem me_Lw_adultWords : iMeth M_Lw_adultWords 4 := ⟨lw_k1 0 rfl rfl, ⟨by decide +kernel, by decide +kernel⟩, by decide +kernel, by decide⟩
theorem sm_Lw_adultWords : Cond.static M_Lw_adultWords.1 ∈ lw_good := lw_k4 223 rfl rfl
abbrev M_Pr_adultWords : Mth := (⟨"ParallelRewriting", "adultWords", "(II)I"⟩, prog_1_method_26_code, 4, (some .int), [])
theorem me_Pr_adultWords : iMeth M_Pr_adultWords 2 := ⟨lw_k1 1 rfl rfl, ⟨by decide +kernel, by decide +kernel⟩, by decide +kernel, by decide⟩
theorem pn_Pr_adultWords : iPlain M_Pr_adultWords := ⟨rfl, lw_k4 228 rfl rfl⟩
theorem vm_Pr_adultWords : Cond.instanceMethod M_Pr_adultWords.1 ∈ lw_good ∧ Cond.selects M_Pr_adultWords.1.cls M_Pr_adultWords.1 M_Pr_adultWords.1 ∈ lw_good ∧ ∃ (T : u_T) (N : Nat), vwCl[13]? = some (M_Pr_adultWords.1.cls, T, N) := ⟨lw_k4 226 rfl rfl, lw_k4 227 rfl rfl, TX11, 14, rfl⟩
abbrev M_Ad_countKept : Mth := (⟨"ParallelRewriting$Adults", "countKept", "(LParallelRewriting$Table;I)I"⟩, prog_2_method_5_code, 3, (some .int), [])
theorem me_Ad_countKept : iMeth M_Ad_countKept 2 := ⟨lw_k1 10 rfl rfl, ⟨by decide +kernel, by decide +kernel⟩, by decide +kernel, by decide⟩
theorem pn_Ad_countKept : iPlain M_Ad_countKept := ⟨rfl, lw_k4 233 rfl rfl⟩
theorem vm_Ad_countKept : Cond.instanceMethod M_Ad_countKept.1 ∈ lw_good ∧ Cond.selects M_Ad_countKept.1.cls M_Ad_countKept.1 M_Ad_countKept.1 ∈ lw_good ∧ ∃ (T : u_T) (N : Nat), vwCl[2]? = some (M_Ad_countKept.1.cls, T, N) := ⟨lw_k4 231 rfl rfl, lw_k4 232 rfl rfl, TX0, 2, rfl⟩
abbrev M_Ad_countExtensions : Mth := (⟨"ParallelRewriting$Adults", "countExtensions", "(LParallelRewriting$Table;I)I"⟩, prog_2_method_6_code, 6, (some .int), [])
theorem me_Ad_countExtensions : iMeth M_Ad_countExtensions 2 := ⟨lw_k1 10 rfl rfl, ⟨by decide +kernel, by decide +kernel⟩, by decide +kernel, by decide⟩
theorem pn_Ad_countExtensions : iPlain M_Ad_countExtensions := ⟨rfl, lw_k4 237 rfl rfl⟩
theorem vm_Ad_countExtensions : Cond.instanceMethod M_Ad_countExtensions.1 ∈ lw_good ∧ Cond.selects M_Ad_countExtensions.1.cls M_Ad_countExtensions.1 M_Ad_countExtensions.1 ∈ lw_good ∧ ∃ (T : u_T) (N : Nat), vwCl[2]? = some (M_Ad_countExtensions.1.cls, T, N) := ⟨lw_k4 236 rfl rfl, lw_inP (q := (⟨"ParallelRewriting$Adults", "countExtensions", "(LParallelRewriting$Table;I)I"⟩, 2)) 18 rfl rfl, TX0, 2, rfl⟩
abbrev M_Lw_ways : Mth := (⟨"ParallelRewritingLaw", "ways", "(LParallelRewriting;I[J)I"⟩, method_24_code, 4, (some .int), [(0, 8, 11, 21), (0, 8, 14, 60)])
theorem me_Lw_ways : iMeth M_Lw_ways 3 := ⟨lw_k1 0 rfl rfl, ⟨by decide +kernel, by decide +kernel⟩, by decide +kernel, by decide⟩
theorem sm_Lw_ways : Cond.static M_Lw_ways.1 ∈ lw_good := lw_k5 1 rfl rfl
abbrev M_Pr_ways : Mth := (⟨"ParallelRewriting", "ways", "(I)J"⟩, prog_1_method_27_code, 4, (some .long), [])
theorem me_Pr_ways : iMeth M_Pr_ways 1 := ⟨lw_k1 1 rfl rfl, ⟨by decide +kernel, by decide +kernel⟩, by decide +kernel, by decide⟩
theorem pn_Pr_ways : iPlain M_Pr_ways := ⟨rfl, lw_k5 6 rfl rfl⟩
theorem vm_Pr_ways : Cond.instanceMethod M_Pr_ways.1 ∈ lw_good ∧ Cond.selects M_Pr_ways.1.cls M_Pr_ways.1 M_Pr_ways.1 ∈ lw_good ∧ ∃ (T : u_T) (N : Nat), vwCl[13]? = some (M_Pr_ways.1.cls, T, N) := ⟨lw_k5 4 rfl rfl, lw_k5 5 rfl rfl, TX11, 14, rfl⟩
abbrev M_Wy_count : Mth := (⟨"ParallelRewriting$WayCounter", "count", "(LParallelRewriting$Table;LParallelRewriting$Word;LParallelRewriting$Word;)J"⟩, prog_11_method_2_code, 6, (some .long), [])
theorem me_Wy_count : iMeth M_Wy_count 3 := ⟨lw_k1 11 rfl rfl, ⟨by decide +kernel, by decide +kernel⟩, by decide +kernel, by decide⟩
theorem pn_Wy_count : iPlain M_Wy_count := ⟨rfl, lw_k5 10 rfl rfl⟩
theorem vm_Wy_count : Cond.instanceMethod M_Wy_count.1 ∈ lw_good ∧ Cond.selects M_Wy_count.1.cls M_Wy_count.1 M_Wy_count.1 ∈ lw_good ∧ ∃ (T : u_T) (N : Nat), vwCl[11]? = some (M_Wy_count.1.cls, T, N) := ⟨lw_k5 8 rfl rfl, lw_k5 9 rfl rfl, TX9, 2, rfl⟩
abbrev M_Wy_addLetter : Mth := (⟨"ParallelRewriting$WayCounter", "addLetter", "(LParallelRewriting$Table;LParallelRewriting$Word;ILParallelRewriting$Word;)V"⟩, prog_11_method_3_code, 8, none, [])
theorem me_Wy_addLetter : iMeth M_Wy_addLetter 4 := ⟨lw_k1 11 rfl rfl, ⟨by decide +kernel, by decide +kernel⟩, by decide +kernel, by decide⟩
theorem pn_Wy_addLetter : iPlain M_Wy_addLetter := ⟨rfl, lw_k5 15 rfl rfl⟩
theorem vm_Wy_addLetter : Cond.instanceMethod M_Wy_addLetter.1 ∈ lw_good ∧ Cond.selects M_Wy_addLetter.1.cls M_Wy_addLetter.1 M_Wy_addLetter.1 ∈ lw_good ∧ ∃ (T : u_T) (N : Nat), vwCl[11]? = some (M_Wy_addLetter.1.cls, T, N) := ⟨lw_k5 14 rfl rfl, lw_inP (q := (⟨"ParallelRewriting$WayCounter", "addLetter", "(LParallelRewriting$Table;LParallelRewriting$Word;ILParallelRewriting$Word;)V"⟩, 2)) 19 rfl rfl, TX9, 2, rfl⟩
abbrev M_Wy_addProductionOf : Mth := (⟨"ParallelRewriting$WayCounter", "addProductionOf", "(LParallelRewriting$Table;ILParallelRewriting$Word;)V"⟩, prog_11_method_4_code, 6, none, [])
theorem me_Wy_addProductionOf : iMeth M_Wy_addProductionOf 3 := ⟨lw_k1 11 rfl rfl, ⟨by decide +kernel, by decide +kernel⟩, by decide +kernel, by decide⟩
theorem pn_Wy_addProductionOf : iPlain M_Wy_addProductionOf := ⟨rfl, lw_k5 20 rfl rfl⟩
theorem vm_Wy_addProductionOf : Cond.instanceMethod M_Wy_addProductionOf.1 ∈ lw_good ∧ Cond.selects M_Wy_addProductionOf.1.cls M_Wy_addProductionOf.1 M_Wy_addProductionOf.1 ∈ lw_good ∧ ∃ (T : u_T) (N : Nat), vwCl[11]? = some (M_Wy_addProductionOf.1.cls, T, N) := ⟨lw_k5 19 rfl rfl, lw_inP (q := (⟨"ParallelRewriting$WayCounter", "addProductionOf", "(LParallelRewriting$Table;ILParallelRewriting$Word;)V"⟩, 2)) 20 rfl rfl, TX9, 2, rfl⟩
abbrev M_Wy_standsAt : Mth := (⟨"ParallelRewriting$WayCounter", "standsAt", "(LParallelRewriting$Table;ILParallelRewriting$Word;I)Z"⟩, prog_11_method_5_code, 5, (some .boolean), [])
theorem me_Wy_standsAt : iMeth M_Wy_standsAt 4 := ⟨lw_k1 11 rfl rfl, ⟨by decide +kernel, by decide +kernel⟩, by decide +kernel, by decide⟩
theorem pn_Wy_standsAt : iPlain M_Wy_standsAt := ⟨rfl, lw_k5 23 rfl rfl⟩
theorem sm_Wy_standsAt : Cond.static M_Wy_standsAt.1 ∈ lw_good := lw_k5 22 rfl rfl
abbrev M_Wy_sum : Mth := (⟨"ParallelRewriting$WayCounter", "sum", "(JJ)J"⟩, prog_11_method_6_code, 4, (some .long), [])
theorem me_Wy_sum : iMeth M_Wy_sum 2 := ⟨lw_k1 11 rfl rfl, ⟨by decide +kernel, by decide +kernel⟩, by decide +kernel, by decide⟩
theorem pn_Wy_sum : iPlain M_Wy_sum := ⟨rfl, lw_k5 27 rfl rfl⟩
theorem sm_Wy_sum : Cond.static M_Wy_sum.1 ∈ lw_good := lw_k5 26 rfl rfl
abbrev M_Lw_sequenceCount : Mth := (⟨"ParallelRewritingLaw", "sequenceCount", "(LParallelRewriting;I[J)I"⟩, method_25_code, 4, (some .int), [(0, 9, 12, 13), (0, 9, 15, 15)])
theorem me_Lw_sequenceCount : iMeth M_Lw_sequenceCount 3 := ⟨lw_k1 0 rfl rfl, ⟨by decide +kernel, by decide +kernel⟩, by decide +kernel, by decide⟩
theorem sm_Lw_sequenceCount : Cond.static M_Lw_sequenceCount.1 ∈ lw_good := lw_k5 34 rfl rfl
abbrev M_Pr_sequenceCount : Mth := (⟨"ParallelRewriting", "sequenceCount", "(I)I"⟩, prog_1_method_28_code, 2, (some .int), [])
theorem me_Pr_sequenceCount : iMeth M_Pr_sequenceCount 1 := ⟨lw_k1 1 rfl rfl, ⟨by decide +kernel, by decide +kernel⟩, by decide +kernel, by decide⟩
theorem pn_Pr_sequenceCount : iPlain M_Pr_sequenceCount := ⟨rfl, lw_k5 39 rfl rfl⟩
theorem vm_Pr_sequenceCount : Cond.instanceMethod M_Pr_sequenceCount.1 ∈ lw_good ∧ Cond.selects M_Pr_sequenceCount.1.cls M_Pr_sequenceCount.1 M_Pr_sequenceCount.1 ∈ lw_good ∧ ∃ (T : u_T) (N : Nat), vwCl[13]? = some (M_Pr_sequenceCount.1.cls, T, N) := ⟨lw_k5 37 rfl rfl, lw_k5 38 rfl rfl, TX11, 14, rfl⟩
abbrev M_Pr_searchSequences : Mth := (⟨"ParallelRewriting", "searchSequences", "(I)V"⟩, prog_1_method_44_code, 3, none, [])
theorem me_Pr_searchSequences : iMeth M_Pr_searchSequences 1 := ⟨lw_k1 1 rfl rfl, ⟨by decide +kernel, by decide +kernel⟩, by decide +kernel, by decide⟩
theorem pn_Pr_searchSequences : iPlain M_Pr_searchSequences := ⟨rfl, lw_k5 43 rfl rfl⟩
theorem vm_Pr_searchSequences : Cond.instanceMethod M_Pr_searchSequences.1 ∈ lw_good ∧ Cond.selects M_Pr_searchSequences.1.cls M_Pr_searchSequences.1 M_Pr_searchSequences.1 ∈ lw_good ∧ ∃ (T : u_T) (N : Nat), vwCl[13]? = some (M_Pr_searchSequences.1.cls, T, N) := ⟨lw_k5 42 rfl rfl, lw_inP (q := (⟨"ParallelRewriting", "searchSequences", "(I)V"⟩, 14)) 21 rfl rfl, TX11, 14, rfl⟩
abbrev M_Sq_run : Mth := (⟨"ParallelRewriting$SequenceSearch", "run", "(LParallelRewriting$State;I)V"⟩, prog_7_method_2_code, 3, none, [])
theorem me_Sq_run : iMeth M_Sq_run 2 := ⟨lw_k1 12 rfl rfl, ⟨by decide +kernel, by decide +kernel⟩, by decide +kernel, by decide⟩
theorem pn_Sq_run : iPlain M_Sq_run := ⟨rfl, lw_k5 49 rfl rfl⟩
theorem vm_Sq_run : Cond.instanceMethod M_Sq_run.1 ∈ lw_good ∧ Cond.selects M_Sq_run.1.cls M_Sq_run.1 M_Sq_run.1 ∈ lw_good ∧ ∃ (T : u_T) (N : Nat), vwCl[7]? = some (M_Sq_run.1.cls, T, N) := ⟨lw_k5 47 rfl rfl, lw_k5 48 rfl rfl, TX5, 3, rfl⟩
abbrev M_Sq_follow : Mth := (⟨"ParallelRewriting$SequenceSearch", "follow", "(LParallelRewriting$State;III)V"⟩, prog_7_method_3_code, 6, none, [])
theorem me_Sq_follow : iMeth M_Sq_follow 4 := ⟨lw_k1 12 rfl rfl, ⟨by decide +kernel, by decide +kernel⟩, by decide +kernel, by decide⟩
theorem pn_Sq_follow : iPlain M_Sq_follow := ⟨rfl, lw_k5 55 rfl rfl⟩
theorem vm_Sq_follow : Cond.instanceMethod M_Sq_follow.1 ∈ lw_good ∧ Cond.selects M_Sq_follow.1.cls M_Sq_follow.1 M_Sq_follow.1 ∈ lw_good ∧ ∃ (T : u_T) (N : Nat), vwCl[7]? = some (M_Sq_follow.1.cls, T, N) := ⟨lw_k5 54 rfl rfl, lw_inP (q := (⟨"ParallelRewriting$SequenceSearch", "follow", "(LParallelRewriting$State;III)V"⟩, 3)) 22 rfl rfl, TX5, 3, rfl⟩
abbrev M_Lw_firstSequence : Mth := (⟨"ParallelRewritingLaw", "firstSequence", "(LParallelRewriting;I[J)I"⟩, method_26_code, 4, (some .int), [(0, 9, 12, 13), (0, 9, 15, 15), (0, 9, 18, 78)])
theorem me_Lw_firstSequence : iMeth M_Lw_firstSequence 3 := ⟨lw_k1 0 rfl rfl, ⟨by decide +kernel, by decide +kernel⟩, by decide +kernel, by decide⟩
theorem sm_Lw_firstSequence : Cond.static M_Lw_firstSequence.1 ∈ lw_good := lw_k5 59 rfl rfl
abbrev M_Pr_firstSequence : Mth := (⟨"ParallelRewriting", "firstSequence", "(I)I"⟩, prog_1_method_29_code, 2, (some .int), [])
theorem me_Pr_firstSequence : iMeth M_Pr_firstSequence 1 := ⟨lw_k1 1 rfl rfl, ⟨by decide +kernel, by decide +kernel⟩, by decide +kernel, by decide⟩
theorem pn_Pr_firstSequence : iPlain M_Pr_firstSequence := ⟨rfl, lw_k5 64 rfl rfl⟩
theorem vm_Pr_firstSequence : Cond.instanceMethod M_Pr_firstSequence.1 ∈ lw_good ∧ Cond.selects M_Pr_firstSequence.1.cls M_Pr_firstSequence.1 M_Pr_firstSequence.1 ∈ lw_good ∧ ∃ (T : u_T) (N : Nat), vwCl[13]? = some (M_Pr_firstSequence.1.cls, T, N) := ⟨lw_k5 62 rfl rfl, lw_k5 63 rfl rfl, TX11, 14, rfl⟩
abbrev M_Lw_setCommand : Mth := (⟨"ParallelRewritingLaw", "setCommand", "(LParallelRewriting;I)I"⟩, method_27_code, 3, (some .int), [(0, 5, 8, 21), (0, 5, 11, 13)])
theorem me_Lw_setCommand : iMeth M_Lw_setCommand 2 := ⟨lw_k1 0 rfl rfl, ⟨by decide +kernel, by decide +kernel⟩, by decide +kernel, by decide⟩
theorem sm_Lw_setCommand : Cond.static M_Lw_setCommand.1 ∈ lw_good := lw_k5 67 rfl rfl
abbrev M_Pr_setCommand : Mth := (⟨"ParallelRewriting", "setCommand", "(I)V"⟩, prog_1_method_30_code, 3, none, [])
theorem me_Pr_setCommand : iMeth M_Pr_setCommand 1 := ⟨lw_k1 1 rfl rfl, ⟨by decide +kernel, by decide +kernel⟩, by decide +kernel, by decide⟩
theorem pn_Pr_setCommand : iPlain M_Pr_setCommand := ⟨rfl, lw_k5 72 rfl rfl⟩
theorem vm_Pr_setCommand : Cond.instanceMethod M_Pr_setCommand.1 ∈ lw_good ∧ Cond.selects M_Pr_setCommand.1.cls M_Pr_setCommand.1 M_Pr_setCommand.1 ∈ lw_good ∧ ∃ (T : u_T) (N : Nat), vwCl[13]? = some (M_Pr_setCommand.1.cls, T, N) := ⟨lw_k5 70 rfl rfl, lw_k5 71 rfl rfl, TX11, 14, rfl⟩
abbrev M_Pr_commandInText : Mth := (⟨"ParallelRewriting", "commandInText", "()I"⟩, prog_1_method_45_code, 2, (some .int), [])
theorem me_Pr_commandInText : iMeth M_Pr_commandInText 0 := ⟨lw_k1 1 rfl rfl, ⟨by decide +kernel, by decide +kernel⟩, by decide +kernel, by decide⟩
theorem pn_Pr_commandInText : iPlain M_Pr_commandInText := ⟨rfl, lw_k5 76 rfl rfl⟩
theorem vm_Pr_commandInText : Cond.instanceMethod M_Pr_commandInText.1 ∈ lw_good ∧ Cond.selects M_Pr_commandInText.1.cls M_Pr_commandInText.1 M_Pr_commandInText.1 ∈ lw_good ∧ ∃ (T : u_T) (N : Nat), vwCl[13]? = some (M_Pr_commandInText.1.cls, T, N) := ⟨lw_k5 75 rfl rfl, lw_inP (q := (⟨"ParallelRewriting", "commandInText", "()I"⟩, 14)) 23 rfl rfl, TX11, 14, rfl⟩
abbrev M_Pr_commandName : Mth := (⟨"ParallelRewriting", "commandName", "(I)Ljava/lang/String;"⟩, prog_1_method_46_code, 1, (some (.object "java/lang/String")), [])
theorem me_Pr_commandName : iMeth M_Pr_commandName 1 := ⟨lw_k1 1 rfl rfl, ⟨by decide +kernel, by decide +kernel⟩, by decide +kernel, by decide⟩
theorem pn_Pr_commandName : iPlain M_Pr_commandName := ⟨rfl, lw_k5 79 rfl rfl⟩
theorem sm_Pr_commandName : Cond.static M_Pr_commandName.1 ∈ lw_good := lw_k5 78 rfl rfl
abbrev M_Tx_says : Mth := (⟨"ParallelRewriting$Text", "says", "(Ljava/lang/String;)Z"⟩, prog_10_method_5_code, 3, (some .boolean), [])
theorem me_Tx_says : iMeth M_Tx_says 1 := ⟨lw_k1 2 rfl rfl, ⟨by decide +kernel, by decide +kernel⟩, by decide +kernel, by decide⟩
theorem pn_Tx_says : iPlain M_Tx_says := ⟨rfl, lw_k5 90 rfl rfl⟩
theorem vm_Tx_says : Cond.instanceMethod M_Tx_says.1 ∈ lw_good ∧ Cond.selects M_Tx_says.1.cls M_Tx_says.1 M_Tx_says.1 ∈ lw_good ∧ ∃ (T : u_T) (N : Nat), vwCl[10]? = some (M_Tx_says.1.cls, T, N) := ⟨lw_k5 88 rfl rfl, lw_k5 89 rfl rfl, TX8, 2, rfl⟩
abbrev M_Sg_length : Mth := (⟨"java/lang/String", "length", "()I"⟩, prog_28_method_54_code, 1, (some .int), [])
theorem me_Sg_length : iMeth M_Sg_length 0 := ⟨lw_k1 22 rfl rfl, ⟨by decide +kernel, by decide +kernel⟩, by decide +kernel, by decide⟩
theorem pn_Sg_length : iPlain M_Sg_length := ⟨rfl, lw_k5 94 rfl rfl⟩
abbrev M_Sg_coder : Mth := (⟨"java/lang/String", "coder", "()B"⟩, prog_28_method_152_code, 1, (some .byte), [])
theorem me_Sg_coder : iMeth M_Sg_coder 0 := ⟨lw_k1 22 rfl rfl, ⟨by decide +kernel, by decide +kernel⟩, by decide +kernel, by decide⟩
theorem pn_Sg_coder : iPlain M_Sg_coder := ⟨rfl, lw_k5 98 rfl rfl⟩
abbrev M_Sg_charAt : Mth := (⟨"java/lang/String", "charAt", "(I)C"⟩, prog_28_method_56_code, 2, (some .char), [])
theorem me_Sg_charAt : iMeth M_Sg_charAt 1 := ⟨lw_k1 22 rfl rfl, ⟨by decide +kernel, by decide +kernel⟩, by decide +kernel, by decide⟩
theorem pn_Sg_charAt : iPlain M_Sg_charAt := ⟨rfl, lw_k5 104 rfl rfl⟩
abbrev M_Sg_isLatin1 : Mth := (⟨"java/lang/String", "isLatin1", "()Z"⟩, prog_28_method_154_code, 1, (some .boolean), [])
theorem me_Sg_isLatin1 : iMeth M_Sg_isLatin1 0 := ⟨lw_k1 22 rfl rfl, ⟨by decide +kernel, by decide +kernel⟩, by decide +kernel, by decide⟩
theorem pn_Sg_isLatin1 : iPlain M_Sg_isLatin1 := ⟨rfl, lw_k5 108 rfl rfl⟩
abbrev M_Sl_charAt : Mth := (⟨"java/lang/StringLatin1", "charAt", "([BI)C"⟩, prog_29_method_2_code, 2, (some .char), [])
theorem me_Sl_charAt : iMeth M_Sl_charAt 2 := ⟨lw_k1 27 rfl rfl, ⟨by decide +kernel, by decide +kernel⟩, by decide +kernel, by decide⟩
theorem pn_Sl_charAt : iPlain M_Sl_charAt := ⟨rfl, lw_k5 111 rfl rfl⟩
theorem sm_Sl_charAt : Cond.static M_Sl_charAt.1 ∈ lw_good := lw_k5 110 rfl rfl
abbrev M_Sg_checkIndex : Mth := (⟨"java/lang/String", "checkIndex", "(II)V"⟩, prog_28_method_155_code, 2, none, [])
theorem me_Sg_checkIndex : iMeth M_Sg_checkIndex 2 := ⟨lw_k1 22 rfl rfl, ⟨by decide +kernel, by decide +kernel⟩, by decide +kernel, by decide⟩
theorem pn_Sg_checkIndex : iPlain M_Sg_checkIndex := ⟨rfl, lw_k5 114 rfl rfl⟩
theorem sm_Sg_checkIndex : Cond.static M_Sg_checkIndex.1 ∈ lw_good := lw_k5 113 rfl rfl
abbrev M_Pc_checkIndex : Mth := (⟨"jdk/internal/util/Preconditions", "checkIndex", "(IILjava/util/function/BiFunction;)I"⟩, prog_37_method_11_code, 3, (some .int), [])
theorem me_Pc_checkIndex : iMeth M_Pc_checkIndex 3 := ⟨lw_k1 28 rfl rfl, ⟨by decide +kernel, by decide +kernel⟩, by decide +kernel, by decide⟩
theorem pn_Pc_checkIndex : iPlain M_Pc_checkIndex := ⟨rfl, lw_k5 119 rfl rfl⟩
theorem sm_Pc_checkIndex : Cond.static M_Pc_checkIndex.1 ∈ lw_good := lw_k5 118 rfl rfl
abbrev M_Su_charAt : Mth := (⟨"java/lang/StringUTF16", "charAt", "([BI)C"⟩, prog_30_method_83_code, 2, (some .char), [])
theorem me_Su_charAt : iMeth M_Su_charAt 2 := ⟨lw_k1 29 rfl rfl, ⟨by decide +kernel, by decide +kernel⟩, by decide +kernel, by decide⟩
theorem pn_Su_charAt : iPlain M_Su_charAt := ⟨rfl, lw_k5 122 rfl rfl⟩
theorem sm_Su_charAt : Cond.static M_Su_charAt.1 ∈ lw_good := lw_k5 121 rfl rfl
abbrev M_Su_checkIndex : Mth := (⟨"java/lang/StringUTF16", "checkIndex", "(I[B)V"⟩, prog_30_method_91_code, 2, none, [])
theorem me_Su_checkIndex : iMeth M_Su_checkIndex 2 := ⟨lw_k1 29 rfl rfl, ⟨by decide +kernel, by decide +kernel⟩, by decide +kernel, by decide⟩
theorem pn_Su_checkIndex : iPlain M_Su_checkIndex := ⟨rfl, lw_k5 125 rfl rfl⟩
theorem sm_Su_checkIndex : Cond.static M_Su_checkIndex.1 ∈ lw_good := lw_k5 124 rfl rfl
abbrev M_Su_length : Mth := (⟨"java/lang/StringUTF16", "length", "([B)I"⟩, prog_30_method_6_code, 1, (some .int), [])
theorem me_Su_length : iMeth M_Su_length 1 := ⟨lw_k1 29 rfl rfl, ⟨by decide +kernel, by decide +kernel⟩, by decide +kernel, by decide⟩
theorem pn_Su_length : iPlain M_Su_length := ⟨rfl, lw_k5 128 rfl rfl⟩
theorem sm_Su_length : Cond.static M_Su_length.1 ∈ lw_good := lw_k5 127 rfl rfl
abbrev M_Su_getChar : Mth := (⟨"java/lang/StringUTF16", "getChar", "([BI)C"⟩, prog_30_method_5_code, 2, (some .char), [])
theorem me_Su_getChar : iMeth M_Su_getChar 2 := ⟨lw_k1 29 rfl rfl, ⟨by decide +kernel, by decide +kernel⟩, by decide +kernel, by decide⟩
theorem pn_Su_getChar : iPlain M_Su_getChar := ⟨rfl, lw_k5 132 rfl rfl⟩
theorem sm_Su_getChar : Cond.static M_Su_getChar.1 ∈ lw_good := lw_k5 131 rfl rfl
abbrev M_Lw_segmentCount : Mth := (⟨"ParallelRewritingLaw", "segmentCount", "(LParallelRewriting;[J)I"⟩, method_28_code, 3, (some .int), [(0, 8, 11, 15)])
theorem me_Lw_segmentCount : iMeth M_Lw_segmentCount 2 := ⟨lw_k1 0 rfl rfl, ⟨by decide +kernel, by decide +kernel⟩, by decide +kernel, by decide⟩
theorem sm_Lw_segmentCount : Cond.static M_Lw_segmentCount.1 ∈ lw_good := lw_k5 141 rfl rfl
abbrev M_Pr_segmentCount : Mth := (⟨"ParallelRewriting", "segmentCount", "()I"⟩, prog_1_method_31_code, 1, (some .int), [])
theorem me_Pr_segmentCount : iMeth M_Pr_segmentCount 0 := ⟨lw_k1 1 rfl rfl, ⟨by decide +kernel, by decide +kernel⟩, by decide +kernel, by decide⟩
theorem pn_Pr_segmentCount : iPlain M_Pr_segmentCount := ⟨rfl, lw_k5 146 rfl rfl⟩
theorem vm_Pr_segmentCount : Cond.instanceMethod M_Pr_segmentCount.1 ∈ lw_good ∧ Cond.selects M_Pr_segmentCount.1.cls M_Pr_segmentCount.1 M_Pr_segmentCount.1 ∈ lw_good ∧ ∃ (T : u_T) (N : Nat), vwCl[13]? = some (M_Pr_segmentCount.1.cls, T, N) := ⟨lw_k5 144 rfl rfl, lw_k5 145 rfl rfl, TX11, 14, rfl⟩
abbrev M_Pr_drawFigure : Mth := (⟨"ParallelRewriting", "drawFigure", "()V"⟩, prog_1_method_47_code, 1, none, [])
theorem me_Pr_drawFigure : iMeth M_Pr_drawFigure 0 := ⟨lw_k1 1 rfl rfl, ⟨by decide +kernel, by decide +kernel⟩, by decide +kernel, by decide⟩
theorem pn_Pr_drawFigure : iPlain M_Pr_drawFigure := ⟨rfl, lw_k5 150 rfl rfl⟩
theorem vm_Pr_drawFigure : Cond.instanceMethod M_Pr_drawFigure.1 ∈ lw_good ∧ Cond.selects M_Pr_drawFigure.1.cls M_Pr_drawFigure.1 M_Pr_drawFigure.1 ∈ lw_good ∧ ∃ (T : u_T) (N : Nat), vwCl[13]? = some (M_Pr_drawFigure.1.cls, T, N) := ⟨lw_k5 149 rfl rfl, lw_inP (q := (⟨"ParallelRewriting", "drawFigure", "()V"⟩, 14)) 24 rfl rfl, TX11, 14, rfl⟩
abbrev M_Fi_draw : Mth := (⟨"ParallelRewriting$Figure", "draw", "(LParallelRewriting$Word;[I)Z"⟩, prog_3_method_2_code, 4, (some .boolean), [])
theorem me_Fi_draw : iMeth M_Fi_draw 2 := ⟨lw_k1 13 rfl rfl, ⟨by decide +kernel, by decide +kernel⟩, by decide +kernel, by decide⟩
theorem pn_Fi_draw : iPlain M_Fi_draw := ⟨rfl, lw_k5 154 rfl rfl⟩
theorem vm_Fi_draw : Cond.instanceMethod M_Fi_draw.1 ∈ lw_good ∧ Cond.selects M_Fi_draw.1.cls M_Fi_draw.1 M_Fi_draw.1 ∈ lw_good ∧ ∃ (T : u_T) (N : Nat), vwCl[3]? = some (M_Fi_draw.1.cls, T, N) := ⟨lw_k5 152 rfl rfl, lw_k5 153 rfl rfl, TX1, 14, rfl⟩
abbrev M_Fi_begin : Mth := (⟨"ParallelRewriting$Figure", "begin", "()V"⟩, prog_3_method_3_code, 1, none, [])
theorem me_Fi_begin : iMeth M_Fi_begin 0 := ⟨lw_k1 13 rfl rfl, ⟨by decide +kernel, by decide +kernel⟩, by decide +kernel, by decide⟩
theorem pn_Fi_begin : iPlain M_Fi_begin := ⟨rfl, lw_k5 158 rfl rfl⟩
theorem vm_Fi_begin : Cond.instanceMethod M_Fi_begin.1 ∈ lw_good ∧ Cond.selects M_Fi_begin.1.cls M_Fi_begin.1 M_Fi_begin.1 ∈ lw_good ∧ ∃ (T : u_T) (N : Nat), vwCl[3]? = some (M_Fi_begin.1.cls, T, N) := ⟨lw_k5 157 rfl rfl, lw_inP (q := (⟨"ParallelRewriting$Figure", "begin", "()V"⟩, 14)) 25 rfl rfl, TX1, 14, rfl⟩
abbrev M_Fi_keepPoint : Mth := (⟨"ParallelRewriting$Figure", "keepPoint", "()V"⟩, prog_3_method_4_code, 1, none, [])
theorem me_Fi_keepPoint : iMeth M_Fi_keepPoint 0 := ⟨lw_k1 13 rfl rfl, ⟨by decide +kernel, by decide +kernel⟩, by decide +kernel, by decide⟩
theorem pn_Fi_keepPoint : iPlain M_Fi_keepPoint := ⟨rfl, lw_k5 162 rfl rfl⟩
theorem vm_Fi_keepPoint : Cond.instanceMethod M_Fi_keepPoint.1 ∈ lw_good ∧ Cond.selects M_Fi_keepPoint.1.cls M_Fi_keepPoint.1 M_Fi_keepPoint.1 ∈ lw_good ∧ ∃ (T : u_T) (N : Nat), vwCl[3]? = some (M_Fi_keepPoint.1.cls, T, N) := ⟨lw_k5 161 rfl rfl, lw_inP (q := (⟨"ParallelRewriting$Figure", "keepPoint", "()V"⟩, 14)) 26 rfl rfl, TX1, 14, rfl⟩
abbrev M_Fi_carryOut : Mth := (⟨"ParallelRewriting$Figure", "carryOut", "(I)Z"⟩, prog_3_method_5_code, 2, (some .boolean), [])
theorem me_Fi_carryOut : iMeth M_Fi_carryOut 1 := ⟨lw_k1 13 rfl rfl, ⟨by decide +kernel, by decide +kernel⟩, by decide +kernel, by decide⟩
theorem pn_Fi_carryOut : iPlain M_Fi_carryOut := ⟨rfl, lw_k5 166 rfl rfl⟩
theorem vm_Fi_carryOut : Cond.instanceMethod M_Fi_carryOut.1 ∈ lw_good ∧ Cond.selects M_Fi_carryOut.1.cls M_Fi_carryOut.1 M_Fi_carryOut.1 ∈ lw_good ∧ ∃ (T : u_T) (N : Nat), vwCl[3]? = some (M_Fi_carryOut.1.cls, T, N) := ⟨lw_k5 165 rfl rfl, lw_inP (q := (⟨"ParallelRewriting$Figure", "carryOut", "(I)Z"⟩, 14)) 27 rfl rfl, TX1, 14, rfl⟩
abbrev M_Fi_drawAhead : Mth := (⟨"ParallelRewriting$Figure", "drawAhead", "()V"⟩, prog_3_method_7_code, 5, none, [])
theorem me_Fi_drawAhead : iMeth M_Fi_drawAhead 0 := ⟨lw_k1 13 rfl rfl, ⟨by decide +kernel, by decide +kernel⟩, by decide +kernel, by decide⟩
theorem pn_Fi_drawAhead : iPlain M_Fi_drawAhead := ⟨rfl, lw_k5 170 rfl rfl⟩
theorem vm_Fi_drawAhead : Cond.instanceMethod M_Fi_drawAhead.1 ∈ lw_good ∧ Cond.selects M_Fi_drawAhead.1.cls M_Fi_drawAhead.1 M_Fi_drawAhead.1 ∈ lw_good ∧ ∃ (T : u_T) (N : Nat), vwCl[3]? = some (M_Fi_drawAhead.1.cls, T, N) := ⟨lw_k5 169 rfl rfl, lw_inP (q := (⟨"ParallelRewriting$Figure", "drawAhead", "()V"⟩, 14)) 28 rfl rfl, TX1, 14, rfl⟩
abbrev M_Fi_goAhead : Mth := (⟨"ParallelRewriting$Figure", "goAhead", "()V"⟩, prog_3_method_6_code, 1, none, [])
theorem me_Fi_goAhead : iMeth M_Fi_goAhead 0 := ⟨lw_k1 13 rfl rfl, ⟨by decide +kernel, by decide +kernel⟩, by decide +kernel, by decide⟩
theorem pn_Fi_goAhead : iPlain M_Fi_goAhead := ⟨rfl, lw_k5 174 rfl rfl⟩
theorem vm_Fi_goAhead : Cond.instanceMethod M_Fi_goAhead.1 ∈ lw_good ∧ Cond.selects M_Fi_goAhead.1.cls M_Fi_goAhead.1 M_Fi_goAhead.1 ∈ lw_good ∧ ∃ (T : u_T) (N : Nat), vwCl[3]? = some (M_Fi_goAhead.1.cls, T, N) := ⟨lw_k5 173 rfl rfl, lw_inP (q := (⟨"ParallelRewriting$Figure", "goAhead", "()V"⟩, 14)) 29 rfl rfl, TX1, 14, rfl⟩
abbrev M_Fi_isDrawn : Mth := (⟨"ParallelRewriting$Figure", "isDrawn", "(DD)Z"⟩, prog_3_method_8_code, 8, (some .boolean), [])
theorem me_Fi_isDrawn : iMeth M_Fi_isDrawn 2 := ⟨lw_k1 13 rfl rfl, ⟨by decide +kernel, by decide +kernel⟩, by decide +kernel, by decide⟩
theorem pn_Fi_isDrawn : iPlain M_Fi_isDrawn := ⟨rfl, lw_k5 178 rfl rfl⟩
theorem vm_Fi_isDrawn : Cond.instanceMethod M_Fi_isDrawn.1 ∈ lw_good ∧ Cond.selects M_Fi_isDrawn.1.cls M_Fi_isDrawn.1 M_Fi_isDrawn.1 ∈ lw_good ∧ ∃ (T : u_T) (N : Nat), vwCl[3]? = some (M_Fi_isDrawn.1.cls, T, N) := ⟨lw_k5 177 rfl rfl, lw_inP (q := (⟨"ParallelRewriting$Figure", "isDrawn", "(DD)Z"⟩, 14)) 30 rfl rfl, TX1, 14, rfl⟩
abbrev M_Fi_isEnd : Mth := (⟨"ParallelRewriting$Figure", "isEnd", "(IDD)Z"⟩, prog_3_method_9_code, 6, (some .boolean), [])
theorem me_Fi_isEnd : iMeth M_Fi_isEnd 3 := ⟨lw_k1 13 rfl rfl, ⟨by decide +kernel, by decide +kernel⟩, by decide +kernel, by decide⟩
theorem pn_Fi_isEnd : iPlain M_Fi_isEnd := ⟨rfl, lw_k5 182 rfl rfl⟩
theorem vm_Fi_isEnd : Cond.instanceMethod M_Fi_isEnd.1 ∈ lw_good ∧ Cond.selects M_Fi_isEnd.1.cls M_Fi_isEnd.1 M_Fi_isEnd.1 ∈ lw_good ∧ ∃ (T : u_T) (N : Nat), vwCl[3]? = some (M_Fi_isEnd.1.cls, T, N) := ⟨lw_k5 181 rfl rfl, lw_inP (q := (⟨"ParallelRewriting$Figure", "isEnd", "(IDD)Z"⟩, 14)) 31 rfl rfl, TX1, 14, rfl⟩
abbrev M_Fi_open : Mth := (⟨"ParallelRewriting$Figure", "open", "()Z"⟩, prog_3_method_10_code, 1, (some .boolean), [])
theorem me_Fi_open : iMeth M_Fi_open 0 := ⟨lw_k1 13 rfl rfl, ⟨by decide +kernel, by decide +kernel⟩, by decide +kernel, by decide⟩
theorem pn_Fi_open : iPlain M_Fi_open := ⟨rfl, lw_k5 186 rfl rfl⟩
theorem vm_Fi_open : Cond.instanceMethod M_Fi_open.1 ∈ lw_good ∧ Cond.selects M_Fi_open.1.cls M_Fi_open.1 M_Fi_open.1 ∈ lw_good ∧ ∃ (T : u_T) (N : Nat), vwCl[3]? = some (M_Fi_open.1.cls, T, N) := ⟨lw_k5 185 rfl rfl, lw_inP (q := (⟨"ParallelRewriting$Figure", "open", "()Z"⟩, 14)) 32 rfl rfl, TX1, 14, rfl⟩
abbrev M_Fi_close : Mth := (⟨"ParallelRewriting$Figure", "close", "()Z"⟩, prog_3_method_11_code, 1, (some .boolean), [])
theorem me_Fi_close : iMeth M_Fi_close 0 := ⟨lw_k1 13 rfl rfl, ⟨by decide +kernel, by decide +kernel⟩, by decide +kernel, by decide⟩
theorem pn_Fi_close : iPlain M_Fi_close := ⟨rfl, lw_k5 192 rfl rfl⟩
theorem vm_Fi_close : Cond.instanceMethod M_Fi_close.1 ∈ lw_good ∧ Cond.selects M_Fi_close.1.cls M_Fi_close.1 M_Fi_close.1 ∈ lw_good ∧ ∃ (T : u_T) (N : Nat), vwCl[3]? = some (M_Fi_close.1.cls, T, N) := ⟨lw_k5 191 rfl rfl, lw_inP (q := (⟨"ParallelRewriting$Figure", "close", "()Z"⟩, 14)) 33 rfl rfl, TX1, 14, rfl⟩
abbrev M_Lw_inkLength : Mth := (⟨"ParallelRewritingLaw", "inkLength", "(LParallelRewriting;[D)I"⟩, method_29_code, 3, (some .int), [(0, 7, 10, 15)])
theorem me_Lw_inkLength : iMeth M_Lw_inkLength 2 := ⟨lw_k1 0 rfl rfl, ⟨by decide +kernel, by decide +kernel⟩, by decide +kernel, by decide⟩
theorem sm_Lw_inkLength : Cond.static M_Lw_inkLength.1 ∈ lw_good := lw_k5 195 rfl rfl
abbrev M_Pr_inkLength : Mth := (⟨"ParallelRewriting", "inkLength", "()D"⟩, prog_1_method_32_code, 1, (some .double), [])
theorem me_Pr_inkLength : iMeth M_Pr_inkLength 0 := ⟨lw_k1 1 rfl rfl, ⟨by decide +kernel, by decide +kernel⟩, by decide +kernel, by decide⟩
theorem pn_Pr_inkLength : iPlain M_Pr_inkLength := ⟨rfl, lw_k5 200 rfl rfl⟩
theorem vm_Pr_inkLength : Cond.instanceMethod M_Pr_inkLength.1 ∈ lw_good ∧ Cond.selects M_Pr_inkLength.1.cls M_Pr_inkLength.1 M_Pr_inkLength.1 ∈ lw_good ∧ ∃ (T : u_T) (N : Nat), vwCl[13]? = some (M_Pr_inkLength.1.cls, T, N) := ⟨lw_k5 198 rfl rfl, lw_k5 199 rfl rfl, TX11, 14, rfl⟩
abbrev M_Lw_extent : Mth := (⟨"ParallelRewritingLaw", "extent", "(LParallelRewriting;I[D)I"⟩, method_30_code, 4, (some .int), [(0, 8, 11, 13), (0, 8, 14, 15)])
theorem me_Lw_extent : iMeth M_Lw_extent 3 := ⟨lw_k1 0 rfl rfl, ⟨by decide +kernel, by decide +kernel⟩, by decide +kernel, by decide⟩
theorem sm_Lw_extent : Cond.static M_Lw_extent.1 ∈ lw_good := lw_k5 202 rfl rfl
abbrev M_Pr_extent : Mth := (⟨"ParallelRewriting", "extent", "(I)D"⟩, prog_1_method_33_code, 3, (some .double), [])
theorem me_Pr_extent : iMeth M_Pr_extent 1 := ⟨lw_k1 1 rfl rfl, ⟨by decide +kernel, by decide +kernel⟩, by decide +kernel, by decide⟩
theorem pn_Pr_extent : iPlain M_Pr_extent := ⟨rfl, lw_k5 207 rfl rfl⟩
theorem vm_Pr_extent : Cond.instanceMethod M_Pr_extent.1 ∈ lw_good ∧ Cond.selects M_Pr_extent.1.cls M_Pr_extent.1 M_Pr_extent.1 ∈ lw_good ∧ ∃ (T : u_T) (N : Nat), vwCl[13]? = some (M_Pr_extent.1.cls, T, N) := ⟨lw_k5 205 rfl rfl, lw_k5 206 rfl rfl, TX11, 14, rfl⟩
abbrev M_Fi_lowest : Mth := (⟨"ParallelRewriting$Figure", "lowest", "([D)D"⟩, prog_3_method_12_code, 5, (some .double), [])
theorem me_Fi_lowest : iMeth M_Fi_lowest 1 := ⟨lw_k1 13 rfl rfl, ⟨by decide +kernel, by decide +kernel⟩, by decide +kernel, by decide⟩
theorem pn_Fi_lowest : iPlain M_Fi_lowest := ⟨rfl, lw_k5 212 rfl rfl⟩
theorem vm_Fi_lowest : Cond.instanceMethod M_Fi_lowest.1 ∈ lw_good ∧ Cond.selects M_Fi_lowest.1.cls M_Fi_lowest.1 M_Fi_lowest.1 ∈ lw_good ∧ ∃ (T : u_T) (N : Nat), vwCl[3]? = some (M_Fi_lowest.1.cls, T, N) := ⟨lw_k5 210 rfl rfl, lw_k5 211 rfl rfl, TX1, 14, rfl⟩
abbrev M_Fi_greatest : Mth := (⟨"ParallelRewriting$Figure", "greatest", "([D)D"⟩, prog_3_method_13_code, 5, (some .double), [])
theorem me_Fi_greatest : iMeth M_Fi_greatest 1 := ⟨lw_k1 13 rfl rfl, ⟨by decide +kernel, by decide +kernel⟩, by decide +kernel, by decide⟩
theorem pn_Fi_greatest : iPlain M_Fi_greatest := ⟨rfl, lw_k5 216 rfl rfl⟩
theorem vm_Fi_greatest : Cond.instanceMethod M_Fi_greatest.1 ∈ lw_good ∧ Cond.selects M_Fi_greatest.1.cls M_Fi_greatest.1 M_Fi_greatest.1 ∈ lw_good ∧ ∃ (T : u_T) (N : Nat), vwCl[3]? = some (M_Fi_greatest.1.cls, T, N) := ⟨lw_k5 214 rfl rfl, lw_k5 215 rfl rfl, TX1, 14, rfl⟩
abbrev M_Lw_openDepth : Mth := (⟨"ParallelRewritingLaw", "openDepth", "(LParallelRewriting;[J)I"⟩, method_31_code, 3, (some .int), [(0, 8, 11, 15)])
theorem me_Lw_openDepth : iMeth M_Lw_openDepth 2 := ⟨lw_k1 0 rfl rfl, ⟨by decide +kernel, by decide +kernel⟩, by decide +kernel, by decide⟩
theorem sm_Lw_openDepth : Cond.static M_Lw_openDepth.1 ∈ lw_good := lw_k5 218 rfl rfl
abbrev M_Pr_openDepth : Mth := (⟨"ParallelRewriting", "openDepth", "()I"⟩, prog_1_method_34_code, 1, (some .int), [])
theorem me_Pr_openDepth : iMeth M_Pr_openDepth 0 := ⟨lw_k1 1 rfl rfl, ⟨by decide +kernel, by decide +kernel⟩, by decide +kernel, by decide⟩
theorem pn_Pr_openDepth : iPlain M_Pr_openDepth := ⟨rfl, lw_k5 223 rfl rfl⟩
theorem vm_Pr_openDepth : Cond.instanceMethod M_Pr_openDepth.1 ∈ lw_good ∧ Cond.selects M_Pr_openDepth.1.cls M_Pr_openDepth.1 M_Pr_openDepth.1 ∈ lw_good ∧ ∃ (T : u_T) (N : Nat), vwCl[13]? = some (M_Pr_openDepth.1.cls, T, N) := ⟨lw_k5 221 rfl rfl, lw_k5 222 rfl rfl, TX11, 14, rfl⟩
abbrev M_Lw_keepPoints : Mth := (⟨"ParallelRewritingLaw", "keepPoints", "(LParallelRewriting;IZ[J)I"⟩, method_32_code, 5, (some .int), [(0, 10, 13, 21), (0, 10, 17, 15)])
theorem me_Lw_keepPoints : iMeth M_Lw_keepPoints 4 := ⟨lw_k1 0 rfl rfl, ⟨by decide +kernel, by decide +kernel⟩, by decide +kernel, by decide⟩
theorem sm_Lw_keepPoints : Cond.static M_Lw_keepPoints.1 ∈ lw_good := lw_k5 225 rfl rfl
abbrev M_Pr_keepPoints : Mth := (⟨"ParallelRewriting", "keepPoints", "(IZ)I"⟩, prog_1_method_35_code, 5, (some .int), [])
theorem me_Pr_keepPoints : iMeth M_Pr_keepPoints 2 := ⟨lw_k1 1 rfl rfl, ⟨by decide +kernel, by decide +kernel⟩, by decide +kernel, by decide⟩
theorem pn_Pr_keepPoints : iPlain M_Pr_keepPoints := ⟨rfl, lw_k5 230 rfl rfl⟩
theorem vm_Pr_keepPoints : Cond.instanceMethod M_Pr_keepPoints.1 ∈ lw_good ∧ Cond.selects M_Pr_keepPoints.1.cls M_Pr_keepPoints.1 M_Pr_keepPoints.1 ∈ lw_good ∧ ∃ (T : u_T) (N : Nat), vwCl[13]? = some (M_Pr_keepPoints.1.cls, T, N) := ⟨lw_k5 228 rfl rfl, lw_k5 229 rfl rfl, TX11, 14, rfl⟩
abbrev M_Pr_inTypeOfRow : Mth := (⟨"ParallelRewriting", "inTypeOfRow", "(DZ)D"⟩, prog_1_method_48_code, 3, (some .double), [])
theorem me_Pr_inTypeOfRow : iMeth M_Pr_inTypeOfRow 2 := ⟨lw_k1 1 rfl rfl, ⟨by decide +kernel, by decide +kernel⟩, by decide +kernel, by decide⟩
theorem pn_Pr_inTypeOfRow : iPlain M_Pr_inTypeOfRow := ⟨rfl, lw_k5 234 rfl rfl⟩
theorem sm_Pr_inTypeOfRow : Cond.static M_Pr_inTypeOfRow.1 ∈ lw_good := lw_k5 233 rfl rfl
abbrev M_Lw_remainder : Mth := (⟨"ParallelRewritingLaw", "remainder", "(LParallelRewriting;III[D)I"⟩, method_33_code, 6, (some .int), [(0, 11, 14, 13), (0, 11, 18, 15), (0, 11, 22, 21), (0, 11, 26, 60)])
theorem me_Lw_remainder : iMeth M_Lw_remainder 5 := ⟨lw_k1 0 rfl rfl, ⟨by decide +kernel, by decide +kernel⟩, by decide +kernel, by decide⟩
theorem sm_Lw_remainder : Cond.static M_Lw_remainder.1 ∈ lw_good := lw_k5 236 rfl rfl
abbrev M_Pr_remainder : Mth := (⟨"ParallelRewriting", "remainder", "(III)D"⟩, prog_1_method_36_code, 11, (some .double), [])
theorem me_Pr_remainder : iMeth M_Pr_remainder 3 := ⟨lw_k1 1 rfl rfl, ⟨by decide +kernel, by decide +kernel⟩, by decide +kernel, by decide⟩
theorem pn_Pr_remainder : iPlain M_Pr_remainder := ⟨rfl, lw_k6 1 rfl rfl⟩
theorem vm_Pr_remainder : Cond.instanceMethod M_Pr_remainder.1 ∈ lw_good ∧ Cond.selects M_Pr_remainder.1.cls M_Pr_remainder.1 M_Pr_remainder.1 ∈ lw_good ∧ ∃ (T : u_T) (N : Nat), vwCl[13]? = some (M_Pr_remainder.1.cls, T, N) := ⟨lw_k5 239 rfl rfl, lw_k6 0 rfl rfl, TX11, 14, rfl⟩
abbrev M_Pr_wholeParts : Mth := (⟨"ParallelRewriting", "wholeParts", "(D)J"⟩, prog_1_method_49_code, 2, (some .long), [])
theorem me_Pr_wholeParts : iMeth M_Pr_wholeParts 1 := ⟨lw_k1 1 rfl rfl, ⟨by decide +kernel, by decide +kernel⟩, by decide +kernel, by decide⟩
theorem pn_Pr_wholeParts : iPlain M_Pr_wholeParts := ⟨rfl, lw_k6 6 rfl rfl⟩
theorem sm_Pr_wholeParts : Cond.static M_Pr_wholeParts.1 ∈ lw_good := lw_k6 5 rfl rfl
abbrev M_Ma_absJ : Mth := (⟨"java/lang/Math", "abs", "(J)J"⟩, prog_25_method_61_code, 2, (some .long), [])
theorem me_Ma_absJ : iMeth M_Ma_absJ 1 := ⟨lw_k1 23 rfl rfl, ⟨by decide +kernel, by decide +kernel⟩, by decide +kernel, by decide⟩
theorem pn_Ma_absJ : iPlain M_Ma_absJ := ⟨rfl, lw_k6 11 rfl rfl⟩
theorem sm_Ma_absJ : Cond.static M_Ma_absJ.1 ∈ lw_good := lw_k6 10 rfl rfl
abbrev M_Lw_restore : Mth := (⟨"ParallelRewritingLaw", "restore", "(LParallelRewriting;)I"⟩, method_34_code, 2, (some .int), [(0, 4, 7, 15)])
theorem me_Lw_restore : iMeth M_Lw_restore 1 := ⟨lw_k1 0 rfl rfl, ⟨by decide +kernel, by decide +kernel⟩, by decide +kernel, by decide⟩
theorem sm_Lw_restore : Cond.static M_Lw_restore.1 ∈ lw_good := lw_k6 13 rfl rfl
abbrev M_Pr_restore : Mth := (⟨"ParallelRewriting", "restore", "()V"⟩, prog_1_method_38_code, 1, none, [])
theorem me_Pr_restore : iMeth M_Pr_restore 0 := ⟨lw_k1 1 rfl rfl, ⟨by decide +kernel, by decide +kernel⟩, by decide +kernel, by decide⟩
theorem pn_Pr_restore : iPlain M_Pr_restore := ⟨rfl, lw_k6 18 rfl rfl⟩
theorem vm_Pr_restore : Cond.instanceMethod M_Pr_restore.1 ∈ lw_good ∧ Cond.selects M_Pr_restore.1.cls M_Pr_restore.1 M_Pr_restore.1 ∈ lw_good ∧ ∃ (T : u_T) (N : Nat), vwCl[13]? = some (M_Pr_restore.1.cls, T, N) := ⟨lw_k6 16 rfl rfl, lw_k6 17 rfl rfl, TX11, 14, rfl⟩
abbrev M_Md_init : Mth := (⟨"ParallelRewritingModel", "<init>", "()V"⟩, prog_14_method_1_code, 4, none, [])
theorem me_Md_init : iMeth M_Md_init 0 := ⟨lw_k1 14 rfl rfl, ⟨by decide +kernel, by decide +kernel⟩, by decide +kernel, by decide⟩
theorem pn_Md_init : iPlain M_Md_init := ⟨rfl, lw_k6 24 rfl rfl⟩
theorem im_Md_init : Cond.instanceMethod M_Md_init.1 ∈ lw_good ∧ M_Md_init.1.name = "<init>" ∧ M_Md_init.2.2.2.1 = none := ⟨lw_k6 23 rfl rfl, rfl, rfl⟩
abbrev M_Md_thrown : Mth := (⟨"ParallelRewritingModel", "thrown", "()I"⟩, prog_14_method_2_code, 1, (some .int), [])
theorem me_Md_thrown : iMeth M_Md_thrown 0 := ⟨lw_k1 14 rfl rfl, ⟨by decide +kernel, by decide +kernel⟩, by decide +kernel, by decide⟩
theorem pn_Md_thrown : iPlain M_Md_thrown := ⟨rfl, lw_k6 136 rfl rfl⟩
theorem vm_Md_thrown : Cond.instanceMethod M_Md_thrown.1 ∈ lw_good ∧ Cond.selects M_Md_thrown.1.cls M_Md_thrown.1 M_Md_thrown.1 ∈ lw_good ∧ ∃ (T : u_T) (N : Nat), vwCl[14]? = some (M_Md_thrown.1.cls, T, N) := ⟨lw_k6 134 rfl rfl, lw_k6 135 rfl rfl, TX12, 35, rfl⟩
abbrev M_Md_appendCharacter : Mth := (⟨"ParallelRewritingModel", "appendCharacter", "(I)I"⟩, prog_14_method_7_code, 2, (some .int), [])
theorem me_Md_appendCharacter : iMeth M_Md_appendCharacter 1 := ⟨lw_k1 14 rfl rfl, ⟨by decide +kernel, by decide +kernel⟩, by decide +kernel, by decide⟩
theorem pn_Md_appendCharacter : iPlain M_Md_appendCharacter := ⟨rfl, lw_k6 140 rfl rfl⟩
theorem vm_Md_appendCharacter : Cond.instanceMethod M_Md_appendCharacter.1 ∈ lw_good ∧ Cond.selects M_Md_appendCharacter.1.cls M_Md_appendCharacter.1 M_Md_appendCharacter.1 ∈ lw_good ∧ ∃ (T : u_T) (N : Nat), vwCl[14]? = some (M_Md_appendCharacter.1.cls, T, N) := ⟨lw_k6 138 rfl rfl, lw_k6 139 rfl rfl, TX12, 35, rfl⟩
abbrev M_Md_in : Mth := (⟨"ParallelRewritingModel", "in", "(III)Z"⟩, prog_14_method_4_code, 3, (some .boolean), [])
theorem me_Md_in : iMeth M_Md_in 3 := ⟨lw_k1 14 rfl rfl, ⟨by decide +kernel, by decide +kernel⟩, by decide +kernel, by decide⟩
theorem pn_Md_in : iPlain M_Md_in := ⟨rfl, lw_k6 143 rfl rfl⟩
theorem sm_Md_in : Cond.static M_Md_in.1 ∈ lw_good := lw_k6 142 rfl rfl
abbrev M_Md_fails : Mth := (⟨"ParallelRewritingModel", "fails", "(I)I"⟩, prog_14_method_3_code, 2, (some .int), [])
theorem me_Md_fails : iMeth M_Md_fails 1 := ⟨lw_k1 14 rfl rfl, ⟨by decide +kernel, by decide +kernel⟩, by decide +kernel, by decide⟩
theorem pn_Md_fails : iPlain M_Md_fails := ⟨rfl, lw_k6 147 rfl rfl⟩
theorem vm_Md_fails : Cond.instanceMethod M_Md_fails.1 ∈ lw_good ∧ Cond.selects M_Md_fails.1.cls M_Md_fails.1 M_Md_fails.1 ∈ lw_good ∧ ∃ (T : u_T) (N : Nat), vwCl[14]? = some (M_Md_fails.1.cls, T, N) := ⟨lw_k6 146 rfl rfl, lw_inP (q := (⟨"ParallelRewritingModel", "fails", "(I)I"⟩, 35)) 34 rfl rfl, TX12, 35, rfl⟩
abbrev M_Md_clearText : Mth := (⟨"ParallelRewritingModel", "clearText", "()I"⟩, prog_14_method_8_code, 2, (some .int), [])
theorem me_Md_clearText : iMeth M_Md_clearText 0 := ⟨lw_k1 14 rfl rfl, ⟨by decide +kernel, by decide +kernel⟩, by decide +kernel, by decide⟩
theorem pn_Md_clearText : iPlain M_Md_clearText := ⟨rfl, lw_k6 151 rfl rfl⟩
theorem vm_Md_clearText : Cond.instanceMethod M_Md_clearText.1 ∈ lw_good ∧ Cond.selects M_Md_clearText.1.cls M_Md_clearText.1 M_Md_clearText.1 ∈ lw_good ∧ ∃ (T : u_T) (N : Nat), vwCl[14]? = some (M_Md_clearText.1.cls, T, N) := ⟨lw_k6 149 rfl rfl, lw_k6 150 rfl rfl, TX12, 35, rfl⟩
abbrev M_Md_setProduction : Mth := (⟨"ParallelRewritingModel", "setProduction", "(II)I"⟩, prog_14_method_13_code, 4, (some .int), [])
theorem me_Md_setProduction : iMeth M_Md_setProduction 2 := ⟨lw_k1 14 rfl rfl, ⟨by decide +kernel, by decide +kernel⟩, by decide +kernel, by decide⟩
theorem pn_Md_setProduction : iPlain M_Md_setProduction := ⟨rfl, lw_k6 155 rfl rfl⟩
theorem vm_Md_setProduction : Cond.instanceMethod M_Md_setProduction.1 ∈ lw_good ∧ Cond.selects M_Md_setProduction.1.cls M_Md_setProduction.1 M_Md_setProduction.1 ∈ lw_good ∧ ∃ (T : u_T) (N : Nat), vwCl[14]? = some (M_Md_setProduction.1.cls, T, N) := ⟨lw_k6 153 rfl rfl, lw_k6 154 rfl rfl, TX12, 35, rfl⟩
abbrev M_Md_isTable : Mth := (⟨"ParallelRewritingModel", "isTable", "(I)Z"⟩, prog_14_method_5_code, 1, (some .boolean), [])
theorem me_Md_isTable : iMeth M_Md_isTable 1 := ⟨lw_k1 14 rfl rfl, ⟨by decide +kernel, by decide +kernel⟩, by decide +kernel, by decide⟩
theorem pn_Md_isTable : iPlain M_Md_isTable := ⟨rfl, lw_k6 158 rfl rfl⟩
theorem sm_Md_isTable : Cond.static M_Md_isTable.1 ∈ lw_good := lw_k6 157 rfl rfl
abbrev M_Md_isLetter : Mth := (⟨"ParallelRewritingModel", "isLetter", "(I)Z"⟩, prog_14_method_6_code, 1, (some .boolean), [])
theorem me_Md_isLetter : iMeth M_Md_isLetter 1 := ⟨lw_k1 14 rfl rfl, ⟨by decide +kernel, by decide +kernel⟩, by decide +kernel, by decide⟩
theorem pn_Md_isLetter : iPlain M_Md_isLetter := ⟨rfl, lw_k6 161 rfl rfl⟩
theorem sm_Md_isLetter : Cond.static M_Md_isLetter.1 ∈ lw_good := lw_k6 160 rfl rfl
abbrev M_Md_isWord : Mth := (⟨"ParallelRewritingModel", "isWord", "(I)Z"⟩, prog_14_method_9_code, 4, (some .boolean), [])
theorem me_Md_isWord : iMeth M_Md_isWord 1 := ⟨lw_k1 14 rfl rfl, ⟨by decide +kernel, by decide +kernel⟩, by decide +kernel, by decide⟩
theorem pn_Md_isWord : iPlain M_Md_isWord := ⟨rfl, lw_k6 165 rfl rfl⟩
theorem vm_Md_isWord : Cond.instanceMethod M_Md_isWord.1 ∈ lw_good ∧ Cond.selects M_Md_isWord.1.cls M_Md_isWord.1 M_Md_isWord.1 ∈ lw_good ∧ ∃ (T : u_T) (N : Nat), vwCl[14]? = some (M_Md_isWord.1.cls, T, N) := ⟨lw_k6 164 rfl rfl, lw_inP (q := (⟨"ParallelRewritingModel", "isWord", "(I)Z"⟩, 35)) 35 rfl rfl, TX12, 35, rfl⟩
abbrev M_Md_listAt : Mth := (⟨"ParallelRewritingModel", "listAt", "(II)I"⟩, prog_14_method_11_code, 2, (some .int), [])
theorem me_Md_listAt : iMeth M_Md_listAt 2 := ⟨lw_k1 14 rfl rfl, ⟨by decide +kernel, by decide +kernel⟩, by decide +kernel, by decide⟩
theorem pn_Md_listAt : iPlain M_Md_listAt := ⟨rfl, lw_k6 168 rfl rfl⟩
theorem sm_Md_listAt : Cond.static M_Md_listAt.1 ∈ lw_good := lw_k6 167 rfl rfl
abbrev M_Md_productionAt : Mth := (⟨"ParallelRewritingModel", "productionAt", "(II)I"⟩, prog_14_method_12_code, 2, (some .int), [])
theorem me_Md_productionAt : iMeth M_Md_productionAt 2 := ⟨lw_k1 14 rfl rfl, ⟨by decide +kernel, by decide +kernel⟩, by decide +kernel, by decide⟩
theorem pn_Md_productionAt : iPlain M_Md_productionAt := ⟨rfl, lw_k6 171 rfl rfl⟩
theorem sm_Md_productionAt : Cond.static M_Md_productionAt.1 ∈ lw_good := lw_k6 170 rfl rfl
abbrev M_Md_putWord : Mth := (⟨"ParallelRewritingModel", "putWord", "([II)V"⟩, prog_14_method_10_code, 4, none, [])
theorem me_Md_putWord : iMeth M_Md_putWord 2 := ⟨lw_k1 14 rfl rfl, ⟨by decide +kernel, by decide +kernel⟩, by decide +kernel, by decide⟩
theorem pn_Md_putWord : iPlain M_Md_putWord := ⟨rfl, lw_k6 175 rfl rfl⟩
theorem vm_Md_putWord : Cond.instanceMethod M_Md_putWord.1 ∈ lw_good ∧ Cond.selects M_Md_putWord.1.cls M_Md_putWord.1 M_Md_putWord.1 ∈ lw_good ∧ ∃ (T : u_T) (N : Nat), vwCl[14]? = some (M_Md_putWord.1.cls, T, N) := ⟨lw_k6 174 rfl rfl, lw_inP (q := (⟨"ParallelRewritingModel", "putWord", "([II)V"⟩, 35)) 36 rfl rfl, TX12, 35, rfl⟩
abbrev M_Md_addProduction : Mth := (⟨"ParallelRewritingModel", "addProduction", "(II)I"⟩, prog_14_method_14_code, 5, (some .int), [])
theorem me_Md_addProduction : iMeth M_Md_addProduction 2 := ⟨lw_k1 14 rfl rfl, ⟨by decide +kernel, by decide +kernel⟩, by decide +kernel, by decide⟩
theorem pn_Md_addProduction : iPlain M_Md_addProduction := ⟨rfl, lw_k6 179 rfl rfl⟩
theorem vm_Md_addProduction : Cond.instanceMethod M_Md_addProduction.1 ∈ lw_good ∧ Cond.selects M_Md_addProduction.1.cls M_Md_addProduction.1 M_Md_addProduction.1 ∈ lw_good ∧ ∃ (T : u_T) (N : Nat), vwCl[14]? = some (M_Md_addProduction.1.cls, T, N) := ⟨lw_k6 177 rfl rfl, lw_k6 178 rfl rfl, TX12, 35, rfl⟩
abbrev M_Md_productionCount : Mth := (⟨"ParallelRewritingModel", "productionCount", "(II)I"⟩, prog_14_method_15_code, 3, (some .int), [])
theorem me_Md_productionCount : iMeth M_Md_productionCount 2 := ⟨lw_k1 14 rfl rfl, ⟨by decide +kernel, by decide +kernel⟩, by decide +kernel, by decide⟩
theorem pn_Md_productionCount : iPlain M_Md_productionCount := ⟨rfl, lw_k6 183 rfl rfl⟩
theorem vm_Md_productionCount : Cond.instanceMethod M_Md_productionCount.1 ∈ lw_good ∧ Cond.selects M_Md_productionCount.1.cls M_Md_productionCount.1 M_Md_productionCount.1 ∈ lw_good ∧ ∃ (T : u_T) (N : Nat), vwCl[14]? = some (M_Md_productionCount.1.cls, T, N) := ⟨lw_k6 181 rfl rfl, lw_k6 182 rfl rfl, TX12, 35, rfl⟩
abbrev M_Md_setContextRule : Mth := (⟨"ParallelRewritingModel", "setContextRule", "(III)Z"⟩, prog_14_method_20_code, 7, (some .boolean), [])
theorem me_Md_setContextRule : iMeth M_Md_setContextRule 3 := ⟨lw_k1 14 rfl rfl, ⟨by decide +kernel, by decide +kernel⟩, by decide +kernel, by decide⟩
theorem pn_Md_setContextRule : iPlain M_Md_setContextRule := ⟨rfl, lw_k6 187 rfl rfl⟩
theorem vm_Md_setContextRule : Cond.instanceMethod M_Md_setContextRule.1 ∈ lw_good ∧ Cond.selects M_Md_setContextRule.1.cls M_Md_setContextRule.1 M_Md_setContextRule.1 ∈ lw_good ∧ ∃ (T : u_T) (N : Nat), vwCl[14]? = some (M_Md_setContextRule.1.cls, T, N) := ⟨lw_k6 185 rfl rfl, lw_k6 186 rfl rfl, TX12, 35, rfl⟩
abbrev M_Md_areLetters : Mth := (⟨"ParallelRewritingModel", "areLetters", "(III)Z"⟩, prog_14_method_19_code, 3, (some .boolean), [])
theorem me_Md_areLetters : iMeth M_Md_areLetters 3 := ⟨lw_k1 14 rfl rfl, ⟨by decide +kernel, by decide +kernel⟩, by decide +kernel, by decide⟩
theorem pn_Md_areLetters : iPlain M_Md_areLetters := ⟨rfl, lw_k6 190 rfl rfl⟩
theorem sm_Md_areLetters : Cond.static M_Md_areLetters.1 ∈ lw_good := lw_k6 189 rfl rfl
abbrev M_Md_findRule : Mth := (⟨"ParallelRewritingModel", "findRule", "(III)I"⟩, prog_14_method_18_code, 6, (some .int), [])
theorem me_Md_findRule : iMeth M_Md_findRule 3 := ⟨lw_k1 14 rfl rfl, ⟨by decide +kernel, by decide +kernel⟩, by decide +kernel, by decide⟩
theorem pn_Md_findRule : iPlain M_Md_findRule := ⟨rfl, lw_k6 194 rfl rfl⟩
theorem vm_Md_findRule : Cond.instanceMethod M_Md_findRule.1 ∈ lw_good ∧ Cond.selects M_Md_findRule.1.cls M_Md_findRule.1 M_Md_findRule.1 ∈ lw_good ∧ ∃ (T : u_T) (N : Nat), vwCl[14]? = some (M_Md_findRule.1.cls, T, N) := ⟨lw_k6 193 rfl rfl, lw_inP (q := (⟨"ParallelRewritingModel", "findRule", "(III)I"⟩, 35)) 37 rfl rfl, TX12, 35, rfl⟩
abbrev M_Md_rulesAt : Mth := (⟨"ParallelRewritingModel", "rulesAt", "(I)I"⟩, prog_14_method_16_code, 1, (some .int), [])
theorem me_Md_rulesAt : iMeth M_Md_rulesAt 1 := ⟨lw_k1 14 rfl rfl, ⟨by decide +kernel, by decide +kernel⟩, by decide +kernel, by decide⟩
theorem pn_Md_rulesAt : iPlain M_Md_rulesAt := ⟨rfl, lw_k6 197 rfl rfl⟩
theorem sm_Md_rulesAt : Cond.static M_Md_rulesAt.1 ∈ lw_good := lw_k6 196 rfl rfl
abbrev M_Md_ruleAt : Mth := (⟨"ParallelRewritingModel", "ruleAt", "(II)I"⟩, prog_14_method_17_code, 2, (some .int), [])
theorem me_Md_ruleAt : iMeth M_Md_ruleAt 2 := ⟨lw_k1 14 rfl rfl, ⟨by decide +kernel, by decide +kernel⟩, by decide +kernel, by decide⟩
theorem pn_Md_ruleAt : iPlain M_Md_ruleAt := ⟨rfl, lw_k6 200 rfl rfl⟩
theorem sm_Md_ruleAt : Cond.static M_Md_ruleAt.1 ∈ lw_good := lw_k6 199 rfl rfl
abbrev M_Md_removeContextRule : Mth := (⟨"ParallelRewritingModel", "removeContextRule", "(III)Z"⟩, prog_14_method_21_code, 6, (some .boolean), [])
theorem me_Md_removeContextRule : iMeth M_Md_removeContextRule 3 := ⟨lw_k1 14 rfl rfl, ⟨by decide +kernel, by decide +kernel⟩, by decide +kernel, by decide⟩
theorem pn_Md_removeContextRule : iPlain M_Md_removeContextRule := ⟨rfl, lw_k6 204 rfl rfl⟩
theorem vm_Md_removeContextRule : Cond.instanceMethod M_Md_removeContextRule.1 ∈ lw_good ∧ Cond.selects M_Md_removeContextRule.1.cls M_Md_removeContextRule.1 M_Md_removeContextRule.1 ∈ lw_good ∧ ∃ (T : u_T) (N : Nat), vwCl[14]? = some (M_Md_removeContextRule.1.cls, T, N) := ⟨lw_k6 202 rfl rfl, lw_k6 203 rfl rfl, TX12, 35, rfl⟩
abbrev M_Md_isDeterministic : Mth := (⟨"ParallelRewritingModel", "isDeterministic", "(I)Z"⟩, prog_14_method_24_code, 2, (some .boolean), [])
theorem me_Md_isDeterministic : iMeth M_Md_isDeterministic 1 := ⟨lw_k1 14 rfl rfl, ⟨by decide +kernel, by decide +kernel⟩, by decide +kernel, by decide⟩
theorem pn_Md_isDeterministic : iPlain M_Md_isDeterministic := ⟨rfl, lw_k6 209 rfl rfl⟩
theorem vm_Md_isDeterministic : Cond.instanceMethod M_Md_isDeterministic.1 ∈ lw_good ∧ Cond.selects M_Md_isDeterministic.1.cls M_Md_isDeterministic.1 M_Md_isDeterministic.1 ∈ lw_good ∧ ∃ (T : u_T) (N : Nat), vwCl[14]? = some (M_Md_isDeterministic.1.cls, T, N) := ⟨lw_k6 207 rfl rfl, lw_k6 208 rfl rfl, TX12, 35, rfl⟩
abbrev M_Md_deterministic : Mth := (⟨"ParallelRewritingModel", "deterministic", "(I)Z"⟩, prog_14_method_22_code, 4, (some .boolean), [])
theorem me_Md_deterministic : iMeth M_Md_deterministic 1 := ⟨lw_k1 14 rfl rfl, ⟨by decide +kernel, by decide +kernel⟩, by decide +kernel, by decide⟩
theorem pn_Md_deterministic : iPlain M_Md_deterministic := ⟨rfl, lw_k6 213 rfl rfl⟩
theorem vm_Md_deterministic : Cond.instanceMethod M_Md_deterministic.1 ∈ lw_good ∧ Cond.selects M_Md_deterministic.1.cls M_Md_deterministic.1 M_Md_deterministic.1 ∈ lw_good ∧ ∃ (T : u_T) (N : Nat), vwCl[14]? = some (M_Md_deterministic.1.cls, T, N) := ⟨lw_k6 212 rfl rfl, lw_inP (q := (⟨"ParallelRewritingModel", "deterministic", "(I)Z"⟩, 35)) 38 rfl rfl, TX12, 35, rfl⟩
abbrev M_Md_isPlain : Mth := (⟨"ParallelRewritingModel", "isPlain", "(I)Z"⟩, prog_14_method_25_code, 2, (some .boolean), [])
theorem me_Md_isPlain : iMeth M_Md_isPlain 1 := ⟨lw_k1 14 rfl rfl, ⟨by decide +kernel, by decide +kernel⟩, by decide +kernel, by decide⟩
theorem pn_Md_isPlain : iPlain M_Md_isPlain := ⟨rfl, lw_k6 217 rfl rfl⟩
theorem vm_Md_isPlain : Cond.instanceMethod M_Md_isPlain.1 ∈ lw_good ∧ Cond.selects M_Md_isPlain.1.cls M_Md_isPlain.1 M_Md_isPlain.1 ∈ lw_good ∧ ∃ (T : u_T) (N : Nat), vwCl[14]? = some (M_Md_isPlain.1.cls, T, N) := ⟨lw_k6 215 rfl rfl, lw_k6 216 rfl rfl, TX12, 35, rfl⟩
abbrev M_Md_plain : Mth := (⟨"ParallelRewritingModel", "plain", "(I)Z"⟩, prog_14_method_23_code, 2, (some .boolean), [])
theorem me_Md_plain : iMeth M_Md_plain 1 := ⟨lw_k1 14 rfl rfl, ⟨by decide +kernel, by decide +kernel⟩, by decide +kernel, by decide⟩
theorem pn_Md_plain : iPlain M_Md_plain := ⟨rfl, lw_k6 221 rfl rfl⟩
theorem vm_Md_plain : Cond.instanceMethod M_Md_plain.1 ∈ lw_good ∧ Cond.selects M_Md_plain.1.cls M_Md_plain.1 M_Md_plain.1 ∈ lw_good ∧ ∃ (T : u_T) (N : Nat), vwCl[14]? = some (M_Md_plain.1.cls, T, N) := ⟨lw_k6 220 rfl rfl, lw_inP (q := (⟨"ParallelRewritingModel", "plain", "(I)Z"⟩, 35)) 39 rfl rfl, TX12, 35, rfl⟩
abbrev M_Md_setWord : Mth := (⟨"ParallelRewritingModel", "setWord", "()I"⟩, prog_14_method_26_code, 1, (some .int), [])
theorem me_Md_setWord : iMeth M_Md_setWord 0 := ⟨lw_k1 14 rfl rfl, ⟨by decide +kernel, by decide +kernel⟩, by decide +kernel, by decide⟩
theorem pn_Md_setWord : iPlain M_Md_setWord := ⟨rfl, lw_k6 225 rfl rfl⟩
theorem vm_Md_setWord : Cond.instanceMethod M_Md_setWord.1 ∈ lw_good ∧ Cond.selects M_Md_setWord.1.cls M_Md_setWord.1 M_Md_setWord.1 ∈ lw_good ∧ ∃ (T : u_T) (N : Nat), vwCl[14]? = some (M_Md_setWord.1.cls, T, N) := ⟨lw_k6 223 rfl rfl, lw_k6 224 rfl rfl, TX12, 35, rfl⟩
abbrev M_Md_setTarget : Mth := (⟨"ParallelRewritingModel", "setTarget", "()I"⟩, prog_14_method_27_code, 1, (some .int), [])
theorem me_Md_setTarget : iMeth M_Md_setTarget 0 := ⟨lw_k1 14 rfl rfl, ⟨by decide +kernel, by decide +kernel⟩, by decide +kernel, by decide⟩
theorem pn_Md_setTarget : iPlain M_Md_setTarget := ⟨rfl, lw_k6 229 rfl rfl⟩
theorem vm_Md_setTarget : Cond.instanceMethod M_Md_setTarget.1 ∈ lw_good ∧ Cond.selects M_Md_setTarget.1.cls M_Md_setTarget.1 M_Md_setTarget.1 ∈ lw_good ∧ ∃ (T : u_T) (N : Nat), vwCl[14]? = some (M_Md_setTarget.1.cls, T, N) := ⟨lw_k6 227 rfl rfl, lw_k6 228 rfl rfl, TX12, 35, rfl⟩
abbrev M_Md_wordLength : Mth := (⟨"ParallelRewritingModel", "wordLength", "()I"⟩, prog_14_method_28_code, 1, (some .int), [])
theorem me_Md_wordLength : iMeth M_Md_wordLength 0 := ⟨lw_k1 14 rfl rfl, ⟨by decide +kernel, by decide +kernel⟩, by decide +kernel, by decide⟩
theorem pn_Md_wordLength : iPlain M_Md_wordLength := ⟨rfl, lw_k6 233 rfl rfl⟩
theorem vm_Md_wordLength : Cond.instanceMethod M_Md_wordLength.1 ∈ lw_good ∧ Cond.selects M_Md_wordLength.1.cls M_Md_wordLength.1 M_Md_wordLength.1 ∈ lw_good ∧ ∃ (T : u_T) (N : Nat), vwCl[14]? = some (M_Md_wordLength.1.cls, T, N) := ⟨lw_k6 231 rfl rfl, lw_k6 232 rfl rfl, TX12, 35, rfl⟩
abbrev M_Md_wordLetter : Mth := (⟨"ParallelRewritingModel", "wordLetter", "(I)I"⟩, prog_14_method_29_code, 2, (some .int), [])
theorem me_Md_wordLetter : iMeth M_Md_wordLetter 1 := ⟨lw_k1 14 rfl rfl, ⟨by decide +kernel, by decide +kernel⟩, by decide +kernel, by decide⟩
theorem pn_Md_wordLetter : iPlain M_Md_wordLetter := ⟨rfl, lw_k6 237 rfl rfl⟩
theorem vm_Md_wordLetter : Cond.instanceMethod M_Md_wordLetter.1 ∈ lw_good ∧ Cond.selects M_Md_wordLetter.1.cls M_Md_wordLetter.1 M_Md_wordLetter.1 ∈ lw_good ∧ ∃ (T : u_T) (N : Nat), vwCl[14]? = some (M_Md_wordLetter.1.cls, T, N) := ⟨lw_k6 235 rfl rfl, lw_k6 236 rfl rfl, TX12, 35, rfl⟩
abbrev M_Md_isTarget : Mth := (⟨"ParallelRewritingModel", "isTarget", "()Z"⟩, prog_14_method_31_code, 1, (some .boolean), [])
theorem me_Md_isTarget : iMeth M_Md_isTarget 0 := ⟨lw_k1 14 rfl rfl, ⟨by decide +kernel, by decide +kernel⟩, by decide +kernel, by decide⟩
theorem pn_Md_isTarget : iPlain M_Md_isTarget := ⟨rfl, lw_k7 1 rfl rfl⟩
theorem vm_Md_isTarget : Cond.instanceMethod M_Md_isTarget.1 ∈ lw_good ∧ Cond.selects M_Md_isTarget.1.cls M_Md_isTarget.1 M_Md_isTarget.1 ∈ lw_good ∧ ∃ (T : u_T) (N : Nat), vwCl[14]? = some (M_Md_isTarget.1.cls, T, N) := ⟨lw_k6 239 rfl rfl, lw_k7 0 rfl rfl, TX12, 35, rfl⟩
abbrev M_Md_same : Mth := (⟨"ParallelRewritingModel", "same", "([I[I)Z"⟩, prog_14_method_30_code, 4, (some .boolean), [])
theorem me_Md_same : iMeth M_Md_same 2 := ⟨lw_k1 14 rfl rfl, ⟨by decide +kernel, by decide +kernel⟩, by decide +kernel, by decide⟩
theorem pn_Md_same : iPlain M_Md_same := ⟨rfl, lw_k7 4 rfl rfl⟩
theorem sm_Md_same : Cond.static M_Md_same.1 ∈ lw_good := lw_k7 3 rfl rfl
abbrev M_Md_step : Mth := (⟨"ParallelRewritingModel", "step", "(II)I"⟩, prog_14_method_34_code, 3, (some .int), [])
theorem me_Md_step : iMeth M_Md_step 2 := ⟨lw_k1 14 rfl rfl, ⟨by decide +kernel, by decide +kernel⟩, by decide +kernel, by decide⟩
theorem pn_Md_step : iPlain M_Md_step := ⟨rfl, lw_k7 8 rfl rfl⟩
theorem vm_Md_step : Cond.instanceMethod M_Md_step.1 ∈ lw_good ∧ Cond.selects M_Md_step.1.cls M_Md_step.1 M_Md_step.1 ∈ lw_good ∧ ∃ (T : u_T) (N : Nat), vwCl[14]? = some (M_Md_step.1.cls, T, N) := ⟨lw_k7 6 rfl rfl, lw_k7 7 rfl rfl, TX12, 35, rfl⟩
abbrev M_Md_step3 : Mth := (⟨"ParallelRewritingModel", "step", "(I[I[I)Z"⟩, prog_14_method_33_code, 8, (some .boolean), [])
theorem me_Md_step3 : iMeth M_Md_step3 3 := ⟨lw_k1 14 rfl rfl, ⟨by decide +kernel, by decide +kernel⟩, by decide +kernel, by decide⟩
theorem pn_Md_step3 : iPlain M_Md_step3 := ⟨rfl, lw_k7 12 rfl rfl⟩
theorem vm_Md_step3 : Cond.instanceMethod M_Md_step3.1 ∈ lw_good ∧ Cond.selects M_Md_step3.1.cls M_Md_step3.1 M_Md_step3.1 ∈ lw_good ∧ ∃ (T : u_T) (N : Nat), vwCl[14]? = some (M_Md_step3.1.cls, T, N) := ⟨lw_k7 11 rfl rfl, lw_inP (q := (⟨"ParallelRewritingModel", "step", "(I[I[I)Z"⟩, 35)) 40 rfl rfl, TX12, 35, rfl⟩
abbrev M_Md_ruled : Mth := (⟨"ParallelRewritingModel", "ruled", "(I[II)I"⟩, prog_14_method_32_code, 5, (some .int), [])
theorem me_Md_ruled : iMeth M_Md_ruled 3 := ⟨lw_k1 14 rfl rfl, ⟨by decide +kernel, by decide +kernel⟩, by decide +kernel, by decide⟩
theorem pn_Md_ruled : iPlain M_Md_ruled := ⟨rfl, lw_k7 16 rfl rfl⟩
theorem vm_Md_ruled : Cond.instanceMethod M_Md_ruled.1 ∈ lw_good ∧ Cond.selects M_Md_ruled.1.cls M_Md_ruled.1 M_Md_ruled.1 ∈ lw_good ∧ ∃ (T : u_T) (N : Nat), vwCl[14]? = some (M_Md_ruled.1.cls, T, N) := ⟨lw_k7 15 rfl rfl, lw_inP (q := (⟨"ParallelRewritingModel", "ruled", "(I[II)I"⟩, 35)) 41 rfl rfl, TX12, 35, rfl⟩
abbrev M_Md_undo : Mth := (⟨"ParallelRewritingModel", "undo", "()Z"⟩, prog_14_method_35_code, 1, (some .boolean), [])
theorem me_Md_undo : iMeth M_Md_undo 0 := ⟨lw_k1 14 rfl rfl, ⟨by decide +kernel, by decide +kernel⟩, by decide +kernel, by decide⟩
theorem pn_Md_undo : iPlain M_Md_undo := ⟨rfl, lw_k7 21 rfl rfl⟩
theorem vm_Md_undo : Cond.instanceMethod M_Md_undo.1 ∈ lw_good ∧ Cond.selects M_Md_undo.1.cls M_Md_undo.1 M_Md_undo.1 ∈ lw_good ∧ ∃ (T : u_T) (N : Nat), vwCl[14]? = some (M_Md_undo.1.cls, T, N) := ⟨lw_k7 19 rfl rfl, lw_k7 20 rfl rfl, TX12, 35, rfl⟩
abbrev M_Md_lengthAfter : Mth := (⟨"ParallelRewritingModel", "lengthAfter", "(II)J"⟩, prog_14_method_41_code, 3, (some .long), [])
theorem me_Md_lengthAfter : iMeth M_Md_lengthAfter 2 := ⟨lw_k1 14 rfl rfl, ⟨by decide +kernel, by decide +kernel⟩, by decide +kernel, by decide⟩
theorem pn_Md_lengthAfter : iPlain M_Md_lengthAfter := ⟨rfl, lw_k7 25 rfl rfl⟩
theorem vm_Md_lengthAfter : Cond.instanceMethod M_Md_lengthAfter.1 ∈ lw_good ∧ Cond.selects M_Md_lengthAfter.1.cls M_Md_lengthAfter.1 M_Md_lengthAfter.1 ∈ lw_good ∧ ∃ (T : u_T) (N : Nat), vwCl[14]? = some (M_Md_lengthAfter.1.cls, T, N) := ⟨lw_k7 23 rfl rfl, lw_k7 24 rfl rfl, TX12, 35, rfl⟩
abbrev M_Md_unfit : Mth := (⟨"ParallelRewritingModel", "unfit", "(I)I"⟩, prog_14_method_36_code, 2, (some .int), [])
theorem me_Md_unfit : iMeth M_Md_unfit 1 := ⟨lw_k1 14 rfl rfl, ⟨by decide +kernel, by decide +kernel⟩, by decide +kernel, by decide⟩
theorem pn_Md_unfit : iPlain M_Md_unfit := ⟨rfl, lw_k7 29 rfl rfl⟩
theorem vm_Md_unfit : Cond.instanceMethod M_Md_unfit.1 ∈ lw_good ∧ Cond.selects M_Md_unfit.1.cls M_Md_unfit.1 M_Md_unfit.1 ∈ lw_good ∧ ∃ (T : u_T) (N : Nat), vwCl[14]? = some (M_Md_unfit.1.cls, T, N) := ⟨lw_k7 28 rfl rfl, lw_inP (q := (⟨"ParallelRewritingModel", "unfit", "(I)I"⟩, 35)) 42 rfl rfl, TX12, 35, rfl⟩
abbrev M_Md_count : Mth := (⟨"ParallelRewritingModel", "count", "(II)Z"⟩, prog_14_method_40_code, 9, (some .boolean), [])
theorem me_Md_count : iMeth M_Md_count 2 := ⟨lw_k1 14 rfl rfl, ⟨by decide +kernel, by decide +kernel⟩, by decide +kernel, by decide⟩
theorem pn_Md_count : iPlain M_Md_count := ⟨rfl, lw_k7 33 rfl rfl⟩
theorem vm_Md_count : Cond.instanceMethod M_Md_count.1 ∈ lw_good ∧ Cond.selects M_Md_count.1.cls M_Md_count.1 M_Md_count.1 ∈ lw_good ∧ ∃ (T : u_T) (N : Nat), vwCl[14]? = some (M_Md_count.1.cls, T, N) := ⟨lw_k7 32 rfl rfl, lw_inP (q := (⟨"ParallelRewritingModel", "count", "(II)Z"⟩, 35)) 43 rfl rfl, TX12, 35, rfl⟩
abbrev M_Md_countWord : Mth := (⟨"ParallelRewritingModel", "countWord", "()V"⟩, prog_14_method_38_code, 2, none, [])
theorem me_Md_countWord : iMeth M_Md_countWord 0 := ⟨lw_k1 14 rfl rfl, ⟨by decide +kernel, by decide +kernel⟩, by decide +kernel, by decide⟩
theorem pn_Md_countWord : iPlain M_Md_countWord := ⟨rfl, lw_k7 37 rfl rfl⟩
theorem vm_Md_countWord : Cond.instanceMethod M_Md_countWord.1 ∈ lw_good ∧ Cond.selects M_Md_countWord.1.cls M_Md_countWord.1 M_Md_countWord.1 ∈ lw_good ∧ ∃ (T : u_T) (N : Nat), vwCl[14]? = some (M_Md_countWord.1.cls, T, N) := ⟨lw_k7 36 rfl rfl, lw_inP (q := (⟨"ParallelRewritingModel", "countWord", "()V"⟩, 35)) 44 rfl rfl, TX12, 35, rfl⟩
abbrev M_Md_occurs : Mth := (⟨"ParallelRewritingModel", "occurs", "(III)I"⟩, prog_14_method_37_code, 7, (some .int), [])
theorem me_Md_occurs : iMeth M_Md_occurs 3 := ⟨lw_k1 14 rfl rfl, ⟨by decide +kernel, by decide +kernel⟩, by decide +kernel, by decide⟩
theorem pn_Md_occurs : iPlain M_Md_occurs := ⟨rfl, lw_k7 41 rfl rfl⟩
theorem vm_Md_occurs : Cond.instanceMethod M_Md_occurs.1 ∈ lw_good ∧ Cond.selects M_Md_occurs.1.cls M_Md_occurs.1 M_Md_occurs.1 ∈ lw_good ∧ ∃ (T : u_T) (N : Nat), vwCl[14]? = some (M_Md_occurs.1.cls, T, N) := ⟨lw_k7 40 rfl rfl, lw_inP (q := (⟨"ParallelRewritingModel", "occurs", "(III)I"⟩, 35)) 45 rfl rfl, TX12, 35, rfl⟩
abbrev M_Md_total : Mth := (⟨"ParallelRewritingModel", "total", "([J)J"⟩, prog_14_method_39_code, 4, (some .long), [])
theorem me_Md_total : iMeth M_Md_total 1 := ⟨lw_k1 14 rfl rfl, ⟨by decide +kernel, by decide +kernel⟩, by decide +kernel, by decide⟩
theorem pn_Md_total : iPlain M_Md_total := ⟨rfl, lw_k7 44 rfl rfl⟩
theorem sm_Md_total : Cond.static M_Md_total.1 ∈ lw_good := lw_k7 43 rfl rfl
abbrev M_Md_countAfter : Mth := (⟨"ParallelRewritingModel", "countAfter", "(III)J"⟩, prog_14_method_42_code, 4, (some .long), [])
theorem me_Md_countAfter : iMeth M_Md_countAfter 3 := ⟨lw_k1 14 rfl rfl, ⟨by decide +kernel, by decide +kernel⟩, by decide +kernel, by decide⟩
theorem pn_Md_countAfter : iPlain M_Md_countAfter := ⟨rfl, lw_k7 49 rfl rfl⟩
theorem vm_Md_countAfter : Cond.instanceMethod M_Md_countAfter.1 ∈ lw_good ∧ Cond.selects M_Md_countAfter.1.cls M_Md_countAfter.1 M_Md_countAfter.1 ∈ lw_good ∧ ∃ (T : u_T) (N : Nat), vwCl[14]? = some (M_Md_countAfter.1.cls, T, N) := ⟨lw_k7 47 rfl rfl, lw_k7 48 rfl rfl, TX12, 35, rfl⟩
abbrev M_Md_growthKind : Mth := (⟨"ParallelRewritingModel", "growthKind", "(I)I"⟩, prog_14_method_48_code, 3, (some .int), [])
theorem me_Md_growthKind : iMeth M_Md_growthKind 1 := ⟨lw_k1 14 rfl rfl, ⟨by decide +kernel, by decide +kernel⟩, by decide +kernel, by decide⟩
theorem pn_Md_growthKind : iPlain M_Md_growthKind := ⟨rfl, lw_k7 53 rfl rfl⟩
theorem vm_Md_growthKind : Cond.instanceMethod M_Md_growthKind.1 ∈ lw_good ∧ Cond.selects M_Md_growthKind.1.cls M_Md_growthKind.1 M_Md_growthKind.1 ∈ lw_good ∧ ∃ (T : u_T) (N : Nat), vwCl[14]? = some (M_Md_growthKind.1.cls, T, N) := ⟨lw_k7 51 rfl rfl, lw_k7 52 rfl rfl, TX12, 35, rfl⟩
abbrev M_Md_grows : Mth := (⟨"ParallelRewritingModel", "grows", "(I)I"⟩, prog_14_method_47_code, 8, (some .int), [])
theorem me_Md_grows : iMeth M_Md_grows 1 := ⟨lw_k1 14 rfl rfl, ⟨by decide +kernel, by decide +kernel⟩, by decide +kernel, by decide⟩
theorem pn_Md_grows : iPlain M_Md_grows := ⟨rfl, lw_k7 57 rfl rfl⟩
theorem vm_Md_grows : Cond.instanceMethod M_Md_grows.1 ∈ lw_good ∧ Cond.selects M_Md_grows.1.cls M_Md_grows.1 M_Md_grows.1 ∈ lw_good ∧ ∃ (T : u_T) (N : Nat), vwCl[14]? = some (M_Md_grows.1.cls, T, N) := ⟨lw_k7 56 rfl rfl, lw_inP (q := (⟨"ParallelRewritingModel", "grows", "(I)I"⟩, 35)) 46 rfl rfl, TX12, 35, rfl⟩
abbrev M_Md_findLiving : Mth := (⟨"ParallelRewritingModel", "findLiving", "(I)V"⟩, prog_14_method_43_code, 6, none, [])
theorem me_Md_findLiving : iMeth M_Md_findLiving 1 := ⟨lw_k1 14 rfl rfl, ⟨by decide +kernel, by decide +kernel⟩, by decide +kernel, by decide⟩
theorem pn_Md_findLiving : iPlain M_Md_findLiving := ⟨rfl, lw_k7 61 rfl rfl⟩
theorem vm_Md_findLiving : Cond.instanceMethod M_Md_findLiving.1 ∈ lw_good ∧ Cond.selects M_Md_findLiving.1.cls M_Md_findLiving.1 M_Md_findLiving.1 ∈ lw_good ∧ ∃ (T : u_T) (N : Nat), vwCl[14]? = some (M_Md_findLiving.1.cls, T, N) := ⟨lw_k7 60 rfl rfl, lw_inP (q := (⟨"ParallelRewritingModel", "findLiving", "(I)V"⟩, 35)) 47 rfl rfl, TX12, 35, rfl⟩
abbrev M_Md_findWays : Mth := (⟨"ParallelRewritingModel", "findWays", "(I)V"⟩, prog_14_method_44_code, 5, none, [])
theorem me_Md_findWays : iMeth M_Md_findWays 1 := ⟨lw_k1 14 rfl rfl, ⟨by decide +kernel, by decide +kernel⟩, by decide +kernel, by decide⟩
theorem pn_Md_findWays : iPlain M_Md_findWays := ⟨rfl, lw_k7 65 rfl rfl⟩
theorem vm_Md_findWays : Cond.instanceMethod M_Md_findWays.1 ∈ lw_good ∧ Cond.selects M_Md_findWays.1.cls M_Md_findWays.1 M_Md_findWays.1 ∈ lw_good ∧ ∃ (T : u_T) (N : Nat), vwCl[14]? = some (M_Md_findWays.1.cls, T, N) := ⟨lw_k7 64 rfl rfl, lw_inP (q := (⟨"ParallelRewritingModel", "findWays", "(I)V"⟩, 35)) 48 rfl rfl, TX12, 35, rfl⟩
abbrev M_Md_leads : Mth := (⟨"ParallelRewritingModel", "leads", "(II)Z"⟩, prog_14_method_45_code, 3, (some .boolean), [])
theorem me_Md_leads : iMeth M_Md_leads 2 := ⟨lw_k1 14 rfl rfl, ⟨by decide +kernel, by decide +kernel⟩, by decide +kernel, by decide⟩
theorem pn_Md_leads : iPlain M_Md_leads := ⟨rfl, lw_k7 69 rfl rfl⟩
theorem vm_Md_leads : Cond.instanceMethod M_Md_leads.1 ∈ lw_good ∧ Cond.selects M_Md_leads.1.cls M_Md_leads.1 M_Md_leads.1 ∈ lw_good ∧ ∃ (T : u_T) (N : Nat), vwCl[14]? = some (M_Md_leads.1.cls, T, N) := ⟨lw_k7 68 rfl rfl, lw_inP (q := (⟨"ParallelRewritingModel", "leads", "(II)Z"⟩, 35)) 49 rfl rfl, TX12, 35, rfl⟩
abbrev M_Md_depth : Mth := (⟨"ParallelRewritingModel", "depth", "(I)I"⟩, prog_14_method_46_code, 4, (some .int), [])
theorem me_Md_depth : iMeth M_Md_depth 1 := ⟨lw_k1 14 rfl rfl, ⟨by decide +kernel, by decide +kernel⟩, by decide +kernel, by decide⟩
theorem pn_Md_depth : iPlain M_Md_depth := ⟨rfl, lw_k7 73 rfl rfl⟩
theorem vm_Md_depth : Cond.instanceMethod M_Md_depth.1 ∈ lw_good ∧ Cond.selects M_Md_depth.1.cls M_Md_depth.1 M_Md_depth.1 ∈ lw_good ∧ ∃ (T : u_T) (N : Nat), vwCl[14]? = some (M_Md_depth.1.cls, T, N) := ⟨lw_k7 72 rfl rfl, lw_inP (q := (⟨"ParallelRewritingModel", "depth", "(I)I"⟩, 35)) 50 rfl rfl, TX12, 35, rfl⟩
abbrev M_Md_growthDegree : Mth := (⟨"ParallelRewritingModel", "growthDegree", "(I)I"⟩, prog_14_method_49_code, 3, (some .int), [])
theorem me_Md_growthDegree : iMeth M_Md_growthDegree 1 := ⟨lw_k1 14 rfl rfl, ⟨by decide +kernel, by decide +kernel⟩, by decide +kernel, by decide⟩
theorem pn_Md_growthDegree : iPlain M_Md_growthDegree := ⟨rfl, lw_k7 78 rfl rfl⟩
theorem vm_Md_growthDegree : Cond.instanceMethod M_Md_growthDegree.1 ∈ lw_good ∧ Cond.selects M_Md_growthDegree.1.cls M_Md_growthDegree.1 M_Md_growthDegree.1 ∈ lw_good ∧ ∃ (T : u_T) (N : Nat), vwCl[14]? = some (M_Md_growthDegree.1.cls, T, N) := ⟨lw_k7 76 rfl rfl, lw_k7 77 rfl rfl, TX12, 35, rfl⟩
abbrev M_Md_recurrenceOrder : Mth := (⟨"ParallelRewritingModel", "recurrenceOrder", "(I)I"⟩, prog_14_method_54_code, 2, (some .int), [])
theorem me_Md_recurrenceOrder : iMeth M_Md_recurrenceOrder 1 := ⟨lw_k1 14 rfl rfl, ⟨by decide +kernel, by decide +kernel⟩, by decide +kernel, by decide⟩
theorem pn_Md_recurrenceOrder : iPlain M_Md_recurrenceOrder := ⟨rfl, lw_k7 82 rfl rfl⟩
theorem vm_Md_recurrenceOrder : Cond.instanceMethod M_Md_recurrenceOrder.1 ∈ lw_good ∧ Cond.selects M_Md_recurrenceOrder.1.cls M_Md_recurrenceOrder.1 M_Md_recurrenceOrder.1 ∈ lw_good ∧ ∃ (T : u_T) (N : Nat), vwCl[14]? = some (M_Md_recurrenceOrder.1.cls, T, N) := ⟨lw_k7 80 rfl rfl, lw_k7 81 rfl rfl, TX12, 35, rfl⟩
abbrev M_Md_orderOf : Mth := (⟨"ParallelRewritingModel", "orderOf", "(I)I"⟩, prog_14_method_53_code, 4, (some .int), [])
theorem me_Md_orderOf : iMeth M_Md_orderOf 1 := ⟨lw_k1 14 rfl rfl, ⟨by decide +kernel, by decide +kernel⟩, by decide +kernel, by decide⟩
theorem pn_Md_orderOf : iPlain M_Md_orderOf := ⟨rfl, lw_k7 86 rfl rfl⟩
theorem vm_Md_orderOf : Cond.instanceMethod M_Md_orderOf.1 ∈ lw_good ∧ Cond.selects M_Md_orderOf.1.cls M_Md_orderOf.1 M_Md_orderOf.1 ∈ lw_good ∧ ∃ (T : u_T) (N : Nat), vwCl[14]? = some (M_Md_orderOf.1.cls, T, N) := ⟨lw_k7 85 rfl rfl, lw_inP (q := (⟨"ParallelRewritingModel", "orderOf", "(I)I"⟩, 35)) 51 rfl rfl, TX12, 35, rfl⟩
abbrev M_Md_findTerms : Mth := (⟨"ParallelRewritingModel", "findTerms", "(I)V"⟩, prog_14_method_50_code, 7, none, [])
theorem me_Md_findTerms : iMeth M_Md_findTerms 1 := ⟨lw_k1 14 rfl rfl, ⟨by decide +kernel, by decide +kernel⟩, by decide +kernel, by decide⟩
theorem pn_Md_findTerms : iPlain M_Md_findTerms := ⟨rfl, lw_k7 90 rfl rfl⟩
theorem vm_Md_findTerms : Cond.instanceMethod M_Md_findTerms.1 ∈ lw_good ∧ Cond.selects M_Md_findTerms.1.cls M_Md_findTerms.1 M_Md_findTerms.1 ∈ lw_good ∧ ∃ (T : u_T) (N : Nat), vwCl[14]? = some (M_Md_findTerms.1.cls, T, N) := ⟨lw_k7 89 rfl rfl, lw_inP (q := (⟨"ParallelRewritingModel", "findTerms", "(I)V"⟩, 35)) 52 rfl rfl, TX12, 35, rfl⟩
abbrev M_Md_solve : Mth := (⟨"ParallelRewritingModel", "solve", "(I)Z"⟩, prog_14_method_52_code, 9, (some .boolean), [])
theorem me_Md_solve : iMeth M_Md_solve 1 := ⟨lw_k1 14 rfl rfl, ⟨by decide +kernel, by decide +kernel⟩, by decide +kernel, by decide⟩
theorem pn_Md_solve : iPlain M_Md_solve := ⟨rfl, lw_k7 95 rfl rfl⟩
theorem vm_Md_solve : Cond.instanceMethod M_Md_solve.1 ∈ lw_good ∧ Cond.selects M_Md_solve.1.cls M_Md_solve.1 M_Md_solve.1 ∈ lw_good ∧ ∃ (T : u_T) (N : Nat), vwCl[14]? = some (M_Md_solve.1.cls, T, N) := ⟨lw_k7 94 rfl rfl, lw_inP (q := (⟨"ParallelRewritingModel", "solve", "(I)Z"⟩, 35)) 53 rfl rfl, TX12, 35, rfl⟩
abbrev M_Md_inverse : Mth := (⟨"ParallelRewritingModel", "inverse", "(I)I"⟩, prog_14_method_51_code, 3, (some .int), [])
theorem me_Md_inverse : iMeth M_Md_inverse 1 := ⟨lw_k1 14 rfl rfl, ⟨by decide +kernel, by decide +kernel⟩, by decide +kernel, by decide⟩
theorem pn_Md_inverse : iPlain M_Md_inverse := ⟨rfl, lw_k7 98 rfl rfl⟩
theorem sm_Md_inverse : Cond.static M_Md_inverse.1 ∈ lw_good := lw_k7 97 rfl rfl
abbrev M_Ma_floorMod : Mth := (⟨"java/lang/Math", "floorMod", "(II)I"⟩, prog_25_method_50_code, 3, (some .int), [])
theorem me_Ma_floorMod : iMeth M_Ma_floorMod 2 := ⟨lw_k1 23 rfl rfl, ⟨by decide +kernel, by decide +kernel⟩, by decide +kernel, by decide⟩
theorem pn_Ma_floorMod : iPlain M_Ma_floorMod := ⟨rfl, lw_k7 101 rfl rfl⟩
theorem sm_Ma_floorMod : Cond.static M_Ma_floorMod.1 ∈ lw_good := lw_k7 100 rfl rfl
abbrev M_Md_recurrenceCoefficient : Mth := (⟨"ParallelRewritingModel", "recurrenceCoefficient", "(II)I"⟩, prog_14_method_55_code, 3, (some .int), [])
theorem me_Md_recurrenceCoefficient : iMeth M_Md_recurrenceCoefficient 2 := ⟨lw_k1 14 rfl rfl, ⟨by decide +kernel, by decide +kernel⟩, by decide +kernel, by decide⟩
theorem pn_Md_recurrenceCoefficient : iPlain M_Md_recurrenceCoefficient := ⟨rfl, lw_k7 105 rfl rfl⟩
theorem vm_Md_recurrenceCoefficient : Cond.instanceMethod M_Md_recurrenceCoefficient.1 ∈ lw_good ∧ Cond.selects M_Md_recurrenceCoefficient.1.cls M_Md_recurrenceCoefficient.1 M_Md_recurrenceCoefficient.1 ∈ lw_good ∧ ∃ (T : u_T) (N : Nat), vwCl[14]? = some (M_Md_recurrenceCoefficient.1.cls, T, N) := ⟨lw_k7 103 rfl rfl, lw_k7 104 rfl rfl, TX12, 35, rfl⟩
abbrev M_Md_isAdult : Mth := (⟨"ParallelRewritingModel", "isAdult", "(I)Z"⟩, prog_14_method_58_code, 2, (some .boolean), [])
theorem me_Md_isAdult : iMeth M_Md_isAdult 1 := ⟨lw_k1 14 rfl rfl, ⟨by decide +kernel, by decide +kernel⟩, by decide +kernel, by decide⟩
theorem pn_Md_isAdult : iPlain M_Md_isAdult := ⟨rfl, lw_k7 109 rfl rfl⟩
theorem vm_Md_isAdult : Cond.instanceMethod M_Md_isAdult.1 ∈ lw_good ∧ Cond.selects M_Md_isAdult.1.cls M_Md_isAdult.1 M_Md_isAdult.1 ∈ lw_good ∧ ∃ (T : u_T) (N : Nat), vwCl[14]? = some (M_Md_isAdult.1.cls, T, N) := ⟨lw_k7 107 rfl rfl, lw_k7 108 rfl rfl, TX12, 35, rfl⟩
abbrev M_Md_adult : Mth := (⟨"ParallelRewritingModel", "adult", "(I[I)Z"⟩, prog_14_method_57_code, 4, (some .boolean), [])
theorem me_Md_adult : iMeth M_Md_adult 2 := ⟨lw_k1 14 rfl rfl, ⟨by decide +kernel, by decide +kernel⟩, by decide +kernel, by decide⟩
theorem pn_Md_adult : iPlain M_Md_adult := ⟨rfl, lw_k7 113 rfl rfl⟩
theorem vm_Md_adult : Cond.instanceMethod M_Md_adult.1 ∈ lw_good ∧ Cond.selects M_Md_adult.1.cls M_Md_adult.1 M_Md_adult.1 ∈ lw_good ∧ ∃ (T : u_T) (N : Nat), vwCl[14]? = some (M_Md_adult.1.cls, T, N) := ⟨lw_k7 112 rfl rfl, lw_inP (q := (⟨"ParallelRewritingModel", "adult", "(I[I)Z"⟩, 35)) 54 rfl rfl, TX12, 35, rfl⟩
abbrev M_Md_equalProductions : Mth := (⟨"ParallelRewritingModel", "equalProductions", "(I)Z"⟩, prog_14_method_56_code, 5, (some .boolean), [])
theorem me_Md_equalProductions : iMeth M_Md_equalProductions 1 := ⟨lw_k1 14 rfl rfl, ⟨by decide +kernel, by decide +kernel⟩, by decide +kernel, by decide⟩
theorem pn_Md_equalProductions : iPlain M_Md_equalProductions := ⟨rfl, lw_k7 117 rfl rfl⟩
theorem vm_Md_equalProductions : Cond.instanceMethod M_Md_equalProductions.1 ∈ lw_good ∧ Cond.selects M_Md_equalProductions.1.cls M_Md_equalProductions.1 M_Md_equalProductions.1 ∈ lw_good ∧ ∃ (T : u_T) (N : Nat), vwCl[14]? = some (M_Md_equalProductions.1.cls, T, N) := ⟨lw_k7 116 rfl rfl, lw_inP (q := (⟨"ParallelRewritingModel", "equalProductions", "(I)Z"⟩, 35)) 55 rfl rfl, TX12, 35, rfl⟩
abbrev M_Md_stepsToAdult : Mth := (⟨"ParallelRewritingModel", "stepsToAdult", "(II)I"⟩, prog_14_method_59_code, 4, (some .int), [])
theorem me_Md_stepsToAdult : iMeth M_Md_stepsToAdult 2 := ⟨lw_k1 14 rfl rfl, ⟨by decide +kernel, by decide +kernel⟩, by decide +kernel, by decide⟩
theorem pn_Md_stepsToAdult : iPlain M_Md_stepsToAdult := ⟨rfl, lw_k7 121 rfl rfl⟩
theorem vm_Md_stepsToAdult : Cond.instanceMethod M_Md_stepsToAdult.1 ∈ lw_good ∧ Cond.selects M_Md_stepsToAdult.1.cls M_Md_stepsToAdult.1 M_Md_stepsToAdult.1 ∈ lw_good ∧ ∃ (T : u_T) (N : Nat), vwCl[14]? = some (M_Md_stepsToAdult.1.cls, T, N) := ⟨lw_k7 119 rfl rfl, lw_k7 120 rfl rfl, TX12, 35, rfl⟩
abbrev M_Md_adultWords : Mth := (⟨"ParallelRewritingModel", "adultWords", "(II)I"⟩, prog_14_method_60_code, 8, (some .int), [])
theorem me_Md_adultWords : iMeth M_Md_adultWords 2 := ⟨lw_k1 14 rfl rfl, ⟨by decide +kernel, by decide +kernel⟩, by decide +kernel, by decide⟩
theorem pn_Md_adultWords : iPlain M_Md_adultWords := ⟨rfl, lw_k7 125 rfl rfl⟩
theorem vm_Md_adultWords : Cond.instanceMethod M_Md_adultWords.1 ∈ lw_good ∧ Cond.selects M_Md_adultWords.1.cls M_Md_adultWords.1 M_Md_adultWords.1 ∈ lw_good ∧ ∃ (T : u_T) (N : Nat), vwCl[14]? = some (M_Md_adultWords.1.cls, T, N) := ⟨lw_k7 123 rfl rfl, lw_k7 124 rfl rfl, TX12, 35, rfl⟩
abbrev M_Md_ways : Mth := (⟨"ParallelRewritingModel", "ways", "(I)J"⟩, prog_14_method_62_code, 13, (some .long), [])
theorem me_Md_ways : iMeth M_Md_ways 1 := ⟨lw_k1 14 rfl rfl, ⟨by decide +kernel, by decide +kernel⟩, by decide +kernel, by decide⟩
theorem pn_Md_ways : iPlain M_Md_ways := ⟨rfl, lw_k7 129 rfl rfl⟩
theorem vm_Md_ways : Cond.instanceMethod M_Md_ways.1 ∈ lw_good ∧ Cond.selects M_Md_ways.1.cls M_Md_ways.1 M_Md_ways.1 ∈ lw_good ∧ ∃ (T : u_T) (N : Nat), vwCl[14]? = some (M_Md_ways.1.cls, T, N) := ⟨lw_k7 127 rfl rfl, lw_k7 128 rfl rfl, TX12, 35, rfl⟩
abbrev M_Md_stands : Mth := (⟨"ParallelRewritingModel", "stands", "(II)Z"⟩, prog_14_method_61_code, 5, (some .boolean), [])
theorem me_Md_stands : iMeth M_Md_stands 2 := ⟨lw_k1 14 rfl rfl, ⟨by decide +kernel, by decide +kernel⟩, by decide +kernel, by decide⟩
theorem pn_Md_stands : iPlain M_Md_stands := ⟨rfl, lw_k7 133 rfl rfl⟩
theorem vm_Md_stands : Cond.instanceMethod M_Md_stands.1 ∈ lw_good ∧ Cond.selects M_Md_stands.1.cls M_Md_stands.1 M_Md_stands.1 ∈ lw_good ∧ ∃ (T : u_T) (N : Nat), vwCl[14]? = some (M_Md_stands.1.cls, T, N) := ⟨lw_k7 132 rfl rfl, lw_inP (q := (⟨"ParallelRewritingModel", "stands", "(II)Z"⟩, 35)) 56 rfl rfl, TX12, 35, rfl⟩
abbrev M_Md_sequenceCount : Mth := (⟨"ParallelRewritingModel", "sequenceCount", "(I)I"⟩, prog_14_method_66_code, 4, (some .int), [])
theorem me_Md_sequenceCount : iMeth M_Md_sequenceCount 1 := ⟨lw_k1 14 rfl rfl, ⟨by decide +kernel, by decide +kernel⟩, by decide +kernel, by decide⟩
theorem pn_Md_sequenceCount : iPlain M_Md_sequenceCount := ⟨rfl, lw_k7 137 rfl rfl⟩
theorem vm_Md_sequenceCount : Cond.instanceMethod M_Md_sequenceCount.1 ∈ lw_good ∧ Cond.selects M_Md_sequenceCount.1.cls M_Md_sequenceCount.1 M_Md_sequenceCount.1 ∈ lw_good ∧ ∃ (T : u_T) (N : Nat), vwCl[14]? = some (M_Md_sequenceCount.1.cls, T, N) := ⟨lw_k7 135 rfl rfl, lw_k7 136 rfl rfl, TX12, 35, rfl⟩
abbrev M_Md_allDeterministic : Mth := (⟨"ParallelRewritingModel", "allDeterministic", "()Z"⟩, prog_14_method_63_code, 3, (some .boolean), [])
theorem me_Md_allDeterministic : iMeth M_Md_allDeterministic 0 := ⟨lw_k1 14 rfl rfl, ⟨by decide +kernel, by decide +kernel⟩, by decide +kernel, by decide⟩
theorem pn_Md_allDeterministic : iPlain M_Md_allDeterministic := ⟨rfl, lw_k7 141 rfl rfl⟩
theorem vm_Md_allDeterministic : Cond.instanceMethod M_Md_allDeterministic.1 ∈ lw_good ∧ Cond.selects M_Md_allDeterministic.1.cls M_Md_allDeterministic.1 M_Md_allDeterministic.1 ∈ lw_good ∧ ∃ (T : u_T) (N : Nat), vwCl[14]? = some (M_Md_allDeterministic.1.cls, T, N) := ⟨lw_k7 140 rfl rfl, lw_inP (q := (⟨"ParallelRewritingModel", "allDeterministic", "()Z"⟩, 35)) 57 rfl rfl, TX12, 35, rfl⟩
abbrev M_Md_power : Mth := (⟨"ParallelRewritingModel", "power", "(I)I"⟩, prog_14_method_64_code, 3, (some .int), [])
theorem me_Md_power : iMeth M_Md_power 1 := ⟨lw_k1 14 rfl rfl, ⟨by decide +kernel, by decide +kernel⟩, by decide +kernel, by decide⟩
theorem pn_Md_power : iPlain M_Md_power := ⟨rfl, lw_k7 144 rfl rfl⟩
theorem sm_Md_power : Cond.static M_Md_power.1 ∈ lw_good := lw_k7 143 rfl rfl
abbrev M_Md_reaches : Mth := (⟨"ParallelRewritingModel", "reaches", "(II)Z"⟩, prog_14_method_65_code, 4, (some .boolean), [])
theorem me_Md_reaches : iMeth M_Md_reaches 2 := ⟨lw_k1 14 rfl rfl, ⟨by decide +kernel, by decide +kernel⟩, by decide +kernel, by decide⟩
theorem pn_Md_reaches : iPlain M_Md_reaches := ⟨rfl, lw_k7 148 rfl rfl⟩
theorem vm_Md_reaches : Cond.instanceMethod M_Md_reaches.1 ∈ lw_good ∧ Cond.selects M_Md_reaches.1.cls M_Md_reaches.1 M_Md_reaches.1 ∈ lw_good ∧ ∃ (T : u_T) (N : Nat), vwCl[14]? = some (M_Md_reaches.1.cls, T, N) := ⟨lw_k7 147 rfl rfl, lw_inP (q := (⟨"ParallelRewritingModel", "reaches", "(II)Z"⟩, 35)) 58 rfl rfl, TX12, 35, rfl⟩
abbrev M_Md_firstSequence : Mth := (⟨"ParallelRewritingModel", "firstSequence", "(I)I"⟩, prog_14_method_67_code, 3, (some .int), [])
theorem me_Md_firstSequence : iMeth M_Md_firstSequence 1 := ⟨lw_k1 14 rfl rfl, ⟨by decide +kernel, by decide +kernel⟩, by decide +kernel, by decide⟩
theorem pn_Md_firstSequence : iPlain M_Md_firstSequence := ⟨rfl, lw_k7 152 rfl rfl⟩
theorem vm_Md_firstSequence : Cond.instanceMethod M_Md_firstSequence.1 ∈ lw_good ∧ Cond.selects M_Md_firstSequence.1.cls M_Md_firstSequence.1 M_Md_firstSequence.1 ∈ lw_good ∧ ∃ (T : u_T) (N : Nat), vwCl[14]? = some (M_Md_firstSequence.1.cls, T, N) := ⟨lw_k7 150 rfl rfl, lw_k7 151 rfl rfl, TX12, 35, rfl⟩
abbrev M_Md_setCommand : Mth := (⟨"ParallelRewritingModel", "setCommand", "(I)V"⟩, prog_14_method_70_code, 2, none, [])
theorem me_Md_setCommand : iMeth M_Md_setCommand 1 := ⟨lw_k1 14 rfl rfl, ⟨by decide +kernel, by decide +kernel⟩, by decide +kernel, by decide⟩
theorem pn_Md_setCommand : iPlain M_Md_setCommand := ⟨rfl, lw_k7 156 rfl rfl⟩
theorem vm_Md_setCommand : Cond.instanceMethod M_Md_setCommand.1 ∈ lw_good ∧ Cond.selects M_Md_setCommand.1.cls M_Md_setCommand.1 M_Md_setCommand.1 ∈ lw_good ∧ ∃ (T : u_T) (N : Nat), vwCl[14]? = some (M_Md_setCommand.1.cls, T, N) := ⟨lw_k7 154 rfl rfl, lw_k7 155 rfl rfl, TX12, 35, rfl⟩
abbrev M_Md_commandOfText : Mth := (⟨"ParallelRewritingModel", "commandOfText", "()I"⟩, prog_14_method_69_code, 1, (some .int), [])
theorem me_Md_commandOfText : iMeth M_Md_commandOfText 0 := ⟨lw_k1 14 rfl rfl, ⟨by decide +kernel, by decide +kernel⟩, by decide +kernel, by decide⟩
theorem pn_Md_commandOfText : iPlain M_Md_commandOfText := ⟨rfl, lw_k7 160 rfl rfl⟩
theorem vm_Md_commandOfText : Cond.instanceMethod M_Md_commandOfText.1 ∈ lw_good ∧ Cond.selects M_Md_commandOfText.1.cls M_Md_commandOfText.1 M_Md_commandOfText.1 ∈ lw_good ∧ ∃ (T : u_T) (N : Nat), vwCl[14]? = some (M_Md_commandOfText.1.cls, T, N) := ⟨lw_k7 159 rfl rfl, lw_inP (q := (⟨"ParallelRewritingModel", "commandOfText", "()I"⟩, 35)) 59 rfl rfl, TX12, 35, rfl⟩
abbrev M_Md_isText : Mth := (⟨"ParallelRewritingModel", "isText", "(Ljava/lang/String;)Z"⟩, prog_14_method_68_code, 4, (some .boolean), [])
theorem me_Md_isText : iMeth M_Md_isText 1 := ⟨lw_k1 14 rfl rfl, ⟨by decide +kernel, by decide +kernel⟩, by decide +kernel, by decide⟩
theorem pn_Md_isText : iPlain M_Md_isText := ⟨rfl, lw_k7 165 rfl rfl⟩
theorem vm_Md_isText : Cond.instanceMethod M_Md_isText.1 ∈ lw_good ∧ Cond.selects M_Md_isText.1.cls M_Md_isText.1 M_Md_isText.1 ∈ lw_good ∧ ∃ (T : u_T) (N : Nat), vwCl[14]? = some (M_Md_isText.1.cls, T, N) := ⟨lw_k7 164 rfl rfl, lw_inP (q := (⟨"ParallelRewritingModel", "isText", "(Ljava/lang/String;)Z"⟩, 35)) 60 rfl rfl, TX12, 35, rfl⟩
abbrev M_Md_segmentCount : Mth := (⟨"ParallelRewritingModel", "segmentCount", "()I"⟩, prog_14_method_74_code, 1, (some .int), [])
theorem me_Md_segmentCount : iMeth M_Md_segmentCount 0 := ⟨lw_k1 14 rfl rfl, ⟨by decide +kernel, by decide +kernel⟩, by decide +kernel, by decide⟩
theorem pn_Md_segmentCount : iPlain M_Md_segmentCount := ⟨rfl, lw_k7 177 rfl rfl⟩
theorem vm_Md_segmentCount : Cond.instanceMethod M_Md_segmentCount.1 ∈ lw_good ∧ Cond.selects M_Md_segmentCount.1.cls M_Md_segmentCount.1 M_Md_segmentCount.1 ∈ lw_good ∧ ∃ (T : u_T) (N : Nat), vwCl[14]? = some (M_Md_segmentCount.1.cls, T, N) := ⟨lw_k7 175 rfl rfl, lw_k7 176 rfl rfl, TX12, 35, rfl⟩
abbrev M_Md_carryOut : Mth := (⟨"ParallelRewritingModel", "carryOut", "()Z"⟩, prog_14_method_73_code, 15, (some .boolean), [])
theorem me_Md_carryOut : iMeth M_Md_carryOut 0 := ⟨lw_k1 14 rfl rfl, ⟨by decide +kernel, by decide +kernel⟩, by decide +kernel, by decide⟩
theorem pn_Md_carryOut : iPlain M_Md_carryOut := ⟨rfl, lw_k7 181 rfl rfl⟩
theorem vm_Md_carryOut : Cond.instanceMethod M_Md_carryOut.1 ∈ lw_good ∧ Cond.selects M_Md_carryOut.1.cls M_Md_carryOut.1 M_Md_carryOut.1 ∈ lw_good ∧ ∃ (T : u_T) (N : Nat), vwCl[14]? = some (M_Md_carryOut.1.cls, T, N) := ⟨lw_k7 180 rfl rfl, lw_inP (q := (⟨"ParallelRewritingModel", "carryOut", "()Z"⟩, 35)) 61 rfl rfl, TX12, 35, rfl⟩
abbrev M_Md_addSegment : Mth := (⟨"ParallelRewritingModel", "addSegment", "(DDDD)V"⟩, prog_14_method_72_code, 9, none, [])
theorem me_Md_addSegment : iMeth M_Md_addSegment 4 := ⟨lw_k1 14 rfl rfl, ⟨by decide +kernel, by decide +kernel⟩, by decide +kernel, by decide⟩
theorem pn_Md_addSegment : iPlain M_Md_addSegment := ⟨rfl, lw_k7 185 rfl rfl⟩
theorem vm_Md_addSegment : Cond.instanceMethod M_Md_addSegment.1 ∈ lw_good ∧ Cond.selects M_Md_addSegment.1.cls M_Md_addSegment.1 M_Md_addSegment.1 ∈ lw_good ∧ ∃ (T : u_T) (N : Nat), vwCl[14]? = some (M_Md_addSegment.1.cls, T, N) := ⟨lw_k7 184 rfl rfl, lw_inP (q := (⟨"ParallelRewritingModel", "addSegment", "(DDDD)V"⟩, 35)) 62 rfl rfl, TX12, 35, rfl⟩
abbrev M_Md_isSegment : Mth := (⟨"ParallelRewritingModel", "isSegment", "(DDDD)Z"⟩, prog_14_method_71_code, 12, (some .boolean), [])
theorem me_Md_isSegment : iMeth M_Md_isSegment 4 := ⟨lw_k1 14 rfl rfl, ⟨by decide +kernel, by decide +kernel⟩, by decide +kernel, by decide⟩
theorem pn_Md_isSegment : iPlain M_Md_isSegment := ⟨rfl, lw_k7 189 rfl rfl⟩
theorem vm_Md_isSegment : Cond.instanceMethod M_Md_isSegment.1 ∈ lw_good ∧ Cond.selects M_Md_isSegment.1.cls M_Md_isSegment.1 M_Md_isSegment.1 ∈ lw_good ∧ ∃ (T : u_T) (N : Nat), vwCl[14]? = some (M_Md_isSegment.1.cls, T, N) := ⟨lw_k7 188 rfl rfl, lw_inP (q := (⟨"ParallelRewritingModel", "isSegment", "(DDDD)Z"⟩, 35)) 63 rfl rfl, TX12, 35, rfl⟩
abbrev M_Md_inkLength : Mth := (⟨"ParallelRewritingModel", "inkLength", "()D"⟩, prog_14_method_75_code, 4, (some .double), [])
theorem me_Md_inkLength : iMeth M_Md_inkLength 0 := ⟨lw_k1 14 rfl rfl, ⟨by decide +kernel, by decide +kernel⟩, by decide +kernel, by decide⟩
theorem pn_Md_inkLength : iPlain M_Md_inkLength := ⟨rfl, lw_k7 194 rfl rfl⟩
theorem vm_Md_inkLength : Cond.instanceMethod M_Md_inkLength.1 ∈ lw_good ∧ Cond.selects M_Md_inkLength.1.cls M_Md_inkLength.1 M_Md_inkLength.1 ∈ lw_good ∧ ∃ (T : u_T) (N : Nat), vwCl[14]? = some (M_Md_inkLength.1.cls, T, N) := ⟨lw_k7 192 rfl rfl, lw_k7 193 rfl rfl, TX12, 35, rfl⟩
abbrev M_Ma_absD : Mth := (⟨"java/lang/Math", "abs", "(D)D"⟩, prog_25_method_64_code, 2, (some .double), [])
theorem me_Ma_absD : iMeth M_Ma_absD 1 := ⟨lw_k1 23 rfl rfl, ⟨by decide +kernel, by decide +kernel⟩, by decide +kernel, by decide⟩
theorem pn_Ma_absD : iPlain M_Ma_absD := ⟨rfl, lw_k7 197 rfl rfl⟩
theorem sm_Ma_absD : Cond.static M_Ma_absD.1 ∈ lw_good := lw_k7 196 rfl rfl
abbrev M_Md_extent : Mth := (⟨"ParallelRewritingModel", "extent", "(I)D"⟩, prog_14_method_76_code, 7, (some .double), [])
theorem me_Md_extent : iMeth M_Md_extent 1 := ⟨lw_k1 14 rfl rfl, ⟨by decide +kernel, by decide +kernel⟩, by decide +kernel, by decide⟩
theorem pn_Md_extent : iPlain M_Md_extent := ⟨rfl, lw_k7 208 rfl rfl⟩
theorem vm_Md_extent : Cond.instanceMethod M_Md_extent.1 ∈ lw_good ∧ Cond.selects M_Md_extent.1.cls M_Md_extent.1 M_Md_extent.1 ∈ lw_good ∧ ∃ (T : u_T) (N : Nat), vwCl[14]? = some (M_Md_extent.1.cls, T, N) := ⟨lw_k7 206 rfl rfl, lw_k7 207 rfl rfl, TX12, 35, rfl⟩
abbrev M_Ma_minD : Mth := (⟨"java/lang/Math", "min", "(DD)D"⟩, prog_25_method_72_code, 4, (some .double), [])
theorem me_Ma_minD : iMeth M_Ma_minD 2 := ⟨lw_k1 23 rfl rfl, ⟨by decide +kernel, by decide +kernel⟩, by decide +kernel, by decide⟩
theorem pn_Ma_minD : iPlain M_Ma_minD := ⟨rfl, lw_k7 211 rfl rfl⟩
theorem sm_Ma_minD : Cond.static M_Ma_minD.1 ∈ lw_good := lw_k7 210 rfl rfl
abbrev M_Ma_maxD : Mth := (⟨"java/lang/Math", "max", "(DD)D"⟩, prog_25_method_68_code, 4, (some .double), [])
theorem me_Ma_maxD : iMeth M_Ma_maxD 2 := ⟨lw_k1 23 rfl rfl, ⟨by decide +kernel, by decide +kernel⟩, by decide +kernel, by decide⟩
theorem pn_Ma_maxD : iPlain M_Ma_maxD := ⟨rfl, lw_k7 216 rfl rfl⟩
theorem sm_Ma_maxD : Cond.static M_Ma_maxD.1 ∈ lw_good := lw_k7 215 rfl rfl
abbrev M_Md_openDepth : Mth := (⟨"ParallelRewritingModel", "openDepth", "()I"⟩, prog_14_method_77_code, 1, (some .int), [])
theorem me_Md_openDepth : iMeth M_Md_openDepth 0 := ⟨lw_k1 14 rfl rfl, ⟨by decide +kernel, by decide +kernel⟩, by decide +kernel, by decide⟩
theorem pn_Md_openDepth : iPlain M_Md_openDepth := ⟨rfl, lw_k7 220 rfl rfl⟩
theorem vm_Md_openDepth : Cond.instanceMethod M_Md_openDepth.1 ∈ lw_good ∧ Cond.selects M_Md_openDepth.1.cls M_Md_openDepth.1 M_Md_openDepth.1 ∈ lw_good ∧ ∃ (T : u_T) (N : Nat), vwCl[14]? = some (M_Md_openDepth.1.cls, T, N) := ⟨lw_k7 218 rfl rfl, lw_k7 219 rfl rfl, TX12, 35, rfl⟩
abbrev M_Md_keepPoints : Mth := (⟨"ParallelRewritingModel", "keepPoints", "(IZ)I"⟩, prog_14_method_78_code, 4, (some .int), [])
theorem me_Md_keepPoints : iMeth M_Md_keepPoints 2 := ⟨lw_k1 14 rfl rfl, ⟨by decide +kernel, by decide +kernel⟩, by decide +kernel, by decide⟩
theorem pn_Md_keepPoints : iPlain M_Md_keepPoints := ⟨rfl, lw_k7 224 rfl rfl⟩
theorem vm_Md_keepPoints : Cond.instanceMethod M_Md_keepPoints.1 ∈ lw_good ∧ Cond.selects M_Md_keepPoints.1.cls M_Md_keepPoints.1 M_Md_keepPoints.1 ∈ lw_good ∧ ∃ (T : u_T) (N : Nat), vwCl[14]? = some (M_Md_keepPoints.1.cls, T, N) := ⟨lw_k7 222 rfl rfl, lw_k7 223 rfl rfl, TX12, 35, rfl⟩
abbrev M_Md_remainder : Mth := (⟨"ParallelRewritingModel", "remainder", "(III)D"⟩, prog_14_method_79_code, 8, (some .double), [])
theorem me_Md_remainder : iMeth M_Md_remainder 3 := ⟨lw_k1 14 rfl rfl, ⟨by decide +kernel, by decide +kernel⟩, by decide +kernel, by decide⟩
theorem pn_Md_remainder : iPlain M_Md_remainder := ⟨rfl, lw_k7 228 rfl rfl⟩
theorem vm_Md_remainder : Cond.instanceMethod M_Md_remainder.1 ∈ lw_good ∧ Cond.selects M_Md_remainder.1.cls M_Md_remainder.1 M_Md_remainder.1 ∈ lw_good ∧ ∃ (T : u_T) (N : Nat), vwCl[14]? = some (M_Md_remainder.1.cls, T, N) := ⟨lw_k7 226 rfl rfl, lw_k7 227 rfl rfl, TX12, 35, rfl⟩
abbrev M_Md_save : Mth := (⟨"ParallelRewritingModel", "save", "()V"⟩, prog_14_method_80_code, 1, none, [])
theorem me_Md_save : iMeth M_Md_save 0 := ⟨lw_k1 14 rfl rfl, ⟨by decide +kernel, by decide +kernel⟩, by decide +kernel, by decide⟩
theorem pn_Md_save : iPlain M_Md_save := ⟨rfl, lw_k7 232 rfl rfl⟩
theorem vm_Md_save : Cond.instanceMethod M_Md_save.1 ∈ lw_good ∧ Cond.selects M_Md_save.1.cls M_Md_save.1 M_Md_save.1 ∈ lw_good ∧ ∃ (T : u_T) (N : Nat), vwCl[14]? = some (M_Md_save.1.cls, T, N) := ⟨lw_k7 230 rfl rfl, lw_k7 231 rfl rfl, TX12, 35, rfl⟩
abbrev M_Md_restore : Mth := (⟨"ParallelRewritingModel", "restore", "()V"⟩, prog_14_method_81_code, 1, none, [])
theorem me_Md_restore : iMeth M_Md_restore 0 := ⟨lw_k1 14 rfl rfl, ⟨by decide +kernel, by decide +kernel⟩, by decide +kernel, by decide⟩
theorem pn_Md_restore : iPlain M_Md_restore := ⟨rfl, lw_k7 236 rfl rfl⟩
theorem vm_Md_restore : Cond.instanceMethod M_Md_restore.1 ∈ lw_good ∧ Cond.selects M_Md_restore.1.cls M_Md_restore.1 M_Md_restore.1 ∈ lw_good ∧ ∃ (T : u_T) (N : Nat), vwCl[14]? = some (M_Md_restore.1.cls, T, N) := ⟨lw_k7 234 rfl rfl, lw_k7 235 rfl rfl, TX12, 35, rfl⟩
abbrev M_Lw_law : Mth := (⟨"ParallelRewritingLaw", "law", "([I)Z"⟩, code, 9, (some .boolean), [])
theorem fl_Tx_Tx_characters : FL "ParallelRewriting$Text" 9 10 0 := ⟨RX8, TX8, 2, rfl, by decide, uw_Tx, lw_k1 46 rfl rfl⟩
theorem pf_Tx_Tx_characters : PL "ParallelRewriting$Text" 9 10 0 (.array .char) true := ⟨RX8, TX8, 2, tyX8, rfl, by decide, uw_Tx, lw_k1 46 rfl rfl, tyX8_ok, nmX8, rfl, by decide +kernel, rfl⟩
theorem fl_Tx_Tx_length : FL "ParallelRewriting$Text" 15 10 1 := ⟨RX8, TX8, 2, rfl, by decide, uw_Tx, lw_k1 47 rfl rfl⟩
theorem px_Tx_Tx_length : ∃ (C : String) (T : u_T) (N : Nat) (ty0 : Nat → FieldType), vwCl[10]? = some (C, T, N) ∧ 1 < N ∧ (∀ w ∈ u_ws C T N, w ∈ lw_good) ∧ Cond.fieldLink "ParallelRewriting$Text" 15 (T 1).1 (T 1).2.1 (T 1).2.2.1 ∈ lw_good ∧ (∀ k, k < N → parseFieldDescriptor (T k).2.2.1 = some (ty0 k)) ∧ (∀ a, a < N → ∀ b, b < N → a ≠ b → (T a).2.1 ≠ (T b).2.1) ∧ (T 1).2.2.2 = false ∧ parseFieldDescriptor (T 1).2.2.1 = some .int := ⟨RX8, TX8, 2, tyX8, rfl, by decide, uw_Tx, lw_k1 47 rfl rfl, tyX8_ok, nmX8, rfl, by decide +kernel⟩
theorem fl_Wd_Tx_length : FL "ParallelRewriting$Word" 19 10 1 := ⟨RX8, TX8, 2, rfl, by decide, uw_Tx, lw_k1 48 rfl rfl⟩
theorem px_Wd_Tx_length : ∃ (C : String) (T : u_T) (N : Nat) (ty0 : Nat → FieldType), vwCl[10]? = some (C, T, N) ∧ 1 < N ∧ (∀ w ∈ u_ws C T N, w ∈ lw_good) ∧ Cond.fieldLink "ParallelRewriting$Word" 19 (T 1).1 (T 1).2.1 (T 1).2.2.1 ∈ lw_good ∧ (∀ k, k < N → parseFieldDescriptor (T k).2.2.1 = some (ty0 k)) ∧ (∀ a, a < N → ∀ b, b < N → a ≠ b → (T a).2.1 ≠ (T b).2.1) ∧ (T 1).2.2.2 = false ∧ parseFieldDescriptor (T 1).2.2.1 = some .int := ⟨RX8, TX8, 2, tyX8, rfl, by decide, uw_Tx, lw_k1 48 rfl rfl, tyX8_ok, nmX8, rfl, by decide +kernel⟩
theorem fl_Pr_Tx_length : FL "ParallelRewriting" 107 10 1 := ⟨RX8, TX8, 2, rfl, by decide, uw_Tx, lw_k1 49 rfl rfl⟩
theorem px_Pr_Tx_length : ∃ (C : String) (T : u_T) (N : Nat) (ty0 : Nat → FieldType), vwCl[10]? = some (C, T, N) ∧ 1 < N ∧ (∀ w ∈ u_ws C T N, w ∈ lw_good) ∧ Cond.fieldLink "ParallelRewriting" 107 (T 1).1 (T 1).2.1 (T 1).2.2.1 ∈ lw_good ∧ (∀ k, k < N → parseFieldDescriptor (T k).2.2.1 = some (ty0 k)) ∧ (∀ a, a < N → ∀ b, b < N → a ≠ b → (T a).2.1 ≠ (T b).2.1) ∧ (T 1).2.2.2 = false ∧ parseFieldDescriptor (T 1).2.2.1 = some .int := ⟨RX8, TX8, 2, tyX8, rfl, by decide, uw_Tx, lw_k1 49 rfl rfl, tyX8_ok, nmX8, rfl, by decide +kernel⟩
theorem fl_Tb_Tx_length : FL "ParallelRewriting$Table" 41 10 1 := ⟨RX8, TX8, 2, rfl, by decide, uw_Tx, lw_k1 50 rfl rfl⟩
theorem px_Tb_Tx_length : ∃ (C : String) (T : u_T) (N : Nat) (ty0 : Nat → FieldType), vwCl[10]? = some (C, T, N) ∧ 1 < N ∧ (∀ w ∈ u_ws C T N, w ∈ lw_good) ∧ Cond.fieldLink "ParallelRewriting$Table" 41 (T 1).1 (T 1).2.1 (T 1).2.2.1 ∈ lw_good ∧ (∀ k, k < N → parseFieldDescriptor (T k).2.2.1 = some (ty0 k)) ∧ (∀ a, a < N → ∀ b, b < N → a ≠ b → (T a).2.1 ≠ (T b).2.1) ∧ (T 1).2.2.2 = false ∧ parseFieldDescriptor (T 1).2.2.1 = some .int := ⟨RX8, TX8, 2, tyX8, rfl, by decide, uw_Tx, lw_k1 50 rfl rfl, tyX8_ok, nmX8, rfl, by decide +kernel⟩
theorem fl_Tb_Tb_listSizes : FL "ParallelRewriting$Table" 9 9 0 := ⟨RX7, TX7, 4, rfl, by decide, uw_Tb, lw_k1 76 rfl rfl⟩
theorem pf_Tb_Tb_listSizes : PL "ParallelRewriting$Table" 9 9 0 (.array .int) true := ⟨RX7, TX7, 4, tyX7, rfl, by decide, uw_Tb, lw_k1 76 rfl rfl, tyX7_ok, nmX7, rfl, by decide +kernel, rfl⟩
theorem fl_Wy_Tb_listSizes : FL "ParallelRewriting$WayCounter" 48 9 0 := ⟨RX7, TX7, 4, rfl, by decide, uw_Tb, lw_k1 77 rfl rfl⟩
theorem fl_Pr_Tb_listSizes : FL "ParallelRewriting" 134 9 0 := ⟨RX7, TX7, 4, rfl, by decide, uw_Tb, lw_k1 78 rfl rfl⟩
theorem fl_Tb_Tb_lengths : FL "ParallelRewriting$Table" 15 9 1 := ⟨RX7, TX7, 4, rfl, by decide, uw_Tb, lw_k1 79 rfl rfl⟩
theorem pf_Tb_Tb_lengths : PL "ParallelRewriting$Table" 15 9 1 (.array .int) true := ⟨RX7, TX7, 4, tyX7, rfl, by decide, uw_Tb, lw_k1 79 rfl rfl, tyX7_ok, nmX7, rfl, by decide +kernel, rfl⟩
theorem fl_Gr_Tb_lengths : FL "ParallelRewriting$Growth" 54 9 1 := ⟨RX7, TX7, 4, rfl, by decide, uw_Tb, lw_k1 80 rfl rfl⟩
theorem fl_Wy_Tb_lengths : FL "ParallelRewriting$WayCounter" 55 9 1 := ⟨RX7, TX7, 4, rfl, by decide, uw_Tb, lw_k1 81 rfl rfl⟩
theorem fl_Re_Tb_lengths : FL "ParallelRewriting$Recurrence" 76 9 1 := ⟨RX7, TX7, 4, rfl, by decide, uw_Tb, lw_k1 82 rfl rfl⟩
theorem fl_Tb_Tb_letters : FL "ParallelRewriting$Table" 18 9 2 := ⟨RX7, TX7, 4, rfl, by decide, uw_Tb, lw_k1 83 rfl rfl⟩
theorem pf_Tb_Tb_letters : PL "ParallelRewriting$Table" 18 9 2 (.array .int) true := ⟨RX7, TX7, 4, tyX7, rfl, by decide, uw_Tb, lw_k1 83 rfl rfl, tyX7_ok, nmX7, rfl, by decide +kernel, rfl⟩
theorem fl_Tb_Tb_rules : FL "ParallelRewriting$Table" 37 9 3 := ⟨RX7, TX7, 4, rfl, by decide, uw_Tb, lw_k1 84 rfl rfl⟩
theorem px_Tb_Tb_rules : ∃ (C : String) (T : u_T) (N : Nat) (ty0 : Nat → FieldType), vwCl[9]? = some (C, T, N) ∧ 3 < N ∧ (∀ w ∈ u_ws C T N, w ∈ lw_good) ∧ Cond.fieldLink "ParallelRewriting$Table" 37 (T 3).1 (T 3).2.1 (T 3).2.2.1 ∈ lw_good ∧ (∀ k, k < N → parseFieldDescriptor (T k).2.2.1 = some (ty0 k)) ∧ (∀ a, a < N → ∀ b, b < N → a ≠ b → (T a).2.1 ≠ (T b).2.1) ∧ (T 3).2.2.2 = false ∧ parseFieldDescriptor (T 3).2.2.1 = some .int := ⟨RX7, TX7, 4, tyX7, rfl, by decide, uw_Tb, lw_k1 84 rfl rfl, tyX7_ok, nmX7, rfl, by decide +kernel⟩
theorem fl_Pr_Tb_rules : FL "ParallelRewriting" 141 9 3 := ⟨RX7, TX7, 4, rfl, by decide, uw_Tb, lw_k1 85 rfl rfl⟩
theorem px_Pr_Tb_rules : ∃ (C : String) (T : u_T) (N : Nat) (ty0 : Nat → FieldType), vwCl[9]? = some (C, T, N) ∧ 3 < N ∧ (∀ w ∈ u_ws C T N, w ∈ lw_good) ∧ Cond.fieldLink "ParallelRewriting" 141 (T 3).1 (T 3).2.1 (T 3).2.2.1 ∈ lw_good ∧ (∀ k, k < N → parseFieldDescriptor (T k).2.2.1 = some (ty0 k)) ∧ (∀ a, a < N → ∀ b, b < N → a ≠ b → (T a).2.1 ≠ (T b).2.1) ∧ (T 3).2.2.2 = false ∧ parseFieldDescriptor (T 3).2.2.1 = some .int := ⟨RX7, TX7, 4, tyX7, rfl, by decide, uw_Tb, lw_k1 85 rfl rfl, tyX7_ok, nmX7, rfl, by decide +kernel⟩
theorem fl_Wd_Wd_letters : FL "ParallelRewriting$Word" 9 12 0 := ⟨RX10, TX10, 2, rfl, by decide, uw_Wd, lw_k1 102 rfl rfl⟩
theorem pf_Wd_Wd_letters : PL "ParallelRewriting$Word" 9 12 0 (.array .int) true := ⟨RX10, TX10, 2, tyX10, rfl, by decide, uw_Wd, lw_k1 102 rfl rfl, tyX10_ok, nmX10, rfl, by decide +kernel, rfl⟩
theorem fl_Fi_Wd_letters : FL "ParallelRewriting$Figure" 40 12 0 := ⟨RX10, TX10, 2, rfl, by decide, uw_Wd, lw_k1 103 rfl rfl⟩
theorem fl_Gr_Wd_letters : FL "ParallelRewriting$Growth" 37 12 0 := ⟨RX10, TX10, 2, rfl, by decide, uw_Wd, lw_k1 104 rfl rfl⟩
theorem fl_Ad_Wd_letters : FL "ParallelRewriting$Adults" 43 12 0 := ⟨RX10, TX10, 2, rfl, by decide, uw_Wd, lw_k1 105 rfl rfl⟩
theorem fl_Wy_Wd_letters : FL "ParallelRewriting$WayCounter" 44 12 0 := ⟨RX10, TX10, 2, rfl, by decide, uw_Wd, lw_k1 106 rfl rfl⟩
theorem fl_Re_Wd_letters : FL "ParallelRewriting$Recurrence" 63 12 0 := ⟨RX10, TX10, 2, rfl, by decide, uw_Wd, lw_k1 107 rfl rfl⟩
theorem fl_Tb_Wd_letters : FL "ParallelRewriting$Table" 66 12 0 := ⟨RX10, TX10, 2, rfl, by decide, uw_Wd, lw_k1 108 rfl rfl⟩
theorem fl_Pr_Wd_letters : FL "ParallelRewriting" 176 12 0 := ⟨RX10, TX10, 2, rfl, by decide, uw_Wd, lw_k1 109 rfl rfl⟩
theorem fl_Wd_Wd_length : FL "ParallelRewriting$Word" 15 12 1 := ⟨RX10, TX10, 2, rfl, by decide, uw_Wd, lw_k1 110 rfl rfl⟩
theorem px_Wd_Wd_length : ∃ (C : String) (T : u_T) (N : Nat) (ty0 : Nat → FieldType), vwCl[12]? = some (C, T, N) ∧ 1 < N ∧ (∀ w ∈ u_ws C T N, w ∈ lw_good) ∧ Cond.fieldLink "ParallelRewriting$Word" 15 (T 1).1 (T 1).2.1 (T 1).2.2.1 ∈ lw_good ∧ (∀ k, k < N → parseFieldDescriptor (T k).2.2.1 = some (ty0 k)) ∧ (∀ a, a < N → ∀ b, b < N → a ≠ b → (T a).2.1 ≠ (T b).2.1) ∧ (T 1).2.2.2 = false ∧ parseFieldDescriptor (T 1).2.2.1 = some .int := ⟨RX10, TX10, 2, tyX10, rfl, by decide, uw_Wd, lw_k1 110 rfl rfl, tyX10_ok, nmX10, rfl, by decide +kernel⟩
theorem fl_Fi_Wd_length : FL "ParallelRewriting$Figure" 34 12 1 := ⟨RX10, TX10, 2, rfl, by decide, uw_Wd, lw_k1 111 rfl rfl⟩
theorem px_Fi_Wd_length : ∃ (C : String) (T : u_T) (N : Nat) (ty0 : Nat → FieldType), vwCl[12]? = some (C, T, N) ∧ 1 < N ∧ (∀ w ∈ u_ws C T N, w ∈ lw_good) ∧ Cond.fieldLink "ParallelRewriting$Figure" 34 (T 1).1 (T 1).2.1 (T 1).2.2.1 ∈ lw_good ∧ (∀ k, k < N → parseFieldDescriptor (T k).2.2.1 = some (ty0 k)) ∧ (∀ a, a < N → ∀ b, b < N → a ≠ b → (T a).2.1 ≠ (T b).2.1) ∧ (T 1).2.2.2 = false ∧ parseFieldDescriptor (T 1).2.2.1 = some .int := ⟨RX10, TX10, 2, tyX10, rfl, by decide, uw_Wd, lw_k1 111 rfl rfl, tyX10_ok, nmX10, rfl, by decide +kernel⟩
theorem fl_Gr_Wd_length : FL "ParallelRewriting$Growth" 31 12 1 := ⟨RX10, TX10, 2, rfl, by decide, uw_Wd, lw_k1 112 rfl rfl⟩
theorem px_Gr_Wd_length : ∃ (C : String) (T : u_T) (N : Nat) (ty0 : Nat → FieldType), vwCl[12]? = some (C, T, N) ∧ 1 < N ∧ (∀ w ∈ u_ws C T N, w ∈ lw_good) ∧ Cond.fieldLink "ParallelRewriting$Growth" 31 (T 1).1 (T 1).2.1 (T 1).2.2.1 ∈ lw_good ∧ (∀ k, k < N → parseFieldDescriptor (T k).2.2.1 = some (ty0 k)) ∧ (∀ a, a < N → ∀ b, b < N → a ≠ b → (T a).2.1 ≠ (T b).2.1) ∧ (T 1).2.2.2 = false ∧ parseFieldDescriptor (T 1).2.2.1 = some .int := ⟨RX10, TX10, 2, tyX10, rfl, by decide, uw_Wd, lw_k1 112 rfl rfl, tyX10_ok, nmX10, rfl, by decide +kernel⟩
theorem fl_Wy_Wd_length : FL "ParallelRewriting$WayCounter" 24 12 1 := ⟨RX10, TX10, 2, rfl, by decide, uw_Wd, lw_k1 113 rfl rfl⟩
theorem px_Wy_Wd_length : ∃ (C : String) (T : u_T) (N : Nat) (ty0 : Nat → FieldType), vwCl[12]? = some (C, T, N) ∧ 1 < N ∧ (∀ w ∈ u_ws C T N, w ∈ lw_good) ∧ Cond.fieldLink "ParallelRewriting$WayCounter" 24 (T 1).1 (T 1).2.1 (T 1).2.2.1 ∈ lw_good ∧ (∀ k, k < N → parseFieldDescriptor (T k).2.2.1 = some (ty0 k)) ∧ (∀ a, a < N → ∀ b, b < N → a ≠ b → (T a).2.1 ≠ (T b).2.1) ∧ (T 1).2.2.2 = false ∧ parseFieldDescriptor (T 1).2.2.1 = some .int := ⟨RX10, TX10, 2, tyX10, rfl, by decide, uw_Wd, lw_k1 113 rfl rfl, tyX10_ok, nmX10, rfl, by decide +kernel⟩
theorem fl_Ad_Wd_length : FL "ParallelRewriting$Adults" 35 12 1 := ⟨RX10, TX10, 2, rfl, by decide, uw_Wd, lw_k1 114 rfl rfl⟩
theorem px_Ad_Wd_length : ∃ (C : String) (T : u_T) (N : Nat) (ty0 : Nat → FieldType), vwCl[12]? = some (C, T, N) ∧ 1 < N ∧ (∀ w ∈ u_ws C T N, w ∈ lw_good) ∧ Cond.fieldLink "ParallelRewriting$Adults" 35 (T 1).1 (T 1).2.1 (T 1).2.2.1 ∈ lw_good ∧ (∀ k, k < N → parseFieldDescriptor (T k).2.2.1 = some (ty0 k)) ∧ (∀ a, a < N → ∀ b, b < N → a ≠ b → (T a).2.1 ≠ (T b).2.1) ∧ (T 1).2.2.2 = false ∧ parseFieldDescriptor (T 1).2.2.1 = some .int := ⟨RX10, TX10, 2, tyX10, rfl, by decide, uw_Wd, lw_k1 114 rfl rfl, tyX10_ok, nmX10, rfl, by decide +kernel⟩
theorem fl_Re_Wd_length : FL "ParallelRewriting$Recurrence" 58 12 1 := ⟨RX10, TX10, 2, rfl, by decide, uw_Wd, lw_k1 115 rfl rfl⟩
theorem px_Re_Wd_length : ∃ (C : String) (T : u_T) (N : Nat) (ty0 : Nat → FieldType), vwCl[12]? = some (C, T, N) ∧ 1 < N ∧ (∀ w ∈ u_ws C T N, w ∈ lw_good) ∧ Cond.fieldLink "ParallelRewriting$Recurrence" 58 (T 1).1 (T 1).2.1 (T 1).2.2.1 ∈ lw_good ∧ (∀ k, k < N → parseFieldDescriptor (T k).2.2.1 = some (ty0 k)) ∧ (∀ a, a < N → ∀ b, b < N → a ≠ b → (T a).2.1 ≠ (T b).2.1) ∧ (T 1).2.2.2 = false ∧ parseFieldDescriptor (T 1).2.2.1 = some .int := ⟨RX10, TX10, 2, tyX10, rfl, by decide, uw_Wd, lw_k1 115 rfl rfl, tyX10_ok, nmX10, rfl, by decide +kernel⟩
theorem fl_Pr_Wd_length : FL "ParallelRewriting" 167 12 1 := ⟨RX10, TX10, 2, rfl, by decide, uw_Wd, lw_k1 116 rfl rfl⟩
theorem px_Pr_Wd_length : ∃ (C : String) (T : u_T) (N : Nat) (ty0 : Nat → FieldType), vwCl[12]? = some (C, T, N) ∧ 1 < N ∧ (∀ w ∈ u_ws C T N, w ∈ lw_good) ∧ Cond.fieldLink "ParallelRewriting" 167 (T 1).1 (T 1).2.1 (T 1).2.2.1 ∈ lw_good ∧ (∀ k, k < N → parseFieldDescriptor (T k).2.2.1 = some (ty0 k)) ∧ (∀ a, a < N → ∀ b, b < N → a ≠ b → (T a).2.1 ≠ (T b).2.1) ∧ (T 1).2.2.2 = false ∧ parseFieldDescriptor (T 1).2.2.1 = some .int := ⟨RX10, TX10, 2, tyX10, rfl, by decide, uw_Wd, lw_k1 116 rfl rfl, tyX10_ok, nmX10, rfl, by decide +kernel⟩
theorem fl_Tb_Wd_length : FL "ParallelRewriting$Table" 69 12 1 := ⟨RX10, TX10, 2, rfl, by decide, uw_Wd, lw_k1 117 rfl rfl⟩
theorem px_Tb_Wd_length : ∃ (C : String) (T : u_T) (N : Nat) (ty0 : Nat → FieldType), vwCl[12]? = some (C, T, N) ∧ 1 < N ∧ (∀ w ∈ u_ws C T N, w ∈ lw_good) ∧ Cond.fieldLink "ParallelRewriting$Table" 69 (T 1).1 (T 1).2.1 (T 1).2.2.1 ∈ lw_good ∧ (∀ k, k < N → parseFieldDescriptor (T k).2.2.1 = some (ty0 k)) ∧ (∀ a, a < N → ∀ b, b < N → a ≠ b → (T a).2.1 ≠ (T b).2.1) ∧ (T 1).2.2.2 = false ∧ parseFieldDescriptor (T 1).2.2.1 = some .int := ⟨RX10, TX10, 2, tyX10, rfl, by decide, uw_Wd, lw_k1 117 rfl rfl, tyX10_ok, nmX10, rfl, by decide +kernel⟩
theorem fl_St_St_tables : FL "ParallelRewriting$State" 11 8 0 := ⟨RX6, TX6, 4, rfl, by decide, uw_St, lw_k1 124 rfl rfl⟩
theorem pf_St_St_tables : PL "ParallelRewriting$State" 11 8 0 (.array (.object "ParallelRewriting$Table")) true := ⟨RX6, TX6, 4, tyX6, rfl, by decide, uw_St, lw_k1 124 rfl rfl, tyX6_ok, nmX6, rfl, by decide +kernel, rfl⟩
theorem fl_Sq_St_tables : FL "ParallelRewriting$SequenceSearch" 52 8 0 := ⟨RX6, TX6, 4, rfl, by decide, uw_St, lw_k1 125 rfl rfl⟩
theorem fl_Pr_St_tables : FL "ParallelRewriting" 362 8 0 := ⟨RX6, TX6, 4, rfl, by decide, uw_St, lw_k1 126 rfl rfl⟩
theorem fl_St_St_current : FL "ParallelRewriting$State" 21 8 1 := ⟨RX6, TX6, 4, rfl, by decide, uw_St, lw_k1 127 rfl rfl⟩
theorem pf_St_St_current : PL "ParallelRewriting$State" 21 8 1 (.object "ParallelRewriting$Word") true := ⟨RX6, TX6, 4, tyX6, rfl, by decide, uw_St, lw_k1 127 rfl rfl, tyX6_ok, nmX6, rfl, by decide +kernel, rfl⟩
theorem fl_Sq_St_current : FL "ParallelRewriting$SequenceSearch" 25 8 1 := ⟨RX6, TX6, 4, rfl, by decide, uw_St, lw_k1 128 rfl rfl⟩
theorem fl_Pr_St_current : FL "ParallelRewriting" 157 8 1 := ⟨RX6, TX6, 4, rfl, by decide, uw_St, lw_k1 129 rfl rfl⟩
theorem fl_St_St_target : FL "ParallelRewriting$State" 25 8 2 := ⟨RX6, TX6, 4, rfl, by decide, uw_St, lw_k1 130 rfl rfl⟩
theorem pf_St_St_target : PL "ParallelRewriting$State" 25 8 2 (.object "ParallelRewriting$Word") true := ⟨RX6, TX6, 4, tyX6, rfl, by decide, uw_St, lw_k1 130 rfl rfl, tyX6_ok, nmX6, rfl, by decide +kernel, rfl⟩
theorem fl_Sq_St_target : FL "ParallelRewriting$SequenceSearch" 45 8 2 := ⟨RX6, TX6, 4, rfl, by decide, uw_St, lw_k1 131 rfl rfl⟩
theorem fl_Pr_St_target : FL "ParallelRewriting" 168 8 2 := ⟨RX6, TX6, 4, rfl, by decide, uw_St, lw_k1 132 rfl rfl⟩
theorem fl_St_St_commands : FL "ParallelRewriting$State" 28 8 3 := ⟨RX6, TX6, 4, rfl, by decide, uw_St, lw_k1 133 rfl rfl⟩
theorem pf_St_St_commands : PL "ParallelRewriting$State" 28 8 3 (.array .int) true := ⟨RX6, TX6, 4, tyX6, rfl, by decide, uw_St, lw_k1 133 rfl rfl, tyX6_ok, nmX6, rfl, by decide +kernel, rfl⟩
theorem fl_Pr_St_commands : FL "ParallelRewriting" 294 8 3 := ⟨RX6, TX6, 4, rfl, by decide, uw_St, lw_k1 134 rfl rfl⟩
theorem fl_Hi_Hi_words : FL "ParallelRewriting$History" 11 5 0 := ⟨RX3, TX3, 3, rfl, by decide, uw_Hi, lw_k1 153 rfl rfl⟩
theorem pf_Hi_Hi_words : PL "ParallelRewriting$History" 11 5 0 (.array (.object "ParallelRewriting$Word")) true := ⟨RX3, TX3, 3, tyX3, rfl, by decide, uw_Hi, lw_k1 153 rfl rfl, tyX3_ok, nmX3, rfl, by decide +kernel, rfl⟩
theorem fl_Hi_Hi_oldest : FL "ParallelRewriting$History" 22 5 1 := ⟨RX3, TX3, 3, rfl, by decide, uw_Hi, lw_k1 154 rfl rfl⟩
theorem px_Hi_Hi_oldest : ∃ (C : String) (T : u_T) (N : Nat) (ty0 : Nat → FieldType), vwCl[5]? = some (C, T, N) ∧ 1 < N ∧ (∀ w ∈ u_ws C T N, w ∈ lw_good) ∧ Cond.fieldLink "ParallelRewriting$History" 22 (T 1).1 (T 1).2.1 (T 1).2.2.1 ∈ lw_good ∧ (∀ k, k < N → parseFieldDescriptor (T k).2.2.1 = some (ty0 k)) ∧ (∀ a, a < N → ∀ b, b < N → a ≠ b → (T a).2.1 ≠ (T b).2.1) ∧ (T 1).2.2.2 = false ∧ parseFieldDescriptor (T 1).2.2.1 = some .int := ⟨RX3, TX3, 3, tyX3, rfl, by decide, uw_Hi, lw_k1 154 rfl rfl, tyX3_ok, nmX3, rfl, by decide +kernel⟩
theorem fl_Hi_Hi_size : FL "ParallelRewriting$History" 18 5 2 := ⟨RX3, TX3, 3, rfl, by decide, uw_Hi, lw_k1 155 rfl rfl⟩
theorem px_Hi_Hi_size : ∃ (C : String) (T : u_T) (N : Nat) (ty0 : Nat → FieldType), vwCl[5]? = some (C, T, N) ∧ 2 < N ∧ (∀ w ∈ u_ws C T N, w ∈ lw_good) ∧ Cond.fieldLink "ParallelRewriting$History" 18 (T 2).1 (T 2).2.1 (T 2).2.2.1 ∈ lw_good ∧ (∀ k, k < N → parseFieldDescriptor (T k).2.2.1 = some (ty0 k)) ∧ (∀ a, a < N → ∀ b, b < N → a ≠ b → (T a).2.1 ≠ (T b).2.1) ∧ (T 2).2.2.2 = false ∧ parseFieldDescriptor (T 2).2.2.1 = some .int := ⟨RX3, TX3, 3, tyX3, rfl, by decide, uw_Hi, lw_k1 155 rfl rfl, tyX3_ok, nmX3, rfl, by decide +kernel⟩
theorem fl_Gr_Gr_counts : FL "ParallelRewriting$Growth" 9 4 0 := ⟨RX2, TX2, 5, rfl, by decide, uw_Gr, lw_k1 171 rfl rfl⟩
theorem px_Gr_Gr_counts : ∃ (C : String) (T : u_T) (N : Nat) (ty0 : Nat → FieldType), vwCl[4]? = some (C, T, N) ∧ 0 < N ∧ (∀ w ∈ u_ws C T N, w ∈ lw_good) ∧ Cond.fieldLink "ParallelRewriting$Growth" 9 (T 0).1 (T 0).2.1 (T 0).2.2.1 ∈ lw_good ∧ (∀ k, k < N → parseFieldDescriptor (T k).2.2.1 = some (ty0 k)) ∧ (∀ a, a < N → ∀ b, b < N → a ≠ b → (T a).2.1 ≠ (T b).2.1) ∧ (T 0).2.2.2 = false ∧ parseFieldDescriptor (T 0).2.2.1 = some (.array .long) := ⟨RX2, TX2, 5, tyX2, rfl, by decide, uw_Gr, lw_k1 171 rfl rfl, tyX2_ok, nmX2, rfl, by decide +kernel⟩
theorem fl_Pr_Gr_counts : FL "ParallelRewriting" 207 4 0 := ⟨RX2, TX2, 5, rfl, by decide, uw_Gr, lw_k1 172 rfl rfl⟩
theorem px_Pr_Gr_counts : ∃ (C : String) (T : u_T) (N : Nat) (ty0 : Nat → FieldType), vwCl[4]? = some (C, T, N) ∧ 0 < N ∧ (∀ w ∈ u_ws C T N, w ∈ lw_good) ∧ Cond.fieldLink "ParallelRewriting" 207 (T 0).1 (T 0).2.1 (T 0).2.2.1 ∈ lw_good ∧ (∀ k, k < N → parseFieldDescriptor (T k).2.2.1 = some (ty0 k)) ∧ (∀ a, a < N → ∀ b, b < N → a ≠ b → (T a).2.1 ≠ (T b).2.1) ∧ (T 0).2.2.2 = false ∧ parseFieldDescriptor (T 0).2.2.1 = some (.array .long) := ⟨RX2, TX2, 5, tyX2, rfl, by decide, uw_Gr, lw_k1 172 rfl rfl, tyX2_ok, nmX2, rfl, by decide +kernel⟩
theorem fl_Gr_Gr_next : FL "ParallelRewriting$Growth" 15 4 1 := ⟨RX2, TX2, 5, rfl, by decide, uw_Gr, lw_k1 173 rfl rfl⟩
theorem px_Gr_Gr_next : ∃ (C : String) (T : u_T) (N : Nat) (ty0 : Nat → FieldType), vwCl[4]? = some (C, T, N) ∧ 1 < N ∧ (∀ w ∈ u_ws C T N, w ∈ lw_good) ∧ Cond.fieldLink "ParallelRewriting$Growth" 15 (T 1).1 (T 1).2.1 (T 1).2.2.1 ∈ lw_good ∧ (∀ k, k < N → parseFieldDescriptor (T k).2.2.1 = some (ty0 k)) ∧ (∀ a, a < N → ∀ b, b < N → a ≠ b → (T a).2.1 ≠ (T b).2.1) ∧ (T 1).2.2.2 = false ∧ parseFieldDescriptor (T 1).2.2.1 = some (.array .long) := ⟨RX2, TX2, 5, tyX2, rfl, by decide, uw_Gr, lw_k1 173 rfl rfl, tyX2_ok, nmX2, rfl, by decide +kernel⟩
theorem fl_Gr_Gr_total : FL "ParallelRewriting$Growth" 40 4 2 := ⟨RX2, TX2, 5, rfl, by decide, uw_Gr, lw_k1 174 rfl rfl⟩
theorem px_Gr_Gr_total : ∃ (C : String) (T : u_T) (N : Nat) (ty0 : Nat → FieldType), vwCl[4]? = some (C, T, N) ∧ 2 < N ∧ (∀ w ∈ u_ws C T N, w ∈ lw_good) ∧ Cond.fieldLink "ParallelRewriting$Growth" 40 (T 2).1 (T 2).2.1 (T 2).2.2.1 ∈ lw_good ∧ (∀ k, k < N → parseFieldDescriptor (T k).2.2.1 = some (ty0 k)) ∧ (∀ a, a < N → ∀ b, b < N → a ≠ b → (T a).2.1 ≠ (T b).2.1) ∧ (T 2).2.2.2 = false ∧ parseFieldDescriptor (T 2).2.2.1 = some .long := ⟨RX2, TX2, 5, tyX2, rfl, by decide, uw_Gr, lw_k1 174 rfl rfl, tyX2_ok, nmX2, rfl, by decide +kernel⟩
theorem fl_Pr_Gr_total : FL "ParallelRewriting" 203 4 2 := ⟨RX2, TX2, 5, rfl, by decide, uw_Gr, lw_k1 175 rfl rfl⟩
theorem px_Pr_Gr_total : ∃ (C : String) (T : u_T) (N : Nat) (ty0 : Nat → FieldType), vwCl[4]? = some (C, T, N) ∧ 2 < N ∧ (∀ w ∈ u_ws C T N, w ∈ lw_good) ∧ Cond.fieldLink "ParallelRewriting" 203 (T 2).1 (T 2).2.1 (T 2).2.2.1 ∈ lw_good ∧ (∀ k, k < N → parseFieldDescriptor (T k).2.2.1 = some (ty0 k)) ∧ (∀ a, a < N → ∀ b, b < N → a ≠ b → (T a).2.1 ≠ (T b).2.1) ∧ (T 2).2.2.2 = false ∧ parseFieldDescriptor (T 2).2.2.1 = some .long := ⟨RX2, TX2, 5, tyX2, rfl, by decide, uw_Gr, lw_k1 175 rfl rfl, tyX2_ok, nmX2, rfl, by decide +kernel⟩
theorem fl_Gr_Gr_reach : FL "ParallelRewriting$Growth" 18 4 3 := ⟨RX2, TX2, 5, rfl, by decide, uw_Gr, lw_k1 176 rfl rfl⟩
theorem pf_Gr_Gr_reach : PL "ParallelRewriting$Growth" 18 4 3 (.array .int) true := ⟨RX2, TX2, 5, tyX2, rfl, by decide, uw_Gr, lw_k1 176 rfl rfl, tyX2_ok, nmX2, rfl, by decide +kernel, rfl⟩
theorem fl_Gr_Gr_chains : FL "ParallelRewriting$Growth" 22 4 4 := ⟨RX2, TX2, 5, rfl, by decide, uw_Gr, lw_k1 177 rfl rfl⟩
theorem pf_Gr_Gr_chains : PL "ParallelRewriting$Growth" 22 4 4 (.array .int) true := ⟨RX2, TX2, 5, tyX2, rfl, by decide, uw_Gr, lw_k1 177 rfl rfl, tyX2_ok, nmX2, rfl, by decide +kernel, rfl⟩
theorem fl_Re_Re_elements : FL "ParallelRewriting$Recurrence" 11 6 0 := ⟨RX4, TX4, 9, rfl, by decide, uw_Re, lw_k1 196 rfl rfl⟩
theorem pf_Re_Re_elements : PL "ParallelRewriting$Recurrence" 11 6 0 (.array .int) true := ⟨RX4, TX4, 9, tyX4, rfl, by decide, uw_Re, lw_k1 196 rfl rfl, tyX4_ok, nmX4, rfl, by decide +kernel, rfl⟩
theorem fl_Re_Re_counts : FL "ParallelRewriting$Recurrence" 15 6 1 := ⟨RX4, TX4, 9, rfl, by decide, uw_Re, lw_k1 197 rfl rfl⟩
theorem px_Re_Re_counts : ∃ (C : String) (T : u_T) (N : Nat) (ty0 : Nat → FieldType), vwCl[6]? = some (C, T, N) ∧ 1 < N ∧ (∀ w ∈ u_ws C T N, w ∈ lw_good) ∧ Cond.fieldLink "ParallelRewriting$Recurrence" 15 (T 1).1 (T 1).2.1 (T 1).2.2.1 ∈ lw_good ∧ (∀ k, k < N → parseFieldDescriptor (T k).2.2.1 = some (ty0 k)) ∧ (∀ a, a < N → ∀ b, b < N → a ≠ b → (T a).2.1 ≠ (T b).2.1) ∧ (T 1).2.2.2 = false ∧ parseFieldDescriptor (T 1).2.2.1 = some (.array .int) := ⟨RX4, TX4, 9, tyX4, rfl, by decide, uw_Re, lw_k1 197 rfl rfl, tyX4_ok, nmX4, rfl, by decide +kernel⟩
theorem fl_Re_Re_next : FL "ParallelRewriting$Recurrence" 18 6 2 := ⟨RX4, TX4, 9, rfl, by decide, uw_Re, lw_k1 198 rfl rfl⟩
theorem px_Re_Re_next : ∃ (C : String) (T : u_T) (N : Nat) (ty0 : Nat → FieldType), vwCl[6]? = some (C, T, N) ∧ 2 < N ∧ (∀ w ∈ u_ws C T N, w ∈ lw_good) ∧ Cond.fieldLink "ParallelRewriting$Recurrence" 18 (T 2).1 (T 2).2.1 (T 2).2.2.1 ∈ lw_good ∧ (∀ k, k < N → parseFieldDescriptor (T k).2.2.1 = some (ty0 k)) ∧ (∀ a, a < N → ∀ b, b < N → a ≠ b → (T a).2.1 ≠ (T b).2.1) ∧ (T 2).2.2.2 = false ∧ parseFieldDescriptor (T 2).2.2.1 = some (.array .int) := ⟨RX4, TX4, 9, tyX4, rfl, by decide, uw_Re, lw_k1 198 rfl rfl, tyX4_ok, nmX4, rfl, by decide +kernel⟩
theorem fl_Re_Re_connection : FL "ParallelRewriting$Recurrence" 21 6 3 := ⟨RX4, TX4, 9, rfl, by decide, uw_Re, lw_k1 199 rfl rfl⟩
theorem px_Re_Re_connection : ∃ (C : String) (T : u_T) (N : Nat) (ty0 : Nat → FieldType), vwCl[6]? = some (C, T, N) ∧ 3 < N ∧ (∀ w ∈ u_ws C T N, w ∈ lw_good) ∧ Cond.fieldLink "ParallelRewriting$Recurrence" 21 (T 3).1 (T 3).2.1 (T 3).2.2.1 ∈ lw_good ∧ (∀ k, k < N → parseFieldDescriptor (T k).2.2.1 = some (ty0 k)) ∧ (∀ a, a < N → ∀ b, b < N → a ≠ b → (T a).2.1 ≠ (T b).2.1) ∧ (T 3).2.2.2 = false ∧ parseFieldDescriptor (T 3).2.2.1 = some (.array .int) := ⟨RX4, TX4, 9, tyX4, rfl, by decide, uw_Re, lw_k1 199 rfl rfl, tyX4_ok, nmX4, rfl, by decide +kernel⟩
theorem fl_Re_Re_earlier : FL "ParallelRewriting$Recurrence" 24 6 4 := ⟨RX4, TX4, 9, rfl, by decide, uw_Re, lw_k1 200 rfl rfl⟩
theorem px_Re_Re_earlier : ∃ (C : String) (T : u_T) (N : Nat) (ty0 : Nat → FieldType), vwCl[6]? = some (C, T, N) ∧ 4 < N ∧ (∀ w ∈ u_ws C T N, w ∈ lw_good) ∧ Cond.fieldLink "ParallelRewriting$Recurrence" 24 (T 4).1 (T 4).2.1 (T 4).2.2.1 ∈ lw_good ∧ (∀ k, k < N → parseFieldDescriptor (T k).2.2.1 = some (ty0 k)) ∧ (∀ a, a < N → ∀ b, b < N → a ≠ b → (T a).2.1 ≠ (T b).2.1) ∧ (T 4).2.2.2 = false ∧ parseFieldDescriptor (T 4).2.2.1 = some (.array .int) := ⟨RX4, TX4, 9, tyX4, rfl, by decide, uw_Re, lw_k1 200 rfl rfl, tyX4_ok, nmX4, rfl, by decide +kernel⟩
theorem fl_Re_Re_spare : FL "ParallelRewriting$Recurrence" 27 6 5 := ⟨RX4, TX4, 9, rfl, by decide, uw_Re, lw_k1 201 rfl rfl⟩
theorem px_Re_Re_spare : ∃ (C : String) (T : u_T) (N : Nat) (ty0 : Nat → FieldType), vwCl[6]? = some (C, T, N) ∧ 5 < N ∧ (∀ w ∈ u_ws C T N, w ∈ lw_good) ∧ Cond.fieldLink "ParallelRewriting$Recurrence" 27 (T 5).1 (T 5).2.1 (T 5).2.2.1 ∈ lw_good ∧ (∀ k, k < N → parseFieldDescriptor (T k).2.2.1 = some (ty0 k)) ∧ (∀ a, a < N → ∀ b, b < N → a ≠ b → (T a).2.1 ≠ (T b).2.1) ∧ (T 5).2.2.2 = false ∧ parseFieldDescriptor (T 5).2.2.1 = some (.array .int) := ⟨RX4, TX4, 9, tyX4, rfl, by decide, uw_Re, lw_k1 201 rfl rfl, tyX4_ok, nmX4, rfl, by decide +kernel⟩
theorem fl_Re_Re_order : FL "ParallelRewriting$Recurrence" 40 6 6 := ⟨RX4, TX4, 9, rfl, by decide, uw_Re, lw_k1 202 rfl rfl⟩
theorem px_Re_Re_order : ∃ (C : String) (T : u_T) (N : Nat) (ty0 : Nat → FieldType), vwCl[6]? = some (C, T, N) ∧ 6 < N ∧ (∀ w ∈ u_ws C T N, w ∈ lw_good) ∧ Cond.fieldLink "ParallelRewriting$Recurrence" 40 (T 6).1 (T 6).2.1 (T 6).2.2.1 ∈ lw_good ∧ (∀ k, k < N → parseFieldDescriptor (T k).2.2.1 = some (ty0 k)) ∧ (∀ a, a < N → ∀ b, b < N → a ≠ b → (T a).2.1 ≠ (T b).2.1) ∧ (T 6).2.2.2 = false ∧ parseFieldDescriptor (T 6).2.2.1 = some .int := ⟨RX4, TX4, 9, tyX4, rfl, by decide, uw_Re, lw_k1 202 rfl rfl, tyX4_ok, nmX4, rfl, by decide +kernel⟩
theorem fl_Pr_Re_order : FL "ParallelRewriting" 237 6 6 := ⟨RX4, TX4, 9, rfl, by decide, uw_Re, lw_k1 203 rfl rfl⟩
theorem px_Pr_Re_order : ∃ (C : String) (T : u_T) (N : Nat) (ty0 : Nat → FieldType), vwCl[6]? = some (C, T, N) ∧ 6 < N ∧ (∀ w ∈ u_ws C T N, w ∈ lw_good) ∧ Cond.fieldLink "ParallelRewriting" 237 (T 6).1 (T 6).2.1 (T 6).2.2.1 ∈ lw_good ∧ (∀ k, k < N → parseFieldDescriptor (T k).2.2.1 = some (ty0 k)) ∧ (∀ a, a < N → ∀ b, b < N → a ≠ b → (T a).2.1 ≠ (T b).2.1) ∧ (T 6).2.2.2 = false ∧ parseFieldDescriptor (T 6).2.2.1 = some .int := ⟨RX4, TX4, 9, tyX4, rfl, by decide, uw_Re, lw_k1 203 rfl rfl, tyX4_ok, nmX4, rfl, by decide +kernel⟩
theorem fl_Re_Re_shift : FL "ParallelRewriting$Recurrence" 44 6 7 := ⟨RX4, TX4, 9, rfl, by decide, uw_Re, lw_k1 204 rfl rfl⟩
theorem px_Re_Re_shift : ∃ (C : String) (T : u_T) (N : Nat) (ty0 : Nat → FieldType), vwCl[6]? = some (C, T, N) ∧ 7 < N ∧ (∀ w ∈ u_ws C T N, w ∈ lw_good) ∧ Cond.fieldLink "ParallelRewriting$Recurrence" 44 (T 7).1 (T 7).2.1 (T 7).2.2.1 ∈ lw_good ∧ (∀ k, k < N → parseFieldDescriptor (T k).2.2.1 = some (ty0 k)) ∧ (∀ a, a < N → ∀ b, b < N → a ≠ b → (T a).2.1 ≠ (T b).2.1) ∧ (T 7).2.2.2 = false ∧ parseFieldDescriptor (T 7).2.2.1 = some .int := ⟨RX4, TX4, 9, tyX4, rfl, by decide, uw_Re, lw_k1 204 rfl rfl, tyX4_ok, nmX4, rfl, by decide +kernel⟩
theorem fl_Re_Re_earlierMiss : FL "ParallelRewriting$Recurrence" 47 6 8 := ⟨RX4, TX4, 9, rfl, by decide, uw_Re, lw_k1 205 rfl rfl⟩
theorem px_Re_Re_earlierMiss : ∃ (C : String) (T : u_T) (N : Nat) (ty0 : Nat → FieldType), vwCl[6]? = some (C, T, N) ∧ 8 < N ∧ (∀ w ∈ u_ws C T N, w ∈ lw_good) ∧ Cond.fieldLink "ParallelRewriting$Recurrence" 47 (T 8).1 (T 8).2.1 (T 8).2.2.1 ∈ lw_good ∧ (∀ k, k < N → parseFieldDescriptor (T k).2.2.1 = some (ty0 k)) ∧ (∀ a, a < N → ∀ b, b < N → a ≠ b → (T a).2.1 ≠ (T b).2.1) ∧ (T 8).2.2.2 = false ∧ parseFieldDescriptor (T 8).2.2.1 = some .int := ⟨RX4, TX4, 9, tyX4, rfl, by decide, uw_Re, lw_k1 205 rfl rfl, tyX4_ok, nmX4, rfl, by decide +kernel⟩
theorem fl_Ad_Ad_word : FL "ParallelRewriting$Adults" 12 2 0 := ⟨RX0, TX0, 2, rfl, by decide, uw_Ad, lw_k1 233 rfl rfl⟩
theorem pf_Ad_Ad_word : PL "ParallelRewriting$Adults" 12 2 0 (.object "ParallelRewriting$Word") true := ⟨RX0, TX0, 2, tyX0, rfl, by decide, uw_Ad, lw_k1 233 rfl rfl, tyX0_ok, nmX0, rfl, by decide +kernel, rfl⟩
theorem fl_Ad_Ad_image : FL "ParallelRewriting$Adults" 18 2 1 := ⟨RX0, TX0, 2, rfl, by decide, uw_Ad, lw_k1 234 rfl rfl⟩
theorem pf_Ad_Ad_image : PL "ParallelRewriting$Adults" 18 2 1 (.object "ParallelRewriting$Word") true := ⟨RX0, TX0, 2, tyX0, rfl, by decide, uw_Ad, lw_k1 234 rfl rfl, tyX0_ok, nmX0, rfl, by decide +kernel, rfl⟩
theorem fl_Wy_Wy_ways : FL "ParallelRewriting$WayCounter" 9 11 0 := ⟨RX9, TX9, 2, rfl, by decide, uw_Wy, lw_k2 6 rfl rfl⟩
theorem px_Wy_Wy_ways : ∃ (C : String) (T : u_T) (N : Nat) (ty0 : Nat → FieldType), vwCl[11]? = some (C, T, N) ∧ 0 < N ∧ (∀ w ∈ u_ws C T N, w ∈ lw_good) ∧ Cond.fieldLink "ParallelRewriting$WayCounter" 9 (T 0).1 (T 0).2.1 (T 0).2.2.1 ∈ lw_good ∧ (∀ k, k < N → parseFieldDescriptor (T k).2.2.1 = some (ty0 k)) ∧ (∀ a, a < N → ∀ b, b < N → a ≠ b → (T a).2.1 ≠ (T b).2.1) ∧ (T 0).2.2.2 = false ∧ parseFieldDescriptor (T 0).2.2.1 = some (.array .long) := ⟨RX9, TX9, 2, tyX9, rfl, by decide, uw_Wy, lw_k2 6 rfl rfl, tyX9_ok, nmX9, rfl, by decide +kernel⟩
theorem fl_Wy_Wy_next : FL "ParallelRewriting$WayCounter" 15 11 1 := ⟨RX9, TX9, 2, rfl, by decide, uw_Wy, lw_k2 7 rfl rfl⟩
theorem px_Wy_Wy_next : ∃ (C : String) (T : u_T) (N : Nat) (ty0 : Nat → FieldType), vwCl[11]? = some (C, T, N) ∧ 1 < N ∧ (∀ w ∈ u_ws C T N, w ∈ lw_good) ∧ Cond.fieldLink "ParallelRewriting$WayCounter" 15 (T 1).1 (T 1).2.1 (T 1).2.2.1 ∈ lw_good ∧ (∀ k, k < N → parseFieldDescriptor (T k).2.2.1 = some (ty0 k)) ∧ (∀ a, a < N → ∀ b, b < N → a ≠ b → (T a).2.1 ≠ (T b).2.1) ∧ (T 1).2.2.2 = false ∧ parseFieldDescriptor (T 1).2.2.1 = some (.array .long) := ⟨RX9, TX9, 2, tyX9, rfl, by decide, uw_Wy, lw_k2 7 rfl rfl, tyX9_ok, nmX9, rfl, by decide +kernel⟩
theorem fl_Sq_Sq_trail : FL "ParallelRewriting$SequenceSearch" 11 7 0 := ⟨RX5, TX5, 3, rfl, by decide, uw_Sq, lw_k2 21 rfl rfl⟩
theorem pf_Sq_Sq_trail : PL "ParallelRewriting$SequenceSearch" 11 7 0 (.array (.object "ParallelRewriting$Word")) true := ⟨RX5, TX5, 3, tyX5, rfl, by decide, uw_Sq, lw_k2 21 rfl rfl, tyX5_ok, nmX5, rfl, by decide +kernel, rfl⟩
theorem fl_Sq_Sq_found : FL "ParallelRewriting$SequenceSearch" 18 7 1 := ⟨RX5, TX5, 3, rfl, by decide, uw_Sq, lw_k2 22 rfl rfl⟩
theorem px_Sq_Sq_found : ∃ (C : String) (T : u_T) (N : Nat) (ty0 : Nat → FieldType), vwCl[7]? = some (C, T, N) ∧ 1 < N ∧ (∀ w ∈ u_ws C T N, w ∈ lw_good) ∧ Cond.fieldLink "ParallelRewriting$SequenceSearch" 18 (T 1).1 (T 1).2.1 (T 1).2.2.1 ∈ lw_good ∧ (∀ k, k < N → parseFieldDescriptor (T k).2.2.1 = some (ty0 k)) ∧ (∀ a, a < N → ∀ b, b < N → a ≠ b → (T a).2.1 ≠ (T b).2.1) ∧ (T 1).2.2.2 = false ∧ parseFieldDescriptor (T 1).2.2.1 = some .int := ⟨RX5, TX5, 3, tyX5, rfl, by decide, uw_Sq, lw_k2 22 rfl rfl, tyX5_ok, nmX5, rfl, by decide +kernel⟩
theorem fl_Pr_Sq_found : FL "ParallelRewriting" 280 7 1 := ⟨RX5, TX5, 3, rfl, by decide, uw_Sq, lw_k2 23 rfl rfl⟩
theorem px_Pr_Sq_found : ∃ (C : String) (T : u_T) (N : Nat) (ty0 : Nat → FieldType), vwCl[7]? = some (C, T, N) ∧ 1 < N ∧ (∀ w ∈ u_ws C T N, w ∈ lw_good) ∧ Cond.fieldLink "ParallelRewriting" 280 (T 1).1 (T 1).2.1 (T 1).2.2.1 ∈ lw_good ∧ (∀ k, k < N → parseFieldDescriptor (T k).2.2.1 = some (ty0 k)) ∧ (∀ a, a < N → ∀ b, b < N → a ≠ b → (T a).2.1 ≠ (T b).2.1) ∧ (T 1).2.2.2 = false ∧ parseFieldDescriptor (T 1).2.2.1 = some .int := ⟨RX5, TX5, 3, tyX5, rfl, by decide, uw_Sq, lw_k2 23 rfl rfl, tyX5_ok, nmX5, rfl, by decide +kernel⟩
theorem fl_Sq_Sq_first : FL "ParallelRewriting$SequenceSearch" 22 7 2 := ⟨RX5, TX5, 3, rfl, by decide, uw_Sq, lw_k2 24 rfl rfl⟩
theorem px_Sq_Sq_first : ∃ (C : String) (T : u_T) (N : Nat) (ty0 : Nat → FieldType), vwCl[7]? = some (C, T, N) ∧ 2 < N ∧ (∀ w ∈ u_ws C T N, w ∈ lw_good) ∧ Cond.fieldLink "ParallelRewriting$SequenceSearch" 22 (T 2).1 (T 2).2.1 (T 2).2.2.1 ∈ lw_good ∧ (∀ k, k < N → parseFieldDescriptor (T k).2.2.1 = some (ty0 k)) ∧ (∀ a, a < N → ∀ b, b < N → a ≠ b → (T a).2.1 ≠ (T b).2.1) ∧ (T 2).2.2.2 = false ∧ parseFieldDescriptor (T 2).2.2.1 = some .int := ⟨RX5, TX5, 3, tyX5, rfl, by decide, uw_Sq, lw_k2 24 rfl rfl, tyX5_ok, nmX5, rfl, by decide +kernel⟩
theorem fl_Pr_Sq_first : FL "ParallelRewriting" 283 7 2 := ⟨RX5, TX5, 3, rfl, by decide, uw_Sq, lw_k2 25 rfl rfl⟩
theorem px_Pr_Sq_first : ∃ (C : String) (T : u_T) (N : Nat) (ty0 : Nat → FieldType), vwCl[7]? = some (C, T, N) ∧ 2 < N ∧ (∀ w ∈ u_ws C T N, w ∈ lw_good) ∧ Cond.fieldLink "ParallelRewriting" 283 (T 2).1 (T 2).2.1 (T 2).2.2.1 ∈ lw_good ∧ (∀ k, k < N → parseFieldDescriptor (T k).2.2.1 = some (ty0 k)) ∧ (∀ a, a < N → ∀ b, b < N → a ≠ b → (T a).2.1 ≠ (T b).2.1) ∧ (T 2).2.2.2 = false ∧ parseFieldDescriptor (T 2).2.2.1 = some .int := ⟨RX5, TX5, 3, tyX5, rfl, by decide, uw_Sq, lw_k2 25 rfl rfl, tyX5_ok, nmX5, rfl, by decide +kernel⟩
theorem fl_Fi_Fi_xs : FL "ParallelRewriting$Figure" 9 3 0 := ⟨RX1, TX1, 14, rfl, by decide, uw_Fi, lw_k2 39 rfl rfl⟩
theorem pf_Fi_Fi_xs : PL "ParallelRewriting$Figure" 9 3 0 (.array .double) true := ⟨RX1, TX1, 14, tyX1, rfl, by decide, uw_Fi, lw_k2 39 rfl rfl, tyX1_ok, nmX1, rfl, by decide +kernel, rfl⟩
theorem fl_Pr_Fi_xs : FL "ParallelRewriting" 309 3 0 := ⟨RX1, TX1, 14, rfl, by decide, uw_Fi, lw_k2 40 rfl rfl⟩
theorem fl_Fi_Fi_ys : FL "ParallelRewriting$Figure" 15 3 1 := ⟨RX1, TX1, 14, rfl, by decide, uw_Fi, lw_k2 41 rfl rfl⟩
theorem pf_Fi_Fi_ys : PL "ParallelRewriting$Figure" 15 3 1 (.array .double) true := ⟨RX1, TX1, 14, tyX1, rfl, by decide, uw_Fi, lw_k2 41 rfl rfl, tyX1_ok, nmX1, rfl, by decide +kernel, rfl⟩
theorem fl_Pr_Fi_ys : FL "ParallelRewriting" 313 3 1 := ⟨RX1, TX1, 14, rfl, by decide, uw_Fi, lw_k2 42 rfl rfl⟩
theorem fl_Fi_Fi_points : FL "ParallelRewriting$Figure" 47 3 2 := ⟨RX1, TX1, 14, rfl, by decide, uw_Fi, lw_k2 43 rfl rfl⟩
theorem px_Fi_Fi_points : ∃ (C : String) (T : u_T) (N : Nat) (ty0 : Nat → FieldType), vwCl[3]? = some (C, T, N) ∧ 2 < N ∧ (∀ w ∈ u_ws C T N, w ∈ lw_good) ∧ Cond.fieldLink "ParallelRewriting$Figure" 47 (T 2).1 (T 2).2.1 (T 2).2.2.1 ∈ lw_good ∧ (∀ k, k < N → parseFieldDescriptor (T k).2.2.1 = some (ty0 k)) ∧ (∀ a, a < N → ∀ b, b < N → a ≠ b → (T a).2.1 ≠ (T b).2.1) ∧ (T 2).2.2.2 = false ∧ parseFieldDescriptor (T 2).2.2.1 = some .int := ⟨RX1, TX1, 14, tyX1, rfl, by decide, uw_Fi, lw_k2 43 rfl rfl, tyX1_ok, nmX1, rfl, by decide +kernel⟩
theorem fl_Pr_Fi_points : FL "ParallelRewriting" 328 3 2 := ⟨RX1, TX1, 14, rfl, by decide, uw_Fi, lw_k2 44 rfl rfl⟩
theorem px_Pr_Fi_points : ∃ (C : String) (T : u_T) (N : Nat) (ty0 : Nat → FieldType), vwCl[3]? = some (C, T, N) ∧ 2 < N ∧ (∀ w ∈ u_ws C T N, w ∈ lw_good) ∧ Cond.fieldLink "ParallelRewriting" 328 (T 2).1 (T 2).2.1 (T 2).2.2.1 ∈ lw_good ∧ (∀ k, k < N → parseFieldDescriptor (T k).2.2.1 = some (ty0 k)) ∧ (∀ a, a < N → ∀ b, b < N → a ≠ b → (T a).2.1 ≠ (T b).2.1) ∧ (T 2).2.2.2 = false ∧ parseFieldDescriptor (T 2).2.2.1 = some .int := ⟨RX1, TX1, 14, tyX1, rfl, by decide, uw_Fi, lw_k2 44 rfl rfl, tyX1_ok, nmX1, rfl, by decide +kernel⟩
theorem fl_Fi_Fi_ends : FL "ParallelRewriting$Figure" 18 3 3 := ⟨RX1, TX1, 14, rfl, by decide, uw_Fi, lw_k2 45 rfl rfl⟩
theorem pf_Fi_Fi_ends : PL "ParallelRewriting$Figure" 18 3 3 (.array .double) true := ⟨RX1, TX1, 14, tyX1, rfl, by decide, uw_Fi, lw_k2 45 rfl rfl, tyX1_ok, nmX1, rfl, by decide +kernel, rfl⟩
theorem fl_Fi_Fi_segments : FL "ParallelRewriting$Figure" 50 3 4 := ⟨RX1, TX1, 14, rfl, by decide, uw_Fi, lw_k2 46 rfl rfl⟩
theorem px_Fi_Fi_segments : ∃ (C : String) (T : u_T) (N : Nat) (ty0 : Nat → FieldType), vwCl[3]? = some (C, T, N) ∧ 4 < N ∧ (∀ w ∈ u_ws C T N, w ∈ lw_good) ∧ Cond.fieldLink "ParallelRewriting$Figure" 50 (T 4).1 (T 4).2.1 (T 4).2.2.1 ∈ lw_good ∧ (∀ k, k < N → parseFieldDescriptor (T k).2.2.1 = some (ty0 k)) ∧ (∀ a, a < N → ∀ b, b < N → a ≠ b → (T a).2.1 ≠ (T b).2.1) ∧ (T 4).2.2.2 = false ∧ parseFieldDescriptor (T 4).2.2.1 = some .int := ⟨RX1, TX1, 14, tyX1, rfl, by decide, uw_Fi, lw_k2 46 rfl rfl, tyX1_ok, nmX1, rfl, by decide +kernel⟩
theorem fl_Pr_Fi_segments : FL "ParallelRewriting" 300 3 4 := ⟨RX1, TX1, 14, rfl, by decide, uw_Fi, lw_k2 47 rfl rfl⟩
theorem px_Pr_Fi_segments : ∃ (C : String) (T : u_T) (N : Nat) (ty0 : Nat → FieldType), vwCl[3]? = some (C, T, N) ∧ 4 < N ∧ (∀ w ∈ u_ws C T N, w ∈ lw_good) ∧ Cond.fieldLink "ParallelRewriting" 300 (T 4).1 (T 4).2.1 (T 4).2.2.1 ∈ lw_good ∧ (∀ k, k < N → parseFieldDescriptor (T k).2.2.1 = some (ty0 k)) ∧ (∀ a, a < N → ∀ b, b < N → a ≠ b → (T a).2.1 ≠ (T b).2.1) ∧ (T 4).2.2.2 = false ∧ parseFieldDescriptor (T 4).2.2.1 = some .int := ⟨RX1, TX1, 14, tyX1, rfl, by decide, uw_Fi, lw_k2 47 rfl rfl, tyX1_ok, nmX1, rfl, by decide +kernel⟩
theorem fl_Fi_Fi_ink : FL "ParallelRewriting$Figure" 53 3 5 := ⟨RX1, TX1, 14, rfl, by decide, uw_Fi, lw_k2 48 rfl rfl⟩
theorem px_Fi_Fi_ink : ∃ (C : String) (T : u_T) (N : Nat) (ty0 : Nat → FieldType), vwCl[3]? = some (C, T, N) ∧ 5 < N ∧ (∀ w ∈ u_ws C T N, w ∈ lw_good) ∧ Cond.fieldLink "ParallelRewriting$Figure" 53 (T 5).1 (T 5).2.1 (T 5).2.2.1 ∈ lw_good ∧ (∀ k, k < N → parseFieldDescriptor (T k).2.2.1 = some (ty0 k)) ∧ (∀ a, a < N → ∀ b, b < N → a ≠ b → (T a).2.1 ≠ (T b).2.1) ∧ (T 5).2.2.2 = false ∧ parseFieldDescriptor (T 5).2.2.1 = some .double := ⟨RX1, TX1, 14, tyX1, rfl, by decide, uw_Fi, lw_k2 48 rfl rfl, tyX1_ok, nmX1, rfl, by decide +kernel⟩
theorem fl_Pr_Fi_ink : FL "ParallelRewriting" 303 3 5 := ⟨RX1, TX1, 14, rfl, by decide, uw_Fi, lw_k2 49 rfl rfl⟩
theorem px_Pr_Fi_ink : ∃ (C : String) (T : u_T) (N : Nat) (ty0 : Nat → FieldType), vwCl[3]? = some (C, T, N) ∧ 5 < N ∧ (∀ w ∈ u_ws C T N, w ∈ lw_good) ∧ Cond.fieldLink "ParallelRewriting" 303 (T 5).1 (T 5).2.1 (T 5).2.2.1 ∈ lw_good ∧ (∀ k, k < N → parseFieldDescriptor (T k).2.2.1 = some (ty0 k)) ∧ (∀ a, a < N → ∀ b, b < N → a ≠ b → (T a).2.1 ≠ (T b).2.1) ∧ (T 5).2.2.2 = false ∧ parseFieldDescriptor (T 5).2.2.1 = some .double := ⟨RX1, TX1, 14, tyX1, rfl, by decide, uw_Fi, lw_k2 49 rfl rfl, tyX1_ok, nmX1, rfl, by decide +kernel⟩
theorem fl_Fi_Fi_heldNumbers : FL "ParallelRewriting$Figure" 21 3 6 := ⟨RX1, TX1, 14, rfl, by decide, uw_Fi, lw_k2 50 rfl rfl⟩
theorem pf_Fi_Fi_heldNumbers : PL "ParallelRewriting$Figure" 21 3 6 (.array .double) true := ⟨RX1, TX1, 14, tyX1, rfl, by decide, uw_Fi, lw_k2 50 rfl rfl, tyX1_ok, nmX1, rfl, by decide +kernel, rfl⟩
theorem fl_Fi_Fi_heldHeadings : FL "ParallelRewriting$Figure" 24 3 7 := ⟨RX1, TX1, 14, rfl, by decide, uw_Fi, lw_k2 51 rfl rfl⟩
theorem pf_Fi_Fi_heldHeadings : PL "ParallelRewriting$Figure" 24 3 7 (.array .int) true := ⟨RX1, TX1, 14, tyX1, rfl, by decide, uw_Fi, lw_k2 51 rfl rfl, tyX1_ok, nmX1, rfl, by decide +kernel, rfl⟩
theorem fl_Fi_Fi_depth : FL "ParallelRewriting$Figure" 57 3 8 := ⟨RX1, TX1, 14, rfl, by decide, uw_Fi, lw_k2 52 rfl rfl⟩
theorem px_Fi_Fi_depth : ∃ (C : String) (T : u_T) (N : Nat) (ty0 : Nat → FieldType), vwCl[3]? = some (C, T, N) ∧ 8 < N ∧ (∀ w ∈ u_ws C T N, w ∈ lw_good) ∧ Cond.fieldLink "ParallelRewriting$Figure" 57 (T 8).1 (T 8).2.1 (T 8).2.2.1 ∈ lw_good ∧ (∀ k, k < N → parseFieldDescriptor (T k).2.2.1 = some (ty0 k)) ∧ (∀ a, a < N → ∀ b, b < N → a ≠ b → (T a).2.1 ≠ (T b).2.1) ∧ (T 8).2.2.2 = false ∧ parseFieldDescriptor (T 8).2.2.1 = some .int := ⟨RX1, TX1, 14, tyX1, rfl, by decide, uw_Fi, lw_k2 52 rfl rfl, tyX1_ok, nmX1, rfl, by decide +kernel⟩
theorem fl_Fi_Fi_deepest : FL "ParallelRewriting$Figure" 60 3 9 := ⟨RX1, TX1, 14, rfl, by decide, uw_Fi, lw_k2 53 rfl rfl⟩
theorem px_Fi_Fi_deepest : ∃ (C : String) (T : u_T) (N : Nat) (ty0 : Nat → FieldType), vwCl[3]? = some (C, T, N) ∧ 9 < N ∧ (∀ w ∈ u_ws C T N, w ∈ lw_good) ∧ Cond.fieldLink "ParallelRewriting$Figure" 60 (T 9).1 (T 9).2.1 (T 9).2.2.1 ∈ lw_good ∧ (∀ k, k < N → parseFieldDescriptor (T k).2.2.1 = some (ty0 k)) ∧ (∀ a, a < N → ∀ b, b < N → a ≠ b → (T a).2.1 ≠ (T b).2.1) ∧ (T 9).2.2.2 = false ∧ parseFieldDescriptor (T 9).2.2.1 = some .int := ⟨RX1, TX1, 14, tyX1, rfl, by decide, uw_Fi, lw_k2 53 rfl rfl, tyX1_ok, nmX1, rfl, by decide +kernel⟩
theorem fl_Pr_Fi_deepest : FL "ParallelRewriting" 323 3 9 := ⟨RX1, TX1, 14, rfl, by decide, uw_Fi, lw_k2 54 rfl rfl⟩
theorem px_Pr_Fi_deepest : ∃ (C : String) (T : u_T) (N : Nat) (ty0 : Nat → FieldType), vwCl[3]? = some (C, T, N) ∧ 9 < N ∧ (∀ w ∈ u_ws C T N, w ∈ lw_good) ∧ Cond.fieldLink "ParallelRewriting" 323 (T 9).1 (T 9).2.1 (T 9).2.2.1 ∈ lw_good ∧ (∀ k, k < N → parseFieldDescriptor (T k).2.2.1 = some (ty0 k)) ∧ (∀ a, a < N → ∀ b, b < N → a ≠ b → (T a).2.1 ≠ (T b).2.1) ∧ (T 9).2.2.2 = false ∧ parseFieldDescriptor (T 9).2.2.1 = some .int := ⟨RX1, TX1, 14, tyX1, rfl, by decide, uw_Fi, lw_k2 54 rfl rfl, tyX1_ok, nmX1, rfl, by decide +kernel⟩
theorem fl_Fi_Fi_x : FL "ParallelRewriting$Figure" 63 3 10 := ⟨RX1, TX1, 14, rfl, by decide, uw_Fi, lw_k2 55 rfl rfl⟩
theorem px_Fi_Fi_x : ∃ (C : String) (T : u_T) (N : Nat) (ty0 : Nat → FieldType), vwCl[3]? = some (C, T, N) ∧ 10 < N ∧ (∀ w ∈ u_ws C T N, w ∈ lw_good) ∧ Cond.fieldLink "ParallelRewriting$Figure" 63 (T 10).1 (T 10).2.1 (T 10).2.2.1 ∈ lw_good ∧ (∀ k, k < N → parseFieldDescriptor (T k).2.2.1 = some (ty0 k)) ∧ (∀ a, a < N → ∀ b, b < N → a ≠ b → (T a).2.1 ≠ (T b).2.1) ∧ (T 10).2.2.2 = false ∧ parseFieldDescriptor (T 10).2.2.1 = some .double := ⟨RX1, TX1, 14, tyX1, rfl, by decide, uw_Fi, lw_k2 55 rfl rfl, tyX1_ok, nmX1, rfl, by decide +kernel⟩
theorem fl_Fi_Fi_y : FL "ParallelRewriting$Figure" 66 3 11 := ⟨RX1, TX1, 14, rfl, by decide, uw_Fi, lw_k2 56 rfl rfl⟩
theorem px_Fi_Fi_y : ∃ (C : String) (T : u_T) (N : Nat) (ty0 : Nat → FieldType), vwCl[3]? = some (C, T, N) ∧ 11 < N ∧ (∀ w ∈ u_ws C T N, w ∈ lw_good) ∧ Cond.fieldLink "ParallelRewriting$Figure" 66 (T 11).1 (T 11).2.1 (T 11).2.2.1 ∈ lw_good ∧ (∀ k, k < N → parseFieldDescriptor (T k).2.2.1 = some (ty0 k)) ∧ (∀ a, a < N → ∀ b, b < N → a ≠ b → (T a).2.1 ≠ (T b).2.1) ∧ (T 11).2.2.2 = false ∧ parseFieldDescriptor (T 11).2.2.1 = some .double := ⟨RX1, TX1, 14, tyX1, rfl, by decide, uw_Fi, lw_k2 56 rfl rfl, tyX1_ok, nmX1, rfl, by decide +kernel⟩
theorem fl_Fi_Fi_stepLength : FL "ParallelRewriting$Figure" 69 3 12 := ⟨RX1, TX1, 14, rfl, by decide, uw_Fi, lw_k2 57 rfl rfl⟩
theorem px_Fi_Fi_stepLength : ∃ (C : String) (T : u_T) (N : Nat) (ty0 : Nat → FieldType), vwCl[3]? = some (C, T, N) ∧ 12 < N ∧ (∀ w ∈ u_ws C T N, w ∈ lw_good) ∧ Cond.fieldLink "ParallelRewriting$Figure" 69 (T 12).1 (T 12).2.1 (T 12).2.2.1 ∈ lw_good ∧ (∀ k, k < N → parseFieldDescriptor (T k).2.2.1 = some (ty0 k)) ∧ (∀ a, a < N → ∀ b, b < N → a ≠ b → (T a).2.1 ≠ (T b).2.1) ∧ (T 12).2.2.2 = false ∧ parseFieldDescriptor (T 12).2.2.1 = some .double := ⟨RX1, TX1, 14, tyX1, rfl, by decide, uw_Fi, lw_k2 57 rfl rfl, tyX1_ok, nmX1, rfl, by decide +kernel⟩
theorem fl_Fi_Fi_heading : FL "ParallelRewriting$Figure" 72 3 13 := ⟨RX1, TX1, 14, rfl, by decide, uw_Fi, lw_k2 58 rfl rfl⟩
theorem px_Fi_Fi_heading : ∃ (C : String) (T : u_T) (N : Nat) (ty0 : Nat → FieldType), vwCl[3]? = some (C, T, N) ∧ 13 < N ∧ (∀ w ∈ u_ws C T N, w ∈ lw_good) ∧ Cond.fieldLink "ParallelRewriting$Figure" 72 (T 13).1 (T 13).2.1 (T 13).2.2.1 ∈ lw_good ∧ (∀ k, k < N → parseFieldDescriptor (T k).2.2.1 = some (ty0 k)) ∧ (∀ a, a < N → ∀ b, b < N → a ≠ b → (T a).2.1 ≠ (T b).2.1) ∧ (T 13).2.2.2 = false ∧ parseFieldDescriptor (T 13).2.2.1 = some .int := ⟨RX1, TX1, 14, tyX1, rfl, by decide, uw_Fi, lw_k2 58 rfl rfl, tyX1_ok, nmX1, rfl, by decide +kernel⟩
theorem fl_Pr_Pr_text : FL "ParallelRewriting" 12 13 0 := ⟨RX11, TX11, 14, rfl, by decide, uw_Pr, lw_k2 91 rfl rfl⟩
theorem pf_Pr_Pr_text : PL "ParallelRewriting" 12 13 0 (.object "ParallelRewriting$Text") true := ⟨RX11, TX11, 14, tyX11, rfl, by decide, uw_Pr, lw_k2 91 rfl rfl, tyX11_ok, nmX11, rfl, by decide +kernel, rfl⟩
theorem fl_Pr_Pr_live : FL "ParallelRewriting" 19 13 1 := ⟨RX11, TX11, 14, rfl, by decide, uw_Pr, lw_k2 92 rfl rfl⟩
theorem pf_Pr_Pr_live : PL "ParallelRewriting" 19 13 1 (.object "ParallelRewriting$State") true := ⟨RX11, TX11, 14, tyX11, rfl, by decide, uw_Pr, lw_k2 92 rfl rfl, tyX11_ok, nmX11, rfl, by decide +kernel, rfl⟩
theorem fl_Pr_Pr_saved : FL "ParallelRewriting" 23 13 2 := ⟨RX11, TX11, 14, rfl, by decide, uw_Pr, lw_k2 93 rfl rfl⟩
theorem pf_Pr_Pr_saved : PL "ParallelRewriting" 23 13 2 (.object "ParallelRewriting$State") true := ⟨RX11, TX11, 14, tyX11, rfl, by decide, uw_Pr, lw_k2 93 rfl rfl, tyX11_ok, nmX11, rfl, by decide +kernel, rfl⟩
theorem fl_Pr_Pr_history : FL "ParallelRewriting" 29 13 3 := ⟨RX11, TX11, 14, rfl, by decide, uw_Pr, lw_k2 94 rfl rfl⟩
theorem pf_Pr_Pr_history : PL "ParallelRewriting" 29 13 3 (.object "ParallelRewriting$History") true := ⟨RX11, TX11, 14, tyX11, rfl, by decide, uw_Pr, lw_k2 94 rfl rfl, tyX11_ok, nmX11, rfl, by decide +kernel, rfl⟩
theorem fl_Pr_Pr_result : FL "ParallelRewriting" 36 13 4 := ⟨RX11, TX11, 14, rfl, by decide, uw_Pr, lw_k2 95 rfl rfl⟩
theorem pf_Pr_Pr_result : PL "ParallelRewriting" 36 13 4 (.object "ParallelRewriting$Word") true := ⟨RX11, TX11, 14, tyX11, rfl, by decide, uw_Pr, lw_k2 95 rfl rfl, tyX11_ok, nmX11, rfl, by decide +kernel, rfl⟩
theorem fl_Pr_Pr_growth : FL "ParallelRewriting" 43 13 5 := ⟨RX11, TX11, 14, rfl, by decide, uw_Pr, lw_k2 96 rfl rfl⟩
theorem pf_Pr_Pr_growth : PL "ParallelRewriting" 43 13 5 (.object "ParallelRewriting$Growth") true := ⟨RX11, TX11, 14, tyX11, rfl, by decide, uw_Pr, lw_k2 96 rfl rfl, tyX11_ok, nmX11, rfl, by decide +kernel, rfl⟩
theorem fl_Pr_Pr_recurrence : FL "ParallelRewriting" 50 13 6 := ⟨RX11, TX11, 14, rfl, by decide, uw_Pr, lw_k2 97 rfl rfl⟩
theorem pf_Pr_Pr_recurrence : PL "ParallelRewriting" 50 13 6 (.object "ParallelRewriting$Recurrence") true := ⟨RX11, TX11, 14, tyX11, rfl, by decide, uw_Pr, lw_k2 97 rfl rfl, tyX11_ok, nmX11, rfl, by decide +kernel, rfl⟩
theorem fl_Pr_Pr_adults : FL "ParallelRewriting" 57 13 7 := ⟨RX11, TX11, 14, rfl, by decide, uw_Pr, lw_k2 98 rfl rfl⟩
theorem pf_Pr_Pr_adults : PL "ParallelRewriting" 57 13 7 (.object "ParallelRewriting$Adults") true := ⟨RX11, TX11, 14, tyX11, rfl, by decide, uw_Pr, lw_k2 98 rfl rfl, tyX11_ok, nmX11, rfl, by decide +kernel, rfl⟩
theorem fl_Pr_Pr_wayCounter : FL "ParallelRewriting" 64 13 8 := ⟨RX11, TX11, 14, rfl, by decide, uw_Pr, lw_k2 99 rfl rfl⟩
theorem pf_Pr_Pr_wayCounter : PL "ParallelRewriting" 64 13 8 (.object "ParallelRewriting$WayCounter") true := ⟨RX11, TX11, 14, tyX11, rfl, by decide, uw_Pr, lw_k2 99 rfl rfl, tyX11_ok, nmX11, rfl, by decide +kernel, rfl⟩
theorem fl_Pr_Pr_search : FL "ParallelRewriting" 71 13 9 := ⟨RX11, TX11, 14, rfl, by decide, uw_Pr, lw_k2 100 rfl rfl⟩
theorem pf_Pr_Pr_search : PL "ParallelRewriting" 71 13 9 (.object "ParallelRewriting$SequenceSearch") true := ⟨RX11, TX11, 14, tyX11, rfl, by decide, uw_Pr, lw_k2 100 rfl rfl, tyX11_ok, nmX11, rfl, by decide +kernel, rfl⟩
theorem fl_Pr_Pr_figure : FL "ParallelRewriting" 78 13 10 := ⟨RX11, TX11, 14, rfl, by decide, uw_Pr, lw_k2 101 rfl rfl⟩
theorem pf_Pr_Pr_figure : PL "ParallelRewriting" 78 13 10 (.object "ParallelRewriting$Figure") true := ⟨RX11, TX11, 14, tyX11, rfl, by decide, uw_Pr, lw_k2 101 rfl rfl, tyX11_ok, nmX11, rfl, by decide +kernel, rfl⟩
theorem fl_Pr_Pr_rows : FL "ParallelRewriting" 84 13 11 := ⟨RX11, TX11, 14, rfl, by decide, uw_Pr, lw_k2 102 rfl rfl⟩
theorem pf_Pr_Pr_rows : PL "ParallelRewriting" 84 13 11 (.array (.array .double)) true := ⟨RX11, TX11, 14, tyX11, rfl, by decide, uw_Pr, lw_k2 102 rfl rfl, tyX11_ok, nmX11, rfl, by decide +kernel, rfl⟩
theorem fl_Pr_Pr_rowSizes : FL "ParallelRewriting" 87 13 12 := ⟨RX11, TX11, 14, rfl, by decide, uw_Pr, lw_k2 103 rfl rfl⟩
theorem pf_Pr_Pr_rowSizes : PL "ParallelRewriting" 87 13 12 (.array .int) true := ⟨RX11, TX11, 14, tyX11, rfl, by decide, uw_Pr, lw_k2 103 rfl rfl, tyX11_ok, nmX11, rfl, by decide +kernel, rfl⟩
theorem fl_Pr_Pr_hasSaved : FL "ParallelRewriting" 354 13 13 := ⟨RX11, TX11, 14, rfl, by decide, uw_Pr, lw_k2 104 rfl rfl⟩
theorem px_Pr_Pr_hasSaved : ∃ (C : String) (T : u_T) (N : Nat) (ty0 : Nat → FieldType), vwCl[13]? = some (C, T, N) ∧ 13 < N ∧ (∀ w ∈ u_ws C T N, w ∈ lw_good) ∧ Cond.fieldLink "ParallelRewriting" 354 (T 13).1 (T 13).2.1 (T 13).2.2.1 ∈ lw_good ∧ (∀ k, k < N → parseFieldDescriptor (T k).2.2.1 = some (ty0 k)) ∧ (∀ a, a < N → ∀ b, b < N → a ≠ b → (T a).2.1 ≠ (T b).2.1) ∧ (T 13).2.2.2 = false ∧ parseFieldDescriptor (T 13).2.2.1 = some .boolean := ⟨RX11, TX11, 14, tyX11, rfl, by decide, uw_Pr, lw_k2 104 rfl rfl, tyX11_ok, nmX11, rfl, by decide +kernel⟩
theorem fl_Md_Md_thrown : FL "ParallelRewritingModel" 97 14 0 := ⟨RX12, TX12, 35, rfl, by decide, uw_Md, lw_k6 26 rfl rfl⟩
theorem px_Md_Md_thrown : ∃ (C : String) (T : u_T) (N : Nat) (ty0 : Nat → FieldType), vwCl[14]? = some (C, T, N) ∧ 0 < N ∧ (∀ w ∈ u_ws C T N, w ∈ lw_good) ∧ Cond.fieldLink "ParallelRewritingModel" 97 (T 0).1 (T 0).2.1 (T 0).2.2.1 ∈ lw_good ∧ (∀ k, k < N → parseFieldDescriptor (T k).2.2.1 = some (ty0 k)) ∧ (∀ a, a < N → ∀ b, b < N → a ≠ b → (T a).2.1 ≠ (T b).2.1) ∧ (T 0).2.2.2 = false ∧ parseFieldDescriptor (T 0).2.2.1 = some .int := ⟨RX12, TX12, 35, tyX12, rfl, by decide, uw_Md, lw_k6 26 rfl rfl, tyX12_ok, nmX12, rfl, by decide +kernel⟩
theorem fl_Md_Md_tables : FL "ParallelRewritingModel" 9 14 1 := ⟨RX12, TX12, 35, rfl, by decide, uw_Md, lw_k6 27 rfl rfl⟩
theorem pf_Md_Md_tables : PL "ParallelRewritingModel" 9 14 1 (.array .int) true := ⟨RX12, TX12, 35, tyX12, rfl, by decide, uw_Md, lw_k6 27 rfl rfl, tyX12_ok, nmX12, rfl, by decide +kernel, rfl⟩
theorem fl_Md_Md_word : FL "ParallelRewritingModel" 13 14 2 := ⟨RX12, TX12, 35, rfl, by decide, uw_Md, lw_k6 28 rfl rfl⟩
theorem pf_Md_Md_word : PL "ParallelRewritingModel" 13 14 2 (.array .int) true := ⟨RX12, TX12, 35, tyX12, rfl, by decide, uw_Md, lw_k6 28 rfl rfl, tyX12_ok, nmX12, rfl, by decide +kernel, rfl⟩
theorem fl_Md_Md_target : FL "ParallelRewritingModel" 16 14 3 := ⟨RX12, TX12, 35, rfl, by decide, uw_Md, lw_k6 29 rfl rfl⟩
theorem pf_Md_Md_target : PL "ParallelRewritingModel" 16 14 3 (.array .int) true := ⟨RX12, TX12, 35, tyX12, rfl, by decide, uw_Md, lw_k6 29 rfl rfl, tyX12_ok, nmX12, rfl, by decide +kernel, rfl⟩
theorem fl_Md_Md_commands : FL "ParallelRewritingModel" 19 14 4 := ⟨RX12, TX12, 35, rfl, by decide, uw_Md, lw_k6 30 rfl rfl⟩
theorem pf_Md_Md_commands : PL "ParallelRewritingModel" 19 14 4 (.array .int) true := ⟨RX12, TX12, 35, tyX12, rfl, by decide, uw_Md, lw_k6 30 rfl rfl, tyX12_ok, nmX12, rfl, by decide +kernel, rfl⟩
theorem fl_Md_Md_text : FL "ParallelRewritingModel" 22 14 5 := ⟨RX12, TX12, 35, rfl, by decide, uw_Md, lw_k6 31 rfl rfl⟩
theorem pf_Md_Md_text : PL "ParallelRewritingModel" 22 14 5 (.array .int) true := ⟨RX12, TX12, 35, tyX12, rfl, by decide, uw_Md, lw_k6 31 rfl rfl, tyX12_ok, nmX12, rfl, by decide +kernel, rfl⟩
theorem fl_Md_Md_length : FL "ParallelRewritingModel" 109 14 6 := ⟨RX12, TX12, 35, rfl, by decide, uw_Md, lw_k6 32 rfl rfl⟩
theorem px_Md_Md_length : ∃ (C : String) (T : u_T) (N : Nat) (ty0 : Nat → FieldType), vwCl[14]? = some (C, T, N) ∧ 6 < N ∧ (∀ w ∈ u_ws C T N, w ∈ lw_good) ∧ Cond.fieldLink "ParallelRewritingModel" 109 (T 6).1 (T 6).2.1 (T 6).2.2.1 ∈ lw_good ∧ (∀ k, k < N → parseFieldDescriptor (T k).2.2.1 = some (ty0 k)) ∧ (∀ a, a < N → ∀ b, b < N → a ≠ b → (T a).2.1 ≠ (T b).2.1) ∧ (T 6).2.2.2 = false ∧ parseFieldDescriptor (T 6).2.2.1 = some .int := ⟨RX12, TX12, 35, tyX12, rfl, by decide, uw_Md, lw_k6 32 rfl rfl, tyX12_ok, nmX12, rfl, by decide +kernel⟩
theorem fl_Md_Md_earlier : FL "ParallelRewritingModel" 25 14 7 := ⟨RX12, TX12, 35, rfl, by decide, uw_Md, lw_k6 33 rfl rfl⟩
theorem pf_Md_Md_earlier : PL "ParallelRewritingModel" 25 14 7 (.array .int) true := ⟨RX12, TX12, 35, tyX12, rfl, by decide, uw_Md, lw_k6 33 rfl rfl, tyX12_ok, nmX12, rfl, by decide +kernel, rfl⟩
theorem fl_Md_Md_steps : FL "ParallelRewritingModel" 158 14 8 := ⟨RX12, TX12, 35, rfl, by decide, uw_Md, lw_k6 34 rfl rfl⟩
theorem px_Md_Md_steps : ∃ (C : String) (T : u_T) (N : Nat) (ty0 : Nat → FieldType), vwCl[14]? = some (C, T, N) ∧ 8 < N ∧ (∀ w ∈ u_ws C T N, w ∈ lw_good) ∧ Cond.fieldLink "ParallelRewritingModel" 158 (T 8).1 (T 8).2.1 (T 8).2.2.1 ∈ lw_good ∧ (∀ k, k < N → parseFieldDescriptor (T k).2.2.1 = some (ty0 k)) ∧ (∀ a, a < N → ∀ b, b < N → a ≠ b → (T a).2.1 ≠ (T b).2.1) ∧ (T 8).2.2.2 = false ∧ parseFieldDescriptor (T 8).2.2.1 = some .int := ⟨RX12, TX12, 35, tyX12, rfl, by decide, uw_Md, lw_k6 34 rfl rfl, tyX12_ok, nmX12, rfl, by decide +kernel⟩
theorem fl_Md_Md_hasSaved : FL "ParallelRewritingModel" 312 14 9 := ⟨RX12, TX12, 35, rfl, by decide, uw_Md, lw_k6 35 rfl rfl⟩
theorem px_Md_Md_hasSaved : ∃ (C : String) (T : u_T) (N : Nat) (ty0 : Nat → FieldType), vwCl[14]? = some (C, T, N) ∧ 9 < N ∧ (∀ w ∈ u_ws C T N, w ∈ lw_good) ∧ Cond.fieldLink "ParallelRewritingModel" 312 (T 9).1 (T 9).2.1 (T 9).2.2.1 ∈ lw_good ∧ (∀ k, k < N → parseFieldDescriptor (T k).2.2.1 = some (ty0 k)) ∧ (∀ a, a < N → ∀ b, b < N → a ≠ b → (T a).2.1 ≠ (T b).2.1) ∧ (T 9).2.2.2 = false ∧ parseFieldDescriptor (T 9).2.2.1 = some .boolean := ⟨RX12, TX12, 35, tyX12, rfl, by decide, uw_Md, lw_k6 35 rfl rfl, tyX12_ok, nmX12, rfl, by decide +kernel⟩
theorem fl_Md_Md_savedTables : FL "ParallelRewritingModel" 28 14 10 := ⟨RX12, TX12, 35, rfl, by decide, uw_Md, lw_k6 36 rfl rfl⟩
theorem pf_Md_Md_savedTables : PL "ParallelRewritingModel" 28 14 10 (.array .int) true := ⟨RX12, TX12, 35, tyX12, rfl, by decide, uw_Md, lw_k6 36 rfl rfl, tyX12_ok, nmX12, rfl, by decide +kernel, rfl⟩
theorem fl_Md_Md_savedWord : FL "ParallelRewritingModel" 31 14 11 := ⟨RX12, TX12, 35, rfl, by decide, uw_Md, lw_k6 37 rfl rfl⟩
theorem pf_Md_Md_savedWord : PL "ParallelRewritingModel" 31 14 11 (.array .int) true := ⟨RX12, TX12, 35, tyX12, rfl, by decide, uw_Md, lw_k6 37 rfl rfl, tyX12_ok, nmX12, rfl, by decide +kernel, rfl⟩
theorem fl_Md_Md_savedTarget : FL "ParallelRewritingModel" 34 14 12 := ⟨RX12, TX12, 35, rfl, by decide, uw_Md, lw_k6 38 rfl rfl⟩
theorem pf_Md_Md_savedTarget : PL "ParallelRewritingModel" 34 14 12 (.array .int) true := ⟨RX12, TX12, 35, tyX12, rfl, by decide, uw_Md, lw_k6 38 rfl rfl, tyX12_ok, nmX12, rfl, by decide +kernel, rfl⟩
theorem fl_Md_Md_savedCommands : FL "ParallelRewritingModel" 37 14 13 := ⟨RX12, TX12, 35, rfl, by decide, uw_Md, lw_k6 39 rfl rfl⟩
theorem pf_Md_Md_savedCommands : PL "ParallelRewritingModel" 37 14 13 (.array .int) true := ⟨RX12, TX12, 35, tyX12, rfl, by decide, uw_Md, lw_k6 39 rfl rfl, tyX12_ok, nmX12, rfl, by decide +kernel, rfl⟩
theorem fl_Md_Md_drawn : FL "ParallelRewritingModel" 169 14 14 := ⟨RX12, TX12, 35, rfl, by decide, uw_Md, lw_k6 40 rfl rfl⟩
theorem px_Md_Md_drawn : ∃ (C : String) (T : u_T) (N : Nat) (ty0 : Nat → FieldType), vwCl[14]? = some (C, T, N) ∧ 14 < N ∧ (∀ w ∈ u_ws C T N, w ∈ lw_good) ∧ Cond.fieldLink "ParallelRewritingModel" 169 (T 14).1 (T 14).2.1 (T 14).2.2.1 ∈ lw_good ∧ (∀ k, k < N → parseFieldDescriptor (T k).2.2.1 = some (ty0 k)) ∧ (∀ a, a < N → ∀ b, b < N → a ≠ b → (T a).2.1 ≠ (T b).2.1) ∧ (T 14).2.2.2 = false ∧ parseFieldDescriptor (T 14).2.2.1 = some .int := ⟨RX12, TX12, 35, tyX12, rfl, by decide, uw_Md, lw_k6 40 rfl rfl, tyX12_ok, nmX12, rfl, by decide +kernel⟩
theorem fl_Md_Md_next : FL "ParallelRewritingModel" 40 14 15 := ⟨RX12, TX12, 35, rfl, by decide, uw_Md, lw_k6 41 rfl rfl⟩
theorem pf_Md_Md_next : PL "ParallelRewritingModel" 40 14 15 (.array .int) true := ⟨RX12, TX12, 35, tyX12, rfl, by decide, uw_Md, lw_k6 41 rfl rfl, tyX12_ok, nmX12, rfl, by decide +kernel, rfl⟩
theorem fl_Md_Md_counts : FL "ParallelRewritingModel" 43 14 16 := ⟨RX12, TX12, 35, rfl, by decide, uw_Md, lw_k6 42 rfl rfl⟩
theorem pf_Md_Md_counts : PL "ParallelRewritingModel" 43 14 16 (.array .long) true := ⟨RX12, TX12, 35, tyX12, rfl, by decide, uw_Md, lw_k6 42 rfl rfl, tyX12_ok, nmX12, rfl, by decide +kernel, rfl⟩
theorem fl_Md_Md_nextCounts : FL "ParallelRewritingModel" 47 14 17 := ⟨RX12, TX12, 35, rfl, by decide, uw_Md, lw_k6 43 rfl rfl⟩
theorem pf_Md_Md_nextCounts : PL "ParallelRewritingModel" 47 14 17 (.array .long) true := ⟨RX12, TX12, 35, tyX12, rfl, by decide, uw_Md, lw_k6 43 rfl rfl, tyX12_ok, nmX12, rfl, by decide +kernel, rfl⟩
theorem fl_Md_Md_lives : FL "ParallelRewritingModel" 50 14 18 := ⟨RX12, TX12, 35, rfl, by decide, uw_Md, lw_k6 44 rfl rfl⟩
theorem pf_Md_Md_lives : PL "ParallelRewritingModel" 50 14 18 (.array .boolean) true := ⟨RX12, TX12, 35, tyX12, rfl, by decide, uw_Md, lw_k6 44 rfl rfl, tyX12_ok, nmX12, rfl, by decide +kernel, rfl⟩
theorem fl_Md_Md_leads : FL "ParallelRewritingModel" 54 14 19 := ⟨RX12, TX12, 35, rfl, by decide, uw_Md, lw_k6 45 rfl rfl⟩
theorem pf_Md_Md_leads : PL "ParallelRewritingModel" 54 14 19 (.array .boolean) true := ⟨RX12, TX12, 35, tyX12, rfl, by decide, uw_Md, lw_k6 45 rfl rfl, tyX12_ok, nmX12, rfl, by decide +kernel, rfl⟩
theorem fl_Md_Md_depths : FL "ParallelRewritingModel" 57 14 20 := ⟨RX12, TX12, 35, rfl, by decide, uw_Md, lw_k6 46 rfl rfl⟩
theorem pf_Md_Md_depths : PL "ParallelRewritingModel" 57 14 20 (.array .int) true := ⟨RX12, TX12, 35, tyX12, rfl, by decide, uw_Md, lw_k6 46 rfl rfl, tyX12_ok, nmX12, rfl, by decide +kernel, rfl⟩
theorem fl_Md_Md_terms : FL "ParallelRewritingModel" 60 14 21 := ⟨RX12, TX12, 35, rfl, by decide, uw_Md, lw_k6 47 rfl rfl⟩
theorem pf_Md_Md_terms : PL "ParallelRewritingModel" 60 14 21 (.array .int) true := ⟨RX12, TX12, 35, tyX12, rfl, by decide, uw_Md, lw_k6 47 rfl rfl, tyX12_ok, nmX12, rfl, by decide +kernel, rfl⟩
theorem fl_Md_Md_equations : FL "ParallelRewritingModel" 63 14 22 := ⟨RX12, TX12, 35, rfl, by decide, uw_Md, lw_k6 48 rfl rfl⟩
theorem pf_Md_Md_equations : PL "ParallelRewritingModel" 63 14 22 (.array .int) true := ⟨RX12, TX12, 35, tyX12, rfl, by decide, uw_Md, lw_k6 48 rfl rfl, tyX12_ok, nmX12, rfl, by decide +kernel, rfl⟩
theorem fl_Md_Md_coefficients : FL "ParallelRewritingModel" 66 14 23 := ⟨RX12, TX12, 35, rfl, by decide, uw_Md, lw_k6 49 rfl rfl⟩
theorem pf_Md_Md_coefficients : PL "ParallelRewritingModel" 66 14 23 (.array .int) true := ⟨RX12, TX12, 35, tyX12, rfl, by decide, uw_Md, lw_k6 49 rfl rfl, tyX12_ok, nmX12, rfl, by decide +kernel, rfl⟩
theorem fl_Md_Md_trial : FL "ParallelRewritingModel" 69 14 24 := ⟨RX12, TX12, 35, rfl, by decide, uw_Md, lw_k6 50 rfl rfl⟩
theorem pf_Md_Md_trial : PL "ParallelRewritingModel" 69 14 24 (.array .int) true := ⟨RX12, TX12, 35, tyX12, rfl, by decide, uw_Md, lw_k6 50 rfl rfl, tyX12_ok, nmX12, rfl, by decide +kernel, rfl⟩
theorem fl_Md_Md_ways : FL "ParallelRewritingModel" 72 14 25 := ⟨RX12, TX12, 35, rfl, by decide, uw_Md, lw_k6 51 rfl rfl⟩
theorem pf_Md_Md_ways : PL "ParallelRewritingModel" 72 14 25 (.array .long) true := ⟨RX12, TX12, 35, tyX12, rfl, by decide, uw_Md, lw_k6 51 rfl rfl, tyX12_ok, nmX12, rfl, by decide +kernel, rfl⟩
theorem fl_Md_Md_xs : FL "ParallelRewritingModel" 75 14 26 := ⟨RX12, TX12, 35, rfl, by decide, uw_Md, lw_k6 52 rfl rfl⟩
theorem pf_Md_Md_xs : PL "ParallelRewritingModel" 75 14 26 (.array .double) true := ⟨RX12, TX12, 35, tyX12, rfl, by decide, uw_Md, lw_k6 52 rfl rfl, tyX12_ok, nmX12, rfl, by decide +kernel, rfl⟩
theorem fl_Md_Md_ys : FL "ParallelRewritingModel" 79 14 27 := ⟨RX12, TX12, 35, rfl, by decide, uw_Md, lw_k6 53 rfl rfl⟩
theorem pf_Md_Md_ys : PL "ParallelRewritingModel" 79 14 27 (.array .double) true := ⟨RX12, TX12, 35, tyX12, rfl, by decide, uw_Md, lw_k6 53 rfl rfl, tyX12_ok, nmX12, rfl, by decide +kernel, rfl⟩
theorem fl_Md_Md_remembered : FL "ParallelRewritingModel" 82 14 28 := ⟨RX12, TX12, 35, rfl, by decide, uw_Md, lw_k6 54 rfl rfl⟩
theorem pf_Md_Md_remembered : PL "ParallelRewritingModel" 82 14 28 (.array .double) true := ⟨RX12, TX12, 35, tyX12, rfl, by decide, uw_Md, lw_k6 54 rfl rfl, tyX12_ok, nmX12, rfl, by decide +kernel, rfl⟩
theorem fl_Md_Md_most : FL "ParallelRewritingModel" 290 14 29 := ⟨RX12, TX12, 35, rfl, by decide, uw_Md, lw_k6 55 rfl rfl⟩
theorem px_Md_Md_most : ∃ (C : String) (T : u_T) (N : Nat) (ty0 : Nat → FieldType), vwCl[14]? = some (C, T, N) ∧ 29 < N ∧ (∀ w ∈ u_ws C T N, w ∈ lw_good) ∧ Cond.fieldLink "ParallelRewritingModel" 290 (T 29).1 (T 29).2.1 (T 29).2.2.1 ∈ lw_good ∧ (∀ k, k < N → parseFieldDescriptor (T k).2.2.1 = some (ty0 k)) ∧ (∀ a, a < N → ∀ b, b < N → a ≠ b → (T a).2.1 ≠ (T b).2.1) ∧ (T 29).2.2.2 = false ∧ parseFieldDescriptor (T 29).2.2.1 = some .int := ⟨RX12, TX12, 35, tyX12, rfl, by decide, uw_Md, lw_k6 55 rfl rfl, tyX12_ok, nmX12, rfl, by decide +kernel⟩
theorem fl_Md_Md_segments : FL "ParallelRewritingModel" 85 14 30 := ⟨RX12, TX12, 35, rfl, by decide, uw_Md, lw_k6 56 rfl rfl⟩
theorem pf_Md_Md_segments : PL "ParallelRewritingModel" 85 14 30 (.array .double) true := ⟨RX12, TX12, 35, tyX12, rfl, by decide, uw_Md, lw_k6 56 rfl rfl, tyX12_ok, nmX12, rfl, by decide +kernel, rfl⟩
theorem fl_Md_Md_segmentCount : FL "ParallelRewritingModel" 283 14 31 := ⟨RX12, TX12, 35, rfl, by decide, uw_Md, lw_k6 57 rfl rfl⟩
theorem px_Md_Md_segmentCount : ∃ (C : String) (T : u_T) (N : Nat) (ty0 : Nat → FieldType), vwCl[14]? = some (C, T, N) ∧ 31 < N ∧ (∀ w ∈ u_ws C T N, w ∈ lw_good) ∧ Cond.fieldLink "ParallelRewritingModel" 283 (T 31).1 (T 31).2.1 (T 31).2.2.1 ∈ lw_good ∧ (∀ k, k < N → parseFieldDescriptor (T k).2.2.1 = some (ty0 k)) ∧ (∀ a, a < N → ∀ b, b < N → a ≠ b → (T a).2.1 ≠ (T b).2.1) ∧ (T 31).2.2.2 = false ∧ parseFieldDescriptor (T 31).2.2.1 = some .int := ⟨RX12, TX12, 35, tyX12, rfl, by decide, uw_Md, lw_k6 57 rfl rfl, tyX12_ok, nmX12, rfl, by decide +kernel⟩
theorem fl_Md_Md_sizes : FL "ParallelRewritingModel" 88 14 32 := ⟨RX12, TX12, 35, rfl, by decide, uw_Md, lw_k6 58 rfl rfl⟩
theorem pf_Md_Md_sizes : PL "ParallelRewritingModel" 88 14 32 (.array .int) true := ⟨RX12, TX12, 35, tyX12, rfl, by decide, uw_Md, lw_k6 58 rfl rfl, tyX12_ok, nmX12, rfl, by decide +kernel, rfl⟩
theorem fl_Md_Md_isSingle : FL "ParallelRewritingModel" 91 14 33 := ⟨RX12, TX12, 35, rfl, by decide, uw_Md, lw_k6 59 rfl rfl⟩
theorem pf_Md_Md_isSingle : PL "ParallelRewritingModel" 91 14 33 (.array .boolean) true := ⟨RX12, TX12, 35, tyX12, rfl, by decide, uw_Md, lw_k6 59 rfl rfl, tyX12_ok, nmX12, rfl, by decide +kernel, rfl⟩
theorem fl_Md_Md_elements : FL "ParallelRewritingModel" 94 14 34 := ⟨RX12, TX12, 35, rfl, by decide, uw_Md, lw_k6 60 rfl rfl⟩
theorem pf_Md_Md_elements : PL "ParallelRewritingModel" 94 14 34 (.array .double) true := ⟨RX12, TX12, 35, tyX12, rfl, by decide, uw_Md, lw_k6 60 rfl rfl, tyX12_ok, nmX12, rfl, by decide +kernel, rfl⟩

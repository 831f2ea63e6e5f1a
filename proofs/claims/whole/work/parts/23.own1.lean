/-! OnePortrait: faults, refusals, what is so -/
section OWN1
variable {Q : Nat → St} {Z : Mem}
theorem qn_1_0 {X : St} : qup Q 1 X 0 = Q 0 := qup_n (by decide)
theorem qn_0_1 {X : St} : qup Q 0 X 1 = Q 1 := qup_n (by decide)
theorem qn_1_2 {X : St} : qup Q 1 X 2 = Q 2 := qup_n (by decide)
theorem qn_2_1 {X : St} : qup Q 2 X 1 = Q 1 := qup_n (by decide)
theorem qn_0_2 {X : St} : qup Q 0 X 2 = Q 2 := qup_n (by decide)
theorem qn_2_0 {X : St} : qup Q 2 X 0 = Q 0 := qup_n (by decide)
theorem qn_1_1 {X : St} : qup Q 1 X 1 = X := qup_s
theorem qn_0_0 {X : St} : qup Q 0 X 0 = X := qup_s
theorem qn_2_2 {X : St} : qup Q 2 X 2 = X := qup_s
theorem lt0 : 0 < 11 := by decide
theorem lt1 : 1 < 11 := by decide
theorem lt2 : 2 < 11 := by decide
/-- a refusal's number, told as a place -/
def isNo (x : Int32) : Prop := x = -1 ∨ x = -2 ∨ x = -3 ∨ x = -4 ∨ x = -6
theorem isNo_ne {x : Int32} (h : isNo x) : ¬ x = 0 := by rcases h with rfl | rfl | rfl | rfl | rfl <;> decide
theorem isNo_a {x : Int32} (h : isNo x) : ¬ -x < 0 := by rcases h with rfl | rfl | rfl | rfl | rfl <;> decide
theorem isNo_b {x : Int32} (h : isNo x) : -x < 7 := by rcases h with rfl | rfl | rfl | rfl | rfl <;> decide
def rfz (c : Nat) (Z : Mem) (x : Int32) : Mem := wrm Z c (-x) (Z c (-x) + 1)
theorem O_refuse {x : Int32} (h : isNo x) : cal yO_refuse [.ref 88, .int x] (cm Q Z) = some (some (.int x), cm Q (rfz 95 Z x)) := by
  rw [cal_of (L := [some (.ref 88), some (.int x), none]) rfl rfl]
  simp only [sO_refuse_0, sO_refuse_1, sO_refuse_2, sO_refuse_3, sO_refuse_4, sO_refuse_7, sO_refuse_8, sO_refuse_9, sO_refuse_12, sO_refuse_13, sO_refuse_16, sO_refuse_17, sO_refuse_20, sO_refuse_21, sO_refuse_22, sO_refuse_23, sO_refuse_24, sO_refuse_25, sO_refuse_26, sO_refuse_27, rI_s, rJ_s, rA_s, rV_s, cw_0, cw_i, cw_j, cw_r, Nat.zero_le, Nat.le_refl, ↓reduceIte, not_true_eq_false, not_false_eq_true, and_true, true_and, and_self, and_false, false_and, true_or, or_true, false_or, or_false, b2_t, b2_f, b2_0, b2_r, i10, i01, bft, btf, z01, o01, cK_r1, nal_r1, cm_r1, wr_r1, cK_r2, nal_r2, cm_r2, wr_r2, cK_r3, nal_r3, cm_r3, wr_r3, cK_r4, nal_r4, cm_r4, wr_r4, cK_r5, nal_r5, cm_r5, wr_r5, cK_r6, nal_r6, cm_r6, wr_r6, cK_r7, nal_r7, cm_r7, wr_r7, cm_sa7, cm_sa8, cm_sa9, wr_sa7, wr_sa8, wr_sa9, Nat.reduceLT, Nat.reduceLeDiff, Nat.reduceAdd, Nat.reduceSub, reduceCtorEq, qup_s, qup_q, rmd_e, mx_e, mn_e, n12, n20, n10, n2, n3, n8, n65, cz_88, wz_88, cz_89, wz_89, cz_91, wz_91, cz_92, wz_92, cz_93, wz_93, cz_94, wz_94, cz_95, wz_95, cz_97, wz_97, cz_105, wz_105, cz_106, wz_106, cz_107, wz_107, cz_108, wz_108, cz_110, wz_110, cz_111, wz_111, ck_92, na_92, ck_94, na_94, ck_95, na_95, ck_97, na_97, ck_105, na_105, ck_106, na_106, ck_107, na_107, ck_108, na_108, ck_110, na_110, ck_111, na_111, qn_1_0, qn_0_1, qn_1_2, qn_2_1, qn_0_2, qn_2_0, qn_1_1, qn_0_0, qn_2_2, lt0, lt1, lt2, isNo_a h, isNo_b h, rfz]
def rgv (v a b : Int32) : Int32 := if v < a then -4 else if b < v then -6 else 0
theorem O_rangeFault (v a b : Int32) : cal yO_rangeFault [.int v, .int a, .int b] (cm Q Z) = some (some (.int (rgv v a b)), cm Q Z) := by
  rw [cal_of (L := [some (.int v), some (.int a), some (.int b)]) rfl rfl]
  simp only [sO_rangeFault_0, sO_rangeFault_1, sO_rangeFault_2, sO_rangeFault_5, sO_rangeFault_7, sO_rangeFault_8, sO_rangeFault_9, sO_rangeFault_10, sO_rangeFault_13, sO_rangeFault_15, sO_rangeFault_18, sO_rangeFault_19, rI_s, rJ_s, rA_s, rV_s, cw_0, cw_i, cw_j, cw_r, Nat.zero_le, Nat.le_refl, ↓reduceIte, not_true_eq_false, not_false_eq_true, and_true, true_and, and_self, and_false, false_and, true_or, or_true, false_or, or_false, b2_t, b2_f, b2_0, b2_r, i10, i01, bft, btf, z01, o01, cK_r1, nal_r1, cm_r1, wr_r1, cK_r2, nal_r2, cm_r2, wr_r2, cK_r3, nal_r3, cm_r3, wr_r3, cK_r4, nal_r4, cm_r4, wr_r4, cK_r5, nal_r5, cm_r5, wr_r5, cK_r6, nal_r6, cm_r6, wr_r6, cK_r7, nal_r7, cm_r7, wr_r7, cm_sa7, cm_sa8, cm_sa9, wr_sa7, wr_sa8, wr_sa9, Nat.reduceLT, Nat.reduceLeDiff, Nat.reduceAdd, Nat.reduceSub, reduceCtorEq, qup_s, qup_q, rmd_e, mx_e, mn_e, n12, n20, n10, n2, n3, n8, n65, cz_88, wz_88, cz_89, wz_89, cz_91, wz_91, cz_92, wz_92, cz_93, wz_93, cz_94, wz_94, cz_95, wz_95, cz_97, wz_97, cz_105, wz_105, cz_106, wz_106, cz_107, wz_107, cz_108, wz_108, cz_110, wz_110, cz_111, wz_111, ck_92, na_92, ck_94, na_94, ck_95, na_95, ck_97, na_97, ck_105, na_105, ck_106, na_106, ck_107, na_107, ck_108, na_108, ck_110, na_110, ck_111, na_111, qn_1_0, qn_0_1, qn_1_2, qn_2_1, qn_0_2, qn_2_0, qn_1_1, qn_0_0, qn_2_2, lt0, lt1, lt2, rgv, ans_if]
def wfv (w l : Int32) : Int32 := if w < 0 then -2 else if l < w then -2 else 0
theorem O_whatFault (w l : Int32) : cal yO_whatFault [.int w, .int l] (cm Q Z) = some (some (.int (wfv w l)), cm Q Z) := by
  rw [cal_of (L := [some (.int w), some (.int l)]) rfl rfl]
  simp only [sO_whatFault_0, sO_whatFault_1, sO_whatFault_4, sO_whatFault_5, sO_whatFault_6, sO_whatFault_9, sO_whatFault_10, sO_whatFault_13, sO_whatFault_15, rI_s, rJ_s, rA_s, rV_s, cw_0, cw_i, cw_j, cw_r, Nat.zero_le, Nat.le_refl, ↓reduceIte, not_true_eq_false, not_false_eq_true, and_true, true_and, and_self, and_false, false_and, true_or, or_true, false_or, or_false, b2_t, b2_f, b2_0, b2_r, i10, i01, bft, btf, z01, o01, cK_r1, nal_r1, cm_r1, wr_r1, cK_r2, nal_r2, cm_r2, wr_r2, cK_r3, nal_r3, cm_r3, wr_r3, cK_r4, nal_r4, cm_r4, wr_r4, cK_r5, nal_r5, cm_r5, wr_r5, cK_r6, nal_r6, cm_r6, wr_r6, cK_r7, nal_r7, cm_r7, wr_r7, cm_sa7, cm_sa8, cm_sa9, wr_sa7, wr_sa8, wr_sa9, Nat.reduceLT, Nat.reduceLeDiff, Nat.reduceAdd, Nat.reduceSub, reduceCtorEq, qup_s, qup_q, rmd_e, mx_e, mn_e, n12, n20, n10, n2, n3, n8, n65, cz_88, wz_88, cz_89, wz_89, cz_91, wz_91, cz_92, wz_92, cz_93, wz_93, cz_94, wz_94, cz_95, wz_95, cz_97, wz_97, cz_105, wz_105, cz_106, wz_106, cz_107, wz_107, cz_108, wz_108, cz_110, wz_110, cz_111, wz_111, ck_92, na_92, ck_94, na_94, ck_95, na_95, ck_97, na_97, ck_105, na_105, ck_106, na_106, ck_107, na_107, ck_108, na_108, ck_110, na_110, ck_111, na_111, qn_1_0, qn_0_1, qn_1_2, qn_2_1, qn_0_2, qn_2_0, qn_1_1, qn_0_0, qn_2_2, lt0, lt1, lt2, wfv, ans_if]
def pfv (p : Int32) : Int32 := if pI p = true then 0 else -2
theorem O_partFault (p : Int32) : cal yO_partFault [.int p] (cm Q Z) = some (some (.int (pfv p)), cm Q Z) := by
  rw [cal_of (L := [some (.int p)]) rfl rfl]
  by_cases h1 : p < 0
  · simp only [sO_partFault_0, sO_partFault_1, sO_partFault_4, sO_partFault_5, sO_partFault_6, sO_partFault_9, sO_partFault_10, sO_partFault_13, sO_partFault_15, rI_s, rJ_s, rA_s, rV_s, cw_0, cw_i, cw_j, cw_r, Nat.zero_le, Nat.le_refl, ↓reduceIte, not_true_eq_false, not_false_eq_true, and_true, true_and, and_self, and_false, false_and, true_or, or_true, false_or, or_false, b2_t, b2_f, b2_0, b2_r, i10, i01, bft, btf, z01, o01, cK_r1, nal_r1, cm_r1, wr_r1, cK_r2, nal_r2, cm_r2, wr_r2, cK_r3, nal_r3, cm_r3, wr_r3, cK_r4, nal_r4, cm_r4, wr_r4, cK_r5, nal_r5, cm_r5, wr_r5, cK_r6, nal_r6, cm_r6, wr_r6, cK_r7, nal_r7, cm_r7, wr_r7, cm_sa7, cm_sa8, cm_sa9, wr_sa7, wr_sa8, wr_sa9, Nat.reduceLT, Nat.reduceLeDiff, Nat.reduceAdd, Nat.reduceSub, reduceCtorEq, qup_s, qup_q, rmd_e, mx_e, mn_e, n12, n20, n10, n2, n3, n8, n65, cz_88, wz_88, cz_89, wz_89, cz_91, wz_91, cz_92, wz_92, cz_93, wz_93, cz_94, wz_94, cz_95, wz_95, cz_97, wz_97, cz_105, wz_105, cz_106, wz_106, cz_107, wz_107, cz_108, wz_108, cz_110, wz_110, cz_111, wz_111, ck_92, na_92, ck_94, na_94, ck_95, na_95, ck_97, na_97, ck_105, na_105, ck_106, na_106, ck_107, na_107, ck_108, na_108, ck_110, na_110, ck_111, na_111, qn_1_0, qn_0_1, qn_1_2, qn_2_1, qn_0_2, qn_2_0, qn_1_1, qn_0_0, qn_2_2, lt0, lt1, lt2, decide_true, decide_false, Bool.not_true, Bool.not_false, Bool.false_and, Bool.and_false, Bool.true_and, Bool.and_true, Bool.and_self, h1, pfv, pI]
  · by_cases h2 : p < 3
    · simp only [sO_partFault_0, sO_partFault_1, sO_partFault_4, sO_partFault_5, sO_partFault_6, sO_partFault_9, sO_partFault_10, sO_partFault_13, sO_partFault_15, rI_s, rJ_s, rA_s, rV_s, cw_0, cw_i, cw_j, cw_r, Nat.zero_le, Nat.le_refl, ↓reduceIte, not_true_eq_false, not_false_eq_true, and_true, true_and, and_self, and_false, false_and, true_or, or_true, false_or, or_false, b2_t, b2_f, b2_0, b2_r, i10, i01, bft, btf, z01, o01, cK_r1, nal_r1, cm_r1, wr_r1, cK_r2, nal_r2, cm_r2, wr_r2, cK_r3, nal_r3, cm_r3, wr_r3, cK_r4, nal_r4, cm_r4, wr_r4, cK_r5, nal_r5, cm_r5, wr_r5, cK_r6, nal_r6, cm_r6, wr_r6, cK_r7, nal_r7, cm_r7, wr_r7, cm_sa7, cm_sa8, cm_sa9, wr_sa7, wr_sa8, wr_sa9, Nat.reduceLT, Nat.reduceLeDiff, Nat.reduceAdd, Nat.reduceSub, reduceCtorEq, qup_s, qup_q, rmd_e, mx_e, mn_e, n12, n20, n10, n2, n3, n8, n65, cz_88, wz_88, cz_89, wz_89, cz_91, wz_91, cz_92, wz_92, cz_93, wz_93, cz_94, wz_94, cz_95, wz_95, cz_97, wz_97, cz_105, wz_105, cz_106, wz_106, cz_107, wz_107, cz_108, wz_108, cz_110, wz_110, cz_111, wz_111, ck_92, na_92, ck_94, na_94, ck_95, na_95, ck_97, na_97, ck_105, na_105, ck_106, na_106, ck_107, na_107, ck_108, na_108, ck_110, na_110, ck_111, na_111, qn_1_0, qn_0_1, qn_1_2, qn_2_1, qn_0_2, qn_2_0, qn_1_1, qn_0_0, qn_2_2, lt0, lt1, lt2, decide_true, decide_false, Bool.not_true, Bool.not_false, Bool.false_and, Bool.and_false, Bool.true_and, Bool.and_true, Bool.and_self, h1, h2, pfv, pI]
    · simp only [sO_partFault_0, sO_partFault_1, sO_partFault_4, sO_partFault_5, sO_partFault_6, sO_partFault_9, sO_partFault_10, sO_partFault_13, sO_partFault_15, rI_s, rJ_s, rA_s, rV_s, cw_0, cw_i, cw_j, cw_r, Nat.zero_le, Nat.le_refl, ↓reduceIte, not_true_eq_false, not_false_eq_true, and_true, true_and, and_self, and_false, false_and, true_or, or_true, false_or, or_false, b2_t, b2_f, b2_0, b2_r, i10, i01, bft, btf, z01, o01, cK_r1, nal_r1, cm_r1, wr_r1, cK_r2, nal_r2, cm_r2, wr_r2, cK_r3, nal_r3, cm_r3, wr_r3, cK_r4, nal_r4, cm_r4, wr_r4, cK_r5, nal_r5, cm_r5, wr_r5, cK_r6, nal_r6, cm_r6, wr_r6, cK_r7, nal_r7, cm_r7, wr_r7, cm_sa7, cm_sa8, cm_sa9, wr_sa7, wr_sa8, wr_sa9, Nat.reduceLT, Nat.reduceLeDiff, Nat.reduceAdd, Nat.reduceSub, reduceCtorEq, qup_s, qup_q, rmd_e, mx_e, mn_e, n12, n20, n10, n2, n3, n8, n65, cz_88, wz_88, cz_89, wz_89, cz_91, wz_91, cz_92, wz_92, cz_93, wz_93, cz_94, wz_94, cz_95, wz_95, cz_97, wz_97, cz_105, wz_105, cz_106, wz_106, cz_107, wz_107, cz_108, wz_108, cz_110, wz_110, cz_111, wz_111, ck_92, na_92, ck_94, na_94, ck_95, na_95, ck_97, na_97, ck_105, na_105, ck_106, na_106, ck_107, na_107, ck_108, na_108, ck_110, na_110, ck_111, na_111, qn_1_0, qn_0_1, qn_1_2, qn_2_1, qn_0_2, qn_2_0, qn_1_1, qn_0_0, qn_2_2, lt0, lt1, lt2, decide_true, decide_false, Bool.not_true, Bool.not_false, Bool.false_and, Bool.and_false, Bool.true_and, Bool.and_true, Bool.and_self, h1, h2, pfv, pI]
def wdv (X : St) (w : Int32) : Int32 := if hW X w = true then 0 else -1
theorem O_widowFault (w : Int32) : cal yO_widowFault [.ref 88, .int w] (cm Q Z) = some (some (.int (wdv (Q 0) w)), cm Q Z) := by
  rw [cal_of (L := [some (.ref 88), some (.int w)]) rfl rfl]
  cases h : hW (Q 0) w with
  | true => simp only [sO_widowFault_0, sO_widowFault_1, sO_widowFault_4, sO_widowFault_5, sO_widowFault_8, sO_widowFault_11, sO_widowFault_12, sO_widowFault_15, sO_widowFault_16, rI_s, rJ_s, rA_s, rV_s, cw_0, cw_i, cw_j, cw_r, Nat.zero_le, Nat.le_refl, ↓reduceIte, not_true_eq_false, not_false_eq_true, and_true, true_and, and_self, and_false, false_and, true_or, or_true, false_or, or_false, b2_t, b2_f, b2_0, b2_r, i10, i01, bft, btf, z01, o01, cK_r1, nal_r1, cm_r1, wr_r1, cK_r2, nal_r2, cm_r2, wr_r2, cK_r3, nal_r3, cm_r3, wr_r3, cK_r4, nal_r4, cm_r4, wr_r4, cK_r5, nal_r5, cm_r5, wr_r5, cK_r6, nal_r6, cm_r6, wr_r6, cK_r7, nal_r7, cm_r7, wr_r7, cm_sa7, cm_sa8, cm_sa9, wr_sa7, wr_sa8, wr_sa9, Nat.reduceLT, Nat.reduceLeDiff, Nat.reduceAdd, Nat.reduceSub, reduceCtorEq, qup_s, qup_q, rmd_e, mx_e, mn_e, n12, n20, n10, n2, n3, n8, n65, cz_88, wz_88, cz_89, wz_89, cz_91, wz_91, cz_92, wz_92, cz_93, wz_93, cz_94, wz_94, cz_95, wz_95, cz_97, wz_97, cz_105, wz_105, cz_106, wz_106, cz_107, wz_107, cz_108, wz_108, cz_110, wz_110, cz_111, wz_111, ck_92, na_92, ck_94, na_94, ck_95, na_95, ck_97, na_97, ck_105, na_105, ck_106, na_106, ck_107, na_107, ck_108, na_108, ck_110, na_110, ck_111, na_111, qn_1_0, qn_0_1, qn_1_2, qn_2_1, qn_0_2, qn_2_0, qn_1_1, qn_0_0, qn_2_2, lt0, lt1, lt2, S_hasWidow, h, wdv]
  | false => simp only [sO_widowFault_0, sO_widowFault_1, sO_widowFault_4, sO_widowFault_5, sO_widowFault_8, sO_widowFault_11, sO_widowFault_12, sO_widowFault_15, sO_widowFault_16, rI_s, rJ_s, rA_s, rV_s, cw_0, cw_i, cw_j, cw_r, Nat.zero_le, Nat.le_refl, ↓reduceIte, not_true_eq_false, not_false_eq_true, and_true, true_and, and_self, and_false, false_and, true_or, or_true, false_or, or_false, b2_t, b2_f, b2_0, b2_r, i10, i01, bft, btf, z01, o01, cK_r1, nal_r1, cm_r1, wr_r1, cK_r2, nal_r2, cm_r2, wr_r2, cK_r3, nal_r3, cm_r3, wr_r3, cK_r4, nal_r4, cm_r4, wr_r4, cK_r5, nal_r5, cm_r5, wr_r5, cK_r6, nal_r6, cm_r6, wr_r6, cK_r7, nal_r7, cm_r7, wr_r7, cm_sa7, cm_sa8, cm_sa9, wr_sa7, wr_sa8, wr_sa9, Nat.reduceLT, Nat.reduceLeDiff, Nat.reduceAdd, Nat.reduceSub, reduceCtorEq, qup_s, qup_q, rmd_e, mx_e, mn_e, n12, n20, n10, n2, n3, n8, n65, cz_88, wz_88, cz_89, wz_89, cz_91, wz_91, cz_92, wz_92, cz_93, wz_93, cz_94, wz_94, cz_95, wz_95, cz_97, wz_97, cz_105, wz_105, cz_106, wz_106, cz_107, wz_107, cz_108, wz_108, cz_110, wz_110, cz_111, wz_111, ck_92, na_92, ck_94, na_94, ck_95, na_95, ck_97, na_97, ck_105, na_105, ck_106, na_106, ck_107, na_107, ck_108, na_108, ck_110, na_110, ck_111, na_111, qn_1_0, qn_0_1, qn_1_2, qn_2_1, qn_0_2, qn_2_0, qn_1_1, qn_0_0, qn_2_2, lt0, lt1, lt2, S_hasWidow, h, wdv]
def eiv (a b : Int32) : Int32 := if a = 0 then b else a
theorem O_either (a b : Int32) : cal yO_either [.int a, .int b] (cm Q Z) = some (some (.int (eiv a b)), cm Q Z) := by
  rw [cal_of (L := [some (.int a), some (.int b)]) rfl rfl]
  simp only [sO_either_0, sO_either_1, sO_either_4, sO_either_5, sO_either_8, sO_either_9, rI_s, rJ_s, rA_s, rV_s, cw_0, cw_i, cw_j, cw_r, Nat.zero_le, Nat.le_refl, ↓reduceIte, not_true_eq_false, not_false_eq_true, and_true, true_and, and_self, and_false, false_and, true_or, or_true, false_or, or_false, b2_t, b2_f, b2_0, b2_r, i10, i01, bft, btf, z01, o01, cK_r1, nal_r1, cm_r1, wr_r1, cK_r2, nal_r2, cm_r2, wr_r2, cK_r3, nal_r3, cm_r3, wr_r3, cK_r4, nal_r4, cm_r4, wr_r4, cK_r5, nal_r5, cm_r5, wr_r5, cK_r6, nal_r6, cm_r6, wr_r6, cK_r7, nal_r7, cm_r7, wr_r7, cm_sa7, cm_sa8, cm_sa9, wr_sa7, wr_sa8, wr_sa9, Nat.reduceLT, Nat.reduceLeDiff, Nat.reduceAdd, Nat.reduceSub, reduceCtorEq, qup_s, qup_q, rmd_e, mx_e, mn_e, n12, n20, n10, n2, n3, n8, n65, cz_88, wz_88, cz_89, wz_89, cz_91, wz_91, cz_92, wz_92, cz_93, wz_93, cz_94, wz_94, cz_95, wz_95, cz_97, wz_97, cz_105, wz_105, cz_106, wz_106, cz_107, wz_107, cz_108, wz_108, cz_110, wz_110, cz_111, wz_111, ck_92, na_92, ck_94, na_94, ck_95, na_95, ck_97, na_97, ck_105, na_105, ck_106, na_106, ck_107, na_107, ck_108, na_108, ck_110, na_110, ck_111, na_111, qn_1_0, qn_0_1, qn_1_2, qn_2_1, qn_0_2, qn_2_0, qn_1_1, qn_0_0, qn_2_2, lt0, lt1, lt2, eiv, ans_if]
theorem rgv_no (v a b : Int32) : rgv v a b = 0 ∨ isNo (rgv v a b) := by
  unfold rgv isNo
  split
  · simp
  · split <;> simp
theorem wfv_no (w l : Int32) : wfv w l = 0 ∨ isNo (wfv w l) := by
  unfold wfv isNo
  split
  · simp
  · split <;> simp
theorem pfv_no (p : Int32) : pfv p = 0 ∨ isNo (pfv p) := by
  unfold pfv isNo
  split <;> simp
theorem wdv_no (X : St) (w : Int32) : wdv X w = 0 ∨ isNo (wdv X w) := by
  unfold wdv isNo
  split <;> simp
theorem eiv_no {a b : Int32} (ha : a = 0 ∨ isNo a) (hb : b = 0 ∨ isNo b) : eiv a b = 0 ∨ isNo (eiv a b) := by
  unfold eiv
  split
  · exact hb
  · next h => exact Or.inr (ha.resolve_left h)
theorem eiv_0 {a b : Int32} (h : eiv a b = 0) : a = 0 ∧ b = 0 := by
  unfold eiv at h
  split at h
  · next h0 => exact ⟨h0, h⟩
  · next h0 => exact absurd h h0
theorem pfv_0 {p : Int32} (h : pfv p = 0) : pI p = true := by
  unfold pfv at h
  split at h
  · assumption
  · exact absurd h (by decide)
theorem wdv_0 {X : St} {w : Int32} (h : wdv X w = 0) : hW X w = true := by
  unfold wdv at h
  split at h
  · assumption
  · exact absurd h (by decide)
theorem rgv_0 {v a b : Int32} (h : rgv v a b = 0) : ¬ v < a ∧ ¬ b < v := by
  unfold rgv at h
  split at h
  · exact absurd h (by decide)
  · split at h
    · exact absurd h (by decide)
    · next h1 h2 => exact ⟨h1, h2⟩
theorem wfv_0 {w l : Int32} (h : wfv w l = 0) : ¬ w < 0 ∧ ¬ l < w := by
  unfold wfv at h
  split at h
  · exact absurd h (by decide)
  · split at h
    · exact absurd h (by decide)
    · next h1 h2 => exact ⟨h1, h2⟩
/-- a number from 0 to b, by its name -/
theorem rg_n {v : Int32} {b : Nat} (hb : b < 1000000) (h : ¬ v < 0) (h2 : ¬ nI b < v) : ∃ m, m ≤ b ∧ v = nI m := by
  obtain ⟨m, hm, rfl⟩ := nI_of h
  refine ⟨m, ?_, rfl⟩
  rcases Nat.lt_or_ge b m with q | q
  · exact absurd (nI_lt q hm) h2
  · exact q
/-- n WEEKS on, in mind -/
theorem O_thinkAhead {n m : Nat} (hn : Q 0 0 7 = nI n) (h7 : n ≤ 7) (hm : m < 1000) : cal yO_thinkAhead [.ref 88, .int (nI m)] (cm Q Z) = some (none, cm (qup Q 1 (wksX (Q 0) n m)) Z) := by
  rw [cal_of (L := [some (.ref 88), some (.int (nI m))]) rfl rfl]
  have hn1 : qup Q 1 (Q 0) 1 0 7 = nI n := hn
  simp only [sO_thinkAhead_0, sO_thinkAhead_1, sO_thinkAhead_4, sO_thinkAhead_5, sO_thinkAhead_8, sO_thinkAhead_11, sO_thinkAhead_12, sO_thinkAhead_15, sO_thinkAhead_16, sO_thinkAhead_19, rI_s, rJ_s, rA_s, rV_s, cw_0, cw_i, cw_j, cw_r, Nat.zero_le, Nat.le_refl, ↓reduceIte, not_true_eq_false, not_false_eq_true, and_true, true_and, and_self, and_false, false_and, true_or, or_true, false_or, or_false, b2_t, b2_f, b2_0, b2_r, i10, i01, bft, btf, z01, o01, cK_r1, nal_r1, cm_r1, wr_r1, cK_r2, nal_r2, cm_r2, wr_r2, cK_r3, nal_r3, cm_r3, wr_r3, cK_r4, nal_r4, cm_r4, wr_r4, cK_r5, nal_r5, cm_r5, wr_r5, cK_r6, nal_r6, cm_r6, wr_r6, cK_r7, nal_r7, cm_r7, wr_r7, cm_sa7, cm_sa8, cm_sa9, wr_sa7, wr_sa8, wr_sa9, Nat.reduceLT, Nat.reduceLeDiff, Nat.reduceAdd, Nat.reduceSub, reduceCtorEq, qup_s, qup_q, rmd_e, mx_e, mn_e, n12, n20, n10, n2, n3, n8, n65, cz_88, wz_88, cz_89, wz_89, cz_91, wz_91, cz_92, wz_92, cz_93, wz_93, cz_94, wz_94, cz_95, wz_95, cz_97, wz_97, cz_105, wz_105, cz_106, wz_106, cz_107, wz_107, cz_108, wz_108, cz_110, wz_110, cz_111, wz_111, ck_92, na_92, ck_94, na_94, ck_95, na_95, ck_97, na_97, ck_105, na_105, ck_106, na_106, ck_107, na_107, ck_108, na_108, ck_110, na_110, ck_111, na_111, qn_1_0, qn_0_1, qn_1_2, qn_2_1, qn_0_2, qn_2_0, qn_1_1, qn_0_0, qn_2_2, lt0, lt1, lt2, S_become lt1 lt0 (show 0 ≠ 1 by decide), S_passWeeks lt1 hn1 h7 hm]
theorem O_refusalsOf {x : Int32} (h : isNo x) : cal yO_refusalsOf [.ref 88, .int x] (cm Q Z) = some (some (.int (Z 95 (-x))), cm Q Z) := by
  rw [cal_of (L := [some (.ref 88), some (.int x), none]) rfl rfl]
  simp only [sO_refusalsOf_0, sO_refusalsOf_1, sO_refusalsOf_2, sO_refusalsOf_3, sO_refusalsOf_4, sO_refusalsOf_7, sO_refusalsOf_8, sO_refusalsOf_9, sO_refusalsOf_12, sO_refusalsOf_13, sO_refusalsOf_16, sO_refusalsOf_17, sO_refusalsOf_20, sO_refusalsOf_21, sO_refusalsOf_22, sO_refusalsOf_25, sO_refusalsOf_26, rI_s, rJ_s, rA_s, rV_s, cw_0, cw_i, cw_j, cw_r, Nat.zero_le, Nat.le_refl, ↓reduceIte, not_true_eq_false, not_false_eq_true, and_true, true_and, and_self, and_false, false_and, true_or, or_true, false_or, or_false, b2_t, b2_f, b2_0, b2_r, i10, i01, bft, btf, z01, o01, cK_r1, nal_r1, cm_r1, wr_r1, cK_r2, nal_r2, cm_r2, wr_r2, cK_r3, nal_r3, cm_r3, wr_r3, cK_r4, nal_r4, cm_r4, wr_r4, cK_r5, nal_r5, cm_r5, wr_r5, cK_r6, nal_r6, cm_r6, wr_r6, cK_r7, nal_r7, cm_r7, wr_r7, cm_sa7, cm_sa8, cm_sa9, wr_sa7, wr_sa8, wr_sa9, Nat.reduceLT, Nat.reduceLeDiff, Nat.reduceAdd, Nat.reduceSub, reduceCtorEq, qup_s, qup_q, rmd_e, mx_e, mn_e, n12, n20, n10, n2, n3, n8, n65, cz_88, wz_88, cz_89, wz_89, cz_91, wz_91, cz_92, wz_92, cz_93, wz_93, cz_94, wz_94, cz_95, wz_95, cz_97, wz_97, cz_105, wz_105, cz_106, wz_106, cz_107, wz_107, cz_108, wz_108, cz_110, wz_110, cz_111, wz_111, ck_92, na_92, ck_94, na_94, ck_95, na_95, ck_97, na_97, ck_105, na_105, ck_106, na_106, ck_107, na_107, ck_108, na_108, ck_110, na_110, ck_111, na_111, qn_1_0, qn_0_1, qn_1_2, qn_2_1, qn_0_2, qn_2_0, qn_1_1, qn_0_0, qn_2_2, lt0, lt1, lt2, isNo_a h, isNo_b h]
def hsv (X : St) (n : Int32) : Int32 := if hostv X n = 9 then 7 else hostv X n
theorem O_houseIn (n : Int32) : cal yO_houseIn [.ref 88, .int n] (cm Q Z) = some (some (.int (hsv (Q 0) n)), cm Q Z) := by
  rw [cal_of (L := [some (.ref 88), some (.int n), none]) rfl rfl]
  simp only [sO_houseIn_0, sO_houseIn_1, sO_houseIn_4, sO_houseIn_5, sO_houseIn_8, sO_houseIn_9, sO_houseIn_10, sO_houseIn_12, sO_houseIn_15, sO_houseIn_17, sO_houseIn_20, sO_houseIn_21, rI_s, rJ_s, rA_s, rV_s, cw_0, cw_i, cw_j, cw_r, Nat.zero_le, Nat.le_refl, ↓reduceIte, not_true_eq_false, not_false_eq_true, and_true, true_and, and_self, and_false, false_and, true_or, or_true, false_or, or_false, b2_t, b2_f, b2_0, b2_r, i10, i01, bft, btf, z01, o01, cK_r1, nal_r1, cm_r1, wr_r1, cK_r2, nal_r2, cm_r2, wr_r2, cK_r3, nal_r3, cm_r3, wr_r3, cK_r4, nal_r4, cm_r4, wr_r4, cK_r5, nal_r5, cm_r5, wr_r5, cK_r6, nal_r6, cm_r6, wr_r6, cK_r7, nal_r7, cm_r7, wr_r7, cm_sa7, cm_sa8, cm_sa9, wr_sa7, wr_sa8, wr_sa9, Nat.reduceLT, Nat.reduceLeDiff, Nat.reduceAdd, Nat.reduceSub, reduceCtorEq, qup_s, qup_q, rmd_e, mx_e, mn_e, n12, n20, n10, n2, n3, n8, n65, cz_88, wz_88, cz_89, wz_89, cz_91, wz_91, cz_92, wz_92, cz_93, wz_93, cz_94, wz_94, cz_95, wz_95, cz_97, wz_97, cz_105, wz_105, cz_106, wz_106, cz_107, wz_107, cz_108, wz_108, cz_110, wz_110, cz_111, wz_111, ck_92, na_92, ck_94, na_94, ck_95, na_95, ck_97, na_97, ck_105, na_105, ck_106, na_106, ck_107, na_107, ck_108, na_108, ck_110, na_110, ck_111, na_111, qn_1_0, qn_0_1, qn_1_2, qn_2_1, qn_0_2, qn_2_0, qn_1_1, qn_0_0, qn_2_2, lt0, lt1, lt2, S_hostIn, hsv, ans_if]
/-- feed -/
theorem O_feed_no (v : Int32) {n : Nat} (hl : Z 91 1 = nI n) (hn : n ≤ 96) (h : ¬ rgv v 0 255 = 0) : cal yO_feed [.ref 88, .int v] (cm Q Z) = some (some (.int (rgv v 0 255)), cm Q (rfz 95 Z (rgv v 0 255))) := by
  rw [cal_of (L := [some (.ref 88), some (.int v), none]) rfl rfl]
  simp only [sO_feed_0, sO_feed_1, sO_feed_2, sO_feed_5, sO_feed_8, sO_feed_9, sO_feed_10, sO_feed_13, sO_feed_14, sO_feed_17, sO_feed_20, sO_feed_22, sO_feed_25, sO_feed_27, sO_feed_28, sO_feed_29, sO_feed_32, sO_feed_33, sO_feed_34, sO_feed_37, sO_feed_38, sO_feed_39, sO_feed_42, sO_feed_43, sO_feed_46, rI_s, rJ_s, rA_s, rV_s, cw_0, cw_i, cw_j, cw_r, Nat.zero_le, Nat.le_refl, ↓reduceIte, not_true_eq_false, not_false_eq_true, and_true, true_and, and_self, and_false, false_and, true_or, or_true, false_or, or_false, b2_t, b2_f, b2_0, b2_r, i10, i01, bft, btf, z01, o01, cK_r1, nal_r1, cm_r1, wr_r1, cK_r2, nal_r2, cm_r2, wr_r2, cK_r3, nal_r3, cm_r3, wr_r3, cK_r4, nal_r4, cm_r4, wr_r4, cK_r5, nal_r5, cm_r5, wr_r5, cK_r6, nal_r6, cm_r6, wr_r6, cK_r7, nal_r7, cm_r7, wr_r7, cm_sa7, cm_sa8, cm_sa9, wr_sa7, wr_sa8, wr_sa9, Nat.reduceLT, Nat.reduceLeDiff, Nat.reduceAdd, Nat.reduceSub, reduceCtorEq, qup_s, qup_q, rmd_e, mx_e, mn_e, n12, n20, n10, n2, n3, n8, n65, cz_88, wz_88, cz_89, wz_89, cz_91, wz_91, cz_92, wz_92, cz_93, wz_93, cz_94, wz_94, cz_95, wz_95, cz_97, wz_97, cz_105, wz_105, cz_106, wz_106, cz_107, wz_107, cz_108, wz_108, cz_110, wz_110, cz_111, wz_111, ck_92, na_92, ck_94, na_94, ck_95, na_95, ck_97, na_97, ck_105, na_105, ck_106, na_106, ck_107, na_107, ck_108, na_108, ck_110, na_110, ck_111, na_111, qn_1_0, qn_0_1, qn_1_2, qn_2_1, qn_0_2, qn_2_0, qn_1_1, qn_0_0, qn_2_2, lt0, lt1, lt2, O_rangeFault, h, O_refuse ((rgv_no v 0 255).resolve_left h)]
theorem no6 : isNo (-6) := by simp [isNo]
theorem no1 : isNo (-1) := by simp [isNo]
theorem no2 : isNo (-2) := by simp [isNo]
theorem no3 : isNo (-3) := by simp [isNo]
theorem no4 : isNo (-4) := by simp [isNo]
theorem m60 : ((-6 : Int32) = 0) = False := by decide
theorem m10 : ((-1 : Int32) = 0) = False := by decide
theorem m20 : ((-2 : Int32) = 0) = False := by decide
theorem m30 : ((-3 : Int32) = 0) = False := by decide
theorem m40 : ((-4 : Int32) = 0) = False := by decide
theorem O_feed_full (v : Int32) (hl : Z 91 1 = nI 96) (h : rgv v 0 255 = 0) : cal yO_feed [.ref 88, .int v] (cm Q Z) = some (some (.int (-6)), cm Q (rfz 95 Z (-6))) := by
  rw [cal_of (L := [some (.ref 88), some (.int v), none]) rfl rfl]
  have c : (nI 96 < 96) = False := by decide
  simp only [sO_feed_0, sO_feed_1, sO_feed_2, sO_feed_5, sO_feed_8, sO_feed_9, sO_feed_10, sO_feed_13, sO_feed_14, sO_feed_17, sO_feed_20, sO_feed_22, sO_feed_25, sO_feed_27, sO_feed_28, sO_feed_29, sO_feed_32, sO_feed_33, sO_feed_34, sO_feed_37, sO_feed_38, sO_feed_39, sO_feed_42, sO_feed_43, sO_feed_46, rI_s, rJ_s, rA_s, rV_s, cw_0, cw_i, cw_j, cw_r, Nat.zero_le, Nat.le_refl, ↓reduceIte, not_true_eq_false, not_false_eq_true, and_true, true_and, and_self, and_false, false_and, true_or, or_true, false_or, or_false, b2_t, b2_f, b2_0, b2_r, i10, i01, bft, btf, z01, o01, cK_r1, nal_r1, cm_r1, wr_r1, cK_r2, nal_r2, cm_r2, wr_r2, cK_r3, nal_r3, cm_r3, wr_r3, cK_r4, nal_r4, cm_r4, wr_r4, cK_r5, nal_r5, cm_r5, wr_r5, cK_r6, nal_r6, cm_r6, wr_r6, cK_r7, nal_r7, cm_r7, wr_r7, cm_sa7, cm_sa8, cm_sa9, wr_sa7, wr_sa8, wr_sa9, Nat.reduceLT, Nat.reduceLeDiff, Nat.reduceAdd, Nat.reduceSub, reduceCtorEq, qup_s, qup_q, rmd_e, mx_e, mn_e, n12, n20, n10, n2, n3, n8, n65, cz_88, wz_88, cz_89, wz_89, cz_91, wz_91, cz_92, wz_92, cz_93, wz_93, cz_94, wz_94, cz_95, wz_95, cz_97, wz_97, cz_105, wz_105, cz_106, wz_106, cz_107, wz_107, cz_108, wz_108, cz_110, wz_110, cz_111, wz_111, ck_92, na_92, ck_94, na_94, ck_95, na_95, ck_97, na_97, ck_105, na_105, ck_106, na_106, ck_107, na_107, ck_108, na_108, ck_110, na_110, ck_111, na_111, qn_1_0, qn_0_1, qn_1_2, qn_2_1, qn_0_2, qn_2_0, qn_1_1, qn_0_0, qn_2_2, lt0, lt1, lt2, O_rangeFault, h, hl, c, O_refuse no6, m60]
theorem O_feed_ok (v : Int32) {n : Nat} (hl : Z 91 1 = nI n) (hn : n < 96) (h : rgv v 0 255 = 0) : cal yO_feed [.ref 88, .int v] (cm Q Z) = some (some (.int (nI (n + 1))), cm Q (wrm (wrm Z 92 (nI n) v) 91 1 (nI (n + 1)))) := by
  rw [cal_of (L := [some (.ref 88), some (.int v), none]) rfl rfl]
  have c : (nI n < 96) = True := nlt (b := 96) hn (by decide)
  simp only [sO_feed_0, sO_feed_1, sO_feed_2, sO_feed_5, sO_feed_8, sO_feed_9, sO_feed_10, sO_feed_13, sO_feed_14, sO_feed_17, sO_feed_20, sO_feed_22, sO_feed_25, sO_feed_27, sO_feed_28, sO_feed_29, sO_feed_32, sO_feed_33, sO_feed_34, sO_feed_37, sO_feed_38, sO_feed_39, sO_feed_42, sO_feed_43, sO_feed_46, rI_s, rJ_s, rA_s, rV_s, cw_0, cw_i, cw_j, cw_r, Nat.zero_le, Nat.le_refl, ↓reduceIte, not_true_eq_false, not_false_eq_true, and_true, true_and, and_self, and_false, false_and, true_or, or_true, false_or, or_false, b2_t, b2_f, b2_0, b2_r, i10, i01, bft, btf, z01, o01, cK_r1, nal_r1, cm_r1, wr_r1, cK_r2, nal_r2, cm_r2, wr_r2, cK_r3, nal_r3, cm_r3, wr_r3, cK_r4, nal_r4, cm_r4, wr_r4, cK_r5, nal_r5, cm_r5, wr_r5, cK_r6, nal_r6, cm_r6, wr_r6, cK_r7, nal_r7, cm_r7, wr_r7, cm_sa7, cm_sa8, cm_sa9, wr_sa7, wr_sa8, wr_sa9, Nat.reduceLT, Nat.reduceLeDiff, Nat.reduceAdd, Nat.reduceSub, reduceCtorEq, qup_s, qup_q, rmd_e, mx_e, mn_e, n12, n20, n10, n2, n3, n8, n65, cz_88, wz_88, cz_89, wz_89, cz_91, wz_91, cz_92, wz_92, cz_93, wz_93, cz_94, wz_94, cz_95, wz_95, cz_97, wz_97, cz_105, wz_105, cz_106, wz_106, cz_107, wz_107, cz_108, wz_108, cz_110, wz_110, cz_111, wz_111, ck_92, na_92, ck_94, na_94, ck_95, na_95, ck_97, na_97, ck_105, na_105, ck_106, na_106, ck_107, na_107, ck_108, na_108, ck_110, na_110, ck_111, na_111, qn_1_0, qn_0_1, qn_1_2, qn_2_1, qn_0_2, qn_2_0, qn_1_1, qn_0_0, qn_2_2, lt0, lt1, lt2, O_rangeFault, h, hl, c, T_add hl hn]
end OWN1

/-! Street: loops that count and choose -/
section STR3
variable {Q : Nat → St} {Z : Mem} {s : Nat}
theorem hP_n {X : St} {p i : Nat} (hp : X 0 8 = nI p) (h12 : p ≤ 12) (hi : i < p) : hP X (nI i) = true := by
  have h1 := nI_pos (n := i) (by omega)
  have h2 : nI i < X 0 8 := by rw [hp]; exact nI_lt hi (by omega)
  have h3 : nI i < 12 := nI_lt (b := 12) (by omega) (by decide)
  simp [hP, h1, h2, h3]
def turnsv (X : St) (w : Int32) : Nat → Int32
  | 0 => 0
  | i + 1 => if hv X (nI i) = w then turnsv X w i + 1 else turnsv X w i
theorem L_turnsOf (hs : s < 11) (w : Int32) {p : Nat} (hp : Q s 0 8 = nI p) (h12 : p ≤ 12) : ∀ k i, i + k = p → ev yS_turnsOf 4 [some (.ref (sa s)), some (.int w), some (.int (turnsv (Q s) w i)), some (.int (nI i))] [] (cm Q Z) = some (some (.int (turnsv (Q s) w p)), cm Q Z) := by
  intro k
  induction k with
  | zero =>
    intro i hi
    obtain rfl : i = p := by omega
    simp only [sS_turnsOf_0, sS_turnsOf_1, sS_turnsOf_2, sS_turnsOf_3, sS_turnsOf_4, sS_turnsOf_5, sS_turnsOf_6, sS_turnsOf_9, sS_turnsOf_12, sS_turnsOf_13, sS_turnsOf_14, sS_turnsOf_17, sS_turnsOf_18, sS_turnsOf_21, sS_turnsOf_24, sS_turnsOf_27, sS_turnsOf_30, sS_turnsOf_31, rI_s, rJ_s, rA_s, rV_s, cw_0, cw_i, cw_j, cw_r, Nat.zero_le, Nat.le_refl, ↓reduceIte, not_true_eq_false, not_false_eq_true, and_true, true_and, and_self, and_false, false_and, true_or, or_true, false_or, or_false, b2_t, b2_f, b2_0, b2_r, i10, i01, bft, btf, z01, o01, cK_r1, nal_r1, cm_r1, wr_r1, cK_r2, nal_r2, cm_r2, wr_r2, cK_r3, nal_r3, cm_r3, wr_r3, cK_r4, nal_r4, cm_r4, wr_r4, cK_r5, nal_r5, cm_r5, wr_r5, cK_r6, nal_r6, cm_r6, wr_r6, cK_r7, nal_r7, cm_r7, wr_r7, cm_sa7, cm_sa8, cm_sa9, wr_sa7, wr_sa8, wr_sa9, Nat.reduceLT, Nat.reduceLeDiff, Nat.reduceAdd, Nat.reduceSub, reduceCtorEq, qup_s, qup_q, rmd_e, mx_e, mn_e, n12, n20, n10, n2, n3, n8, n65, hs, hp, nge (Nat.le_refl i) (by omega)]
  | succ k ih =>
    intro i hi
    have c := nlt (show i < p by omega) (by omega)
    have e := ih (i + 1) (by omega)
    rw [sS_turnsOf_4]
    by_cases h : hv (Q s) (nI i) = w
    · simp only [turnsv, if_pos h] at e
      simp only [sS_turnsOf_0, sS_turnsOf_1, sS_turnsOf_2, sS_turnsOf_3, sS_turnsOf_5, sS_turnsOf_6, sS_turnsOf_9, sS_turnsOf_12, sS_turnsOf_13, sS_turnsOf_14, sS_turnsOf_17, sS_turnsOf_18, sS_turnsOf_21, sS_turnsOf_24, sS_turnsOf_27, sS_turnsOf_30, sS_turnsOf_31, rI_s, rJ_s, rA_s, rV_s, cw_0, cw_i, cw_j, cw_r, Nat.zero_le, Nat.le_refl, ↓reduceIte, not_true_eq_false, not_false_eq_true, and_true, true_and, and_self, and_false, false_and, true_or, or_true, false_or, or_false, b2_t, b2_f, b2_0, b2_r, i10, i01, bft, btf, z01, o01, cK_r1, nal_r1, cm_r1, wr_r1, cK_r2, nal_r2, cm_r2, wr_r2, cK_r3, nal_r3, cm_r3, wr_r3, cK_r4, nal_r4, cm_r4, wr_r4, cK_r5, nal_r5, cm_r5, wr_r5, cK_r6, nal_r6, cm_r6, wr_r6, cK_r7, nal_r7, cm_r7, wr_r7, cm_sa7, cm_sa8, cm_sa9, wr_sa7, wr_sa8, wr_sa9, Nat.reduceLT, Nat.reduceLeDiff, Nat.reduceAdd, Nat.reduceSub, reduceCtorEq, qup_s, qup_q, rmd_e, mx_e, mn_e, n12, n20, n10, n2, n3, n8, n65, hs, hp, c, S_whoseIs, h, nI_1]
      exact e
    · simp only [turnsv, if_neg h] at e
      simp only [sS_turnsOf_0, sS_turnsOf_1, sS_turnsOf_2, sS_turnsOf_3, sS_turnsOf_5, sS_turnsOf_6, sS_turnsOf_9, sS_turnsOf_12, sS_turnsOf_13, sS_turnsOf_14, sS_turnsOf_17, sS_turnsOf_18, sS_turnsOf_21, sS_turnsOf_24, sS_turnsOf_27, sS_turnsOf_30, sS_turnsOf_31, rI_s, rJ_s, rA_s, rV_s, cw_0, cw_i, cw_j, cw_r, Nat.zero_le, Nat.le_refl, ↓reduceIte, not_true_eq_false, not_false_eq_true, and_true, true_and, and_self, and_false, false_and, true_or, or_true, false_or, or_false, b2_t, b2_f, b2_0, b2_r, i10, i01, bft, btf, z01, o01, cK_r1, nal_r1, cm_r1, wr_r1, cK_r2, nal_r2, cm_r2, wr_r2, cK_r3, nal_r3, cm_r3, wr_r3, cK_r4, nal_r4, cm_r4, wr_r4, cK_r5, nal_r5, cm_r5, wr_r5, cK_r6, nal_r6, cm_r6, wr_r6, cK_r7, nal_r7, cm_r7, wr_r7, cm_sa7, cm_sa8, cm_sa9, wr_sa7, wr_sa8, wr_sa9, Nat.reduceLT, Nat.reduceLeDiff, Nat.reduceAdd, Nat.reduceSub, reduceCtorEq, qup_s, qup_q, rmd_e, mx_e, mn_e, n12, n20, n10, n2, n3, n8, n65, hs, hp, c, S_whoseIs, h, nI_1]
      exact e
theorem S_turnsOf (hs : s < 11) (w : Int32) {p : Nat} (hp : Q s 0 8 = nI p) (h12 : p ≤ 12) : cal yS_turnsOf [.ref (sa s), .int w] (cm Q Z) = some (some (.int (turnsv (Q s) w p)), cm Q Z) := by
  rw [cal_of (L := [some (.ref (sa s)), some (.int w), none, none]) rfl rfl]
  simp only [sS_turnsOf_0, sS_turnsOf_1, sS_turnsOf_2, sS_turnsOf_3, sS_turnsOf_5, sS_turnsOf_6, sS_turnsOf_9, sS_turnsOf_12, sS_turnsOf_13, sS_turnsOf_14, sS_turnsOf_17, sS_turnsOf_18, sS_turnsOf_21, sS_turnsOf_24, sS_turnsOf_27, sS_turnsOf_30, sS_turnsOf_31]
  exact L_turnsOf hs w hp h12 p 0 (by omega)
/-- the WIDOW of most GRIEF so far, and how much -/
def mgv (X : St) : Nat → Int32 × Int32
  | 0 => (-9, -1)
  | i + 1 => if (mgv X i).2 < X 3 (nI i) then (nI i, X 3 (nI i)) else mgv X i
theorem L_mostGrieved (hs : s < 11) {n : Nat} (hn : Q s 0 7 = nI n) (h7 : n ≤ 7) : ∀ k i, i + k = n → ev yS_mostGrieved 7 [some (.ref (sa s)), some (.int (mgv (Q s) i).1), some (.int (mgv (Q s) i).2), some (.int (nI i))] [] (cm Q Z) = some (some (.int (mgv (Q s) n).1), cm Q Z) := by
  intro k
  induction k with
  | zero =>
    intro i hi
    obtain rfl : i = n := by omega
    simp only [sS_mostGrieved_0, sS_mostGrieved_2, sS_mostGrieved_3, sS_mostGrieved_4, sS_mostGrieved_5, sS_mostGrieved_6, sS_mostGrieved_7, sS_mostGrieved_8, sS_mostGrieved_9, sS_mostGrieved_12, sS_mostGrieved_15, sS_mostGrieved_16, sS_mostGrieved_17, sS_mostGrieved_20, sS_mostGrieved_21, sS_mostGrieved_24, sS_mostGrieved_25, sS_mostGrieved_26, sS_mostGrieved_29, sS_mostGrieved_30, sS_mostGrieved_31, sS_mostGrieved_32, sS_mostGrieved_35, sS_mostGrieved_38, sS_mostGrieved_39, rI_s, rJ_s, rA_s, rV_s, cw_0, cw_i, cw_j, cw_r, Nat.zero_le, Nat.le_refl, ↓reduceIte, not_true_eq_false, not_false_eq_true, and_true, true_and, and_self, and_false, false_and, true_or, or_true, false_or, or_false, b2_t, b2_f, b2_0, b2_r, i10, i01, bft, btf, z01, o01, cK_r1, nal_r1, cm_r1, wr_r1, cK_r2, nal_r2, cm_r2, wr_r2, cK_r3, nal_r3, cm_r3, wr_r3, cK_r4, nal_r4, cm_r4, wr_r4, cK_r5, nal_r5, cm_r5, wr_r5, cK_r6, nal_r6, cm_r6, wr_r6, cK_r7, nal_r7, cm_r7, wr_r7, cm_sa7, cm_sa8, cm_sa9, wr_sa7, wr_sa8, wr_sa9, Nat.reduceLT, Nat.reduceLeDiff, Nat.reduceAdd, Nat.reduceSub, reduceCtorEq, qup_s, qup_q, rmd_e, mx_e, mn_e, n12, n20, n10, n2, n3, n8, n65, hs, hn, nge (Nat.le_refl i) (by omega)]
  | succ k ih =>
    intro i hi
    have c := nlt (show i < n by omega) (by omega)
    have hw := hW_n hn h7 (show i < n by omega)
    have e := ih (i + 1) (by omega)
    rw [sS_mostGrieved_7]
    by_cases h : (mgv (Q s) i).2 < Q s 3 (nI i)
    · simp only [mgv, if_pos h] at e
      simp only [sS_mostGrieved_0, sS_mostGrieved_2, sS_mostGrieved_3, sS_mostGrieved_4, sS_mostGrieved_5, sS_mostGrieved_6, sS_mostGrieved_8, sS_mostGrieved_9, sS_mostGrieved_12, sS_mostGrieved_15, sS_mostGrieved_16, sS_mostGrieved_17, sS_mostGrieved_20, sS_mostGrieved_21, sS_mostGrieved_24, sS_mostGrieved_25, sS_mostGrieved_26, sS_mostGrieved_29, sS_mostGrieved_30, sS_mostGrieved_31, sS_mostGrieved_32, sS_mostGrieved_35, sS_mostGrieved_38, sS_mostGrieved_39, rI_s, rJ_s, rA_s, rV_s, cw_0, cw_i, cw_j, cw_r, Nat.zero_le, Nat.le_refl, ↓reduceIte, not_true_eq_false, not_false_eq_true, and_true, true_and, and_self, and_false, false_and, true_or, or_true, false_or, or_false, b2_t, b2_f, b2_0, b2_r, i10, i01, bft, btf, z01, o01, cK_r1, nal_r1, cm_r1, wr_r1, cK_r2, nal_r2, cm_r2, wr_r2, cK_r3, nal_r3, cm_r3, wr_r3, cK_r4, nal_r4, cm_r4, wr_r4, cK_r5, nal_r5, cm_r5, wr_r5, cK_r6, nal_r6, cm_r6, wr_r6, cK_r7, nal_r7, cm_r7, wr_r7, cm_sa7, cm_sa8, cm_sa9, wr_sa7, wr_sa8, wr_sa9, Nat.reduceLT, Nat.reduceLeDiff, Nat.reduceAdd, Nat.reduceSub, reduceCtorEq, qup_s, qup_q, rmd_e, mx_e, mn_e, n12, n20, n10, n2, n3, n8, n65, hs, hn, c, S_griefOf, wv_t hw, h, nI_1]
      exact e
    · simp only [mgv, if_neg h] at e
      simp only [sS_mostGrieved_0, sS_mostGrieved_2, sS_mostGrieved_3, sS_mostGrieved_4, sS_mostGrieved_5, sS_mostGrieved_6, sS_mostGrieved_8, sS_mostGrieved_9, sS_mostGrieved_12, sS_mostGrieved_15, sS_mostGrieved_16, sS_mostGrieved_17, sS_mostGrieved_20, sS_mostGrieved_21, sS_mostGrieved_24, sS_mostGrieved_25, sS_mostGrieved_26, sS_mostGrieved_29, sS_mostGrieved_30, sS_mostGrieved_31, sS_mostGrieved_32, sS_mostGrieved_35, sS_mostGrieved_38, sS_mostGrieved_39, rI_s, rJ_s, rA_s, rV_s, cw_0, cw_i, cw_j, cw_r, Nat.zero_le, Nat.le_refl, ↓reduceIte, not_true_eq_false, not_false_eq_true, and_true, true_and, and_self, and_false, false_and, true_or, or_true, false_or, or_false, b2_t, b2_f, b2_0, b2_r, i10, i01, bft, btf, z01, o01, cK_r1, nal_r1, cm_r1, wr_r1, cK_r2, nal_r2, cm_r2, wr_r2, cK_r3, nal_r3, cm_r3, wr_r3, cK_r4, nal_r4, cm_r4, wr_r4, cK_r5, nal_r5, cm_r5, wr_r5, cK_r6, nal_r6, cm_r6, wr_r6, cK_r7, nal_r7, cm_r7, wr_r7, cm_sa7, cm_sa8, cm_sa9, wr_sa7, wr_sa8, wr_sa9, Nat.reduceLT, Nat.reduceLeDiff, Nat.reduceAdd, Nat.reduceSub, reduceCtorEq, qup_s, qup_q, rmd_e, mx_e, mn_e, n12, n20, n10, n2, n3, n8, n65, hs, hn, c, S_griefOf, wv_t hw, h, nI_1]
      exact e
theorem S_mostGrieved (hs : s < 11) {n : Nat} (hn : Q s 0 7 = nI n) (h7 : n ≤ 7) : cal yS_mostGrieved [.ref (sa s)] (cm Q Z) = some (some (.int (mgv (Q s) n).1), cm Q Z) := by
  rw [cal_of (L := [some (.ref (sa s)), none, none, none]) rfl rfl]
  simp only [sS_mostGrieved_0, sS_mostGrieved_2, sS_mostGrieved_3, sS_mostGrieved_4, sS_mostGrieved_5, sS_mostGrieved_6, sS_mostGrieved_8, sS_mostGrieved_9, sS_mostGrieved_12, sS_mostGrieved_15, sS_mostGrieved_16, sS_mostGrieved_17, sS_mostGrieved_20, sS_mostGrieved_21, sS_mostGrieved_24, sS_mostGrieved_25, sS_mostGrieved_26, sS_mostGrieved_29, sS_mostGrieved_30, sS_mostGrieved_31, sS_mostGrieved_32, sS_mostGrieved_35, sS_mostGrieved_38, sS_mostGrieved_39]
  exact L_mostGrieved hs hn h7 n 0 (by omega)
/-- WIDOWS without a turn, bits -/
def nvv (X : St) (p : Nat) : Nat → Int32
  | 0 => 0
  | i + 1 => if turnsv X (nI i) p = 0 then nvv X p i ||| (1 <<< (nI i &&& 31)) else nvv X p i
theorem L_withoutTurn (hs : s < 11) {n p : Nat} (hn : Q s 0 7 = nI n) (h7 : n ≤ 7) (hp : Q s 0 8 = nI p) (h12 : p ≤ 12) : ∀ k i, i + k = n → ev yS_withoutTurn 4 [some (.ref (sa s)), some (.int (nvv (Q s) p i)), some (.int (nI i))] [] (cm Q Z) = some (some (.int (nvv (Q s) p n)), cm Q Z) := by
  intro k
  induction k with
  | zero =>
    intro i hi
    obtain rfl : i = n := by omega
    simp only [sS_withoutTurn_0, sS_withoutTurn_1, sS_withoutTurn_2, sS_withoutTurn_3, sS_withoutTurn_4, sS_withoutTurn_5, sS_withoutTurn_6, sS_withoutTurn_9, sS_withoutTurn_12, sS_withoutTurn_13, sS_withoutTurn_14, sS_withoutTurn_17, sS_withoutTurn_20, sS_withoutTurn_21, sS_withoutTurn_22, sS_withoutTurn_23, sS_withoutTurn_24, sS_withoutTurn_25, sS_withoutTurn_26, sS_withoutTurn_29, sS_withoutTurn_32, sS_withoutTurn_33, rI_s, rJ_s, rA_s, rV_s, cw_0, cw_i, cw_j, cw_r, Nat.zero_le, Nat.le_refl, ↓reduceIte, not_true_eq_false, not_false_eq_true, and_true, true_and, and_self, and_false, false_and, true_or, or_true, false_or, or_false, b2_t, b2_f, b2_0, b2_r, i10, i01, bft, btf, z01, o01, cK_r1, nal_r1, cm_r1, wr_r1, cK_r2, nal_r2, cm_r2, wr_r2, cK_r3, nal_r3, cm_r3, wr_r3, cK_r4, nal_r4, cm_r4, wr_r4, cK_r5, nal_r5, cm_r5, wr_r5, cK_r6, nal_r6, cm_r6, wr_r6, cK_r7, nal_r7, cm_r7, wr_r7, cm_sa7, cm_sa8, cm_sa9, wr_sa7, wr_sa8, wr_sa9, Nat.reduceLT, Nat.reduceLeDiff, Nat.reduceAdd, Nat.reduceSub, reduceCtorEq, qup_s, qup_q, rmd_e, mx_e, mn_e, n12, n20, n10, n2, n3, n8, n65, hs, hn, nge (Nat.le_refl i) (by omega)]
  | succ k ih =>
    intro i hi
    have c := nlt (show i < n by omega) (by omega)
    have e := ih (i + 1) (by omega)
    rw [sS_withoutTurn_4]
    by_cases h : turnsv (Q s) (nI i) p = 0
    · simp only [nvv, if_pos h] at e
      simp only [sS_withoutTurn_0, sS_withoutTurn_1, sS_withoutTurn_2, sS_withoutTurn_3, sS_withoutTurn_5, sS_withoutTurn_6, sS_withoutTurn_9, sS_withoutTurn_12, sS_withoutTurn_13, sS_withoutTurn_14, sS_withoutTurn_17, sS_withoutTurn_20, sS_withoutTurn_21, sS_withoutTurn_22, sS_withoutTurn_23, sS_withoutTurn_24, sS_withoutTurn_25, sS_withoutTurn_26, sS_withoutTurn_29, sS_withoutTurn_32, sS_withoutTurn_33, rI_s, rJ_s, rA_s, rV_s, cw_0, cw_i, cw_j, cw_r, Nat.zero_le, Nat.le_refl, ↓reduceIte, not_true_eq_false, not_false_eq_true, and_true, true_and, and_self, and_false, false_and, true_or, or_true, false_or, or_false, b2_t, b2_f, b2_0, b2_r, i10, i01, bft, btf, z01, o01, cK_r1, nal_r1, cm_r1, wr_r1, cK_r2, nal_r2, cm_r2, wr_r2, cK_r3, nal_r3, cm_r3, wr_r3, cK_r4, nal_r4, cm_r4, wr_r4, cK_r5, nal_r5, cm_r5, wr_r5, cK_r6, nal_r6, cm_r6, wr_r6, cK_r7, nal_r7, cm_r7, wr_r7, cm_sa7, cm_sa8, cm_sa9, wr_sa7, wr_sa8, wr_sa9, Nat.reduceLT, Nat.reduceLeDiff, Nat.reduceAdd, Nat.reduceSub, reduceCtorEq, qup_s, qup_q, rmd_e, mx_e, mn_e, n12, n20, n10, n2, n3, n8, n65, hs, hn, c, S_turnsOf hs _ hp h12, h, nI_1]
      exact e
    · simp only [nvv, if_neg h] at e
      simp only [sS_withoutTurn_0, sS_withoutTurn_1, sS_withoutTurn_2, sS_withoutTurn_3, sS_withoutTurn_5, sS_withoutTurn_6, sS_withoutTurn_9, sS_withoutTurn_12, sS_withoutTurn_13, sS_withoutTurn_14, sS_withoutTurn_17, sS_withoutTurn_20, sS_withoutTurn_21, sS_withoutTurn_22, sS_withoutTurn_23, sS_withoutTurn_24, sS_withoutTurn_25, sS_withoutTurn_26, sS_withoutTurn_29, sS_withoutTurn_32, sS_withoutTurn_33, rI_s, rJ_s, rA_s, rV_s, cw_0, cw_i, cw_j, cw_r, Nat.zero_le, Nat.le_refl, ↓reduceIte, not_true_eq_false, not_false_eq_true, and_true, true_and, and_self, and_false, false_and, true_or, or_true, false_or, or_false, b2_t, b2_f, b2_0, b2_r, i10, i01, bft, btf, z01, o01, cK_r1, nal_r1, cm_r1, wr_r1, cK_r2, nal_r2, cm_r2, wr_r2, cK_r3, nal_r3, cm_r3, wr_r3, cK_r4, nal_r4, cm_r4, wr_r4, cK_r5, nal_r5, cm_r5, wr_r5, cK_r6, nal_r6, cm_r6, wr_r6, cK_r7, nal_r7, cm_r7, wr_r7, cm_sa7, cm_sa8, cm_sa9, wr_sa7, wr_sa8, wr_sa9, Nat.reduceLT, Nat.reduceLeDiff, Nat.reduceAdd, Nat.reduceSub, reduceCtorEq, qup_s, qup_q, rmd_e, mx_e, mn_e, n12, n20, n10, n2, n3, n8, n65, hs, hn, c, S_turnsOf hs _ hp h12, h, nI_1]
      exact e
theorem S_withoutTurn (hs : s < 11) {n p : Nat} (hn : Q s 0 7 = nI n) (h7 : n ≤ 7) (hp : Q s 0 8 = nI p) (h12 : p ≤ 12) : cal yS_withoutTurn [.ref (sa s)] (cm Q Z) = some (some (.int (nvv (Q s) p n)), cm Q Z) := by
  rw [cal_of (L := [some (.ref (sa s)), none, none]) rfl rfl]
  simp only [sS_withoutTurn_0, sS_withoutTurn_1, sS_withoutTurn_2, sS_withoutTurn_3, sS_withoutTurn_5, sS_withoutTurn_6, sS_withoutTurn_9, sS_withoutTurn_12, sS_withoutTurn_13, sS_withoutTurn_14, sS_withoutTurn_17, sS_withoutTurn_20, sS_withoutTurn_21, sS_withoutTurn_22, sS_withoutTurn_23, sS_withoutTurn_24, sS_withoutTurn_25, sS_withoutTurn_26, sS_withoutTurn_29, sS_withoutTurn_32, sS_withoutTurn_33]
  exact L_withoutTurn hs hn h7 hp h12 n 0 (by omega)
/-- twos with one DAY: of the i-th and those behind it, on what there is -/
def dsI (X : St) (i : Nat) (acc : Int32) : Nat → Int32
  | 0 => acc
  | t + 1 => if X 4 (nI i) = X 4 (nI (i + 1 + t)) then dsI X i acc t + 1 else dsI X i acc t
def dsv (X : St) (n : Nat) : Nat → Int32
  | 0 => 0
  | i + 1 => dsI X i (dsv X n i) (n - (i + 1))
theorem L_daysShared2 (hs : s < 11) {n : Nat} (hn : Q s 0 7 = nI n) (h7 : n ≤ 7) {i : Nat} (hi : i < n) (acc : Int32) {r : Option (Option Value × Mem)} (hr : ∀ o : Option Value, ev yS_daysShared 4 [some (.ref (sa s)), some (.int (dsI (Q s) i acc (n - (i + 1)))), some (.int (nI (i + 1))), o] [] (cm Q Z) = r) : ∀ k t, i + 1 + t + k = n → ev yS_daysShared 16 [some (.ref (sa s)), some (.int (dsI (Q s) i acc t)), some (.int (nI i)), some (.int (nI (i + 1 + t)))] [] (cm Q Z) = r := by
  intro k
  induction k with
  | zero =>
    intro t ht
    obtain rfl : t = n - (i + 1) := by omega
    rw [sS_daysShared_16]
    simp only [sS_daysShared_0, sS_daysShared_1, sS_daysShared_2, sS_daysShared_3, sS_daysShared_5, sS_daysShared_6, sS_daysShared_9, sS_daysShared_12, sS_daysShared_13, sS_daysShared_14, sS_daysShared_15, sS_daysShared_17, sS_daysShared_18, sS_daysShared_21, sS_daysShared_24, sS_daysShared_25, sS_daysShared_26, sS_daysShared_29, sS_daysShared_30, sS_daysShared_31, sS_daysShared_34, sS_daysShared_37, sS_daysShared_40, sS_daysShared_43, sS_daysShared_46, sS_daysShared_49, sS_daysShared_52, sS_daysShared_53, rI_s, rJ_s, rA_s, rV_s, cw_0, cw_i, cw_j, cw_r, Nat.zero_le, Nat.le_refl, ↓reduceIte, not_true_eq_false, not_false_eq_true, and_true, true_and, and_self, and_false, false_and, true_or, or_true, false_or, or_false, b2_t, b2_f, b2_0, b2_r, i10, i01, bft, btf, z01, o01, cK_r1, nal_r1, cm_r1, wr_r1, cK_r2, nal_r2, cm_r2, wr_r2, cK_r3, nal_r3, cm_r3, wr_r3, cK_r4, nal_r4, cm_r4, wr_r4, cK_r5, nal_r5, cm_r5, wr_r5, cK_r6, nal_r6, cm_r6, wr_r6, cK_r7, nal_r7, cm_r7, wr_r7, cm_sa7, cm_sa8, cm_sa9, wr_sa7, wr_sa8, wr_sa9, Nat.reduceLT, Nat.reduceLeDiff, Nat.reduceAdd, Nat.reduceSub, reduceCtorEq, qup_s, qup_q, rmd_e, mx_e, mn_e, n12, n20, n10, n2, n3, n8, n65, hs, hn, nge (show n ≤ i + 1 + (n - (i + 1)) by omega) (by omega), nI_1]
    exact hr _
  | succ k ih =>
    intro t ht
    have c := nlt (show i + 1 + t < n by omega) (by omega)
    have hw := hW_n hn h7 (show i + 1 + t < n by omega)
    have hw2 := hW_n hn h7 hi
    have e := ih (t + 1) (by omega)
    rw [sS_daysShared_16]
    by_cases h : Q s 4 (nI i) = Q s 4 (nI (i + 1 + t))
    · simp only [dsI, if_pos h] at e
      simp only [sS_daysShared_0, sS_daysShared_1, sS_daysShared_2, sS_daysShared_3, sS_daysShared_5, sS_daysShared_6, sS_daysShared_9, sS_daysShared_12, sS_daysShared_13, sS_daysShared_14, sS_daysShared_15, sS_daysShared_17, sS_daysShared_18, sS_daysShared_21, sS_daysShared_24, sS_daysShared_25, sS_daysShared_26, sS_daysShared_29, sS_daysShared_30, sS_daysShared_31, sS_daysShared_34, sS_daysShared_37, sS_daysShared_40, sS_daysShared_43, sS_daysShared_46, sS_daysShared_49, sS_daysShared_52, sS_daysShared_53, rI_s, rJ_s, rA_s, rV_s, cw_0, cw_i, cw_j, cw_r, Nat.zero_le, Nat.le_refl, ↓reduceIte, not_true_eq_false, not_false_eq_true, and_true, true_and, and_self, and_false, false_and, true_or, or_true, false_or, or_false, b2_t, b2_f, b2_0, b2_r, i10, i01, bft, btf, z01, o01, cK_r1, nal_r1, cm_r1, wr_r1, cK_r2, nal_r2, cm_r2, wr_r2, cK_r3, nal_r3, cm_r3, wr_r3, cK_r4, nal_r4, cm_r4, wr_r4, cK_r5, nal_r5, cm_r5, wr_r5, cK_r6, nal_r6, cm_r6, wr_r6, cK_r7, nal_r7, cm_r7, wr_r7, cm_sa7, cm_sa8, cm_sa9, wr_sa7, wr_sa8, wr_sa9, Nat.reduceLT, Nat.reduceLeDiff, Nat.reduceAdd, Nat.reduceSub, reduceCtorEq, qup_s, qup_q, rmd_e, mx_e, mn_e, n12, n20, n10, n2, n3, n8, n65, hs, hn, c, S_dayOf, wv_t hw, wv_t hw2, h, nI_1]
      exact e
    · simp only [dsI, if_neg h] at e
      simp only [sS_daysShared_0, sS_daysShared_1, sS_daysShared_2, sS_daysShared_3, sS_daysShared_5, sS_daysShared_6, sS_daysShared_9, sS_daysShared_12, sS_daysShared_13, sS_daysShared_14, sS_daysShared_15, sS_daysShared_17, sS_daysShared_18, sS_daysShared_21, sS_daysShared_24, sS_daysShared_25, sS_daysShared_26, sS_daysShared_29, sS_daysShared_30, sS_daysShared_31, sS_daysShared_34, sS_daysShared_37, sS_daysShared_40, sS_daysShared_43, sS_daysShared_46, sS_daysShared_49, sS_daysShared_52, sS_daysShared_53, rI_s, rJ_s, rA_s, rV_s, cw_0, cw_i, cw_j, cw_r, Nat.zero_le, Nat.le_refl, ↓reduceIte, not_true_eq_false, not_false_eq_true, and_true, true_and, and_self, and_false, false_and, true_or, or_true, false_or, or_false, b2_t, b2_f, b2_0, b2_r, i10, i01, bft, btf, z01, o01, cK_r1, nal_r1, cm_r1, wr_r1, cK_r2, nal_r2, cm_r2, wr_r2, cK_r3, nal_r3, cm_r3, wr_r3, cK_r4, nal_r4, cm_r4, wr_r4, cK_r5, nal_r5, cm_r5, wr_r5, cK_r6, nal_r6, cm_r6, wr_r6, cK_r7, nal_r7, cm_r7, wr_r7, cm_sa7, cm_sa8, cm_sa9, wr_sa7, wr_sa8, wr_sa9, Nat.reduceLT, Nat.reduceLeDiff, Nat.reduceAdd, Nat.reduceSub, reduceCtorEq, qup_s, qup_q, rmd_e, mx_e, mn_e, n12, n20, n10, n2, n3, n8, n65, hs, hn, c, S_dayOf, wv_t hw, wv_t hw2, h, nI_1]
      exact e
theorem L_daysShared (hs : s < 11) {n : Nat} (hn : Q s 0 7 = nI n) (h7 : n ≤ 7) : ∀ k i, i + k = n → ∀ o : Option Value, ev yS_daysShared 4 [some (.ref (sa s)), some (.int (dsv (Q s) n i)), some (.int (nI i)), o] [] (cm Q Z) = some (some (.int (dsv (Q s) n n)), cm Q Z) := by
  intro k
  induction k with
  | zero =>
    intro i hi o
    obtain rfl : i = n := by omega
    rw [sS_daysShared_4]
    simp only [sS_daysShared_0, sS_daysShared_1, sS_daysShared_2, sS_daysShared_3, sS_daysShared_5, sS_daysShared_6, sS_daysShared_9, sS_daysShared_12, sS_daysShared_13, sS_daysShared_14, sS_daysShared_15, sS_daysShared_17, sS_daysShared_18, sS_daysShared_21, sS_daysShared_24, sS_daysShared_25, sS_daysShared_26, sS_daysShared_29, sS_daysShared_30, sS_daysShared_31, sS_daysShared_34, sS_daysShared_37, sS_daysShared_40, sS_daysShared_43, sS_daysShared_46, sS_daysShared_49, sS_daysShared_52, sS_daysShared_53, rI_s, rJ_s, rA_s, rV_s, cw_0, cw_i, cw_j, cw_r, Nat.zero_le, Nat.le_refl, ↓reduceIte, not_true_eq_false, not_false_eq_true, and_true, true_and, and_self, and_false, false_and, true_or, or_true, false_or, or_false, b2_t, b2_f, b2_0, b2_r, i10, i01, bft, btf, z01, o01, cK_r1, nal_r1, cm_r1, wr_r1, cK_r2, nal_r2, cm_r2, wr_r2, cK_r3, nal_r3, cm_r3, wr_r3, cK_r4, nal_r4, cm_r4, wr_r4, cK_r5, nal_r5, cm_r5, wr_r5, cK_r6, nal_r6, cm_r6, wr_r6, cK_r7, nal_r7, cm_r7, wr_r7, cm_sa7, cm_sa8, cm_sa9, wr_sa7, wr_sa8, wr_sa9, Nat.reduceLT, Nat.reduceLeDiff, Nat.reduceAdd, Nat.reduceSub, reduceCtorEq, qup_s, qup_q, rmd_e, mx_e, mn_e, n12, n20, n10, n2, n3, n8, n65, hs, hn, nge (Nat.le_refl i) (by omega)]
  | succ k ih =>
    intro i hi o
    have c := nlt (show i < n by omega) (by omega)
    have e := ih (i + 1) (by omega)
    rw [sS_daysShared_4]
    simp only [sS_daysShared_0, sS_daysShared_1, sS_daysShared_2, sS_daysShared_3, sS_daysShared_5, sS_daysShared_6, sS_daysShared_9, sS_daysShared_12, sS_daysShared_13, sS_daysShared_14, sS_daysShared_15, sS_daysShared_17, sS_daysShared_18, sS_daysShared_21, sS_daysShared_24, sS_daysShared_25, sS_daysShared_26, sS_daysShared_29, sS_daysShared_30, sS_daysShared_31, sS_daysShared_34, sS_daysShared_37, sS_daysShared_40, sS_daysShared_43, sS_daysShared_46, sS_daysShared_49, sS_daysShared_52, sS_daysShared_53, rI_s, rJ_s, rA_s, rV_s, cw_0, cw_i, cw_j, cw_r, Nat.zero_le, Nat.le_refl, ↓reduceIte, not_true_eq_false, not_false_eq_true, and_true, true_and, and_self, and_false, false_and, true_or, or_true, false_or, or_false, b2_t, b2_f, b2_0, b2_r, i10, i01, bft, btf, z01, o01, cK_r1, nal_r1, cm_r1, wr_r1, cK_r2, nal_r2, cm_r2, wr_r2, cK_r3, nal_r3, cm_r3, wr_r3, cK_r4, nal_r4, cm_r4, wr_r4, cK_r5, nal_r5, cm_r5, wr_r5, cK_r6, nal_r6, cm_r6, wr_r6, cK_r7, nal_r7, cm_r7, wr_r7, cm_sa7, cm_sa8, cm_sa9, wr_sa7, wr_sa8, wr_sa9, Nat.reduceLT, Nat.reduceLeDiff, Nat.reduceAdd, Nat.reduceSub, reduceCtorEq, qup_s, qup_q, rmd_e, mx_e, mn_e, n12, n20, n10, n2, n3, n8, n65, hs, hn, c, nI_1]
    exact L_daysShared2 hs hn h7 (show i < n by omega) (dsv (Q s) n i) e (n - (i + 1)) 0 (by omega)
theorem S_daysShared (hs : s < 11) {n : Nat} (hn : Q s 0 7 = nI n) (h7 : n ≤ 7) : cal yS_daysShared [.ref (sa s)] (cm Q Z) = some (some (.int (dsv (Q s) n n)), cm Q Z) := by
  rw [cal_of (L := [some (.ref (sa s)), none, none, none]) rfl rfl]
  simp only [sS_daysShared_0, sS_daysShared_1, sS_daysShared_2, sS_daysShared_3, sS_daysShared_5, sS_daysShared_6, sS_daysShared_9, sS_daysShared_12, sS_daysShared_13, sS_daysShared_14, sS_daysShared_15, sS_daysShared_17, sS_daysShared_18, sS_daysShared_21, sS_daysShared_24, sS_daysShared_25, sS_daysShared_26, sS_daysShared_29, sS_daysShared_30, sS_daysShared_31, sS_daysShared_34, sS_daysShared_37, sS_daysShared_40, sS_daysShared_43, sS_daysShared_46, sS_daysShared_49, sS_daysShared_52, sS_daysShared_53]
  exact L_daysShared hs hn h7 n 0 (by omega) none
/-- the CLEAREST part so far -/
def clv (X : St) : Nat → Int32
  | 0 => 0
  | i + 1 => if pv X (clv X i) < X 6 (nI (i + 1)) then nI (i + 1) else clv X i
theorem L_clearestPart (hs : s < 11) : ∀ k i, i + k = 2 → ev yS_clearestPart 4 [some (.ref (sa s)), some (.int (clv (Q s) i)), some (.int (nI (i + 1)))] [] (cm Q Z) = some (some (.int (clv (Q s) 2)), cm Q Z) := by
  intro k
  induction k with
  | zero =>
    intro i hi
    obtain rfl : i = 2 := by omega
    simp only [sS_clearestPart_0, sS_clearestPart_1, sS_clearestPart_2, sS_clearestPart_3, sS_clearestPart_4, sS_clearestPart_5, sS_clearestPart_6, sS_clearestPart_9, sS_clearestPart_10, sS_clearestPart_13, sS_clearestPart_14, sS_clearestPart_15, sS_clearestPart_16, sS_clearestPart_17, sS_clearestPart_20, sS_clearestPart_23, sS_clearestPart_24, sS_clearestPart_25, sS_clearestPart_28, sS_clearestPart_31, sS_clearestPart_32, rI_s, rJ_s, rA_s, rV_s, cw_0, cw_i, cw_j, cw_r, Nat.zero_le, Nat.le_refl, ↓reduceIte, not_true_eq_false, not_false_eq_true, and_true, true_and, and_self, and_false, false_and, true_or, or_true, false_or, or_false, b2_t, b2_f, b2_0, b2_r, i10, i01, bft, btf, z01, o01, cK_r1, nal_r1, cm_r1, wr_r1, cK_r2, nal_r2, cm_r2, wr_r2, cK_r3, nal_r3, cm_r3, wr_r3, cK_r4, nal_r4, cm_r4, wr_r4, cK_r5, nal_r5, cm_r5, wr_r5, cK_r6, nal_r6, cm_r6, wr_r6, cK_r7, nal_r7, cm_r7, wr_r7, cm_sa7, cm_sa8, cm_sa9, wr_sa7, wr_sa8, wr_sa9, Nat.reduceLT, Nat.reduceLeDiff, Nat.reduceAdd, Nat.reduceSub, reduceCtorEq, qup_s, qup_q, rmd_e, mx_e, mn_e, n12, n20, n10, n2, n3, n8, n65, hs, n3', l33]
  | succ k ih =>
    intro i hi
    have c : (nI (i + 1) < 3) = True := nlt (b := 3) (by omega) (by decide)
    have c0 := npos (a := i + 1) (by omega)
    have e := ih (i + 1) (by omega)
    rw [sS_clearestPart_4]
    by_cases h : pv (Q s) (clv (Q s) i) < Q s 6 (nI (i + 1))
    · simp only [clv, if_pos h] at e
      simp only [sS_clearestPart_0, sS_clearestPart_1, sS_clearestPart_2, sS_clearestPart_3, sS_clearestPart_5, sS_clearestPart_6, sS_clearestPart_9, sS_clearestPart_10, sS_clearestPart_13, sS_clearestPart_14, sS_clearestPart_15, sS_clearestPart_16, sS_clearestPart_17, sS_clearestPart_20, sS_clearestPart_23, sS_clearestPart_24, sS_clearestPart_25, sS_clearestPart_28, sS_clearestPart_31, sS_clearestPart_32, rI_s, rJ_s, rA_s, rV_s, cw_0, cw_i, cw_j, cw_r, Nat.zero_le, Nat.le_refl, ↓reduceIte, not_true_eq_false, not_false_eq_true, and_true, true_and, and_self, and_false, false_and, true_or, or_true, false_or, or_false, b2_t, b2_f, b2_0, b2_r, i10, i01, bft, btf, z01, o01, cK_r1, nal_r1, cm_r1, wr_r1, cK_r2, nal_r2, cm_r2, wr_r2, cK_r3, nal_r3, cm_r3, wr_r3, cK_r4, nal_r4, cm_r4, wr_r4, cK_r5, nal_r5, cm_r5, wr_r5, cK_r6, nal_r6, cm_r6, wr_r6, cK_r7, nal_r7, cm_r7, wr_r7, cm_sa7, cm_sa8, cm_sa9, wr_sa7, wr_sa8, wr_sa9, Nat.reduceLT, Nat.reduceLeDiff, Nat.reduceAdd, Nat.reduceSub, reduceCtorEq, qup_s, qup_q, rmd_e, mx_e, mn_e, n12, n20, n10, n2, n3, n8, n65, hs, c, c0, S_seenOf, h, nI_1]
      exact e
    · simp only [clv, if_neg h] at e
      simp only [sS_clearestPart_0, sS_clearestPart_1, sS_clearestPart_2, sS_clearestPart_3, sS_clearestPart_5, sS_clearestPart_6, sS_clearestPart_9, sS_clearestPart_10, sS_clearestPart_13, sS_clearestPart_14, sS_clearestPart_15, sS_clearestPart_16, sS_clearestPart_17, sS_clearestPart_20, sS_clearestPart_23, sS_clearestPart_24, sS_clearestPart_25, sS_clearestPart_28, sS_clearestPart_31, sS_clearestPart_32, rI_s, rJ_s, rA_s, rV_s, cw_0, cw_i, cw_j, cw_r, Nat.zero_le, Nat.le_refl, ↓reduceIte, not_true_eq_false, not_false_eq_true, and_true, true_and, and_self, and_false, false_and, true_or, or_true, false_or, or_false, b2_t, b2_f, b2_0, b2_r, i10, i01, bft, btf, z01, o01, cK_r1, nal_r1, cm_r1, wr_r1, cK_r2, nal_r2, cm_r2, wr_r2, cK_r3, nal_r3, cm_r3, wr_r3, cK_r4, nal_r4, cm_r4, wr_r4, cK_r5, nal_r5, cm_r5, wr_r5, cK_r6, nal_r6, cm_r6, wr_r6, cK_r7, nal_r7, cm_r7, wr_r7, cm_sa7, cm_sa8, cm_sa9, wr_sa7, wr_sa8, wr_sa9, Nat.reduceLT, Nat.reduceLeDiff, Nat.reduceAdd, Nat.reduceSub, reduceCtorEq, qup_s, qup_q, rmd_e, mx_e, mn_e, n12, n20, n10, n2, n3, n8, n65, hs, c, c0, S_seenOf, h, nI_1]
      exact e
theorem S_clearestPart (hs : s < 11) : cal yS_clearestPart [.ref (sa s)] (cm Q Z) = some (some (.int (clv (Q s) 2)), cm Q Z) := by
  rw [cal_of (L := [some (.ref (sa s)), none, none]) rfl rfl]
  simp only [sS_clearestPart_0, sS_clearestPart_1, sS_clearestPart_2, sS_clearestPart_3, sS_clearestPart_5, sS_clearestPart_6, sS_clearestPart_9, sS_clearestPart_10, sS_clearestPart_13, sS_clearestPart_14, sS_clearestPart_15, sS_clearestPart_16, sS_clearestPart_17, sS_clearestPart_20, sS_clearestPart_23, sS_clearestPart_24, sS_clearestPart_25, sS_clearestPart_28, sS_clearestPart_31, sS_clearestPart_32]
  exact L_clearestPart hs 2 0 (by omega)
end STR3

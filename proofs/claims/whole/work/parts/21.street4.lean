/-! Street: a WEEK goes by; the ROTA's changes in mind; one becomes another -/
section STR4
variable {Q : Nat → St} {Z : Mem} {s : Nat}
/-- her places are the chapel's -/
def lvX (X : St) (w : Int32) : Nat → St
  | 0 => X
  | i + 1 => if lvX X w i 7 (nI i) = w then wrm (lvX X w i) 7 (nI i) 9 else lvX X w i
theorem L_leaveOut (hs : s < 11) (w : Int32) (X : St) : ∀ k i, i + k = 12 → ev yS_leaveOut 2 [some (.ref (sa s)), some (.int w), some (.int (nI i))] [] (cm (qup Q s (lvX X w i)) Z) = some (none, cm (qup Q s (lvX X w 12)) Z) := by
  intro k
  induction k with
  | zero =>
    intro i hi
    obtain rfl : i = 12 := by omega
    simp only [sS_leaveOut_0, sS_leaveOut_1, sS_leaveOut_2, sS_leaveOut_3, sS_leaveOut_5, sS_leaveOut_8, sS_leaveOut_9, sS_leaveOut_12, sS_leaveOut_13, sS_leaveOut_14, sS_leaveOut_15, sS_leaveOut_18, sS_leaveOut_19, sS_leaveOut_22, sS_leaveOut_23, sS_leaveOut_25, sS_leaveOut_26, sS_leaveOut_29, sS_leaveOut_32, rI_s, rJ_s, rA_s, rV_s, cw_0, cw_i, cw_j, cw_r, Nat.zero_le, Nat.le_refl, ↓reduceIte, not_true_eq_false, not_false_eq_true, and_true, true_and, and_self, and_false, false_and, true_or, or_true, false_or, or_false, b2_t, b2_f, b2_0, b2_r, i10, i01, bft, btf, z01, o01, cK_r1, nal_r1, cm_r1, wr_r1, cK_r2, nal_r2, cm_r2, wr_r2, cK_r3, nal_r3, cm_r3, wr_r3, cK_r4, nal_r4, cm_r4, wr_r4, cK_r5, nal_r5, cm_r5, wr_r5, cK_r6, nal_r6, cm_r6, wr_r6, cK_r7, nal_r7, cm_r7, wr_r7, cm_sa7, cm_sa8, cm_sa9, wr_sa7, wr_sa8, wr_sa9, Nat.reduceLT, Nat.reduceLeDiff, Nat.reduceAdd, Nat.reduceSub, reduceCtorEq, qup_s, qup_q, rmd_e, mx_e, mn_e, n12, n20, n10, n2, n3, n8, n65, hs, n12', Int32.lt_irrefl]
  | succ k ih =>
    intro i hi
    have c : (nI i < 12) = True := nlt (b := 12) (by omega) (by decide)
    have c0 := npos (a := i) (by omega)
    have e := ih (i + 1) (by omega)
    rw [sS_leaveOut_2]
    by_cases h : lvX X w i 7 (nI i) = w
    · simp only [lvX, if_pos h] at e
      simp only [sS_leaveOut_0, sS_leaveOut_1, sS_leaveOut_3, sS_leaveOut_5, sS_leaveOut_8, sS_leaveOut_9, sS_leaveOut_12, sS_leaveOut_13, sS_leaveOut_14, sS_leaveOut_15, sS_leaveOut_18, sS_leaveOut_19, sS_leaveOut_22, sS_leaveOut_23, sS_leaveOut_25, sS_leaveOut_26, sS_leaveOut_29, sS_leaveOut_32, rI_s, rJ_s, rA_s, rV_s, cw_0, cw_i, cw_j, cw_r, Nat.zero_le, Nat.le_refl, ↓reduceIte, not_true_eq_false, not_false_eq_true, and_true, true_and, and_self, and_false, false_and, true_or, or_true, false_or, or_false, b2_t, b2_f, b2_0, b2_r, i10, i01, bft, btf, z01, o01, cK_r1, nal_r1, cm_r1, wr_r1, cK_r2, nal_r2, cm_r2, wr_r2, cK_r3, nal_r3, cm_r3, wr_r3, cK_r4, nal_r4, cm_r4, wr_r4, cK_r5, nal_r5, cm_r5, wr_r5, cK_r6, nal_r6, cm_r6, wr_r6, cK_r7, nal_r7, cm_r7, wr_r7, cm_sa7, cm_sa8, cm_sa9, wr_sa7, wr_sa8, wr_sa9, Nat.reduceLT, Nat.reduceLeDiff, Nat.reduceAdd, Nat.reduceSub, reduceCtorEq, qup_s, qup_q, rmd_e, mx_e, mn_e, n12, n20, n10, n2, n3, n8, n65, hs, c, c0, h, nI_1]
      exact e
    · simp only [lvX, if_neg h] at e
      simp only [sS_leaveOut_0, sS_leaveOut_1, sS_leaveOut_3, sS_leaveOut_5, sS_leaveOut_8, sS_leaveOut_9, sS_leaveOut_12, sS_leaveOut_13, sS_leaveOut_14, sS_leaveOut_15, sS_leaveOut_18, sS_leaveOut_19, sS_leaveOut_22, sS_leaveOut_23, sS_leaveOut_25, sS_leaveOut_26, sS_leaveOut_29, sS_leaveOut_32, rI_s, rJ_s, rA_s, rV_s, cw_0, cw_i, cw_j, cw_r, Nat.zero_le, Nat.le_refl, ↓reduceIte, not_true_eq_false, not_false_eq_true, and_true, true_and, and_self, and_false, false_and, true_or, or_true, false_or, or_false, b2_t, b2_f, b2_0, b2_r, i10, i01, bft, btf, z01, o01, cK_r1, nal_r1, cm_r1, wr_r1, cK_r2, nal_r2, cm_r2, wr_r2, cK_r3, nal_r3, cm_r3, wr_r3, cK_r4, nal_r4, cm_r4, wr_r4, cK_r5, nal_r5, cm_r5, wr_r5, cK_r6, nal_r6, cm_r6, wr_r6, cK_r7, nal_r7, cm_r7, wr_r7, cm_sa7, cm_sa8, cm_sa9, wr_sa7, wr_sa8, wr_sa9, Nat.reduceLT, Nat.reduceLeDiff, Nat.reduceAdd, Nat.reduceSub, reduceCtorEq, qup_s, qup_q, rmd_e, mx_e, mn_e, n12, n20, n10, n2, n3, n8, n65, hs, c, c0, h, nI_1]
      exact e
theorem S_leaveOut (hs : s < 11) (w : Int32) : cal yS_leaveOut [.ref (sa s), .int w] (cm Q Z) = some (none, cm (qup Q s (lvX (Q s) w 12)) Z) := by
  rw [cal_of (L := [some (.ref (sa s)), some (.int w), none]) rfl rfl]
  simp only [sS_leaveOut_0, sS_leaveOut_1, sS_leaveOut_3, sS_leaveOut_5, sS_leaveOut_8, sS_leaveOut_9, sS_leaveOut_12, sS_leaveOut_13, sS_leaveOut_14, sS_leaveOut_15, sS_leaveOut_18, sS_leaveOut_19, sS_leaveOut_22, sS_leaveOut_23, sS_leaveOut_25, sS_leaveOut_26, sS_leaveOut_29, sS_leaveOut_32]
  have := L_leaveOut (Q := Q) (Z := Z) hs w (Q s) 12 0 (by omega)
  simp only [lvX, qup_id] at this
  exact this
/-- a place more: moved on from the last down to it -/
def piX (X : St) : Nat → Nat → St
  | _, 0 => X
  | p, i + 1 => wrm (piX X p i) 7 (nI (p - i)) (piX X p i 7 (nI (p - i) - 1))
theorem piX_0 (X : St) (p : Nat) : ∀ i j, piX X p i 0 j = X 0 j := by
  intro i
  induction i with
  | zero => intro j; rfl
  | succ i ih => intro j; unfold piX; rw [wn_7_0]; exact ih j
theorem L_putIn (hs : s < 11) (h : Int32) {q p : Nat} (hq : q ≤ p) (hp : p < 12) (X : St) (hX : X 0 8 = nI p) : ∀ k i, i + k = p - q → ev yS_putIn 27 [some (.ref (sa s)), some (.int (nI q)), some (.int h), some (.int (nI (p - i)))] [] (cm (qup Q s (piX X p i)) Z) = some (none, cm (qup Q s (wrm (wrm (piX X p (p - q)) 7 (nI q) h) 0 8 (nI (p + 1)))) Z) := by
  intro k
  induction k with
  | zero =>
    intro i hi
    obtain rfl : i = p - q := by omega
    have c : (nI q < nI (p - (p - q))) = False := nge (by omega) (by omega)
    have c0 := npos (a := q) (by omega)
    have c1 : (nI q < 12) = True := nlt (b := 12) (by omega) (by decide)
    have e := piX_0 X p (p - q) 8
    rw [sS_putIn_27]
    simp only [sS_putIn_0, sS_putIn_1, sS_putIn_4, sS_putIn_5, sS_putIn_6, sS_putIn_9, sS_putIn_12, sS_putIn_13, sS_putIn_16, sS_putIn_18, sS_putIn_21, sS_putIn_22, sS_putIn_23, sS_putIn_26, sS_putIn_28, sS_putIn_29, sS_putIn_32, sS_putIn_33, sS_putIn_36, sS_putIn_37, sS_putIn_38, sS_putIn_41, sS_putIn_42, sS_putIn_43, sS_putIn_44, sS_putIn_45, sS_putIn_46, sS_putIn_49, sS_putIn_52, sS_putIn_53, sS_putIn_56, sS_putIn_57, sS_putIn_58, sS_putIn_59, sS_putIn_60, sS_putIn_60b, sS_putIn_61, sS_putIn_64, sS_putIn_65, sS_putIn_66, sS_putIn_69, rI_s, rJ_s, rA_s, rV_s, cw_0, cw_i, cw_j, cw_r, Nat.zero_le, Nat.le_refl, ↓reduceIte, not_true_eq_false, not_false_eq_true, and_true, true_and, and_self, and_false, false_and, true_or, or_true, false_or, or_false, b2_t, b2_f, b2_0, b2_r, i10, i01, bft, btf, z01, o01, cK_r1, nal_r1, cm_r1, wr_r1, cK_r2, nal_r2, cm_r2, wr_r2, cK_r3, nal_r3, cm_r3, wr_r3, cK_r4, nal_r4, cm_r4, wr_r4, cK_r5, nal_r5, cm_r5, wr_r5, cK_r6, nal_r6, cm_r6, wr_r6, cK_r7, nal_r7, cm_r7, wr_r7, cm_sa7, cm_sa8, cm_sa9, wr_sa7, wr_sa8, wr_sa9, Nat.reduceLT, Nat.reduceLeDiff, Nat.reduceAdd, Nat.reduceSub, reduceCtorEq, qup_s, qup_q, rmd_e, mx_e, mn_e, n12, n20, n10, n2, n3, n8, n65, hs, c, c0, c1, wn_7_0, e, hX, nI_1]
  | succ k ih =>
    intro i hi
    have c : (nI q < nI (p - i)) = True := nlt (by omega) (by omega)
    have c0 := npos (a := p - i) (by omega)
    have c1 : (nI (p - i) < 12) = True := nlt (b := 12) (by omega) (by decide)
    have e1 : nI (p - i) - 1 = nI (p - (i + 1)) := by rw [show p - i = (p - (i + 1)) + 1 by omega]; exact nI_pred _
    have e2 : nI (p - i) + (-1) = nI (p - (i + 1)) := by rw [show p - i = (p - (i + 1)) + 1 by omega]; exact pk_m1 _
    have c2 := npos (a := p - (i + 1)) (by omega)
    have c3 : (nI (p - (i + 1)) < 12) = True := nlt (b := 12) (by omega) (by decide)
    have e := ih (i + 1) (by omega)
    rw [sS_putIn_27]
    simp only [piX, e1] at e
    simp only [sS_putIn_0, sS_putIn_1, sS_putIn_4, sS_putIn_5, sS_putIn_6, sS_putIn_9, sS_putIn_12, sS_putIn_13, sS_putIn_16, sS_putIn_18, sS_putIn_21, sS_putIn_22, sS_putIn_23, sS_putIn_26, sS_putIn_28, sS_putIn_29, sS_putIn_32, sS_putIn_33, sS_putIn_36, sS_putIn_37, sS_putIn_38, sS_putIn_41, sS_putIn_42, sS_putIn_43, sS_putIn_44, sS_putIn_45, sS_putIn_46, sS_putIn_49, sS_putIn_52, sS_putIn_53, sS_putIn_56, sS_putIn_57, sS_putIn_58, sS_putIn_59, sS_putIn_60, sS_putIn_60b, sS_putIn_61, sS_putIn_64, sS_putIn_65, sS_putIn_66, sS_putIn_69, rI_s, rJ_s, rA_s, rV_s, cw_0, cw_i, cw_j, cw_r, Nat.zero_le, Nat.le_refl, ↓reduceIte, not_true_eq_false, not_false_eq_true, and_true, true_and, and_self, and_false, false_and, true_or, or_true, false_or, or_false, b2_t, b2_f, b2_0, b2_r, i10, i01, bft, btf, z01, o01, cK_r1, nal_r1, cm_r1, wr_r1, cK_r2, nal_r2, cm_r2, wr_r2, cK_r3, nal_r3, cm_r3, wr_r3, cK_r4, nal_r4, cm_r4, wr_r4, cK_r5, nal_r5, cm_r5, wr_r5, cK_r6, nal_r6, cm_r6, wr_r6, cK_r7, nal_r7, cm_r7, wr_r7, cm_sa7, cm_sa8, cm_sa9, wr_sa7, wr_sa8, wr_sa9, Nat.reduceLT, Nat.reduceLeDiff, Nat.reduceAdd, Nat.reduceSub, reduceCtorEq, qup_s, qup_q, rmd_e, mx_e, mn_e, n12, n20, n10, n2, n3, n8, n65, hs, c, c0, c1, c2, c3, e1, e2]
    exact e
theorem S_putIn (hs : s < 11) (h : Int32) {q p : Nat} (hq : q ≤ p) (hp : p < 12) (hX : Q s 0 8 = nI p) : cal yS_putIn [.ref (sa s), .int (nI q), .int h] (cm Q Z) = some (none, cm (qup Q s (wrm (wrm (piX (Q s) p (p - q)) 7 (nI q) h) 0 8 (nI (p + 1)))) Z) := by
  rw [cal_of (L := [some (.ref (sa s)), some (.int (nI q)), some (.int h), none]) rfl rfl]
  have c0 := npos (a := q) (by omega)
  have c1 : (nI p < nI q) = False := nge (by omega) (by omega)
  have c2 : (nI p < 12) = True := nlt (b := 12) (by omega) (by decide)
  simp only [sS_putIn_0, sS_putIn_1, sS_putIn_4, sS_putIn_5, sS_putIn_6, sS_putIn_9, sS_putIn_12, sS_putIn_13, sS_putIn_16, sS_putIn_18, sS_putIn_21, sS_putIn_22, sS_putIn_23, sS_putIn_26, sS_putIn_28, sS_putIn_29, sS_putIn_32, sS_putIn_33, sS_putIn_36, sS_putIn_37, sS_putIn_38, sS_putIn_41, sS_putIn_42, sS_putIn_43, sS_putIn_44, sS_putIn_45, sS_putIn_46, sS_putIn_49, sS_putIn_52, sS_putIn_53, sS_putIn_56, sS_putIn_57, sS_putIn_58, sS_putIn_59, sS_putIn_60, sS_putIn_60b, sS_putIn_61, sS_putIn_64, sS_putIn_65, sS_putIn_66, sS_putIn_69, rI_s, rJ_s, rA_s, rV_s, cw_0, cw_i, cw_j, cw_r, Nat.zero_le, Nat.le_refl, ↓reduceIte, not_true_eq_false, not_false_eq_true, and_true, true_and, and_self, and_false, false_and, true_or, or_true, false_or, or_false, b2_t, b2_f, b2_0, b2_r, i10, i01, bft, btf, z01, o01, cK_r1, nal_r1, cm_r1, wr_r1, cK_r2, nal_r2, cm_r2, wr_r2, cK_r3, nal_r3, cm_r3, wr_r3, cK_r4, nal_r4, cm_r4, wr_r4, cK_r5, nal_r5, cm_r5, wr_r5, cK_r6, nal_r6, cm_r6, wr_r6, cK_r7, nal_r7, cm_r7, wr_r7, cm_sa7, cm_sa8, cm_sa9, wr_sa7, wr_sa8, wr_sa9, Nat.reduceLT, Nat.reduceLeDiff, Nat.reduceAdd, Nat.reduceSub, reduceCtorEq, qup_s, qup_q, rmd_e, mx_e, mn_e, n12, n20, n10, n2, n3, n8, n65, hs, hX, c0, c1, c2]
  have := L_putIn (Q := Q) (Z := Z) hs h hq hp (Q s) hX (p - q) 0 (by omega)
  simp only [piX, qup_id, Nat.sub_zero] at this
  exact this
/-- DRAWS -/
def zst (z : Int32) : Nat → Int32
  | 0 => z
  | i + 1 => zst z i * 1103515245 + 12345
def drX (X : St) (z : Int32) : Nat → St
  | 0 => X
  | i + 1 => wrm (drX X z i) 7 (nI i) (rmd ((zst z (i + 1) &&& 2147483647) / 65536) (X 0 7))
theorem drX_0 (X : St) (z : Int32) : ∀ i j, drX X z i 0 j = X 0 j := by
  intro i
  induction i with
  | zero => intro j; rfl
  | succ i ih => intro j; unfold drX; rw [wn_7_0]; exact ih j
theorem L_drawRota (hs : s < 11) (z : Int32) (X : St) {n p : Nat} (h0 : 0 < n) (hn : X 0 7 = nI n) (h7 : n ≤ 7) (hp : X 0 8 = nI p) (h12 : p ≤ 12) : ∀ k i, i + k = p → ev yS_drawRota 4 [some (.ref (sa s)), some (.int z), some (.int (zst z i)), some (.int (nI i))] [] (cm (qup Q s (drX X z i)) Z) = some (some (.int (zst z p)), cm (qup Q s (drX X z p)) Z) := by
  intro k
  induction k with
  | zero =>
    intro i hi
    obtain rfl : i = p := by omega
    have e1 := drX_0 X z i 8
    simp only [sS_drawRota_0, sS_drawRota_1, sS_drawRota_2, sS_drawRota_3, sS_drawRota_4, sS_drawRota_5, sS_drawRota_6, sS_drawRota_9, sS_drawRota_12, sS_drawRota_13, sS_drawRota_15, sS_drawRota_18, sS_drawRota_19, sS_drawRota_22, sS_drawRota_25, sS_drawRota_26, sS_drawRota_28, sS_drawRota_29, sS_drawRota_32, sS_drawRota_33, sS_drawRota_34, sS_drawRota_35, sS_drawRota_38, sS_drawRota_39, sS_drawRota_40, sS_drawRota_42, sS_drawRota_43, sS_drawRota_45, sS_drawRota_46, sS_drawRota_47, sS_drawRota_50, sS_drawRota_51, sS_drawRota_52, sS_drawRota_55, sS_drawRota_58, sS_drawRota_59, rI_s, rJ_s, rA_s, rV_s, cw_0, cw_i, cw_j, cw_r, Nat.zero_le, Nat.le_refl, ↓reduceIte, not_true_eq_false, not_false_eq_true, and_true, true_and, and_self, and_false, false_and, true_or, or_true, false_or, or_false, b2_t, b2_f, b2_0, b2_r, i10, i01, bft, btf, z01, o01, cK_r1, nal_r1, cm_r1, wr_r1, cK_r2, nal_r2, cm_r2, wr_r2, cK_r3, nal_r3, cm_r3, wr_r3, cK_r4, nal_r4, cm_r4, wr_r4, cK_r5, nal_r5, cm_r5, wr_r5, cK_r6, nal_r6, cm_r6, wr_r6, cK_r7, nal_r7, cm_r7, wr_r7, cm_sa7, cm_sa8, cm_sa9, wr_sa7, wr_sa8, wr_sa9, Nat.reduceLT, Nat.reduceLeDiff, Nat.reduceAdd, Nat.reduceSub, reduceCtorEq, qup_s, qup_q, rmd_e, mx_e, mn_e, n12, n20, n10, n2, n3, n8, n65, hs, e1, hp, nge (Nat.le_refl i) (by omega)]
  | succ k ih =>
    intro i hi
    have c := nlt (show i < p by omega) (by omega)
    have c1 : (nI i < 12) = True := nlt (b := 12) (by omega) (by decide)
    have c0 := npos (a := i) (by omega)
    have c2 : (0 < nI n) = True := nlt (a := 0) h0 (by omega)
    have c3 : (nI n = 0) = False := eq_false (nI_ne0 h0 (by omega))
    have e1 := drX_0 X z i 8
    have e2 := drX_0 X z i 7
    have e := ih (i + 1) (by omega)
    rw [sS_drawRota_4]
    simp only [drX, zst, hn] at e
    simp only [sS_drawRota_0, sS_drawRota_1, sS_drawRota_2, sS_drawRota_3, sS_drawRota_5, sS_drawRota_6, sS_drawRota_9, sS_drawRota_12, sS_drawRota_13, sS_drawRota_15, sS_drawRota_18, sS_drawRota_19, sS_drawRota_22, sS_drawRota_25, sS_drawRota_26, sS_drawRota_28, sS_drawRota_29, sS_drawRota_32, sS_drawRota_33, sS_drawRota_34, sS_drawRota_35, sS_drawRota_38, sS_drawRota_39, sS_drawRota_40, sS_drawRota_42, sS_drawRota_43, sS_drawRota_45, sS_drawRota_46, sS_drawRota_47, sS_drawRota_50, sS_drawRota_51, sS_drawRota_52, sS_drawRota_55, sS_drawRota_58, sS_drawRota_59, rI_s, rJ_s, rA_s, rV_s, cw_0, cw_i, cw_j, cw_r, Nat.zero_le, Nat.le_refl, ↓reduceIte, not_true_eq_false, not_false_eq_true, and_true, true_and, and_self, and_false, false_and, true_or, or_true, false_or, or_false, b2_t, b2_f, b2_0, b2_r, i10, i01, bft, btf, z01, o01, cK_r1, nal_r1, cm_r1, wr_r1, cK_r2, nal_r2, cm_r2, wr_r2, cK_r3, nal_r3, cm_r3, wr_r3, cK_r4, nal_r4, cm_r4, wr_r4, cK_r5, nal_r5, cm_r5, wr_r5, cK_r6, nal_r6, cm_r6, wr_r6, cK_r7, nal_r7, cm_r7, wr_r7, cm_sa7, cm_sa8, cm_sa9, wr_sa7, wr_sa8, wr_sa9, Nat.reduceLT, Nat.reduceLeDiff, Nat.reduceAdd, Nat.reduceSub, reduceCtorEq, qup_s, qup_q, rmd_e, mx_e, mn_e, n12, n20, n10, n2, n3, n8, n65, hs, c, c0, c1, c2, c3, e1, e2, hn, hp, nI_1]
    exact e
theorem S_drawRota (hs : s < 11) (z : Int32) {n p : Nat} (h0 : 0 < n) (hn : Q s 0 7 = nI n) (h7 : n ≤ 7) (hp : Q s 0 8 = nI p) (h12 : p ≤ 12) : cal yS_drawRota [.ref (sa s), .int z] (cm Q Z) = some (some (.int (zst z p)), cm (qup Q s (drX (Q s) z p)) Z) := by
  rw [cal_of (L := [some (.ref (sa s)), some (.int z), none, none]) rfl rfl]
  simp only [sS_drawRota_0, sS_drawRota_1, sS_drawRota_2, sS_drawRota_3, sS_drawRota_5, sS_drawRota_6, sS_drawRota_9, sS_drawRota_12, sS_drawRota_13, sS_drawRota_15, sS_drawRota_18, sS_drawRota_19, sS_drawRota_22, sS_drawRota_25, sS_drawRota_26, sS_drawRota_28, sS_drawRota_29, sS_drawRota_32, sS_drawRota_33, sS_drawRota_34, sS_drawRota_35, sS_drawRota_38, sS_drawRota_39, sS_drawRota_40, sS_drawRota_42, sS_drawRota_43, sS_drawRota_45, sS_drawRota_46, sS_drawRota_47, sS_drawRota_50, sS_drawRota_51, sS_drawRota_52, sS_drawRota_55, sS_drawRota_58, sS_drawRota_59]
  have := L_drawRota (Q := Q) (Z := Z) hs z (Q s) h0 hn h7 hp h12 p 0 (by omega)
  simp only [drX, zst, qup_id] at this
  exact this
/-- a WEEK with her: MET, COMFORT, then WEARS -/
def hg1 (X : St) (w : Int32) : St := if dM X w = true ∧ X 5 w < 99 then wrm X 5 w (X 5 w + 1) else X
def hg2 (X : St) (w : Int32) : St := wrm (hg1 X w) 3 w (mx 0 (hg1 X w 3 w - comfv (hg1 X w) w))
def hg3 (X : St) (w : Int32) : Nat → St
  | 0 => X
  | i + 1 => wrm (hg3 X w i) 6 (nI i) (mx 0 (mn 99 (hg3 X w i 6 (nI i) - wearv (hg3 X w i) w (nI i))))
def hgX (X : St) (w : Int32) : St := hg3 (hg2 X w) w 3
theorem L_hangWith (hs : s < 11) (w : Int32) (X : St) : ∀ k i, i + k = 3 → ev yS_hangWith 70 [some (.ref (sa s)), some (.int w), some (.int (nI i))] [] (cm (qup Q s (hg3 X w i)) Z) = some (none, cm (qup Q s (hg3 X w 3)) Z) := by
  intro k
  induction k with
  | zero =>
    intro i hi
    obtain rfl : i = 3 := by omega
    simp only [sS_hangWith_0, sS_hangWith_1, sS_hangWith_2, sS_hangWith_5, sS_hangWith_8, sS_hangWith_9, sS_hangWith_10, sS_hangWith_13, sS_hangWith_14, sS_hangWith_15, sS_hangWith_16, sS_hangWith_19, sS_hangWith_21, sS_hangWith_22, sS_hangWith_25, sS_hangWith_26, sS_hangWith_29, sS_hangWith_30, sS_hangWith_31, sS_hangWith_33, sS_hangWith_36, sS_hangWith_37, sS_hangWith_40, sS_hangWith_41, sS_hangWith_42, sS_hangWith_43, sS_hangWith_44, sS_hangWith_45, sS_hangWith_46, sS_hangWith_47, sS_hangWith_50, sS_hangWith_51, sS_hangWith_52, sS_hangWith_53, sS_hangWith_56, sS_hangWith_57, sS_hangWith_58, sS_hangWith_59, sS_hangWith_60, sS_hangWith_63, sS_hangWith_64, sS_hangWith_67, sS_hangWith_68, sS_hangWith_69, sS_hangWith_70, sS_hangWith_71, sS_hangWith_72, sS_hangWith_75, sS_hangWith_76, sS_hangWith_79, sS_hangWith_80, sS_hangWith_81, sS_hangWith_83, sS_hangWith_84, sS_hangWith_87, sS_hangWith_88, sS_hangWith_89, sS_hangWith_90, sS_hangWith_91, sS_hangWith_92, sS_hangWith_95, sS_hangWith_96, sS_hangWith_99, sS_hangWith_102, sS_hangWith_103, sS_hangWith_106, sS_hangWith_109, rI_s, rJ_s, rA_s, rV_s, cw_0, cw_i, cw_j, cw_r, Nat.zero_le, Nat.le_refl, ↓reduceIte, not_true_eq_false, not_false_eq_true, and_true, true_and, and_self, and_false, false_and, true_or, or_true, false_or, or_false, b2_t, b2_f, b2_0, b2_r, i10, i01, bft, btf, z01, o01, cK_r1, nal_r1, cm_r1, wr_r1, cK_r2, nal_r2, cm_r2, wr_r2, cK_r3, nal_r3, cm_r3, wr_r3, cK_r4, nal_r4, cm_r4, wr_r4, cK_r5, nal_r5, cm_r5, wr_r5, cK_r6, nal_r6, cm_r6, wr_r6, cK_r7, nal_r7, cm_r7, wr_r7, cm_sa7, cm_sa8, cm_sa9, wr_sa7, wr_sa8, wr_sa9, Nat.reduceLT, Nat.reduceLeDiff, Nat.reduceAdd, Nat.reduceSub, reduceCtorEq, qup_s, qup_q, rmd_e, mx_e, mn_e, n12, n20, n10, n2, n3, n8, n65, hs, n3', l33]
  | succ k ih =>
    intro i hi
    have c : (nI i < 3) = True := nlt (b := 3) (by omega) (by decide)
    have c0 := npos (a := i) (by omega)
    have e := ih (i + 1) (by omega)
    have e0 : hg3 X w (i + 1) = wrm (hg3 X w i) 6 (nI i) (mx 0 (mn 99 (hg3 X w i 6 (nI i) - wearv (hg3 X w i) w (nI i)))) := rfl
    rw [e0] at e
    rw [sS_hangWith_70]
    simp only [sS_hangWith_0, sS_hangWith_1, sS_hangWith_2, sS_hangWith_5, sS_hangWith_8, sS_hangWith_9, sS_hangWith_10, sS_hangWith_13, sS_hangWith_14, sS_hangWith_15, sS_hangWith_16, sS_hangWith_19, sS_hangWith_21, sS_hangWith_22, sS_hangWith_25, sS_hangWith_26, sS_hangWith_29, sS_hangWith_30, sS_hangWith_31, sS_hangWith_33, sS_hangWith_36, sS_hangWith_37, sS_hangWith_40, sS_hangWith_41, sS_hangWith_42, sS_hangWith_43, sS_hangWith_44, sS_hangWith_45, sS_hangWith_46, sS_hangWith_47, sS_hangWith_50, sS_hangWith_51, sS_hangWith_52, sS_hangWith_53, sS_hangWith_56, sS_hangWith_57, sS_hangWith_58, sS_hangWith_59, sS_hangWith_60, sS_hangWith_63, sS_hangWith_64, sS_hangWith_67, sS_hangWith_68, sS_hangWith_69, sS_hangWith_71, sS_hangWith_72, sS_hangWith_75, sS_hangWith_76, sS_hangWith_79, sS_hangWith_80, sS_hangWith_81, sS_hangWith_83, sS_hangWith_84, sS_hangWith_87, sS_hangWith_88, sS_hangWith_89, sS_hangWith_90, sS_hangWith_91, sS_hangWith_92, sS_hangWith_95, sS_hangWith_96, sS_hangWith_99, sS_hangWith_102, sS_hangWith_103, sS_hangWith_106, sS_hangWith_109, rI_s, rJ_s, rA_s, rV_s, cw_0, cw_i, cw_j, cw_r, Nat.zero_le, Nat.le_refl, ↓reduceIte, not_true_eq_false, not_false_eq_true, and_true, true_and, and_self, and_false, false_and, true_or, or_true, false_or, or_false, b2_t, b2_f, b2_0, b2_r, i10, i01, bft, btf, z01, o01, cK_r1, nal_r1, cm_r1, wr_r1, cK_r2, nal_r2, cm_r2, wr_r2, cK_r3, nal_r3, cm_r3, wr_r3, cK_r4, nal_r4, cm_r4, wr_r4, cK_r5, nal_r5, cm_r5, wr_r5, cK_r6, nal_r6, cm_r6, wr_r6, cK_r7, nal_r7, cm_r7, wr_r7, cm_sa7, cm_sa8, cm_sa9, wr_sa7, wr_sa8, wr_sa9, Nat.reduceLT, Nat.reduceLeDiff, Nat.reduceAdd, Nat.reduceSub, reduceCtorEq, qup_s, qup_q, rmd_e, mx_e, mn_e, n12, n20, n10, n2, n3, n8, n65, hs, c, c0, S_wearOf, nI_1]
    exact e
theorem S_hangWith (hs : s < 11) (w : Int32) (h : hW (Q s) w = true) : cal yS_hangWith [.ref (sa s), .int w] (cm Q Z) = some (none, cm (qup Q s (hgX (Q s) w)) Z) := by
  rw [cal_of (L := [some (.ref (sa s)), some (.int w), none]) rfl rfl]
  obtain ⟨h1, h2, h3⟩ := hW_t h
  have e := L_hangWith (Q := Q) (Z := Z) hs w (hg2 (Q s) w) 3 0 (by omega)
  have e' : ∀ Y, hg3 Y w 0 = Y := fun _ => rfl
  rw [e'] at e
  have hm := dM_h h
  by_cases h4 : Q s 4 w = rmd (Q s 0 9) 12
  · have hd := hm.trans (decide_eq_true h4)
    have h4 := eq_true h4
    by_cases h5 : Q s 5 w < 99
    · simp only [hg2, hg1, hd, h5, and_self, if_true] at e
      simp only [sS_hangWith_0, sS_hangWith_1, sS_hangWith_2, sS_hangWith_5, sS_hangWith_8, sS_hangWith_9, sS_hangWith_10, sS_hangWith_13, sS_hangWith_14, sS_hangWith_15, sS_hangWith_16, sS_hangWith_19, sS_hangWith_21, sS_hangWith_22, sS_hangWith_25, sS_hangWith_26, sS_hangWith_29, sS_hangWith_30, sS_hangWith_31, sS_hangWith_33, sS_hangWith_36, sS_hangWith_37, sS_hangWith_40, sS_hangWith_41, sS_hangWith_42, sS_hangWith_43, sS_hangWith_44, sS_hangWith_45, sS_hangWith_46, sS_hangWith_47, sS_hangWith_50, sS_hangWith_51, sS_hangWith_52, sS_hangWith_53, sS_hangWith_56, sS_hangWith_57, sS_hangWith_58, sS_hangWith_59, sS_hangWith_60, sS_hangWith_63, sS_hangWith_64, sS_hangWith_67, sS_hangWith_68, sS_hangWith_69, sS_hangWith_71, sS_hangWith_72, sS_hangWith_75, sS_hangWith_76, sS_hangWith_79, sS_hangWith_80, sS_hangWith_81, sS_hangWith_83, sS_hangWith_84, sS_hangWith_87, sS_hangWith_88, sS_hangWith_89, sS_hangWith_90, sS_hangWith_91, sS_hangWith_92, sS_hangWith_95, sS_hangWith_96, sS_hangWith_99, sS_hangWith_102, sS_hangWith_103, sS_hangWith_106, sS_hangWith_109, rI_s, rJ_s, rA_s, rV_s, cw_0, cw_i, cw_j, cw_r, Nat.zero_le, Nat.le_refl, ↓reduceIte, not_true_eq_false, not_false_eq_true, and_true, true_and, and_self, and_false, false_and, true_or, or_true, false_or, or_false, b2_t, b2_f, b2_0, b2_r, i10, i01, bft, btf, z01, o01, cK_r1, nal_r1, cm_r1, wr_r1, cK_r2, nal_r2, cm_r2, wr_r2, cK_r3, nal_r3, cm_r3, wr_r3, cK_r4, nal_r4, cm_r4, wr_r4, cK_r5, nal_r5, cm_r5, wr_r5, cK_r6, nal_r6, cm_r6, wr_r6, cK_r7, nal_r7, cm_r7, wr_r7, cm_sa7, cm_sa8, cm_sa9, wr_sa7, wr_sa8, wr_sa9, Nat.reduceLT, Nat.reduceLeDiff, Nat.reduceAdd, Nat.reduceSub, reduceCtorEq, qup_s, qup_q, rmd_e, mx_e, mn_e, n12, n20, n10, n2, n3, n8, n65, hs, S_hasWidow, S_comfortOf, h, h1, h3, h4, h5]
      unfold hgX hg2 hg1
      simp only [hd, h5, and_self, if_true]
      exact e
    · simp only [hg2, hg1, hd, h5, and_false, if_false] at e
      simp only [sS_hangWith_0, sS_hangWith_1, sS_hangWith_2, sS_hangWith_5, sS_hangWith_8, sS_hangWith_9, sS_hangWith_10, sS_hangWith_13, sS_hangWith_14, sS_hangWith_15, sS_hangWith_16, sS_hangWith_19, sS_hangWith_21, sS_hangWith_22, sS_hangWith_25, sS_hangWith_26, sS_hangWith_29, sS_hangWith_30, sS_hangWith_31, sS_hangWith_33, sS_hangWith_36, sS_hangWith_37, sS_hangWith_40, sS_hangWith_41, sS_hangWith_42, sS_hangWith_43, sS_hangWith_44, sS_hangWith_45, sS_hangWith_46, sS_hangWith_47, sS_hangWith_50, sS_hangWith_51, sS_hangWith_52, sS_hangWith_53, sS_hangWith_56, sS_hangWith_57, sS_hangWith_58, sS_hangWith_59, sS_hangWith_60, sS_hangWith_63, sS_hangWith_64, sS_hangWith_67, sS_hangWith_68, sS_hangWith_69, sS_hangWith_71, sS_hangWith_72, sS_hangWith_75, sS_hangWith_76, sS_hangWith_79, sS_hangWith_80, sS_hangWith_81, sS_hangWith_83, sS_hangWith_84, sS_hangWith_87, sS_hangWith_88, sS_hangWith_89, sS_hangWith_90, sS_hangWith_91, sS_hangWith_92, sS_hangWith_95, sS_hangWith_96, sS_hangWith_99, sS_hangWith_102, sS_hangWith_103, sS_hangWith_106, sS_hangWith_109, rI_s, rJ_s, rA_s, rV_s, cw_0, cw_i, cw_j, cw_r, Nat.zero_le, Nat.le_refl, ↓reduceIte, not_true_eq_false, not_false_eq_true, and_true, true_and, and_self, and_false, false_and, true_or, or_true, false_or, or_false, b2_t, b2_f, b2_0, b2_r, i10, i01, bft, btf, z01, o01, cK_r1, nal_r1, cm_r1, wr_r1, cK_r2, nal_r2, cm_r2, wr_r2, cK_r3, nal_r3, cm_r3, wr_r3, cK_r4, nal_r4, cm_r4, wr_r4, cK_r5, nal_r5, cm_r5, wr_r5, cK_r6, nal_r6, cm_r6, wr_r6, cK_r7, nal_r7, cm_r7, wr_r7, cm_sa7, cm_sa8, cm_sa9, wr_sa7, wr_sa8, wr_sa9, Nat.reduceLT, Nat.reduceLeDiff, Nat.reduceAdd, Nat.reduceSub, reduceCtorEq, qup_s, qup_q, rmd_e, mx_e, mn_e, n12, n20, n10, n2, n3, n8, n65, hs, S_hasWidow, S_comfortOf, h, h1, h3, h4, h5]
      unfold hgX hg2 hg1
      simp only [hd, h5, and_false, if_false]
      exact e
  · have hd := hm.trans (decide_eq_false h4)
    have h4 := eq_false h4
    simp only [hg2, hg1, hd, bft, false_and, if_false] at e
    simp only [sS_hangWith_0, sS_hangWith_1, sS_hangWith_2, sS_hangWith_5, sS_hangWith_8, sS_hangWith_9, sS_hangWith_10, sS_hangWith_13, sS_hangWith_14, sS_hangWith_15, sS_hangWith_16, sS_hangWith_19, sS_hangWith_21, sS_hangWith_22, sS_hangWith_25, sS_hangWith_26, sS_hangWith_29, sS_hangWith_30, sS_hangWith_31, sS_hangWith_33, sS_hangWith_36, sS_hangWith_37, sS_hangWith_40, sS_hangWith_41, sS_hangWith_42, sS_hangWith_43, sS_hangWith_44, sS_hangWith_45, sS_hangWith_46, sS_hangWith_47, sS_hangWith_50, sS_hangWith_51, sS_hangWith_52, sS_hangWith_53, sS_hangWith_56, sS_hangWith_57, sS_hangWith_58, sS_hangWith_59, sS_hangWith_60, sS_hangWith_63, sS_hangWith_64, sS_hangWith_67, sS_hangWith_68, sS_hangWith_69, sS_hangWith_71, sS_hangWith_72, sS_hangWith_75, sS_hangWith_76, sS_hangWith_79, sS_hangWith_80, sS_hangWith_81, sS_hangWith_83, sS_hangWith_84, sS_hangWith_87, sS_hangWith_88, sS_hangWith_89, sS_hangWith_90, sS_hangWith_91, sS_hangWith_92, sS_hangWith_95, sS_hangWith_96, sS_hangWith_99, sS_hangWith_102, sS_hangWith_103, sS_hangWith_106, sS_hangWith_109, rI_s, rJ_s, rA_s, rV_s, cw_0, cw_i, cw_j, cw_r, Nat.zero_le, Nat.le_refl, ↓reduceIte, not_true_eq_false, not_false_eq_true, and_true, true_and, and_self, and_false, false_and, true_or, or_true, false_or, or_false, b2_t, b2_f, b2_0, b2_r, i10, i01, bft, btf, z01, o01, cK_r1, nal_r1, cm_r1, wr_r1, cK_r2, nal_r2, cm_r2, wr_r2, cK_r3, nal_r3, cm_r3, wr_r3, cK_r4, nal_r4, cm_r4, wr_r4, cK_r5, nal_r5, cm_r5, wr_r5, cK_r6, nal_r6, cm_r6, wr_r6, cK_r7, nal_r7, cm_r7, wr_r7, cm_sa7, cm_sa8, cm_sa9, wr_sa7, wr_sa8, wr_sa9, Nat.reduceLT, Nat.reduceLeDiff, Nat.reduceAdd, Nat.reduceSub, reduceCtorEq, qup_s, qup_q, rmd_e, mx_e, mn_e, n12, n20, n10, n2, n3, n8, n65, hs, S_hasWidow, S_comfortOf, h, h1, h3, h4]
    unfold hgX hg2 hg1
    simp only [hd, bft, false_and, if_false]
    exact e
/-- GRIEF of all others -/
def agX (X : St) (h : Int32) : Nat → St
  | 0 => X
  | i + 1 => if nI i = h then agX X h i else if agX X h i 3 (nI i) < 99 then wrm (agX X h i) 3 (nI i) (agX X h i 3 (nI i) + 1) else agX X h i
theorem agX_0 (X : St) (h : Int32) : ∀ i j, agX X h i 0 j = X 0 j := by
  intro i
  induction i with
  | zero => intro j; rfl
  | succ i ih =>
    intro j
    unfold agX
    split
    · exact ih j
    · split
      · rw [wn_3_0]; exact ih j
      · exact ih j
theorem hgX_0 (X : St) (w j : Int32) : hgX X w 0 j = X 0 j := by
  have h1 : hg1 X w 0 j = X 0 j := by
    unfold hg1
    split
    · exact wn_5_0
    · rfl
  unfold hgX hg3 hg3 hg3 hg3
  rw [wn_6_0, wn_6_0, wn_6_0]
  unfold hg2
  rw [wn_3_0]
  exact h1
def hst (X : St) (g : Int32) : Int32 := if g = 0 then hostv X 0 else 9
def pw1 (X : St) (h : Int32) : St := if hW X h = true then hgX X h else X
def passX (X : St) (g : Int32) (n : Nat) : St := wrm (agX (pw1 X (hst X g)) (hst X g) n) 0 9 (X 0 9 + 1)
theorem pw1_0 (X : St) (h j : Int32) : pw1 X h 0 j = X 0 j := by
  unfold pw1
  split
  · exact hgX_0 X h j
  · rfl
theorem passX_7 (X : St) (g : Int32) (n : Nat) : passX X g n 0 7 = X 0 7 := by
  unfold passX
  rw [wp_9_7, agX_0, pw1_0]
theorem passX_8 (X : St) (g : Int32) (n : Nat) : passX X g n 0 8 = X 0 8 := by
  unfold passX
  rw [wp_9_8, agX_0, pw1_0]
theorem passX_9 (X : St) (g : Int32) (n : Nat) : passX X g n 0 9 = X 0 9 + 1 := ws
theorem L_passWeek (hs : s < 11) (g h : Int32) (X : St) {n : Nat} (hn : X 0 7 = nI n) (h7 : n ≤ 7) : ∀ k i, i + k = n → ev yS_passWeek 30 [some (.ref (sa s)), some (.int g), some (.int h), some (.int (nI i))] [] (cm (qup Q s (agX X h i)) Z) = some (none, cm (qup Q s (wrm (agX X h n) 0 9 (X 0 9 + 1))) Z) := by
  intro k
  induction k with
  | zero =>
    intro i hi
    obtain rfl : i = n := by omega
    have e1 := agX_0 X h i 7
    have e2 := agX_0 X h i 9
    rw [sS_passWeek_30]
    simp only [sS_passWeek_0, sS_passWeek_1, sS_passWeek_4, sS_passWeek_6, sS_passWeek_9, sS_passWeek_10, sS_passWeek_11, sS_passWeek_14, sS_passWeek_15, sS_passWeek_16, sS_passWeek_17, sS_passWeek_20, sS_passWeek_23, sS_passWeek_24, sS_passWeek_25, sS_passWeek_28, sS_passWeek_29, sS_passWeek_31, sS_passWeek_32, sS_passWeek_35, sS_passWeek_38, sS_passWeek_39, sS_passWeek_41, sS_passWeek_44, sS_passWeek_45, sS_passWeek_46, sS_passWeek_49, sS_passWeek_50, sS_passWeek_53, sS_passWeek_54, sS_passWeek_55, sS_passWeek_57, sS_passWeek_60, sS_passWeek_61, sS_passWeek_64, sS_passWeek_65, sS_passWeek_66, sS_passWeek_67, sS_passWeek_68, sS_passWeek_69, sS_passWeek_70, sS_passWeek_73, sS_passWeek_76, sS_passWeek_77, sS_passWeek_77b, sS_passWeek_78, sS_passWeek_81, sS_passWeek_82, sS_passWeek_83, sS_passWeek_86, rI_s, rJ_s, rA_s, rV_s, cw_0, cw_i, cw_j, cw_r, Nat.zero_le, Nat.le_refl, ↓reduceIte, not_true_eq_false, not_false_eq_true, and_true, true_and, and_self, and_false, false_and, true_or, or_true, false_or, or_false, b2_t, b2_f, b2_0, b2_r, i10, i01, bft, btf, z01, o01, cK_r1, nal_r1, cm_r1, wr_r1, cK_r2, nal_r2, cm_r2, wr_r2, cK_r3, nal_r3, cm_r3, wr_r3, cK_r4, nal_r4, cm_r4, wr_r4, cK_r5, nal_r5, cm_r5, wr_r5, cK_r6, nal_r6, cm_r6, wr_r6, cK_r7, nal_r7, cm_r7, wr_r7, cm_sa7, cm_sa8, cm_sa9, wr_sa7, wr_sa8, wr_sa9, Nat.reduceLT, Nat.reduceLeDiff, Nat.reduceAdd, Nat.reduceSub, reduceCtorEq, qup_s, qup_q, rmd_e, mx_e, mn_e, n12, n20, n10, n2, n3, n8, n65, hs, e1, e2, hn, nge (Nat.le_refl i) (by omega)]
  | succ k ih =>
    intro i hi
    have c := nlt (show i < n by omega) (by omega)
    have c1 : (nI i < 7) = True := nlt (b := 7) (by omega) (by decide)
    have c0 := npos (a := i) (by omega)
    have e1 := agX_0 X h i 7
    have e := ih (i + 1) (by omega)
    rw [sS_passWeek_30]
    by_cases h1 : nI i = h
    · simp only [agX, if_pos h1] at e
      simp only [sS_passWeek_0, sS_passWeek_1, sS_passWeek_4, sS_passWeek_6, sS_passWeek_9, sS_passWeek_10, sS_passWeek_11, sS_passWeek_14, sS_passWeek_15, sS_passWeek_16, sS_passWeek_17, sS_passWeek_20, sS_passWeek_23, sS_passWeek_24, sS_passWeek_25, sS_passWeek_28, sS_passWeek_29, sS_passWeek_31, sS_passWeek_32, sS_passWeek_35, sS_passWeek_38, sS_passWeek_39, sS_passWeek_41, sS_passWeek_44, sS_passWeek_45, sS_passWeek_46, sS_passWeek_49, sS_passWeek_50, sS_passWeek_53, sS_passWeek_54, sS_passWeek_55, sS_passWeek_57, sS_passWeek_60, sS_passWeek_61, sS_passWeek_64, sS_passWeek_65, sS_passWeek_66, sS_passWeek_67, sS_passWeek_68, sS_passWeek_69, sS_passWeek_70, sS_passWeek_73, sS_passWeek_76, sS_passWeek_77, sS_passWeek_77b, sS_passWeek_78, sS_passWeek_81, sS_passWeek_82, sS_passWeek_83, sS_passWeek_86, rI_s, rJ_s, rA_s, rV_s, cw_0, cw_i, cw_j, cw_r, Nat.zero_le, Nat.le_refl, ↓reduceIte, not_true_eq_false, not_false_eq_true, and_true, true_and, and_self, and_false, false_and, true_or, or_true, false_or, or_false, b2_t, b2_f, b2_0, b2_r, i10, i01, bft, btf, z01, o01, cK_r1, nal_r1, cm_r1, wr_r1, cK_r2, nal_r2, cm_r2, wr_r2, cK_r3, nal_r3, cm_r3, wr_r3, cK_r4, nal_r4, cm_r4, wr_r4, cK_r5, nal_r5, cm_r5, wr_r5, cK_r6, nal_r6, cm_r6, wr_r6, cK_r7, nal_r7, cm_r7, wr_r7, cm_sa7, cm_sa8, cm_sa9, wr_sa7, wr_sa8, wr_sa9, Nat.reduceLT, Nat.reduceLeDiff, Nat.reduceAdd, Nat.reduceSub, reduceCtorEq, qup_s, qup_q, rmd_e, mx_e, mn_e, n12, n20, n10, n2, n3, n8, n65, hs, e1, hn, c, c1, eq_true h1, nI_1]
      exact e
    · by_cases h2 : agX X h i 3 (nI i) < 99
      · simp only [agX, if_neg h1, if_pos h2] at e
        simp only [sS_passWeek_0, sS_passWeek_1, sS_passWeek_4, sS_passWeek_6, sS_passWeek_9, sS_passWeek_10, sS_passWeek_11, sS_passWeek_14, sS_passWeek_15, sS_passWeek_16, sS_passWeek_17, sS_passWeek_20, sS_passWeek_23, sS_passWeek_24, sS_passWeek_25, sS_passWeek_28, sS_passWeek_29, sS_passWeek_31, sS_passWeek_32, sS_passWeek_35, sS_passWeek_38, sS_passWeek_39, sS_passWeek_41, sS_passWeek_44, sS_passWeek_45, sS_passWeek_46, sS_passWeek_49, sS_passWeek_50, sS_passWeek_53, sS_passWeek_54, sS_passWeek_55, sS_passWeek_57, sS_passWeek_60, sS_passWeek_61, sS_passWeek_64, sS_passWeek_65, sS_passWeek_66, sS_passWeek_67, sS_passWeek_68, sS_passWeek_69, sS_passWeek_70, sS_passWeek_73, sS_passWeek_76, sS_passWeek_77, sS_passWeek_77b, sS_passWeek_78, sS_passWeek_81, sS_passWeek_82, sS_passWeek_83, sS_passWeek_86, rI_s, rJ_s, rA_s, rV_s, cw_0, cw_i, cw_j, cw_r, Nat.zero_le, Nat.le_refl, ↓reduceIte, not_true_eq_false, not_false_eq_true, and_true, true_and, and_self, and_false, false_and, true_or, or_true, false_or, or_false, b2_t, b2_f, b2_0, b2_r, i10, i01, bft, btf, z01, o01, cK_r1, nal_r1, cm_r1, wr_r1, cK_r2, nal_r2, cm_r2, wr_r2, cK_r3, nal_r3, cm_r3, wr_r3, cK_r4, nal_r4, cm_r4, wr_r4, cK_r5, nal_r5, cm_r5, wr_r5, cK_r6, nal_r6, cm_r6, wr_r6, cK_r7, nal_r7, cm_r7, wr_r7, cm_sa7, cm_sa8, cm_sa9, wr_sa7, wr_sa8, wr_sa9, Nat.reduceLT, Nat.reduceLeDiff, Nat.reduceAdd, Nat.reduceSub, reduceCtorEq, qup_s, qup_q, rmd_e, mx_e, mn_e, n12, n20, n10, n2, n3, n8, n65, hs, e1, hn, c, c0, c1, h1, h2, nI_1]
        exact e
      · simp only [agX, if_neg h1, if_neg h2] at e
        simp only [sS_passWeek_0, sS_passWeek_1, sS_passWeek_4, sS_passWeek_6, sS_passWeek_9, sS_passWeek_10, sS_passWeek_11, sS_passWeek_14, sS_passWeek_15, sS_passWeek_16, sS_passWeek_17, sS_passWeek_20, sS_passWeek_23, sS_passWeek_24, sS_passWeek_25, sS_passWeek_28, sS_passWeek_29, sS_passWeek_31, sS_passWeek_32, sS_passWeek_35, sS_passWeek_38, sS_passWeek_39, sS_passWeek_41, sS_passWeek_44, sS_passWeek_45, sS_passWeek_46, sS_passWeek_49, sS_passWeek_50, sS_passWeek_53, sS_passWeek_54, sS_passWeek_55, sS_passWeek_57, sS_passWeek_60, sS_passWeek_61, sS_passWeek_64, sS_passWeek_65, sS_passWeek_66, sS_passWeek_67, sS_passWeek_68, sS_passWeek_69, sS_passWeek_70, sS_passWeek_73, sS_passWeek_76, sS_passWeek_77, sS_passWeek_77b, sS_passWeek_78, sS_passWeek_81, sS_passWeek_82, sS_passWeek_83, sS_passWeek_86, rI_s, rJ_s, rA_s, rV_s, cw_0, cw_i, cw_j, cw_r, Nat.zero_le, Nat.le_refl, ↓reduceIte, not_true_eq_false, not_false_eq_true, and_true, true_and, and_self, and_false, false_and, true_or, or_true, false_or, or_false, b2_t, b2_f, b2_0, b2_r, i10, i01, bft, btf, z01, o01, cK_r1, nal_r1, cm_r1, wr_r1, cK_r2, nal_r2, cm_r2, wr_r2, cK_r3, nal_r3, cm_r3, wr_r3, cK_r4, nal_r4, cm_r4, wr_r4, cK_r5, nal_r5, cm_r5, wr_r5, cK_r6, nal_r6, cm_r6, wr_r6, cK_r7, nal_r7, cm_r7, wr_r7, cm_sa7, cm_sa8, cm_sa9, wr_sa7, wr_sa8, wr_sa9, Nat.reduceLT, Nat.reduceLeDiff, Nat.reduceAdd, Nat.reduceSub, reduceCtorEq, qup_s, qup_q, rmd_e, mx_e, mn_e, n12, n20, n10, n2, n3, n8, n65, hs, e1, hn, c, c0, c1, h1, h2, nI_1]
        exact e
theorem S_passWeek (hs : s < 11) (g : Int32) {n : Nat} (hn : Q s 0 7 = nI n) (h7 : n ≤ 7) : cal yS_passWeek [.ref (sa s), .int g] (cm Q Z) = some (none, cm (qup Q s (passX (Q s) g n)) Z) := by
  rw [cal_of (L := [some (.ref (sa s)), some (.int g), none, none]) rfl rfl]
  have hn1 : pw1 (Q s) (hst (Q s) g) 0 7 = nI n := by rw [pw1_0]; exact hn
  have e := L_passWeek (Q := Q) (Z := Z) hs g (hst (Q s) g) (pw1 (Q s) (hst (Q s) g)) hn1 h7 n 0 (by omega)
  have e' : ∀ Y h, agX Y h 0 = Y := fun _ _ => rfl
  rw [e', pw1_0] at e
  unfold passX
  rw [← e]
  by_cases h1 : g = 0
  · cases h2 : hW (Q s) (hostv (Q s) 0) with
    | true => simp only [sS_passWeek_0, sS_passWeek_1, sS_passWeek_4, sS_passWeek_6, sS_passWeek_9, sS_passWeek_10, sS_passWeek_11, sS_passWeek_14, sS_passWeek_15, sS_passWeek_16, sS_passWeek_17, sS_passWeek_20, sS_passWeek_23, sS_passWeek_24, sS_passWeek_25, sS_passWeek_28, sS_passWeek_29, sS_passWeek_31, sS_passWeek_32, sS_passWeek_35, sS_passWeek_38, sS_passWeek_39, sS_passWeek_41, sS_passWeek_44, sS_passWeek_45, sS_passWeek_46, sS_passWeek_49, sS_passWeek_50, sS_passWeek_53, sS_passWeek_54, sS_passWeek_55, sS_passWeek_57, sS_passWeek_60, sS_passWeek_61, sS_passWeek_64, sS_passWeek_65, sS_passWeek_66, sS_passWeek_67, sS_passWeek_68, sS_passWeek_69, sS_passWeek_70, sS_passWeek_73, sS_passWeek_76, sS_passWeek_77, sS_passWeek_77b, sS_passWeek_78, sS_passWeek_81, sS_passWeek_82, sS_passWeek_83, sS_passWeek_86, rI_s, rJ_s, rA_s, rV_s, cw_0, cw_i, cw_j, cw_r, Nat.zero_le, Nat.le_refl, ↓reduceIte, not_true_eq_false, not_false_eq_true, and_true, true_and, and_self, and_false, false_and, true_or, or_true, false_or, or_false, b2_t, b2_f, b2_0, b2_r, i10, i01, bft, btf, z01, o01, cK_r1, nal_r1, cm_r1, wr_r1, cK_r2, nal_r2, cm_r2, wr_r2, cK_r3, nal_r3, cm_r3, wr_r3, cK_r4, nal_r4, cm_r4, wr_r4, cK_r5, nal_r5, cm_r5, wr_r5, cK_r6, nal_r6, cm_r6, wr_r6, cK_r7, nal_r7, cm_r7, wr_r7, cm_sa7, cm_sa8, cm_sa9, wr_sa7, wr_sa8, wr_sa9, Nat.reduceLT, Nat.reduceLeDiff, Nat.reduceAdd, Nat.reduceSub, reduceCtorEq, qup_s, qup_q, rmd_e, mx_e, mn_e, n12, n20, n10, n2, n3, n8, n65, hs, h1, S_hostIn, S_hasWidow, h2, S_hangWith hs _ h2, hst, pw1, n0']
    | false => simp only [sS_passWeek_0, sS_passWeek_1, sS_passWeek_4, sS_passWeek_6, sS_passWeek_9, sS_passWeek_10, sS_passWeek_11, sS_passWeek_14, sS_passWeek_15, sS_passWeek_16, sS_passWeek_17, sS_passWeek_20, sS_passWeek_23, sS_passWeek_24, sS_passWeek_25, sS_passWeek_28, sS_passWeek_29, sS_passWeek_31, sS_passWeek_32, sS_passWeek_35, sS_passWeek_38, sS_passWeek_39, sS_passWeek_41, sS_passWeek_44, sS_passWeek_45, sS_passWeek_46, sS_passWeek_49, sS_passWeek_50, sS_passWeek_53, sS_passWeek_54, sS_passWeek_55, sS_passWeek_57, sS_passWeek_60, sS_passWeek_61, sS_passWeek_64, sS_passWeek_65, sS_passWeek_66, sS_passWeek_67, sS_passWeek_68, sS_passWeek_69, sS_passWeek_70, sS_passWeek_73, sS_passWeek_76, sS_passWeek_77, sS_passWeek_77b, sS_passWeek_78, sS_passWeek_81, sS_passWeek_82, sS_passWeek_83, sS_passWeek_86, rI_s, rJ_s, rA_s, rV_s, cw_0, cw_i, cw_j, cw_r, Nat.zero_le, Nat.le_refl, ↓reduceIte, not_true_eq_false, not_false_eq_true, and_true, true_and, and_self, and_false, false_and, true_or, or_true, false_or, or_false, b2_t, b2_f, b2_0, b2_r, i10, i01, bft, btf, z01, o01, cK_r1, nal_r1, cm_r1, wr_r1, cK_r2, nal_r2, cm_r2, wr_r2, cK_r3, nal_r3, cm_r3, wr_r3, cK_r4, nal_r4, cm_r4, wr_r4, cK_r5, nal_r5, cm_r5, wr_r5, cK_r6, nal_r6, cm_r6, wr_r6, cK_r7, nal_r7, cm_r7, wr_r7, cm_sa7, cm_sa8, cm_sa9, wr_sa7, wr_sa8, wr_sa9, Nat.reduceLT, Nat.reduceLeDiff, Nat.reduceAdd, Nat.reduceSub, reduceCtorEq, qup_s, qup_q, rmd_e, mx_e, mn_e, n12, n20, n10, n2, n3, n8, n65, hs, h1, S_hostIn, S_hasWidow, h2, hst, pw1, n0', qup_id]
  · cases h2 : hW (Q s) 9 with
    | true => simp only [sS_passWeek_0, sS_passWeek_1, sS_passWeek_4, sS_passWeek_6, sS_passWeek_9, sS_passWeek_10, sS_passWeek_11, sS_passWeek_14, sS_passWeek_15, sS_passWeek_16, sS_passWeek_17, sS_passWeek_20, sS_passWeek_23, sS_passWeek_24, sS_passWeek_25, sS_passWeek_28, sS_passWeek_29, sS_passWeek_31, sS_passWeek_32, sS_passWeek_35, sS_passWeek_38, sS_passWeek_39, sS_passWeek_41, sS_passWeek_44, sS_passWeek_45, sS_passWeek_46, sS_passWeek_49, sS_passWeek_50, sS_passWeek_53, sS_passWeek_54, sS_passWeek_55, sS_passWeek_57, sS_passWeek_60, sS_passWeek_61, sS_passWeek_64, sS_passWeek_65, sS_passWeek_66, sS_passWeek_67, sS_passWeek_68, sS_passWeek_69, sS_passWeek_70, sS_passWeek_73, sS_passWeek_76, sS_passWeek_77, sS_passWeek_77b, sS_passWeek_78, sS_passWeek_81, sS_passWeek_82, sS_passWeek_83, sS_passWeek_86, rI_s, rJ_s, rA_s, rV_s, cw_0, cw_i, cw_j, cw_r, Nat.zero_le, Nat.le_refl, ↓reduceIte, not_true_eq_false, not_false_eq_true, and_true, true_and, and_self, and_false, false_and, true_or, or_true, false_or, or_false, b2_t, b2_f, b2_0, b2_r, i10, i01, bft, btf, z01, o01, cK_r1, nal_r1, cm_r1, wr_r1, cK_r2, nal_r2, cm_r2, wr_r2, cK_r3, nal_r3, cm_r3, wr_r3, cK_r4, nal_r4, cm_r4, wr_r4, cK_r5, nal_r5, cm_r5, wr_r5, cK_r6, nal_r6, cm_r6, wr_r6, cK_r7, nal_r7, cm_r7, wr_r7, cm_sa7, cm_sa8, cm_sa9, wr_sa7, wr_sa8, wr_sa9, Nat.reduceLT, Nat.reduceLeDiff, Nat.reduceAdd, Nat.reduceSub, reduceCtorEq, qup_s, qup_q, rmd_e, mx_e, mn_e, n12, n20, n10, n2, n3, n8, n65, hs, h1, S_hasWidow, h2, S_hangWith hs _ h2, hst, pw1, n0']
    | false => simp only [sS_passWeek_0, sS_passWeek_1, sS_passWeek_4, sS_passWeek_6, sS_passWeek_9, sS_passWeek_10, sS_passWeek_11, sS_passWeek_14, sS_passWeek_15, sS_passWeek_16, sS_passWeek_17, sS_passWeek_20, sS_passWeek_23, sS_passWeek_24, sS_passWeek_25, sS_passWeek_28, sS_passWeek_29, sS_passWeek_31, sS_passWeek_32, sS_passWeek_35, sS_passWeek_38, sS_passWeek_39, sS_passWeek_41, sS_passWeek_44, sS_passWeek_45, sS_passWeek_46, sS_passWeek_49, sS_passWeek_50, sS_passWeek_53, sS_passWeek_54, sS_passWeek_55, sS_passWeek_57, sS_passWeek_60, sS_passWeek_61, sS_passWeek_64, sS_passWeek_65, sS_passWeek_66, sS_passWeek_67, sS_passWeek_68, sS_passWeek_69, sS_passWeek_70, sS_passWeek_73, sS_passWeek_76, sS_passWeek_77, sS_passWeek_77b, sS_passWeek_78, sS_passWeek_81, sS_passWeek_82, sS_passWeek_83, sS_passWeek_86, rI_s, rJ_s, rA_s, rV_s, cw_0, cw_i, cw_j, cw_r, Nat.zero_le, Nat.le_refl, ↓reduceIte, not_true_eq_false, not_false_eq_true, and_true, true_and, and_self, and_false, false_and, true_or, or_true, false_or, or_false, b2_t, b2_f, b2_0, b2_r, i10, i01, bft, btf, z01, o01, cK_r1, nal_r1, cm_r1, wr_r1, cK_r2, nal_r2, cm_r2, wr_r2, cK_r3, nal_r3, cm_r3, wr_r3, cK_r4, nal_r4, cm_r4, wr_r4, cK_r5, nal_r5, cm_r5, wr_r5, cK_r6, nal_r6, cm_r6, wr_r6, cK_r7, nal_r7, cm_r7, wr_r7, cm_sa7, cm_sa8, cm_sa9, wr_sa7, wr_sa8, wr_sa9, Nat.reduceLT, Nat.reduceLeDiff, Nat.reduceAdd, Nat.reduceSub, reduceCtorEq, qup_s, qup_q, rmd_e, mx_e, mn_e, n12, n20, n10, n2, n3, n8, n65, hs, h1, S_hasWidow, h2, hst, pw1, n0', qup_id]
/-- WEEKS go by -/
def wksX (X : St) (n : Nat) : Nat → St
  | 0 => X
  | i + 1 => passX (wksX X n i) 0 n
theorem wksX_7 (X : St) (n : Nat) : ∀ i, wksX X n i 0 7 = X 0 7 := by
  intro i
  induction i with
  | zero => rfl
  | succ i ih => unfold wksX; rw [passX_7]; exact ih
theorem wksX_8 (X : St) (n : Nat) : ∀ i, wksX X n i 0 8 = X 0 8 := by
  intro i
  induction i with
  | zero => rfl
  | succ i ih => unfold wksX; rw [passX_8]; exact ih
theorem L_passWeeks (hs : s < 11) (X : St) {n m : Nat} (hn : X 0 7 = nI n) (h7 : n ≤ 7) (hm : m < 1000) : ∀ k i, i + k = m → ev yS_passWeeks 2 [some (.ref (sa s)), some (.int (nI m)), some (.int (nI i))] [] (cm (qup Q s (wksX X n i)) Z) = some (none, cm (qup Q s (wksX X n m)) Z) := by
  intro k
  induction k with
  | zero =>
    intro i hi
    obtain rfl : i = m := by omega
    simp only [sS_passWeeks_0, sS_passWeeks_1, sS_passWeeks_2, sS_passWeeks_3, sS_passWeeks_4, sS_passWeeks_7, sS_passWeeks_8, sS_passWeeks_9, sS_passWeeks_12, sS_passWeeks_15, sS_passWeeks_18, rI_s, rJ_s, rA_s, rV_s, cw_0, cw_i, cw_j, cw_r, Nat.zero_le, Nat.le_refl, ↓reduceIte, not_true_eq_false, not_false_eq_true, and_true, true_and, and_self, and_false, false_and, true_or, or_true, false_or, or_false, b2_t, b2_f, b2_0, b2_r, i10, i01, bft, btf, z01, o01, cK_r1, nal_r1, cm_r1, wr_r1, cK_r2, nal_r2, cm_r2, wr_r2, cK_r3, nal_r3, cm_r3, wr_r3, cK_r4, nal_r4, cm_r4, wr_r4, cK_r5, nal_r5, cm_r5, wr_r5, cK_r6, nal_r6, cm_r6, wr_r6, cK_r7, nal_r7, cm_r7, wr_r7, cm_sa7, cm_sa8, cm_sa9, wr_sa7, wr_sa8, wr_sa9, Nat.reduceLT, Nat.reduceLeDiff, Nat.reduceAdd, Nat.reduceSub, reduceCtorEq, qup_s, qup_q, rmd_e, mx_e, mn_e, n12, n20, n10, n2, n3, n8, n65, hs, nge (Nat.le_refl i) (by omega)]
  | succ k ih =>
    intro i hi
    have c := nlt (show i < m by omega) (by omega)
    have e := ih (i + 1) (by omega)
    have hn1 : qup Q s (wksX X n i) s 0 7 = nI n := by rw [qup_s, wksX_7]; exact hn
    rw [sS_passWeeks_2]
    simp only [wksX] at e
    simp only [sS_passWeeks_0, sS_passWeeks_1, sS_passWeeks_3, sS_passWeeks_4, sS_passWeeks_7, sS_passWeeks_8, sS_passWeeks_9, sS_passWeeks_12, sS_passWeeks_15, sS_passWeeks_18, rI_s, rJ_s, rA_s, rV_s, cw_0, cw_i, cw_j, cw_r, Nat.zero_le, Nat.le_refl, ↓reduceIte, not_true_eq_false, not_false_eq_true, and_true, true_and, and_self, and_false, false_and, true_or, or_true, false_or, or_false, b2_t, b2_f, b2_0, b2_r, i10, i01, bft, btf, z01, o01, cK_r1, nal_r1, cm_r1, wr_r1, cK_r2, nal_r2, cm_r2, wr_r2, cK_r3, nal_r3, cm_r3, wr_r3, cK_r4, nal_r4, cm_r4, wr_r4, cK_r5, nal_r5, cm_r5, wr_r5, cK_r6, nal_r6, cm_r6, wr_r6, cK_r7, nal_r7, cm_r7, wr_r7, cm_sa7, cm_sa8, cm_sa9, wr_sa7, wr_sa8, wr_sa9, Nat.reduceLT, Nat.reduceLeDiff, Nat.reduceAdd, Nat.reduceSub, reduceCtorEq, qup_s, qup_q, rmd_e, mx_e, mn_e, n12, n20, n10, n2, n3, n8, n65, hs, c, S_passWeek hs 0 hn1 h7, nI_1]
    exact e
theorem S_passWeeks (hs : s < 11) {n m : Nat} (hn : Q s 0 7 = nI n) (h7 : n ≤ 7) (hm : m < 1000) : cal yS_passWeeks [.ref (sa s), .int (nI m)] (cm Q Z) = some (none, cm (qup Q s (wksX (Q s) n m)) Z) := by
  rw [cal_of (L := [some (.ref (sa s)), some (.int (nI m)), none]) rfl rfl]
  simp only [sS_passWeeks_0, sS_passWeeks_1, sS_passWeeks_3, sS_passWeeks_4, sS_passWeeks_7, sS_passWeeks_8, sS_passWeeks_9, sS_passWeeks_12, sS_passWeeks_15, sS_passWeeks_18]
  have := L_passWeeks (Q := Q) (Z := Z) hs (Q s) hn h7 hm m 0 (by omega)
  simp only [wksX, qup_id] at this
  exact this
def cnt (x : Int32) : Nat := x.toNatClampNeg
theorem cnt_n {n : Nat} (h : n < 2147483648) : cnt (nI n) = n := nI_clamp h
/-- WEEKS that may pass -/
def wkB (X : St) (a : Int32) : Bool := !(decide (a < 1)) && (!(decide (60 < a)) && !(decide (999 < X 0 9 + a)))
theorem L_letPass (hs : s < 11) (X : St) {n m : Nat} (hn : X 0 7 = nI n) (h7 : n ≤ 7) (hm : m < 1000) : ∀ k i, i + k = m → ev yS_letPass 27 [some (.ref (sa s)), some (.int (nI m)), some (.int (nI i))] [] (cm (qup Q s (wksX X n i)) Z) = some (some (.int 1), cm (qup Q s (wksX X n m)) Z) := by
  intro k
  induction k with
  | zero =>
    intro i hi
    obtain rfl : i = m := by omega
    simp only [sS_letPass_0, sS_letPass_1, sS_letPass_2, sS_letPass_5, sS_letPass_6, sS_letPass_8, sS_letPass_11, sS_letPass_12, sS_letPass_15, sS_letPass_16, sS_letPass_17, sS_letPass_20, sS_letPass_23, sS_letPass_24, sS_letPass_25, sS_letPass_26, sS_letPass_27, sS_letPass_28, sS_letPass_29, sS_letPass_32, sS_letPass_33, sS_letPass_34, sS_letPass_37, sS_letPass_40, sS_letPass_43, sS_letPass_44, rI_s, rJ_s, rA_s, rV_s, cw_0, cw_i, cw_j, cw_r, Nat.zero_le, Nat.le_refl, ↓reduceIte, not_true_eq_false, not_false_eq_true, and_true, true_and, and_self, and_false, false_and, true_or, or_true, false_or, or_false, b2_t, b2_f, b2_0, b2_r, i10, i01, bft, btf, z01, o01, cK_r1, nal_r1, cm_r1, wr_r1, cK_r2, nal_r2, cm_r2, wr_r2, cK_r3, nal_r3, cm_r3, wr_r3, cK_r4, nal_r4, cm_r4, wr_r4, cK_r5, nal_r5, cm_r5, wr_r5, cK_r6, nal_r6, cm_r6, wr_r6, cK_r7, nal_r7, cm_r7, wr_r7, cm_sa7, cm_sa8, cm_sa9, wr_sa7, wr_sa8, wr_sa9, Nat.reduceLT, Nat.reduceLeDiff, Nat.reduceAdd, Nat.reduceSub, reduceCtorEq, qup_s, qup_q, rmd_e, mx_e, mn_e, n12, n20, n10, n2, n3, n8, n65, hs, nge (Nat.le_refl i) (by omega)]
  | succ k ih =>
    intro i hi
    have c := nlt (show i < m by omega) (by omega)
    have e := ih (i + 1) (by omega)
    have hn1 : qup Q s (wksX X n i) s 0 7 = nI n := by rw [qup_s, wksX_7]; exact hn
    rw [sS_letPass_27]
    simp only [wksX] at e
    simp only [sS_letPass_0, sS_letPass_1, sS_letPass_2, sS_letPass_5, sS_letPass_6, sS_letPass_8, sS_letPass_11, sS_letPass_12, sS_letPass_15, sS_letPass_16, sS_letPass_17, sS_letPass_20, sS_letPass_23, sS_letPass_24, sS_letPass_25, sS_letPass_26, sS_letPass_28, sS_letPass_29, sS_letPass_32, sS_letPass_33, sS_letPass_34, sS_letPass_37, sS_letPass_40, sS_letPass_43, sS_letPass_44, rI_s, rJ_s, rA_s, rV_s, cw_0, cw_i, cw_j, cw_r, Nat.zero_le, Nat.le_refl, ↓reduceIte, not_true_eq_false, not_false_eq_true, and_true, true_and, and_self, and_false, false_and, true_or, or_true, false_or, or_false, b2_t, b2_f, b2_0, b2_r, i10, i01, bft, btf, z01, o01, cK_r1, nal_r1, cm_r1, wr_r1, cK_r2, nal_r2, cm_r2, wr_r2, cK_r3, nal_r3, cm_r3, wr_r3, cK_r4, nal_r4, cm_r4, wr_r4, cK_r5, nal_r5, cm_r5, wr_r5, cK_r6, nal_r6, cm_r6, wr_r6, cK_r7, nal_r7, cm_r7, wr_r7, cm_sa7, cm_sa8, cm_sa9, wr_sa7, wr_sa8, wr_sa9, Nat.reduceLT, Nat.reduceLeDiff, Nat.reduceAdd, Nat.reduceSub, reduceCtorEq, qup_s, qup_q, rmd_e, mx_e, mn_e, n12, n20, n10, n2, n3, n8, n65, hs, c, S_passWeek hs 0 hn1 h7, nI_1]
    exact e
theorem S_letPass (hs : s < 11) {n : Nat} (hn : Q s 0 7 = nI n) (h7 : n ≤ 7) (a : Int32) : cal yS_letPass [.ref (sa s), .int a] (cm Q Z) = some (some (.int (b2 (wkB (Q s) a))), cm (if wkB (Q s) a = true then qup Q s (wksX (Q s) n (cnt a)) else Q) Z) := by
  rw [cal_of (L := [some (.ref (sa s)), some (.int a), none]) rfl rfl]
  by_cases h1 : a < 1
  · simp only [sS_letPass_0, sS_letPass_1, sS_letPass_2, sS_letPass_5, sS_letPass_6, sS_letPass_8, sS_letPass_11, sS_letPass_12, sS_letPass_15, sS_letPass_16, sS_letPass_17, sS_letPass_20, sS_letPass_23, sS_letPass_24, sS_letPass_25, sS_letPass_26, sS_letPass_28, sS_letPass_29, sS_letPass_32, sS_letPass_33, sS_letPass_34, sS_letPass_37, sS_letPass_40, sS_letPass_43, sS_letPass_44, rI_s, rJ_s, rA_s, rV_s, cw_0, cw_i, cw_j, cw_r, Nat.zero_le, Nat.le_refl, ↓reduceIte, not_true_eq_false, not_false_eq_true, and_true, true_and, and_self, and_false, false_and, true_or, or_true, false_or, or_false, b2_t, b2_f, b2_0, b2_r, i10, i01, bft, btf, z01, o01, cK_r1, nal_r1, cm_r1, wr_r1, cK_r2, nal_r2, cm_r2, wr_r2, cK_r3, nal_r3, cm_r3, wr_r3, cK_r4, nal_r4, cm_r4, wr_r4, cK_r5, nal_r5, cm_r5, wr_r5, cK_r6, nal_r6, cm_r6, wr_r6, cK_r7, nal_r7, cm_r7, wr_r7, cm_sa7, cm_sa8, cm_sa9, wr_sa7, wr_sa8, wr_sa9, Nat.reduceLT, Nat.reduceLeDiff, Nat.reduceAdd, Nat.reduceSub, reduceCtorEq, qup_s, qup_q, rmd_e, mx_e, mn_e, n12, n20, n10, n2, n3, n8, n65, decide_true, decide_false, Bool.not_true, Bool.not_false, Bool.false_and, Bool.and_false, Bool.true_and, Bool.and_true, Bool.and_self, hs, h1, wkB]
  · by_cases h2 : 60 < a
    · simp only [sS_letPass_0, sS_letPass_1, sS_letPass_2, sS_letPass_5, sS_letPass_6, sS_letPass_8, sS_letPass_11, sS_letPass_12, sS_letPass_15, sS_letPass_16, sS_letPass_17, sS_letPass_20, sS_letPass_23, sS_letPass_24, sS_letPass_25, sS_letPass_26, sS_letPass_28, sS_letPass_29, sS_letPass_32, sS_letPass_33, sS_letPass_34, sS_letPass_37, sS_letPass_40, sS_letPass_43, sS_letPass_44, rI_s, rJ_s, rA_s, rV_s, cw_0, cw_i, cw_j, cw_r, Nat.zero_le, Nat.le_refl, ↓reduceIte, not_true_eq_false, not_false_eq_true, and_true, true_and, and_self, and_false, false_and, true_or, or_true, false_or, or_false, b2_t, b2_f, b2_0, b2_r, i10, i01, bft, btf, z01, o01, cK_r1, nal_r1, cm_r1, wr_r1, cK_r2, nal_r2, cm_r2, wr_r2, cK_r3, nal_r3, cm_r3, wr_r3, cK_r4, nal_r4, cm_r4, wr_r4, cK_r5, nal_r5, cm_r5, wr_r5, cK_r6, nal_r6, cm_r6, wr_r6, cK_r7, nal_r7, cm_r7, wr_r7, cm_sa7, cm_sa8, cm_sa9, wr_sa7, wr_sa8, wr_sa9, Nat.reduceLT, Nat.reduceLeDiff, Nat.reduceAdd, Nat.reduceSub, reduceCtorEq, qup_s, qup_q, rmd_e, mx_e, mn_e, n12, n20, n10, n2, n3, n8, n65, decide_true, decide_false, Bool.not_true, Bool.not_false, Bool.false_and, Bool.and_false, Bool.true_and, Bool.and_true, Bool.and_self, hs, h1, h2, wkB]
    · by_cases h3 : 999 < Q s 0 9 + a
      · simp only [sS_letPass_0, sS_letPass_1, sS_letPass_2, sS_letPass_5, sS_letPass_6, sS_letPass_8, sS_letPass_11, sS_letPass_12, sS_letPass_15, sS_letPass_16, sS_letPass_17, sS_letPass_20, sS_letPass_23, sS_letPass_24, sS_letPass_25, sS_letPass_26, sS_letPass_28, sS_letPass_29, sS_letPass_32, sS_letPass_33, sS_letPass_34, sS_letPass_37, sS_letPass_40, sS_letPass_43, sS_letPass_44, rI_s, rJ_s, rA_s, rV_s, cw_0, cw_i, cw_j, cw_r, Nat.zero_le, Nat.le_refl, ↓reduceIte, not_true_eq_false, not_false_eq_true, and_true, true_and, and_self, and_false, false_and, true_or, or_true, false_or, or_false, b2_t, b2_f, b2_0, b2_r, i10, i01, bft, btf, z01, o01, cK_r1, nal_r1, cm_r1, wr_r1, cK_r2, nal_r2, cm_r2, wr_r2, cK_r3, nal_r3, cm_r3, wr_r3, cK_r4, nal_r4, cm_r4, wr_r4, cK_r5, nal_r5, cm_r5, wr_r5, cK_r6, nal_r6, cm_r6, wr_r6, cK_r7, nal_r7, cm_r7, wr_r7, cm_sa7, cm_sa8, cm_sa9, wr_sa7, wr_sa8, wr_sa9, Nat.reduceLT, Nat.reduceLeDiff, Nat.reduceAdd, Nat.reduceSub, reduceCtorEq, qup_s, qup_q, rmd_e, mx_e, mn_e, n12, n20, n10, n2, n3, n8, n65, decide_true, decide_false, Bool.not_true, Bool.not_false, Bool.false_and, Bool.and_false, Bool.true_and, Bool.and_true, Bool.and_self, hs, h1, h2, h3, wkB]
      · obtain ⟨m, hm, rfl⟩ := nI_of (x := a) (fun z => h1 (Int32.lt_trans z (by decide)))
        have hm2 : m < 1000 := by
          rcases Nat.lt_or_ge 60 m with q | q
          · exact absurd (nI_lt (a := 60) q hm) h2
          · omega
        have e := L_letPass (Q := Q) (Z := Z) hs (Q s) hn h7 hm2 m 0 (by omega)
        simp only [wksX, qup_id] at e
        simp only [sS_letPass_0, sS_letPass_1, sS_letPass_2, sS_letPass_5, sS_letPass_6, sS_letPass_8, sS_letPass_11, sS_letPass_12, sS_letPass_15, sS_letPass_16, sS_letPass_17, sS_letPass_20, sS_letPass_23, sS_letPass_24, sS_letPass_25, sS_letPass_26, sS_letPass_28, sS_letPass_29, sS_letPass_32, sS_letPass_33, sS_letPass_34, sS_letPass_37, sS_letPass_40, sS_letPass_43, sS_letPass_44, rI_s, rJ_s, rA_s, rV_s, cw_0, cw_i, cw_j, cw_r, Nat.zero_le, Nat.le_refl, ↓reduceIte, not_true_eq_false, not_false_eq_true, and_true, true_and, and_self, and_false, false_and, true_or, or_true, false_or, or_false, b2_t, b2_f, b2_0, b2_r, i10, i01, bft, btf, z01, o01, cK_r1, nal_r1, cm_r1, wr_r1, cK_r2, nal_r2, cm_r2, wr_r2, cK_r3, nal_r3, cm_r3, wr_r3, cK_r4, nal_r4, cm_r4, wr_r4, cK_r5, nal_r5, cm_r5, wr_r5, cK_r6, nal_r6, cm_r6, wr_r6, cK_r7, nal_r7, cm_r7, wr_r7, cm_sa7, cm_sa8, cm_sa9, wr_sa7, wr_sa8, wr_sa9, Nat.reduceLT, Nat.reduceLeDiff, Nat.reduceAdd, Nat.reduceSub, reduceCtorEq, qup_s, qup_q, rmd_e, mx_e, mn_e, n12, n20, n10, n2, n3, n8, n65, decide_true, decide_false, Bool.not_true, Bool.not_false, Bool.false_and, Bool.and_false, Bool.true_and, Bool.and_true, Bool.and_self, hs, h1, h2, h3, wkB, cnt_n hm]
        exact e
end STR4

/-! the model keeps its STREET, and puts it back -/
section MOD2
variable {Q : Nat → St} {Z : Mem}
def ln (r : Nat) : Nat := if r = 6 then 3 else if r = 7 then 12 else 7
def ofs (r : Nat) : Nat := [50, 0, 7, 14, 21, 28, 35, 38].getD r 0
theorem ln_rl : ∀ r, r < 8 → 0 < r → rl r = nI (ln r) := by decide
theorem ln_12 : ∀ r, r < 8 → ln r ≤ 12 := by decide
theorem ofs_ln : ∀ r, r < 8 → 0 < r → ofs r + ln r ≤ 50 := by decide
theorem kl_r : ∀ r, r < 8 → 0 < r → ∀ i, i < ln r → kl (ofs r + i) = (r, nI i) := by decide +kernel
theorem mk_r : ∀ r, r < 8 → 0 < r → cK (97 + r) = 6 := by decide
theorem ma_r : ∀ r, r < 8 → 0 < r → nI (aln (97 + r)) = nI (ln r) := by decide
/-- so many places of a row become another's -/
def cpy (Y X : St) (r : Nat) : Nat → St
  | 0 => Y
  | i + 1 => wrm (cpy Y X r i) r (nI i) (X r (nI i))
theorem cpy_ne (Y X : St) (r : Nat) {r' : Nat} (h : r' ≠ r) : ∀ n, cpy Y X r n r' = Y r' := by
  intro n
  induction n with
  | zero => rfl
  | succ n ih => unfold cpy; rw [wrm_ne h]; exact ih
theorem cpy_in (Y X : St) (r : Nat) : ∀ n i, i < n → n < 1000 → cpy Y X r n r (nI i) = X r (nI i) := by
  intro n
  induction n with
  | zero => intro i hi; omega
  | succ n ih =>
    intro i hi hn
    unfold cpy
    by_cases h : i = n
    · rw [h]; exact ws
    · rw [wo (fun z => h ((nI_eq (by omega) (by omega)).mp z))]
      exact ih i (by omega) (by omega)
theorem L_keep {w r : Nat} (hw : w < 11) (h0 : 0 < r) (h8 : r < 8) (Y : St) : ∀ k i, i + k = ln r → ev yM_passes 2 [some (.ref 96), some (.ref (97 + r)), some (.int (nI i))] [] (cm (qup Q (12 + w) (cpy Y (Q 11) r i)) (kz Z 1 (nI (53 * w + (ofs r + i))))) = some (none, cm (qup Q (12 + w) (cpy Y (Q 11) r (ln r))) (kz Z 1 (nI (53 * w + (ofs r + ln r))))) := by
  have l12 := ln_12 r h8
  have l50 := ofs_ln r h8 h0
  have mk := mk_r r h8 h0
  have ma := ma_r r h8 h0
  intro k
  induction k with
  | zero =>
    intro i hi
    obtain rfl : i = ln r := by omega
    rw [sM_passes_2]
    simp only [sM_passes_0, sM_passes_1, sM_passes_3, sM_passes_4, sM_passes_5, sM_passes_8, sM_passes_9, sM_passes_12, sM_passes_15, sM_passes_16, sM_passes_19, sM_passes_20, sM_passes_23, sM_passes_24, sM_passes_25, sM_passes_26, sM_passes_27, sM_passes_30, sM_passes_31, sM_passes_32, sM_passes_33, sM_passes_36, sM_passes_37, sM_passes_40, sM_passes_41, sM_passes_42, sM_passes_43, sM_passes_43b, sM_passes_44, sM_passes_47, sM_passes_48, sM_passes_49, sM_passes_52, sM_passes_55, sM_passes_58, rI_s, rJ_s, rA_s, rV_s, cw_0, cw_i, cw_j, cw_r, Nat.zero_le, Nat.le_refl, ↓reduceIte, not_true_eq_false, not_false_eq_true, and_true, true_and, and_self, and_false, false_and, true_or, or_true, false_or, or_false, b2_t, b2_f, b2_0, b2_r, i10, i01, bft, btf, z01, o01, cK_r1, nal_r1, cm_r1, wr_r1, cK_r2, nal_r2, cm_r2, wr_r2, cK_r3, nal_r3, cm_r3, wr_r3, cK_r4, nal_r4, cm_r4, wr_r4, cK_r5, nal_r5, cm_r5, wr_r5, cK_r6, nal_r6, cm_r6, wr_r6, cK_r7, nal_r7, cm_r7, wr_r7, cm_sa7, cm_sa8, cm_sa9, wr_sa7, wr_sa8, wr_sa9, Nat.reduceLT, Nat.reduceLeDiff, Nat.reduceAdd, Nat.reduceSub, reduceCtorEq, qup_s, qup_q, rmd_e, mx_e, mn_e, n12, n20, n10, n2, n3, n8, n65, mk, ma, nge (Nat.le_refl (ln r)) (by omega)]
  | succ k ih =>
    intro i hi
    have hi2 : i < ln r := by omega
    have c := nlt hi2 (by omega)
    have c0 := npos (a := i) (by omega)
    have d0 := npos (a := 53 * w + (ofs r + i)) (by omega)
    have d1 : (nI (53 * w + (ofs r + i)) < 583) = True := nlt (b := 583) (by omega) (by decide)
    have hs : sok r (nI i) = true := sok_r h0 (nI_pos (by omega)) (by rw [ln_rl r h8 h0]; exact nI_lt hi2 (by omega))
    have hc : ∀ X' Z', cm (qup Q (12 + w) X') Z' (97 + r) (nI i) = Q 11 r (nI i) := fun X' Z' => by rw [cm_m h0 h8 hs, qup_n (by omega)]
    have hk : ∀ X' Z' v, wrm (cm (qup Q (12 + w) X') Z') 109 (nI (53 * w + (ofs r + i))) v = cm (qup Q (12 + w) (wrm X' r (nI i) v)) Z' := fun X' Z' v => by
      rw [wr_109 hw (show ofs r + i < 53 by omega), kl_r r h8 h0 i hi2, qup_s, qup_q]
    have e := ih (i + 1) (by omega)
    have e0 : cpy Y (Q 11) r (i + 1) = wrm (cpy Y (Q 11) r i) r (nI i) (Q 11 r (nI i)) := rfl
    rw [e0] at e
    rw [sM_passes_2]
    simp only [sM_passes_0, sM_passes_1, sM_passes_3, sM_passes_4, sM_passes_5, sM_passes_8, sM_passes_9, sM_passes_12, sM_passes_15, sM_passes_16, sM_passes_19, sM_passes_20, sM_passes_23, sM_passes_24, sM_passes_25, sM_passes_26, sM_passes_27, sM_passes_30, sM_passes_31, sM_passes_32, sM_passes_33, sM_passes_36, sM_passes_37, sM_passes_40, sM_passes_41, sM_passes_42, sM_passes_43, sM_passes_43b, sM_passes_44, sM_passes_47, sM_passes_48, sM_passes_49, sM_passes_52, sM_passes_55, sM_passes_58, rI_s, rJ_s, rA_s, rV_s, cw_0, cw_i, cw_j, cw_r, Nat.zero_le, Nat.le_refl, ↓reduceIte, not_true_eq_false, not_false_eq_true, and_true, true_and, and_self, and_false, false_and, true_or, or_true, false_or, or_false, b2_t, b2_f, b2_0, b2_r, i10, i01, bft, btf, z01, o01, cK_r1, nal_r1, cm_r1, wr_r1, cK_r2, nal_r2, cm_r2, wr_r2, cK_r3, nal_r3, cm_r3, wr_r3, cK_r4, nal_r4, cm_r4, wr_r4, cK_r5, nal_r5, cm_r5, wr_r5, cK_r6, nal_r6, cm_r6, wr_r6, cK_r7, nal_r7, cm_r7, wr_r7, cm_sa7, cm_sa8, cm_sa9, wr_sa7, wr_sa8, wr_sa9, Nat.reduceLT, Nat.reduceLeDiff, Nat.reduceAdd, Nat.reduceSub, reduceCtorEq, qup_s, qup_q, rmd_e, mx_e, mn_e, n12, n20, n10, n2, n3, n8, n65, cf_20, cf_21, wf_21, kz_20, kz_21, kz_w21, mk, ma, mk_109, ma_109, c, c0, d0, d1, hc, hk, nI_1]
    exact e
theorem M_pk {w r : Nat} (hw : w < 11) (h0 : 0 < r) (h8 : r < 8) (Y : St) : cal yM_passes [.ref 96, .ref (97 + r)] (cm (qup Q (12 + w) Y) (kz Z 1 (nI (53 * w + ofs r)))) = some (none, cm (qup Q (12 + w) (cpy Y (Q 11) r (ln r))) (kz Z 1 (nI (53 * w + (ofs r + ln r))))) := by
  rw [cal_of (L := [some (.ref 96), some (.ref (97 + r)), none]) rfl rfl]
  simp only [sM_passes_0, sM_passes_1, sM_passes_3, sM_passes_4, sM_passes_5, sM_passes_8, sM_passes_9, sM_passes_12, sM_passes_15, sM_passes_16, sM_passes_19, sM_passes_20, sM_passes_23, sM_passes_24, sM_passes_25, sM_passes_26, sM_passes_27, sM_passes_30, sM_passes_31, sM_passes_32, sM_passes_33, sM_passes_36, sM_passes_37, sM_passes_40, sM_passes_41, sM_passes_42, sM_passes_43, sM_passes_43b, sM_passes_44, sM_passes_47, sM_passes_48, sM_passes_49, sM_passes_52, sM_passes_55, sM_passes_58, rI_s, rJ_s, rA_s, rV_s, cw_0, cw_i, cw_j, cw_r, Nat.zero_le, Nat.le_refl, ↓reduceIte, not_true_eq_false, not_false_eq_true, and_true, true_and, and_self, and_false, false_and, true_or, or_true, false_or, or_false, b2_t, b2_f, b2_0, b2_r, i10, i01, bft, btf, z01, o01, cK_r1, nal_r1, cm_r1, wr_r1, cK_r2, nal_r2, cm_r2, wr_r2, cK_r3, nal_r3, cm_r3, wr_r3, cK_r4, nal_r4, cm_r4, wr_r4, cK_r5, nal_r5, cm_r5, wr_r5, cK_r6, nal_r6, cm_r6, wr_r6, cK_r7, nal_r7, cm_r7, wr_r7, cm_sa7, cm_sa8, cm_sa9, wr_sa7, wr_sa8, wr_sa9, Nat.reduceLT, Nat.reduceLeDiff, Nat.reduceAdd, Nat.reduceSub, reduceCtorEq, qup_s, qup_q, rmd_e, mx_e, mn_e, n12, n20, n10, n2, n3, n8, n65]
  exact L_keep (Q := Q) (Z := Z) hw h0 h8 Y (ln r) 0 (by omega)
theorem L_puts {w r : Nat} (hw : w < 11) (h0 : 0 < r) (h8 : r < 8) (Y : St) : ∀ k i, i + k = ln r → ev yM_passes 2 [some (.ref 96), some (.ref (97 + r)), some (.int (nI i))] [] (cm (qup Q 11 (cpy Y (Q (12 + w)) r i)) (kz Z 0 (nI (53 * w + (ofs r + i))))) = some (none, cm (qup Q 11 (cpy Y (Q (12 + w)) r (ln r))) (kz Z 0 (nI (53 * w + (ofs r + ln r))))) := by
  have l12 := ln_12 r h8
  have l50 := ofs_ln r h8 h0
  have mk := mk_r r h8 h0
  have ma := ma_r r h8 h0
  intro k
  induction k with
  | zero =>
    intro i hi
    obtain rfl : i = ln r := by omega
    rw [sM_passes_2]
    simp only [sM_passes_0, sM_passes_1, sM_passes_3, sM_passes_4, sM_passes_5, sM_passes_8, sM_passes_9, sM_passes_12, sM_passes_15, sM_passes_16, sM_passes_19, sM_passes_20, sM_passes_23, sM_passes_24, sM_passes_25, sM_passes_26, sM_passes_27, sM_passes_30, sM_passes_31, sM_passes_32, sM_passes_33, sM_passes_36, sM_passes_37, sM_passes_40, sM_passes_41, sM_passes_42, sM_passes_43, sM_passes_43b, sM_passes_44, sM_passes_47, sM_passes_48, sM_passes_49, sM_passes_52, sM_passes_55, sM_passes_58, rI_s, rJ_s, rA_s, rV_s, cw_0, cw_i, cw_j, cw_r, Nat.zero_le, Nat.le_refl, ↓reduceIte, not_true_eq_false, not_false_eq_true, and_true, true_and, and_self, and_false, false_and, true_or, or_true, false_or, or_false, b2_t, b2_f, b2_0, b2_r, i10, i01, bft, btf, z01, o01, cK_r1, nal_r1, cm_r1, wr_r1, cK_r2, nal_r2, cm_r2, wr_r2, cK_r3, nal_r3, cm_r3, wr_r3, cK_r4, nal_r4, cm_r4, wr_r4, cK_r5, nal_r5, cm_r5, wr_r5, cK_r6, nal_r6, cm_r6, wr_r6, cK_r7, nal_r7, cm_r7, wr_r7, cm_sa7, cm_sa8, cm_sa9, wr_sa7, wr_sa8, wr_sa9, Nat.reduceLT, Nat.reduceLeDiff, Nat.reduceAdd, Nat.reduceSub, reduceCtorEq, qup_s, qup_q, rmd_e, mx_e, mn_e, n12, n20, n10, n2, n3, n8, n65, mk, ma, nge (Nat.le_refl (ln r)) (by omega)]
  | succ k ih =>
    intro i hi
    have hi2 : i < ln r := by omega
    have c := nlt hi2 (by omega)
    have c0 := npos (a := i) (by omega)
    have d0 := npos (a := 53 * w + (ofs r + i)) (by omega)
    have d1 : (nI (53 * w + (ofs r + i)) < 583) = True := nlt (b := 583) (by omega) (by decide)
    have hs : sok r (nI i) = true := sok_r h0 (nI_pos (by omega)) (by rw [ln_rl r h8 h0]; exact nI_lt hi2 (by omega))
    have hc : ∀ X' Z', cm (qup Q 11 X') Z' 109 (nI (53 * w + (ofs r + i))) = Q (12 + w) r (nI i) := fun X' Z' => by
      rw [cm_109 hw (show ofs r + i < 53 by omega), kl_r r h8 h0 i hi2, qup_n (by omega)]
    have hk : ∀ X' Z' v, wrm (cm (qup Q 11 X') Z') (97 + r) (nI i) v = cm (qup Q 11 (wrm X' r (nI i) v)) Z' := fun X' Z' v => by
      rw [wr_m h0 h8 hs, qup_s, qup_q]
    have e := ih (i + 1) (by omega)
    have e0 : cpy Y (Q (12 + w)) r (i + 1) = wrm (cpy Y (Q (12 + w)) r i) r (nI i) (Q (12 + w) r (nI i)) := rfl
    rw [e0] at e
    rw [sM_passes_2]
    simp only [sM_passes_0, sM_passes_1, sM_passes_3, sM_passes_4, sM_passes_5, sM_passes_8, sM_passes_9, sM_passes_12, sM_passes_15, sM_passes_16, sM_passes_19, sM_passes_20, sM_passes_23, sM_passes_24, sM_passes_25, sM_passes_26, sM_passes_27, sM_passes_30, sM_passes_31, sM_passes_32, sM_passes_33, sM_passes_36, sM_passes_37, sM_passes_40, sM_passes_41, sM_passes_42, sM_passes_43, sM_passes_43b, sM_passes_44, sM_passes_47, sM_passes_48, sM_passes_49, sM_passes_52, sM_passes_55, sM_passes_58, rI_s, rJ_s, rA_s, rV_s, cw_0, cw_i, cw_j, cw_r, Nat.zero_le, Nat.le_refl, ↓reduceIte, not_true_eq_false, not_false_eq_true, and_true, true_and, and_self, and_false, false_and, true_or, or_true, false_or, or_false, b2_t, b2_f, b2_0, b2_r, i10, i01, bft, btf, z01, o01, cK_r1, nal_r1, cm_r1, wr_r1, cK_r2, nal_r2, cm_r2, wr_r2, cK_r3, nal_r3, cm_r3, wr_r3, cK_r4, nal_r4, cm_r4, wr_r4, cK_r5, nal_r5, cm_r5, wr_r5, cK_r6, nal_r6, cm_r6, wr_r6, cK_r7, nal_r7, cm_r7, wr_r7, cm_sa7, cm_sa8, cm_sa9, wr_sa7, wr_sa8, wr_sa9, Nat.reduceLT, Nat.reduceLeDiff, Nat.reduceAdd, Nat.reduceSub, reduceCtorEq, qup_s, qup_q, rmd_e, mx_e, mn_e, n12, n20, n10, n2, n3, n8, n65, cf_20, cf_21, wf_21, kz_20, kz_21, kz_w21, mk, ma, mk_109, ma_109, c, c0, d0, d1, hc, hk, nI_1]
    exact e
theorem M_pb {w r : Nat} (hw : w < 11) (h0 : 0 < r) (h8 : r < 8) (Y : St) : cal yM_passes [.ref 96, .ref (97 + r)] (cm (qup Q 11 Y) (kz Z 0 (nI (53 * w + ofs r)))) = some (none, cm (qup Q 11 (cpy Y (Q (12 + w)) r (ln r))) (kz Z 0 (nI (53 * w + (ofs r + ln r))))) := by
  rw [cal_of (L := [some (.ref 96), some (.ref (97 + r)), none]) rfl rfl]
  simp only [sM_passes_0, sM_passes_1, sM_passes_3, sM_passes_4, sM_passes_5, sM_passes_8, sM_passes_9, sM_passes_12, sM_passes_15, sM_passes_16, sM_passes_19, sM_passes_20, sM_passes_23, sM_passes_24, sM_passes_25, sM_passes_26, sM_passes_27, sM_passes_30, sM_passes_31, sM_passes_32, sM_passes_33, sM_passes_36, sM_passes_37, sM_passes_40, sM_passes_41, sM_passes_42, sM_passes_43, sM_passes_43b, sM_passes_44, sM_passes_47, sM_passes_48, sM_passes_49, sM_passes_52, sM_passes_55, sM_passes_58, rI_s, rJ_s, rA_s, rV_s, cw_0, cw_i, cw_j, cw_r, Nat.zero_le, Nat.le_refl, ↓reduceIte, not_true_eq_false, not_false_eq_true, and_true, true_and, and_self, and_false, false_and, true_or, or_true, false_or, or_false, b2_t, b2_f, b2_0, b2_r, i10, i01, bft, btf, z01, o01, cK_r1, nal_r1, cm_r1, wr_r1, cK_r2, nal_r2, cm_r2, wr_r2, cK_r3, nal_r3, cm_r3, wr_r3, cK_r4, nal_r4, cm_r4, wr_r4, cK_r5, nal_r5, cm_r5, wr_r5, cK_r6, nal_r6, cm_r6, wr_r6, cK_r7, nal_r7, cm_r7, wr_r7, cm_sa7, cm_sa8, cm_sa9, wr_sa7, wr_sa8, wr_sa9, Nat.reduceLT, Nat.reduceLeDiff, Nat.reduceAdd, Nat.reduceSub, reduceCtorEq, qup_s, qup_q, rmd_e, mx_e, mn_e, n12, n20, n10, n2, n3, n8, n65]
  exact L_puts (Q := Q) (Z := Z) hw h0 h8 Y (ln r) 0 (by omega)
theorem M_ok {w o r : Nat} {j : Int32} (hw : w < 11) (ho : o < 53) (hk : kl o = (r, j)) (Y : St) (v : Int32) : cal yM_passOne [.ref 96, .int v] (cm (qup Q (12 + w) Y) (kz Z 1 (nI (53 * w + o)))) = some (some (.int v), cm (qup Q (12 + w) (wrm Y r j v)) (kz Z 1 (nI (53 * w + (o + 1))))) := by
  rw [cal_of (L := [some (.ref 96), some (.int v), none]) rfl rfl]
  have d0 := npos (a := 53 * w + o) (by omega)
  have d1 : (nI (53 * w + o) < 583) = True := nlt (b := 583) (by omega) (by decide)
  have hk2 : ∀ X' Z' v, wrm (cm (qup Q (12 + w) X') Z') 109 (nI (53 * w + o)) v = cm (qup Q (12 + w) (wrm X' r j v)) Z' := fun X' Z' v => by
    rw [wr_109 hw ho, hk, qup_s, qup_q]
  simp only [sM_passOne_0, sM_passOne_1, sM_passOne_4, sM_passOne_7, sM_passOne_8, sM_passOne_11, sM_passOne_12, sM_passOne_15, sM_passOne_16, sM_passOne_19, sM_passOne_20, sM_passOne_21, sM_passOne_22, sM_passOne_25, sM_passOne_28, sM_passOne_29, sM_passOne_32, sM_passOne_33, sM_passOne_36, sM_passOne_37, sM_passOne_38, sM_passOne_39, sM_passOne_39b, sM_passOne_40, sM_passOne_43, sM_passOne_44, sM_passOne_45, sM_passOne_48, sM_passOne_49, rI_s, rJ_s, rA_s, rV_s, cw_0, cw_i, cw_j, cw_r, Nat.zero_le, Nat.le_refl, ↓reduceIte, not_true_eq_false, not_false_eq_true, and_true, true_and, and_self, and_false, false_and, true_or, or_true, false_or, or_false, b2_t, b2_f, b2_0, b2_r, i10, i01, bft, btf, z01, o01, cK_r1, nal_r1, cm_r1, wr_r1, cK_r2, nal_r2, cm_r2, wr_r2, cK_r3, nal_r3, cm_r3, wr_r3, cK_r4, nal_r4, cm_r4, wr_r4, cK_r5, nal_r5, cm_r5, wr_r5, cK_r6, nal_r6, cm_r6, wr_r6, cK_r7, nal_r7, cm_r7, wr_r7, cm_sa7, cm_sa8, cm_sa9, wr_sa7, wr_sa8, wr_sa9, Nat.reduceLT, Nat.reduceLeDiff, Nat.reduceAdd, Nat.reduceSub, reduceCtorEq, qup_s, qup_q, rmd_e, mx_e, mn_e, n12, n20, n10, n2, n3, n8, n65, cf_20, cf_21, wf_21, kz_20, kz_21, kz_w21, mk_109, ma_109, d0, d1, hk2, nI_1]
  rfl
theorem M_ob {w o r : Nat} {j : Int32} (hw : w < 11) (ho : o < 53) (hk : kl o = (r, j)) (Y : St) (v : Int32) : cal yM_passOne [.ref 96, .int v] (cm (qup Q 11 Y) (kz Z 0 (nI (53 * w + o)))) = some (some (.int (Q (12 + w) r j)), cm (qup Q 11 Y) (kz Z 0 (nI (53 * w + (o + 1))))) := by
  rw [cal_of (L := [some (.ref 96), some (.int v), none]) rfl rfl]
  have d0 := npos (a := 53 * w + o) (by omega)
  have d1 : (nI (53 * w + o) < 583) = True := nlt (b := 583) (by omega) (by decide)
  have hc : ∀ Z', cm (qup Q 11 Y) Z' 109 (nI (53 * w + o)) = Q (12 + w) r j := fun Z' => by
    rw [cm_109 hw ho, hk, qup_n (by omega)]
  simp only [sM_passOne_0, sM_passOne_1, sM_passOne_4, sM_passOne_7, sM_passOne_8, sM_passOne_11, sM_passOne_12, sM_passOne_15, sM_passOne_16, sM_passOne_19, sM_passOne_20, sM_passOne_21, sM_passOne_22, sM_passOne_25, sM_passOne_28, sM_passOne_29, sM_passOne_32, sM_passOne_33, sM_passOne_36, sM_passOne_37, sM_passOne_38, sM_passOne_39, sM_passOne_39b, sM_passOne_40, sM_passOne_43, sM_passOne_44, sM_passOne_45, sM_passOne_48, sM_passOne_49, rI_s, rJ_s, rA_s, rV_s, cw_0, cw_i, cw_j, cw_r, Nat.zero_le, Nat.le_refl, ↓reduceIte, not_true_eq_false, not_false_eq_true, and_true, true_and, and_self, and_false, false_and, true_or, or_true, false_or, or_false, b2_t, b2_f, b2_0, b2_r, i10, i01, bft, btf, z01, o01, cK_r1, nal_r1, cm_r1, wr_r1, cK_r2, nal_r2, cm_r2, wr_r2, cK_r3, nal_r3, cm_r3, wr_r3, cK_r4, nal_r4, cm_r4, wr_r4, cK_r5, nal_r5, cm_r5, wr_r5, cK_r6, nal_r6, cm_r6, wr_r6, cK_r7, nal_r7, cm_r7, wr_r7, cm_sa7, cm_sa8, cm_sa9, wr_sa7, wr_sa8, wr_sa9, Nat.reduceLT, Nat.reduceLeDiff, Nat.reduceAdd, Nat.reduceSub, reduceCtorEq, qup_s, qup_q, rmd_e, mx_e, mn_e, n12, n20, n10, n2, n3, n8, n65, cf_20, cf_21, wf_21, kz_20, kz_21, kz_w21, mk_109, ma_109, d0, d1, hc, nI_1]
  rfl
/-- all of a STREET becomes another's -/
def cpA (Y X : St) : St := wrm (wrm (wrm (cpy (cpy (cpy (cpy (cpy (cpy (cpy Y X 1 7) X 2 7) X 3 7) X 4 7) X 5 7) X 6 3) X 7 12) 0 7 (X 0 7)) 0 8 (X 0 8)) 0 9 (X 0 9)
theorem cpA_x (Y X : St) : ∀ r j, r < 8 → sok r j = true → cpA Y X r j = X r j := by
  intro r j h8 hs
  unfold cpA
  rcases sok_cases hs h8 with ⟨rfl, h⟩ | ⟨h0, h6, i, hi, rfl⟩ | ⟨rfl, i, hi, rfl⟩ | ⟨rfl, i, hi, rfl⟩
  · rcases h with rfl | rfl | rfl
    · rw [wp_9_7, wp_8_7]; exact ws
    · rw [wp_9_8]; exact ws
    · exact ws
  · rw [wrm_ne (show r ≠ 0 by omega), wrm_ne (show r ≠ 0 by omega), wrm_ne (show r ≠ 0 by omega), cpy_ne _ _ 7 (by omega), cpy_ne _ _ 6 (by omega)]
    rcases (show r = 1 ∨ r = 2 ∨ r = 3 ∨ r = 4 ∨ r = 5 by omega) with rfl | rfl | rfl | rfl | rfl
    · rw [cpy_ne _ _ 5 (by omega), cpy_ne _ _ 4 (by omega), cpy_ne _ _ 3 (by omega), cpy_ne _ _ 2 (by omega)]; exact cpy_in _ _ _ _ _ hi (by decide)
    · rw [cpy_ne _ _ 5 (by omega), cpy_ne _ _ 4 (by omega), cpy_ne _ _ 3 (by omega)]; exact cpy_in _ _ _ _ _ hi (by decide)
    · rw [cpy_ne _ _ 5 (by omega), cpy_ne _ _ 4 (by omega)]; exact cpy_in _ _ _ _ _ hi (by decide)
    · rw [cpy_ne _ _ 5 (by omega)]; exact cpy_in _ _ _ _ _ hi (by decide)
    · exact cpy_in _ _ _ _ _ hi (by decide)
  · rw [wrm_ne (by decide), wrm_ne (by decide), wrm_ne (by decide), cpy_ne _ _ 7 (by omega)]; exact cpy_in _ _ _ _ _ hi (by decide)
  · rw [wrm_ne (by decide), wrm_ne (by decide), wrm_ne (by decide)]; exact cpy_in _ _ _ _ _ hi (by decide)
theorem w53 : ∀ w, w < 11 → (53 : Int32) * nI w = nI (53 * w + 0) := by decide
theorem M_passesAll_k {w : Nat} (hw : w < 11) : cal yM_passesAll [.ref 96, .int (nI w), .int 1] (cm Q Z) = some (none, cm (qup Q (12 + w) (Q 11)) (kz Z 1 (nI (53 * w + 53)))) := by
  have hQ : cm Q Z = cm (qup Q (12 + w) (Q (12 + w))) Z := by rw [qup_id]
  have h11 : ∀ Y, qup Q (12 + w) Y 11 = Q 11 := fun Y => qup_n (by omega)
  rw [← cm_con (Q := Q) (Z := kz Z 1 (nI (53 * w + 53))) (s := 12 + w) (cpA_x (Q (12 + w)) (Q 11)), hQ]
  rw [cal_of (L := [some (.ref 96), some (.int (nI w)), some (.int 1)]) rfl rfl]
  have m' := w53 w hw
  have kw : ∀ p, wrm Z 96 21 p = kz Z (Z 96 20) p := fun p => kz_w
  have p1 := fun Y => M_pk (Q := Q) (Z := Z) (w := w) (r := 1) hw (by decide) (by decide) Y
  have p2 := fun Y => M_pk (Q := Q) (Z := Z) (w := w) (r := 2) hw (by decide) (by decide) Y
  have p3 := fun Y => M_pk (Q := Q) (Z := Z) (w := w) (r := 3) hw (by decide) (by decide) Y
  have p4 := fun Y => M_pk (Q := Q) (Z := Z) (w := w) (r := 4) hw (by decide) (by decide) Y
  have p5 := fun Y => M_pk (Q := Q) (Z := Z) (w := w) (r := 5) hw (by decide) (by decide) Y
  have p6 := fun Y => M_pk (Q := Q) (Z := Z) (w := w) (r := 6) hw (by decide) (by decide) Y
  have p7 := fun Y => M_pk (Q := Q) (Z := Z) (w := w) (r := 7) hw (by decide) (by decide) Y
  have q1 := fun Y v => M_ok (Q := Q) (Z := Z) (w := w) (o := 50) (r := 0) (j := 7) hw (by decide) (by decide) Y v
  have q2 := fun Y v => M_ok (Q := Q) (Z := Z) (w := w) (o := 51) (r := 0) (j := 8) hw (by decide) (by decide) Y v
  have q3 := fun Y v => M_ok (Q := Q) (Z := Z) (w := w) (o := 52) (r := 0) (j := 9) hw (by decide) (by decide) Y v
  simp only [ofs, ln, List.getD_cons_zero, List.getD_cons_succ, Nat.reduceEqDiff, if_true, if_false, Nat.reduceAdd] at p1 p2 p3 p4 p5 p6 p7 q1 q2 q3
  have s1 : ∀ X v, wrm (cm (qup Q (12 + w) X) (kz Z 1 v)) 96 8 (Q 11 0 7) = cm (qup Q (12 + w) X) (kz Z 1 v) := fun X v => by
    rw [wr_968, h11]
    apply cm_ext
    intro s r j h8 hs
    by_cases h : s = 11
    · subst h
      rw [qup_s, h11]
      by_cases h2 : r = 0 ∧ j = 7
      · obtain ⟨rfl, rfl⟩ := h2; exact ws
      · rw [wrm_eq, if_neg h2]
    · rw [qup_n h]
  have s2 : ∀ X v, wrm (cm (qup Q (12 + w) X) (kz Z 1 v)) 96 9 (Q 11 0 8) = cm (qup Q (12 + w) X) (kz Z 1 v) := fun X v => by
    rw [wr_969, h11]
    apply cm_ext
    intro s r j h8 hs
    by_cases h : s = 11
    · subst h
      rw [qup_s, h11]
      by_cases h2 : r = 0 ∧ j = 8
      · obtain ⟨rfl, rfl⟩ := h2; exact ws
      · rw [wrm_eq, if_neg h2]
    · rw [qup_n h]
  have s3 : ∀ X v, wrm (cm (qup Q (12 + w) X) (kz Z 1 v)) 96 10 (Q 11 0 9) = cm (qup Q (12 + w) X) (kz Z 1 v) := fun X v => by
    rw [wr_9610, h11]
    apply cm_ext
    intro s r j h8 hs
    by_cases h : s = 11
    · subst h
      rw [qup_s, h11]
      by_cases h2 : r = 0 ∧ j = 9
      · obtain ⟨rfl, rfl⟩ := h2; exact ws
      · rw [wrm_eq, if_neg h2]
    · rw [qup_n h]
  simp only [sM_passesAll_0, sM_passesAll_1, sM_passesAll_3, sM_passesAll_4, sM_passesAll_5, sM_passesAll_8, sM_passesAll_9, sM_passesAll_10, sM_passesAll_13, sM_passesAll_14, sM_passesAll_15, sM_passesAll_18, sM_passesAll_21, sM_passesAll_22, sM_passesAll_23, sM_passesAll_26, sM_passesAll_29, sM_passesAll_30, sM_passesAll_31, sM_passesAll_34, sM_passesAll_37, sM_passesAll_38, sM_passesAll_39, sM_passesAll_42, sM_passesAll_45, sM_passesAll_46, sM_passesAll_47, sM_passesAll_50, sM_passesAll_53, sM_passesAll_54, sM_passesAll_55, sM_passesAll_58, sM_passesAll_61, sM_passesAll_62, sM_passesAll_63, sM_passesAll_66, sM_passesAll_69, sM_passesAll_70, sM_passesAll_71, sM_passesAll_72, sM_passesAll_75, sM_passesAll_78, sM_passesAll_81, sM_passesAll_82, sM_passesAll_83, sM_passesAll_84, sM_passesAll_87, sM_passesAll_90, sM_passesAll_93, sM_passesAll_94, sM_passesAll_95, sM_passesAll_96, sM_passesAll_99, sM_passesAll_102, sM_passesAll_105, rI_s, rJ_s, rA_s, rV_s, cw_0, cw_i, cw_j, cw_r, Nat.zero_le, Nat.le_refl, ↓reduceIte, not_true_eq_false, not_false_eq_true, and_true, true_and, and_self, and_false, false_and, true_or, or_true, false_or, or_false, b2_t, b2_f, b2_0, b2_r, i10, i01, bft, btf, z01, o01, cK_r1, nal_r1, cm_r1, wr_r1, cK_r2, nal_r2, cm_r2, wr_r2, cK_r3, nal_r3, cm_r3, wr_r3, cK_r4, nal_r4, cm_r4, wr_r4, cK_r5, nal_r5, cm_r5, wr_r5, cK_r6, nal_r6, cm_r6, wr_r6, cK_r7, nal_r7, cm_r7, wr_r7, cm_sa7, cm_sa8, cm_sa9, wr_sa7, wr_sa8, wr_sa9, Nat.reduceLT, Nat.reduceLeDiff, Nat.reduceAdd, Nat.reduceSub, reduceCtorEq, qup_s, qup_q, rmd_e, mx_e, mn_e, n12, n20, n10, n2, n3, n8, n65, wf_20, wf_21, kw, kz_w20, kz_w21, kz_20, m', cm_968, cm_969, cm_9610, h11, p1, p2, p3, p4, p5, p6, p7, q1, q2, q3, s1, s2, s3, cpA]
theorem M_passesAll_b {w : Nat} (hw : w < 11) : cal yM_passesAll [.ref 96, .int (nI w), .int 0] (cm Q Z) = some (none, cm (qup Q 11 (Q (12 + w))) (kz Z 0 (nI (53 * w + 53)))) := by
  have hQ : cm Q Z = cm (qup Q 11 (Q 11)) Z := by rw [qup_id]
  rw [← cm_con (Q := Q) (Z := kz Z 0 (nI (53 * w + 53))) (s := 11) (cpA_x (Q 11) (Q (12 + w))), hQ]
  rw [cal_of (L := [some (.ref 96), some (.int (nI w)), some (.int 0)]) rfl rfl]
  have m' := w53 w hw
  have kw : ∀ p, wrm Z 96 21 p = kz Z (Z 96 20) p := fun p => kz_w
  have p1 := fun Y => M_pb (Q := Q) (Z := Z) (w := w) (r := 1) hw (by decide) (by decide) Y
  have p2 := fun Y => M_pb (Q := Q) (Z := Z) (w := w) (r := 2) hw (by decide) (by decide) Y
  have p3 := fun Y => M_pb (Q := Q) (Z := Z) (w := w) (r := 3) hw (by decide) (by decide) Y
  have p4 := fun Y => M_pb (Q := Q) (Z := Z) (w := w) (r := 4) hw (by decide) (by decide) Y
  have p5 := fun Y => M_pb (Q := Q) (Z := Z) (w := w) (r := 5) hw (by decide) (by decide) Y
  have p6 := fun Y => M_pb (Q := Q) (Z := Z) (w := w) (r := 6) hw (by decide) (by decide) Y
  have p7 := fun Y => M_pb (Q := Q) (Z := Z) (w := w) (r := 7) hw (by decide) (by decide) Y
  have q1 := fun Y v => M_ob (Q := Q) (Z := Z) (w := w) (o := 50) (r := 0) (j := 7) hw (by decide) (by decide) Y v
  have q2 := fun Y v => M_ob (Q := Q) (Z := Z) (w := w) (o := 51) (r := 0) (j := 8) hw (by decide) (by decide) Y v
  have q3 := fun Y v => M_ob (Q := Q) (Z := Z) (w := w) (o := 52) (r := 0) (j := 9) hw (by decide) (by decide) Y v
  simp only [ofs, ln, List.getD_cons_zero, List.getD_cons_succ, Nat.reduceEqDiff, if_true, if_false, Nat.reduceAdd] at p1 p2 p3 p4 p5 p6 p7 q1 q2 q3
  simp only [sM_passesAll_0, sM_passesAll_1, sM_passesAll_3, sM_passesAll_4, sM_passesAll_5, sM_passesAll_8, sM_passesAll_9, sM_passesAll_10, sM_passesAll_13, sM_passesAll_14, sM_passesAll_15, sM_passesAll_18, sM_passesAll_21, sM_passesAll_22, sM_passesAll_23, sM_passesAll_26, sM_passesAll_29, sM_passesAll_30, sM_passesAll_31, sM_passesAll_34, sM_passesAll_37, sM_passesAll_38, sM_passesAll_39, sM_passesAll_42, sM_passesAll_45, sM_passesAll_46, sM_passesAll_47, sM_passesAll_50, sM_passesAll_53, sM_passesAll_54, sM_passesAll_55, sM_passesAll_58, sM_passesAll_61, sM_passesAll_62, sM_passesAll_63, sM_passesAll_66, sM_passesAll_69, sM_passesAll_70, sM_passesAll_71, sM_passesAll_72, sM_passesAll_75, sM_passesAll_78, sM_passesAll_81, sM_passesAll_82, sM_passesAll_83, sM_passesAll_84, sM_passesAll_87, sM_passesAll_90, sM_passesAll_93, sM_passesAll_94, sM_passesAll_95, sM_passesAll_96, sM_passesAll_99, sM_passesAll_102, sM_passesAll_105, rI_s, rJ_s, rA_s, rV_s, cw_0, cw_i, cw_j, cw_r, Nat.zero_le, Nat.le_refl, ↓reduceIte, not_true_eq_false, not_false_eq_true, and_true, true_and, and_self, and_false, false_and, true_or, or_true, false_or, or_false, b2_t, b2_f, b2_0, b2_r, i10, i01, bft, btf, z01, o01, cK_r1, nal_r1, cm_r1, wr_r1, cK_r2, nal_r2, cm_r2, wr_r2, cK_r3, nal_r3, cm_r3, wr_r3, cK_r4, nal_r4, cm_r4, wr_r4, cK_r5, nal_r5, cm_r5, wr_r5, cK_r6, nal_r6, cm_r6, wr_r6, cK_r7, nal_r7, cm_r7, wr_r7, cm_sa7, cm_sa8, cm_sa9, wr_sa7, wr_sa8, wr_sa9, Nat.reduceLT, Nat.reduceLeDiff, Nat.reduceAdd, Nat.reduceSub, reduceCtorEq, qup_s, qup_q, rmd_e, mx_e, mn_e, n12, n20, n10, n2, n3, n8, n65, wf_20, wf_21, kw, kz_w20, kz_w21, kz_20, m', cm_968, cm_969, cm_9610, wr_968, wr_969, wr_9610, p1, p2, p3, p4, p5, p6, p7, q1, q2, q3, cpA]
/-- what is thought, and forgotten -/
theorem M_thinks : cal yM_thinks [.ref 96] (cm Q Z) = some (none, cm (qup Q 14 (Q 11)) (kz Z 1 159)) := by
  rw [cal_of (L := [some (.ref 96)]) rfl rfl]
  have e := M_passesAll_k (Q := Q) (Z := Z) (w := 2) (by decide)
  have e' : cal yM_passesAll [.ref 96, .int 2, .int 1] (cm Q Z) = some (none, cm (qup Q 14 (Q 11)) (kz Z 1 159)) := e
  simp only [sM_thinks_0, sM_thinks_1, sM_thinks_2, sM_thinks_3, sM_thinks_6, rI_s, rJ_s, rA_s, rV_s, cw_0, cw_i, cw_j, cw_r, Nat.zero_le, Nat.le_refl, ↓reduceIte, not_true_eq_false, not_false_eq_true, and_true, true_and, and_self, and_false, false_and, true_or, or_true, false_or, or_false, b2_t, b2_f, b2_0, b2_r, i10, i01, bft, btf, z01, o01, cK_r1, nal_r1, cm_r1, wr_r1, cK_r2, nal_r2, cm_r2, wr_r2, cK_r3, nal_r3, cm_r3, wr_r3, cK_r4, nal_r4, cm_r4, wr_r4, cK_r5, nal_r5, cm_r5, wr_r5, cK_r6, nal_r6, cm_r6, wr_r6, cK_r7, nal_r7, cm_r7, wr_r7, cm_sa7, cm_sa8, cm_sa9, wr_sa7, wr_sa8, wr_sa9, Nat.reduceLT, Nat.reduceLeDiff, Nat.reduceAdd, Nat.reduceSub, reduceCtorEq, qup_s, qup_q, rmd_e, mx_e, mn_e, n12, n20, n10, n2, n3, n8, n65, e']
theorem M_forgets : cal yM_forgets [.ref 96] (cm Q Z) = some (none, cm (qup Q 11 (Q 14)) (kz Z 0 159)) := by
  rw [cal_of (L := [some (.ref 96)]) rfl rfl]
  have e := M_passesAll_b (Q := Q) (Z := Z) (w := 2) (by decide)
  have e' : cal yM_passesAll [.ref 96, .int 2, .int 0] (cm Q Z) = some (none, cm (qup Q 11 (Q 14)) (kz Z 0 159)) := e
  simp only [sM_forgets_0, sM_forgets_1, sM_forgets_2, sM_forgets_3, sM_forgets_6, rI_s, rJ_s, rA_s, rV_s, cw_0, cw_i, cw_j, cw_r, Nat.zero_le, Nat.le_refl, ↓reduceIte, not_true_eq_false, not_false_eq_true, and_true, true_and, and_self, and_false, false_and, true_or, or_true, false_or, or_false, b2_t, b2_f, b2_0, b2_r, i10, i01, bft, btf, z01, o01, cK_r1, nal_r1, cm_r1, wr_r1, cK_r2, nal_r2, cm_r2, wr_r2, cK_r3, nal_r3, cm_r3, wr_r3, cK_r4, nal_r4, cm_r4, wr_r4, cK_r5, nal_r5, cm_r5, wr_r5, cK_r6, nal_r6, cm_r6, wr_r6, cK_r7, nal_r7, cm_r7, wr_r7, cm_sa7, cm_sa8, cm_sa9, wr_sa7, wr_sa8, wr_sa9, Nat.reduceLT, Nat.reduceLeDiff, Nat.reduceAdd, Nat.reduceSub, reduceCtorEq, qup_s, qup_q, rmd_e, mx_e, mn_e, n12, n20, n10, n2, n3, n8, n65, e']
theorem M_changes : cal yM_changes [.ref 96] (cm Q Z) = some (none, cm (qup Q 13 (Q 11)) (kz Z 1 106)) := by
  rw [cal_of (L := [some (.ref 96)]) rfl rfl]
  have e := M_passesAll_k (Q := Q) (Z := Z) (w := 1) (by decide)
  have e' : cal yM_passesAll [.ref 96, .int 1, .int 1] (cm Q Z) = some (none, cm (qup Q 13 (Q 11)) (kz Z 1 106)) := e
  simp only [sM_changes_0, sM_changes_1, sM_changes_2, sM_changes_3, sM_changes_6, rI_s, rJ_s, rA_s, rV_s, cw_0, cw_i, cw_j, cw_r, Nat.zero_le, Nat.le_refl, ↓reduceIte, not_true_eq_false, not_false_eq_true, and_true, true_and, and_self, and_false, false_and, true_or, or_true, false_or, or_false, b2_t, b2_f, b2_0, b2_r, i10, i01, bft, btf, z01, o01, cK_r1, nal_r1, cm_r1, wr_r1, cK_r2, nal_r2, cm_r2, wr_r2, cK_r3, nal_r3, cm_r3, wr_r3, cK_r4, nal_r4, cm_r4, wr_r4, cK_r5, nal_r5, cm_r5, wr_r5, cK_r6, nal_r6, cm_r6, wr_r6, cK_r7, nal_r7, cm_r7, wr_r7, cm_sa7, cm_sa8, cm_sa9, wr_sa7, wr_sa8, wr_sa9, Nat.reduceLT, Nat.reduceLeDiff, Nat.reduceAdd, Nat.reduceSub, reduceCtorEq, qup_s, qup_q, rmd_e, mx_e, mn_e, n12, n20, n10, n2, n3, n8, n65, e']
theorem M_changesBack : cal yM_changesBack [.ref 96] (cm Q Z) = some (none, cm (qup Q 11 (Q 13)) (kz Z 0 106)) := by
  rw [cal_of (L := [some (.ref 96)]) rfl rfl]
  have e := M_passesAll_b (Q := Q) (Z := Z) (w := 1) (by decide)
  have e' : cal yM_passesAll [.ref 96, .int 1, .int 0] (cm Q Z) = some (none, cm (qup Q 11 (Q 13)) (kz Z 0 106)) := e
  simp only [sM_changesBack_0, sM_changesBack_1, sM_changesBack_2, sM_changesBack_3, sM_changesBack_6, rI_s, rJ_s, rA_s, rV_s, cw_0, cw_i, cw_j, cw_r, Nat.zero_le, Nat.le_refl, ↓reduceIte, not_true_eq_false, not_false_eq_true, and_true, true_and, and_self, and_false, false_and, true_or, or_true, false_or, or_false, b2_t, b2_f, b2_0, b2_r, i10, i01, bft, btf, z01, o01, cK_r1, nal_r1, cm_r1, wr_r1, cK_r2, nal_r2, cm_r2, wr_r2, cK_r3, nal_r3, cm_r3, wr_r3, cK_r4, nal_r4, cm_r4, wr_r4, cK_r5, nal_r5, cm_r5, wr_r5, cK_r6, nal_r6, cm_r6, wr_r6, cK_r7, nal_r7, cm_r7, wr_r7, cm_sa7, cm_sa8, cm_sa9, wr_sa7, wr_sa8, wr_sa9, Nat.reduceLT, Nat.reduceLeDiff, Nat.reduceAdd, Nat.reduceSub, reduceCtorEq, qup_s, qup_q, rmd_e, mx_e, mn_e, n12, n20, n10, n2, n3, n8, n65, e']
end MOD2

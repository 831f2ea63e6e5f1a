/-! the model: letters, digits -/
section MODT
variable {Q : Nat → St} {Z Z0 : Mem}
/-- the text as both have it -/
def TXT (Z0 Z : Mem) (l : Nat) : Prop := l ≤ 96 ∧ Z0 91 1 = nI l ∧ Z 96 15 = nI l ∧ ∀ i, i < l → Z 105 (nI i) = Z0 92 (nI i)
theorem tv_in {l i : Nat} (hl : Z0 91 1 = nI l) (h : l ≤ 96) (hi : i < l) : tv Z0 (nI i) = Z0 92 (nI i) := by
  unfold tv
  rw [hl]
  exact if_pos ⟨nI_pos (by omega), nI_lt hi (by omega), nI_lt (b := 96) (by omega) (by decide)⟩
theorem tv_out {l i : Nat} (hl : Z0 91 1 = nI l) (hi : l ≤ i) (h2 : i < 2147483648) : tv Z0 (nI i) = -1 := by
  unfold tv
  rw [hl]
  exact if_neg (fun z => nI_nlt hi h2 z.2.1)
def Fb (Z0 : Mem) (l i : Nat) (d : Int32) : Int32 := fbv Z0 l (l - i) i d
theorem Fb_s {l i : Nat} (hi : i < l) : Fb Z0 l i (-1) = if dgv (tv Z0 (nI i)) < 0 then nI i else Fb Z0 l (i + 1) (dgv (tv Z0 (nI i))) := by
  unfold Fb
  rw [show l - i = (l - (i + 1)) + 1 by omega, fbv, if_pos (show (-1 : Int32) < 0 by decide)]
theorem Fb_e {l : Nat} : Fb Z0 l l (-1) = if 0 < l then -1 else nI l := by
  unfold Fb
  rw [Nat.sub_self, fbv]
  by_cases h : 0 < l
  · rw [if_pos ⟨by decide, h⟩, if_pos h]
  · rw [if_neg (fun z => h z.2), if_neg h]
theorem Fb_d {l i d : Nat} (hl : Z0 91 1 = nI l) (h96 : l ≤ 96) (hi : i ≤ l) (hd : 0 < d) (hd2 : d < 1000) : Fb Z0 l i (nI d) = if tv Z0 (nI i) < 48 ∨ 57 < tv Z0 (nI i) then nI i else Fb Z0 l (i + 1) (nI (d - 1)) := by
  have d0 : ¬ nI d < 0 := nI_pos (by omega)
  have d1 : 0 < nI d := nI_lt (a := 0) hd (by omega)
  by_cases h : i < l
  · unfold Fb
    rw [show l - i = (l - (i + 1)) + 1 by omega, fbv, if_neg d0, if_pos d1]
    have e : nI d + (-1) = nI (d - 1) := by
      rw [show d = (d - 1) + 1 by omega]
      exact pk_m1 _
    rw [e]
  · obtain rfl : i = l := by omega
    rw [tv_out hl (Nat.le_refl i) (by omega), if_pos (Or.inl (by decide))]
    unfold Fb
    rw [Nat.sub_self, fbv, if_neg (fun z => d0 z.1)]
theorem Fb_0 {l i : Nat} (hl : Z0 91 1 = nI l) (h96 : l ≤ 96) (hi : i ≤ l) : Fb Z0 l i (nI 0) = if tv Z0 (nI i) = 59 then Fb Z0 l (i + 1) (-1) else nI i := by
  rw [n0']
  have d0 : ¬ (0 : Int32) < 0 := by decide
  by_cases h : i < l
  · unfold Fb
    rw [show l - i = (l - (i + 1)) + 1 by omega, fbv, if_neg d0, if_neg d0]
  · obtain rfl : i = l := by omega
    rw [tv_out hl (Nat.le_refl i) (by omega), if_neg (by decide)]
    unfold Fb
    rw [Nat.sub_self, fbv, if_neg (fun z => d0 z.1)]
theorem M_letterNow {l r : Nat} (T : TXT Z0 Z l) (hr : Z 96 16 = nI r) (hrl : r ≤ l) : cal yM_letterNow [.ref 96] (cm Q Z) = some (some (.int (tv Z0 (nI r))), cm Q Z) := by
  obtain ⟨h96, h0, h1, h2⟩ := T
  rw [cal_of (L := [some (.ref 96)]) rfl rfl]
  by_cases h : r < l
  · have c := nlt h (show l < 2147483648 by omega)
    have a0 := npos (a := r) (by omega)
    have a1 : (nI r < 96) = True := nlt (b := 96) (by omega) (by decide)
    have e := h2 r h
    rw [tv_in h0 h96 h]
    simp only [sM_letterNow_0, sM_letterNow_1, sM_letterNow_4, sM_letterNow_5, sM_letterNow_8, sM_letterNow_11, sM_letterNow_12, sM_letterNow_15, sM_letterNow_16, sM_letterNow_19, sM_letterNow_20, sM_letterNow_23, sM_letterNow_24, rI_s, rJ_s, rA_s, rV_s, cw_0, cw_i, cw_j, cw_r, Nat.zero_le, Nat.le_refl, ↓reduceIte, not_true_eq_false, not_false_eq_true, and_true, true_and, and_self, and_false, false_and, true_or, or_true, false_or, or_false, b2_t, b2_f, b2_0, b2_r, i10, i01, bft, btf, z01, o01, cK_r1, nal_r1, cm_r1, wr_r1, cK_r2, nal_r2, cm_r2, wr_r2, cK_r3, nal_r3, cm_r3, wr_r3, cK_r4, nal_r4, cm_r4, wr_r4, cK_r5, nal_r5, cm_r5, wr_r5, cK_r6, nal_r6, cm_r6, wr_r6, cK_r7, nal_r7, cm_r7, wr_r7, cm_sa7, cm_sa8, cm_sa9, wr_sa7, wr_sa8, wr_sa9, Nat.reduceLT, Nat.reduceLeDiff, Nat.reduceAdd, Nat.reduceSub, reduceCtorEq, qup_s, qup_q, rmd_e, mx_e, mn_e, n12, n20, n10, n2, n3, n8, n65, cz_88, wz_88, cz_89, wz_89, cz_91, wz_91, cz_92, wz_92, cz_93, wz_93, cz_94, wz_94, cz_95, wz_95, cz_97, wz_97, cz_105, wz_105, cz_106, wz_106, cz_107, wz_107, cz_108, wz_108, cz_110, wz_110, cz_111, wz_111, ck_92, na_92, ck_94, na_94, ck_95, na_95, ck_97, na_97, ck_105, na_105, ck_106, na_106, ck_107, na_107, ck_108, na_108, ck_110, na_110, ck_111, na_111, cf_15, wf_15, cf_16, wf_16, cf_17, wf_17, cf_19, wf_19, cf_20, wf_20, cf_21, wf_21, cf_22, wf_22, cf_24, wf_24, cf_26, wf_26, cm_968, wr_968, cm_969, wr_969, cm_9610, wr_9610, mk_98, ma_98, mk_99, ma_99, mk_100, ma_100, mk_101, ma_101, mk_102, ma_102, mk_103, ma_103, mk_104, ma_104, cm_98, wr_98, cm_99, wr_99, cm_100, wr_100, cm_101, wr_101, cm_102, wr_102, cm_103, wr_103, cm_104, wr_104, mk_109, ma_109, decide_true, decide_false, Bool.not_true, Bool.not_false, Bool.false_and, Bool.and_false, Bool.true_and, Bool.and_true, Bool.and_self, l00, l10, l20, l03, l13, l23, hr, h1, c, a0, a1, e]
  · rw [tv_out h0 (by omega) (by omega)]
    simp only [sM_letterNow_0, sM_letterNow_1, sM_letterNow_4, sM_letterNow_5, sM_letterNow_8, sM_letterNow_11, sM_letterNow_12, sM_letterNow_15, sM_letterNow_16, sM_letterNow_19, sM_letterNow_20, sM_letterNow_23, sM_letterNow_24, rI_s, rJ_s, rA_s, rV_s, cw_0, cw_i, cw_j, cw_r, Nat.zero_le, Nat.le_refl, ↓reduceIte, not_true_eq_false, not_false_eq_true, and_true, true_and, and_self, and_false, false_and, true_or, or_true, false_or, or_false, b2_t, b2_f, b2_0, b2_r, i10, i01, bft, btf, z01, o01, cK_r1, nal_r1, cm_r1, wr_r1, cK_r2, nal_r2, cm_r2, wr_r2, cK_r3, nal_r3, cm_r3, wr_r3, cK_r4, nal_r4, cm_r4, wr_r4, cK_r5, nal_r5, cm_r5, wr_r5, cK_r6, nal_r6, cm_r6, wr_r6, cK_r7, nal_r7, cm_r7, wr_r7, cm_sa7, cm_sa8, cm_sa9, wr_sa7, wr_sa8, wr_sa9, Nat.reduceLT, Nat.reduceLeDiff, Nat.reduceAdd, Nat.reduceSub, reduceCtorEq, qup_s, qup_q, rmd_e, mx_e, mn_e, n12, n20, n10, n2, n3, n8, n65, cz_88, wz_88, cz_89, wz_89, cz_91, wz_91, cz_92, wz_92, cz_93, wz_93, cz_94, wz_94, cz_95, wz_95, cz_97, wz_97, cz_105, wz_105, cz_106, wz_106, cz_107, wz_107, cz_108, wz_108, cz_110, wz_110, cz_111, wz_111, ck_92, na_92, ck_94, na_94, ck_95, na_95, ck_97, na_97, ck_105, na_105, ck_106, na_106, ck_107, na_107, ck_108, na_108, ck_110, na_110, ck_111, na_111, cf_15, wf_15, cf_16, wf_16, cf_17, wf_17, cf_19, wf_19, cf_20, wf_20, cf_21, wf_21, cf_22, wf_22, cf_24, wf_24, cf_26, wf_26, cm_968, wr_968, cm_969, wr_969, cm_9610, wr_9610, mk_98, ma_98, mk_99, ma_99, mk_100, ma_100, mk_101, ma_101, mk_102, ma_102, mk_103, ma_103, mk_104, ma_104, cm_98, wr_98, cm_99, wr_99, cm_100, wr_100, cm_101, wr_101, cm_102, wr_102, cm_103, wr_103, cm_104, wr_104, mk_109, ma_109, decide_true, decide_false, Bool.not_true, Bool.not_false, Bool.false_and, Bool.and_false, Bool.true_and, Bool.and_true, Bool.and_self, l00, l10, l20, l03, l13, l23, hr, h1, nge (show l ≤ r by omega) (show r < 2147483648 by omega)]
/-- cells that are written while the text is read -/
def rd8 (Z : Mem) (x i v : Int32) : Mem := wrm (wrm Z 96 16 x) 108 i v
theorem TXT_16 {l : Nat} {v : Int32} (T : TXT Z0 Z l) : TXT Z0 (wrm Z 96 16 v) l := by
  obtain ⟨h96, h0, h1, h2⟩ := T
  exact ⟨h96, h0, by rw [wo (by decide)]; exact h1, fun i hi => by rw [wnn (by decide)]; exact h2 i hi⟩
theorem TXT_n {l k : Nat} {j v : Int32} (h : k ≠ 96) (h5 : k ≠ 105) (T : TXT Z0 Z l) : TXT Z0 (wrm Z k j v) l := by
  obtain ⟨h96, h0, h1, h2⟩ := T
  exact ⟨h96, h0, by rw [wnn (fun z => h z.symm)]; exact h1, fun i hi => by rw [wnn (fun z => h5 z.symm)]; exact h2 i hi⟩
theorem TXT_rd {l : Nat} {x i v : Int32} (T : TXT Z0 Z l) : TXT Z0 (rd8 Z x i v) l := TXT_n (by decide) (by decide) (TXT_16 T)
theorem rd_16 {x i v : Int32} : rd8 Z x i v 96 16 = x := by
  unfold rd8
  rw [wnn (by decide)]
  exact ws
theorem rd_s {x i v : Int32} : rd8 Z x i v 108 i = v := ws
theorem rd_o {x i v j : Int32} (h : j ≠ i) : rd8 Z x i v 108 j = Z 108 j := by
  unfold rd8
  rw [wo h, wnn (by decide)]
theorem rd_n {x i v j : Int32} {k : Nat} (h : k ≠ 108) (h2 : ¬ (k = 96 ∧ j = 16)) : rd8 Z x i v k j = Z k j := by
  unfold rd8
  rw [wnn h, wrm_eq, if_neg h2]
def dig (c : Int32) : Prop := ¬ c < 48 ∧ ¬ 57 < c
theorem in_dig (c : Int32) : (inB c 48 57 = true) ↔ dig c := by
  unfold inB dig
  by_cases h1 : c < 48
  · simp [h1]
  · by_cases h2 : 57 < c
    · simp [h2]
    · simp [h1, h2]
theorem in_dt {c : Int32} (h : dig c) : inB c 48 57 = true := (in_dig c).mpr h
theorem in_df {c : Int32} (h : ¬ dig c) : inB c 48 57 = false := by
  cases e : inB c 48 57 with
  | true => exact absurd ((in_dig c).mp e) h
  | false => rfl
theorem dig_n {c : Int32} (h : dig c) : ∃ a, 48 ≤ a ∧ a ≤ 57 ∧ c = nI a := by
  obtain ⟨a, ha, rfl⟩ := nI_of (x := c) (fun z => h.1 (Int32.lt_trans z (by decide)))
  refine ⟨a, ?_, ?_, rfl⟩
  · rcases Nat.lt_or_ge a 48 with q | q
    · exact absurd (nI_lt (b := 48) q (by decide)) h.1
    · exact q
  · rcases Nat.lt_or_ge 57 a with q | q
    · exact absurd (nI_lt (a := 57) q ha) h.2
    · exact q
/-- digits read: all of them, or as far as they go -/
theorem L_mdigits {l r d n p : Nat} (T : TXT Z0 Z l) (hn : n ≤ d) (hd : d < 1000) (hp : p < 192) : ∀ j i, i + j = n → r + i ≤ l → (∃ r', r' ≤ l ∧ Fb Z0 l (r + i) (nI (d - i)) = nI r' ∧ ev yM_readsDigits 5 [some (.ref 96), some (.int (nI p)), some (.int (nI n)), some (.int (nuv Z0 (nI r) i)), some (.int (nI i))] [] (cm Q (wrm Z 96 16 (nI (r + i)))) = some (some (.int 0), cm Q (wrm Z 96 16 (nI r')))) ∨ (r + n ≤ l ∧ Fb Z0 l (r + i) (nI (d - i)) = Fb Z0 l (r + n) (nI (d - n)) ∧ (∀ a, i ≤ a → a < n → dig (tv Z0 (nI (r + a)))) ∧ ev yM_readsDigits 5 [some (.ref 96), some (.int (nI p)), some (.int (nI n)), some (.int (nuv Z0 (nI r) i)), some (.int (nI i))] [] (cm Q (wrm Z 96 16 (nI (r + i)))) = some (some (.int 1), cm Q (rd8 Z (nI (r + n)) (nI p) (nuv Z0 (nI r) n)))) := by
  have h96 := T.1
  have h0 := T.2.1
  intro j
  induction j with
  | zero =>
    intro i hi hrl
    obtain rfl : i = n := by omega
    have p0 := npos (a := p) (by omega)
    have p1 : (nI p < 192) = True := nlt (b := 192) hp (by decide)
    refine Or.inr ⟨hrl, rfl, fun a h1 h2 => absurd h2 (by omega), ?_⟩
    rw [sM_readsDigits_5]
    simp only [sM_readsDigits_0, sM_readsDigits_1, sM_readsDigits_2, sM_readsDigits_3, sM_readsDigits_7, sM_readsDigits_8, sM_readsDigits_11, sM_readsDigits_12, sM_readsDigits_15, sM_readsDigits_17, sM_readsDigits_19, sM_readsDigits_22, sM_readsDigits_25, sM_readsDigits_26, sM_readsDigits_27, sM_readsDigits_29, sM_readsDigits_30, sM_readsDigits_31, sM_readsDigits_32, sM_readsDigits_35, sM_readsDigits_36, sM_readsDigits_38, sM_readsDigits_39, sM_readsDigits_40, sM_readsDigits_41, sM_readsDigits_41b, sM_readsDigits_42, sM_readsDigits_45, sM_readsDigits_46, sM_readsDigits_47, sM_readsDigits_50, sM_readsDigits_53, sM_readsDigits_56, sM_readsDigits_57, sM_readsDigits_60, sM_readsDigits_61, sM_readsDigits_62, sM_readsDigits_63, sM_readsDigits_64, rI_s, rJ_s, rA_s, rV_s, cw_0, cw_i, cw_j, cw_r, Nat.zero_le, Nat.le_refl, ↓reduceIte, not_true_eq_false, not_false_eq_true, and_true, true_and, and_self, and_false, false_and, true_or, or_true, false_or, or_false, b2_t, b2_f, b2_0, b2_r, i10, i01, bft, btf, z01, o01, cK_r1, nal_r1, cm_r1, wr_r1, cK_r2, nal_r2, cm_r2, wr_r2, cK_r3, nal_r3, cm_r3, wr_r3, cK_r4, nal_r4, cm_r4, wr_r4, cK_r5, nal_r5, cm_r5, wr_r5, cK_r6, nal_r6, cm_r6, wr_r6, cK_r7, nal_r7, cm_r7, wr_r7, cm_sa7, cm_sa8, cm_sa9, wr_sa7, wr_sa8, wr_sa9, Nat.reduceLT, Nat.reduceLeDiff, Nat.reduceAdd, Nat.reduceSub, reduceCtorEq, qup_s, qup_q, rmd_e, mx_e, mn_e, n12, n20, n10, n2, n3, n8, n65, cz_88, wz_88, cz_89, wz_89, cz_91, wz_91, cz_92, wz_92, cz_93, wz_93, cz_94, wz_94, cz_95, wz_95, cz_97, wz_97, cz_105, wz_105, cz_106, wz_106, cz_107, wz_107, cz_108, wz_108, cz_110, wz_110, cz_111, wz_111, ck_92, na_92, ck_94, na_94, ck_95, na_95, ck_97, na_97, ck_105, na_105, ck_106, na_106, ck_107, na_107, ck_108, na_108, ck_110, na_110, ck_111, na_111, cf_15, wf_15, cf_16, wf_16, cf_17, wf_17, cf_19, wf_19, cf_20, wf_20, cf_21, wf_21, cf_22, wf_22, cf_24, wf_24, cf_26, wf_26, cm_968, wr_968, cm_969, wr_969, cm_9610, wr_9610, mk_98, ma_98, mk_99, ma_99, mk_100, ma_100, mk_101, ma_101, mk_102, ma_102, mk_103, ma_103, mk_104, ma_104, cm_98, wr_98, cm_99, wr_99, cm_100, wr_100, cm_101, wr_101, cm_102, wr_102, cm_103, wr_103, cm_104, wr_104, mk_109, ma_109, decide_true, decide_false, Bool.not_true, Bool.not_false, Bool.false_and, Bool.and_false, Bool.true_and, Bool.and_true, Bool.and_self, l00, l10, l20, l03, l13, l23, nge (Nat.le_refl i) (show i < 2147483648 by omega), p0, p1]
    rfl
  | succ j ih =>
    intro i hi hrl
    have c := nlt (show i < n by omega) (show n < 2147483648 by omega)
    have T2 : TXT Z0 (wrm Z 96 16 (nI (r + i))) l := TXT_16 T
    have ln := M_letterNow (Q := Q) T2 ws hrl
    rw [Fb_d h0 h96 hrl (show 0 < d - i by omega) (by omega)]
    by_cases hg : dig (tv Z0 (nI (r + i)))
    · have hlt : r + i < l := by
        rcases Nat.lt_or_ge (r + i) l with q | q
        · exact q
        · rw [tv_out h0 q (by omega)] at hg
          exact absurd (show (-1 : Int32) < 48 by decide) hg.1
      rw [if_neg (fun z => z.elim hg.1 hg.2), show d - i - 1 = d - (i + 1) by omega, show r + i + 1 = r + (i + 1) by omega]
      have e0 : nuv Z0 (nI r) (i + 1) = 10 * nuv Z0 (nI r) i + tv Z0 (nI (r + i)) - 48 := by rw [← nI_add]; rfl
      have e1 : nI (r + i) + 1 = nI (r + (i + 1)) := nI_1 (r + i)
      have step : ev yM_readsDigits 5 [some (.ref 96), some (.int (nI p)), some (.int (nI n)), some (.int (nuv Z0 (nI r) i)), some (.int (nI i))] [] (cm Q (wrm Z 96 16 (nI (r + i)))) = ev yM_readsDigits 5 [some (.ref 96), some (.int (nI p)), some (.int (nI n)), some (.int (nuv Z0 (nI r) (i + 1))), some (.int (nI (i + 1)))] [] (cm Q (wrm Z 96 16 (nI (r + (i + 1))))) := by
        rw [e0, sM_readsDigits_5]
        simp only [sM_readsDigits_0, sM_readsDigits_1, sM_readsDigits_2, sM_readsDigits_3, sM_readsDigits_7, sM_readsDigits_8, sM_readsDigits_11, sM_readsDigits_12, sM_readsDigits_15, sM_readsDigits_17, sM_readsDigits_19, sM_readsDigits_22, sM_readsDigits_25, sM_readsDigits_26, sM_readsDigits_27, sM_readsDigits_29, sM_readsDigits_30, sM_readsDigits_31, sM_readsDigits_32, sM_readsDigits_35, sM_readsDigits_36, sM_readsDigits_38, sM_readsDigits_39, sM_readsDigits_40, sM_readsDigits_41, sM_readsDigits_41b, sM_readsDigits_42, sM_readsDigits_45, sM_readsDigits_46, sM_readsDigits_47, sM_readsDigits_50, sM_readsDigits_53, sM_readsDigits_56, sM_readsDigits_57, sM_readsDigits_60, sM_readsDigits_61, sM_readsDigits_62, sM_readsDigits_63, sM_readsDigits_64, rI_s, rJ_s, rA_s, rV_s, cw_0, cw_i, cw_j, cw_r, Nat.zero_le, Nat.le_refl, ↓reduceIte, not_true_eq_false, not_false_eq_true, and_true, true_and, and_self, and_false, false_and, true_or, or_true, false_or, or_false, b2_t, b2_f, b2_0, b2_r, i10, i01, bft, btf, z01, o01, cK_r1, nal_r1, cm_r1, wr_r1, cK_r2, nal_r2, cm_r2, wr_r2, cK_r3, nal_r3, cm_r3, wr_r3, cK_r4, nal_r4, cm_r4, wr_r4, cK_r5, nal_r5, cm_r5, wr_r5, cK_r6, nal_r6, cm_r6, wr_r6, cK_r7, nal_r7, cm_r7, wr_r7, cm_sa7, cm_sa8, cm_sa9, wr_sa7, wr_sa8, wr_sa9, Nat.reduceLT, Nat.reduceLeDiff, Nat.reduceAdd, Nat.reduceSub, reduceCtorEq, qup_s, qup_q, rmd_e, mx_e, mn_e, n12, n20, n10, n2, n3, n8, n65, cz_88, wz_88, cz_89, wz_89, cz_91, wz_91, cz_92, wz_92, cz_93, wz_93, cz_94, wz_94, cz_95, wz_95, cz_97, wz_97, cz_105, wz_105, cz_106, wz_106, cz_107, wz_107, cz_108, wz_108, cz_110, wz_110, cz_111, wz_111, ck_92, na_92, ck_94, na_94, ck_95, na_95, ck_97, na_97, ck_105, na_105, ck_106, na_106, ck_107, na_107, ck_108, na_108, ck_110, na_110, ck_111, na_111, cf_15, wf_15, cf_16, wf_16, cf_17, wf_17, cf_19, wf_19, cf_20, wf_20, cf_21, wf_21, cf_22, wf_22, cf_24, wf_24, cf_26, wf_26, cm_968, wr_968, cm_969, wr_969, cm_9610, wr_9610, mk_98, ma_98, mk_99, ma_99, mk_100, ma_100, mk_101, ma_101, mk_102, ma_102, mk_103, ma_103, mk_104, ma_104, cm_98, wr_98, cm_99, wr_99, cm_100, wr_100, cm_101, wr_101, cm_102, wr_102, cm_103, wr_103, cm_104, wr_104, mk_109, ma_109, decide_true, decide_false, Bool.not_true, Bool.not_false, Bool.false_and, Bool.and_false, Bool.true_and, Bool.and_true, Bool.and_self, l00, l10, l20, l03, l13, l23, c, ln, M_isIn, in_dt hg, ws, e1, wrm_wrm, nI_1]
      rw [step]
      rcases ih (i + 1) (by omega) (by omega) with ⟨r', h1, h2, h3⟩ | ⟨h1, h2, h3, h4⟩
      · exact Or.inl ⟨r', h1, h2, h3⟩
      · refine Or.inr ⟨h1, h2, fun a ha hb => ?_, h4⟩
        by_cases e : a = i
        · rw [e]; exact hg
        · exact h3 a (by omega) hb
    · have hc : tv Z0 (nI (r + i)) < 48 ∨ 57 < tv Z0 (nI (r + i)) := by
        by_cases q : tv Z0 (nI (r + i)) < 48
        · exact Or.inl q
        · by_cases q2 : 57 < tv Z0 (nI (r + i))
          · exact Or.inr q2
          · exact absurd ⟨q, q2⟩ hg
      rw [if_pos hc]
      refine Or.inl ⟨r + i, hrl, rfl, ?_⟩
      rw [sM_readsDigits_5]
      simp only [sM_readsDigits_0, sM_readsDigits_1, sM_readsDigits_2, sM_readsDigits_3, sM_readsDigits_7, sM_readsDigits_8, sM_readsDigits_11, sM_readsDigits_12, sM_readsDigits_15, sM_readsDigits_17, sM_readsDigits_19, sM_readsDigits_22, sM_readsDigits_25, sM_readsDigits_26, sM_readsDigits_27, sM_readsDigits_29, sM_readsDigits_30, sM_readsDigits_31, sM_readsDigits_32, sM_readsDigits_35, sM_readsDigits_36, sM_readsDigits_38, sM_readsDigits_39, sM_readsDigits_40, sM_readsDigits_41, sM_readsDigits_41b, sM_readsDigits_42, sM_readsDigits_45, sM_readsDigits_46, sM_readsDigits_47, sM_readsDigits_50, sM_readsDigits_53, sM_readsDigits_56, sM_readsDigits_57, sM_readsDigits_60, sM_readsDigits_61, sM_readsDigits_62, sM_readsDigits_63, sM_readsDigits_64, rI_s, rJ_s, rA_s, rV_s, cw_0, cw_i, cw_j, cw_r, Nat.zero_le, Nat.le_refl, ↓reduceIte, not_true_eq_false, not_false_eq_true, and_true, true_and, and_self, and_false, false_and, true_or, or_true, false_or, or_false, b2_t, b2_f, b2_0, b2_r, i10, i01, bft, btf, z01, o01, cK_r1, nal_r1, cm_r1, wr_r1, cK_r2, nal_r2, cm_r2, wr_r2, cK_r3, nal_r3, cm_r3, wr_r3, cK_r4, nal_r4, cm_r4, wr_r4, cK_r5, nal_r5, cm_r5, wr_r5, cK_r6, nal_r6, cm_r6, wr_r6, cK_r7, nal_r7, cm_r7, wr_r7, cm_sa7, cm_sa8, cm_sa9, wr_sa7, wr_sa8, wr_sa9, Nat.reduceLT, Nat.reduceLeDiff, Nat.reduceAdd, Nat.reduceSub, reduceCtorEq, qup_s, qup_q, rmd_e, mx_e, mn_e, n12, n20, n10, n2, n3, n8, n65, cz_88, wz_88, cz_89, wz_89, cz_91, wz_91, cz_92, wz_92, cz_93, wz_93, cz_94, wz_94, cz_95, wz_95, cz_97, wz_97, cz_105, wz_105, cz_106, wz_106, cz_107, wz_107, cz_108, wz_108, cz_110, wz_110, cz_111, wz_111, ck_92, na_92, ck_94, na_94, ck_95, na_95, ck_97, na_97, ck_105, na_105, ck_106, na_106, ck_107, na_107, ck_108, na_108, ck_110, na_110, ck_111, na_111, cf_15, wf_15, cf_16, wf_16, cf_17, wf_17, cf_19, wf_19, cf_20, wf_20, cf_21, wf_21, cf_22, wf_22, cf_24, wf_24, cf_26, wf_26, cm_968, wr_968, cm_969, wr_969, cm_9610, wr_9610, mk_98, ma_98, mk_99, ma_99, mk_100, ma_100, mk_101, ma_101, mk_102, ma_102, mk_103, ma_103, mk_104, ma_104, cm_98, wr_98, cm_99, wr_99, cm_100, wr_100, cm_101, wr_101, cm_102, wr_102, cm_103, wr_103, cm_104, wr_104, mk_109, ma_109, decide_true, decide_false, Bool.not_true, Bool.not_false, Bool.false_and, Bool.and_false, Bool.true_and, Bool.and_true, Bool.and_self, l00, l10, l20, l03, l13, l23, c, ln, M_isIn, in_df hg]
theorem M_readsDigits {l r d n p : Nat} (T : TXT Z0 Z l) (hr : Z 96 16 = nI r) (hrl : r ≤ l) (hn : n ≤ d) (hd : d < 1000) (hp : p < 192) : (∃ r', r' ≤ l ∧ Fb Z0 l r (nI d) = nI r' ∧ cal yM_readsDigits [.ref 96, .int (nI p), .int (nI n)] (cm Q Z) = some (some (.int 0), cm Q (wrm Z 96 16 (nI r')))) ∨ (r + n ≤ l ∧ Fb Z0 l r (nI d) = Fb Z0 l (r + n) (nI (d - n)) ∧ (∀ a, a < n → dig (tv Z0 (nI (r + a)))) ∧ cal yM_readsDigits [.ref 96, .int (nI p), .int (nI n)] (cm Q Z) = some (some (.int 1), cm Q (rd8 Z (nI (r + n)) (nI p) (nuv Z0 (nI r) n)))) := by
  have hz : wrm Z 96 16 (nI r) = Z := by rw [← hr]; exact wrm_self _ _ _
  have st : cal yM_readsDigits [.ref 96, .int (nI p), .int (nI n)] (cm Q Z) = ev yM_readsDigits 5 [some (.ref 96), some (.int (nI p)), some (.int (nI n)), some (.int (nuv Z0 (nI r) 0)), some (.int (nI 0))] [] (cm Q (wrm Z 96 16 (nI (r + 0)))) := by
    rw [cal_of (L := [some (.ref 96), some (.int (nI p)), some (.int (nI n)), none, none]) rfl rfl, Nat.add_zero, hz, n0']
    simp only [sM_readsDigits_0, sM_readsDigits_1, sM_readsDigits_2, sM_readsDigits_3, sM_readsDigits_7, sM_readsDigits_8, sM_readsDigits_11, sM_readsDigits_12, sM_readsDigits_15, sM_readsDigits_17, sM_readsDigits_19, sM_readsDigits_22, sM_readsDigits_25, sM_readsDigits_26, sM_readsDigits_27, sM_readsDigits_29, sM_readsDigits_30, sM_readsDigits_31, sM_readsDigits_32, sM_readsDigits_35, sM_readsDigits_36, sM_readsDigits_38, sM_readsDigits_39, sM_readsDigits_40, sM_readsDigits_41, sM_readsDigits_41b, sM_readsDigits_42, sM_readsDigits_45, sM_readsDigits_46, sM_readsDigits_47, sM_readsDigits_50, sM_readsDigits_53, sM_readsDigits_56, sM_readsDigits_57, sM_readsDigits_60, sM_readsDigits_61, sM_readsDigits_62, sM_readsDigits_63, sM_readsDigits_64, rI_s, rJ_s, rA_s, rV_s, cw_0, cw_i, cw_j, cw_r, Nat.zero_le, Nat.le_refl, ↓reduceIte, not_true_eq_false, not_false_eq_true, and_true, true_and, and_self, and_false, false_and, true_or, or_true, false_or, or_false, b2_t, b2_f, b2_0, b2_r, i10, i01, bft, btf, z01, o01, cK_r1, nal_r1, cm_r1, wr_r1, cK_r2, nal_r2, cm_r2, wr_r2, cK_r3, nal_r3, cm_r3, wr_r3, cK_r4, nal_r4, cm_r4, wr_r4, cK_r5, nal_r5, cm_r5, wr_r5, cK_r6, nal_r6, cm_r6, wr_r6, cK_r7, nal_r7, cm_r7, wr_r7, cm_sa7, cm_sa8, cm_sa9, wr_sa7, wr_sa8, wr_sa9, Nat.reduceLT, Nat.reduceLeDiff, Nat.reduceAdd, Nat.reduceSub, reduceCtorEq, qup_s, qup_q, rmd_e, mx_e, mn_e, n12, n20, n10, n2, n3, n8, n65, cz_88, wz_88, cz_89, wz_89, cz_91, wz_91, cz_92, wz_92, cz_93, wz_93, cz_94, wz_94, cz_95, wz_95, cz_97, wz_97, cz_105, wz_105, cz_106, wz_106, cz_107, wz_107, cz_108, wz_108, cz_110, wz_110, cz_111, wz_111, ck_92, na_92, ck_94, na_94, ck_95, na_95, ck_97, na_97, ck_105, na_105, ck_106, na_106, ck_107, na_107, ck_108, na_108, ck_110, na_110, ck_111, na_111, cf_15, wf_15, cf_16, wf_16, cf_17, wf_17, cf_19, wf_19, cf_20, wf_20, cf_21, wf_21, cf_22, wf_22, cf_24, wf_24, cf_26, wf_26, cm_968, wr_968, cm_969, wr_969, cm_9610, wr_9610, mk_98, ma_98, mk_99, ma_99, mk_100, ma_100, mk_101, ma_101, mk_102, ma_102, mk_103, ma_103, mk_104, ma_104, cm_98, wr_98, cm_99, wr_99, cm_100, wr_100, cm_101, wr_101, cm_102, wr_102, cm_103, wr_103, cm_104, wr_104, mk_109, ma_109, decide_true, decide_false, Bool.not_true, Bool.not_false, Bool.false_and, Bool.and_false, Bool.true_and, Bool.and_true, Bool.and_self, l00, l10, l20, l03, l13, l23]
    rfl
  rw [st]
  rcases L_mdigits (Q := Q) (r := r) T hn hd hp n 0 (by omega) (by omega) with ⟨r', h1, h2, h3⟩ | ⟨h1, h2, h3, h4⟩
  · exact Or.inl ⟨r', h1, h2, h3⟩
  · exact Or.inr ⟨h1, h2, fun a ha => h3 a (by omega) ha, h4⟩
/-- one digit, two digits -/
theorem nuv_1 {r : Nat} (h : dig (tv Z0 (nI r))) : ∃ a, a ≤ 9 ∧ nuv Z0 (nI r) 1 = nI a := by
  obtain ⟨c, h1, h2, h3⟩ := dig_n h
  have e : nuv Z0 (nI r) 1 = 10 * 0 + tv Z0 (nI r + nI 0) - 48 := rfl
  refine ⟨c - 48, by omega, ?_⟩
  rw [e, nI_add, Nat.add_zero, h3, show (10 : Int32) * 0 = nI 0 by decide, nI_add, Nat.zero_add, show (48 : Int32) = nI 48 from rfl]
  exact pk_sub h1
theorem nuv_2 {r : Nat} (h : dig (tv Z0 (nI r))) (h' : dig (tv Z0 (nI (r + 1)))) : ∃ a, a ≤ 99 ∧ nuv Z0 (nI r) 2 = nI a := by
  obtain ⟨a, ha, hb⟩ := nuv_1 h
  obtain ⟨c, h1, h2, h3⟩ := dig_n h'
  have e : nuv Z0 (nI r) 2 = 10 * nuv Z0 (nI r) 1 + tv Z0 (nI r + nI 1) - 48 := rfl
  refine ⟨10 * a + c - 48, by omega, ?_⟩
  rw [e, nI_add, hb, h3, show (10 : Int32) = nI 10 from rfl, pk_mul, nI_add, show (48 : Int32) = nI 48 from rfl]
  exact pk_sub (by omega)
end MODT

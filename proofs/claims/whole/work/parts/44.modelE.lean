/-! the model: count, puts, widow -/
section MODE
variable {Q : Nat → St} {Z : Mem}
/-- COUNT, as the model has it -/
def coM (X : St) (Z : Mem) (n : Nat) (c : Int32) : Int32 := if c < 11 ∨ 16 < c then (if c = 0 then X 0 7 else if c = 1 then X 0 9 else if c = 2 then X 0 8 else if c = 3 then hostv X 0 else if c = 4 then sumv X 3 n else if c = 5 then sumv X 5 n else if c = 6 then Z 96 15 else if c = 7 then Z 96 24 else if c = 8 then Z 96 22 else -9) else Z 97 (c - 10)
theorem rng10 {c : Int32} (h1 : ¬ c < 11) (h2 : ¬ 16 < c) : ¬ c - 10 < 0 ∧ c - 10 < 7 := by
  obtain ⟨j, hj, rfl⟩ := nI_of (x := c) (fun z => h1 (Int32.lt_trans z (by decide)))
  have a1 : 11 ≤ j := by
    rcases Nat.lt_or_ge j 11 with q | q
    · exact absurd (nI_lt (b := 11) q (by decide)) h1
    · exact q
  have a2 : j ≤ 16 := by
    rcases Nat.lt_or_ge 16 j with q | q
    · exact absurd (nI_lt (a := 16) q hj) h2
    · exact q
  rcases (show j = 11 ∨ j = 12 ∨ j = 13 ∨ j = 14 ∨ j = 15 ∨ j = 16 by omega) with rfl | rfl | rfl | rfl | rfl | rfl <;> decide
theorem M_allMet {n : Nat} (h7 : n ≤ 7) : cal yM_allOf [.ref 96, .ref 102, .int (nI n)] (cm Q Z) = some (some (.int (sumv (Q 11) 5 n)), cm Q Z) := M_allOf (r := 5) (by decide) (by decide) h7
theorem M_count {n p k : Nat} (V : VB (Q 11) n p) (hk : Q 11 0 9 = nI k) (hk2 : k < 1000000) (c : Int32) : cal yM_count [.ref 96, .int c] (cm Q Z) = some (some (.int (coM (Q 11) Z n c)), cm Q Z) := by
  rw [cal_of (L := [some (.ref 96), some (.int c)]) rfl rfl]
  have hn := V.1
  have hh := M_host (Q := Q) (Z := Z) V hk (i := 0) (by omega)
  rw [n0'] at hh
  have hm := M_allMet (Q := Q) (Z := Z) V.2.1
  have hg := M_allGrief (Q := Q) (Z := Z) hn V.2.1
  unfold coM
  by_cases h1 : c < 11 ∨ 16 < c
  · have hb : inB c 11 16 = false := by
      unfold inB
      rcases h1 with z | z
      · rw [decide_eq_true z]; rfl
      · rw [decide_eq_true z, Bool.not_true, Bool.and_false]
    rw [if_pos h1]
    simp only [sM_count_0, sM_count_1, sM_count_3, sM_count_5, sM_count_8, sM_count_11, sM_count_12, sM_count_15, sM_count_16, sM_count_18, sM_count_19, sM_count_20, sM_count_21, sM_count_22, sM_count_72, sM_count_73, sM_count_76, sM_count_77, sM_count_78, sM_count_81, sM_count_82, sM_count_83, sM_count_86, sM_count_87, sM_count_88, sM_count_89, sM_count_92, sM_count_93, sM_count_94, sM_count_97, sM_count_98, sM_count_99, sM_count_100, sM_count_103, sM_count_104, sM_count_107, sM_count_110, sM_count_111, sM_count_112, sM_count_115, sM_count_116, sM_count_117, sM_count_120, sM_count_121, sM_count_122, sM_count_125, sM_count_126, sM_count_128, rI_s, rJ_s, rA_s, rV_s, cw_0, cw_i, cw_j, cw_r, Nat.zero_le, Nat.le_refl, ↓reduceIte, not_true_eq_false, not_false_eq_true, and_true, true_and, and_self, and_false, false_and, true_or, or_true, false_or, or_false, b2_t, b2_f, b2_0, b2_r, i10, i01, bft, btf, z01, o01, cK_r1, nal_r1, cm_r1, wr_r1, cK_r2, nal_r2, cm_r2, wr_r2, cK_r3, nal_r3, cm_r3, wr_r3, cK_r4, nal_r4, cm_r4, wr_r4, cK_r5, nal_r5, cm_r5, wr_r5, cK_r6, nal_r6, cm_r6, wr_r6, cK_r7, nal_r7, cm_r7, wr_r7, cm_sa7, cm_sa8, cm_sa9, wr_sa7, wr_sa8, wr_sa9, Nat.reduceLT, Nat.reduceLeDiff, Nat.reduceAdd, Nat.reduceSub, reduceCtorEq, qup_s, qup_q, rmd_e, mx_e, mn_e, n12, n20, n10, n2, n3, n8, n65, cz_88, wz_88, cz_89, wz_89, cz_91, wz_91, cz_92, wz_92, cz_93, wz_93, cz_94, wz_94, cz_95, wz_95, cz_97, wz_97, cz_105, wz_105, cz_106, wz_106, cz_107, wz_107, cz_108, wz_108, cz_110, wz_110, cz_111, wz_111, ck_92, na_92, ck_94, na_94, ck_95, na_95, ck_97, na_97, ck_105, na_105, ck_106, na_106, ck_107, na_107, ck_108, na_108, ck_110, na_110, ck_111, na_111, cf_15, wf_15, cf_16, wf_16, cf_17, wf_17, cf_19, wf_19, cf_20, wf_20, cf_21, wf_21, cf_22, wf_22, cf_24, wf_24, cf_26, wf_26, cm_968, wr_968, cm_969, wr_969, cm_9610, wr_9610, mk_98, ma_98, mk_99, ma_99, mk_100, ma_100, mk_101, ma_101, mk_102, ma_102, mk_103, ma_103, mk_104, ma_104, cm_98, wr_98, cm_99, wr_99, cm_100, wr_100, cm_101, wr_101, cm_102, wr_102, cm_103, wr_103, cm_104, wr_104, mk_109, ma_109, decide_true, decide_false, Bool.not_true, Bool.not_false, Bool.false_and, Bool.and_false, Bool.true_and, Bool.and_true, Bool.and_self, l00, l10, l20, l03, l13, l23, M_isIn, hb, hn, hh, hm, hg, ans_if]
  · have hb : inB c 11 16 = true := by
      unfold inB
      rw [decide_eq_false (fun z => h1 (Or.inl z)), decide_eq_false (fun z => h1 (Or.inr z))]; rfl
    obtain ⟨a1, a2⟩ := rng10 (fun z => h1 (Or.inl z)) (fun z => h1 (Or.inr z))
    rw [if_neg h1]
    simp only [sM_count_0, sM_count_1, sM_count_3, sM_count_5, sM_count_8, sM_count_11, sM_count_12, sM_count_15, sM_count_16, sM_count_18, sM_count_19, sM_count_20, sM_count_21, sM_count_22, sM_count_72, sM_count_73, sM_count_76, sM_count_77, sM_count_78, sM_count_81, sM_count_82, sM_count_83, sM_count_86, sM_count_87, sM_count_88, sM_count_89, sM_count_92, sM_count_93, sM_count_94, sM_count_97, sM_count_98, sM_count_99, sM_count_100, sM_count_103, sM_count_104, sM_count_107, sM_count_110, sM_count_111, sM_count_112, sM_count_115, sM_count_116, sM_count_117, sM_count_120, sM_count_121, sM_count_122, sM_count_125, sM_count_126, sM_count_128, rI_s, rJ_s, rA_s, rV_s, cw_0, cw_i, cw_j, cw_r, Nat.zero_le, Nat.le_refl, ↓reduceIte, not_true_eq_false, not_false_eq_true, and_true, true_and, and_self, and_false, false_and, true_or, or_true, false_or, or_false, b2_t, b2_f, b2_0, b2_r, i10, i01, bft, btf, z01, o01, cK_r1, nal_r1, cm_r1, wr_r1, cK_r2, nal_r2, cm_r2, wr_r2, cK_r3, nal_r3, cm_r3, wr_r3, cK_r4, nal_r4, cm_r4, wr_r4, cK_r5, nal_r5, cm_r5, wr_r5, cK_r6, nal_r6, cm_r6, wr_r6, cK_r7, nal_r7, cm_r7, wr_r7, cm_sa7, cm_sa8, cm_sa9, wr_sa7, wr_sa8, wr_sa9, Nat.reduceLT, Nat.reduceLeDiff, Nat.reduceAdd, Nat.reduceSub, reduceCtorEq, qup_s, qup_q, rmd_e, mx_e, mn_e, n12, n20, n10, n2, n3, n8, n65, cz_88, wz_88, cz_89, wz_89, cz_91, wz_91, cz_92, wz_92, cz_93, wz_93, cz_94, wz_94, cz_95, wz_95, cz_97, wz_97, cz_105, wz_105, cz_106, wz_106, cz_107, wz_107, cz_108, wz_108, cz_110, wz_110, cz_111, wz_111, ck_92, na_92, ck_94, na_94, ck_95, na_95, ck_97, na_97, ck_105, na_105, ck_106, na_106, ck_107, na_107, ck_108, na_108, ck_110, na_110, ck_111, na_111, cf_15, wf_15, cf_16, wf_16, cf_17, wf_17, cf_19, wf_19, cf_20, wf_20, cf_21, wf_21, cf_22, wf_22, cf_24, wf_24, cf_26, wf_26, cm_968, wr_968, cm_969, wr_969, cm_9610, wr_9610, mk_98, ma_98, mk_99, ma_99, mk_100, ma_100, mk_101, ma_101, mk_102, ma_102, mk_103, ma_103, mk_104, ma_104, cm_98, wr_98, cm_99, wr_99, cm_100, wr_100, cm_101, wr_101, cm_102, wr_102, cm_103, wr_103, cm_104, wr_104, mk_109, ma_109, decide_true, decide_false, Bool.not_true, Bool.not_false, Bool.false_and, Bool.and_false, Bool.true_and, Bool.and_true, Bool.and_self, l00, l10, l20, l03, l13, l23, M_isIn, hb, a1, a2]
end MODE

/-! the model: puts, done -/
section MODH
variable {Q : Nat → St} {Z : Mem}
theorem wrm_comm (X : St) {r r' : Nat} (h : r ≠ r') (j v j' v' : Int32) : wrm (wrm X r j v) r' j' v' = wrm (wrm X r' j' v') r j v := by
  funext s i
  rw [wrm_eq, wrm_eq, wrm_eq, wrm_eq]
  by_cases h1 : s = r' ∧ i = j'
  · rw [if_pos h1, if_pos h1, if_neg (fun z => h (z.1.symm.trans h1.1))]
  · rw [if_neg h1, if_neg h1]
theorem wrm_self (X : St) (r : Nat) (j : Int32) : wrm X r j (X r j) = X := by
  funext s i
  rw [wrm_eq]
  by_cases h : s = r ∧ i = j
  · rw [if_pos h, h.1, h.2]
  · rw [if_neg h]
theorem M_puts_ok {n p b : Nat} (V : VB (Q 11) n p) (hb : Z 96 22 = nI b) (h8 : b ≤ 8) (q w : Int32) (h : puv (Q 11) q w = 0) : cal yM_puts [.ref 96, .int q, .int w] (cm Q Z) = some (some (.int (puA (Q 11) q)), cm (qup (kbQ Q b) 11 (spX (Q 11) q w)) (kbZ Z b)) := by
  rw [cal_of (L := [some (.ref 96), some (.int q), some (.int w), none, none]) rfl rfl]
  have hp := V.2.2.1
  have h12 := V.2.2.2.1
  have h11 := kbQ_11 (Q := Q) h8
  unfold puv at h
  by_cases h1 : q < 0
  · rw [if_pos h1] at h; exact absurd h (by decide)
  · rw [if_neg h1] at h
    by_cases h2 : Q 11 0 8 < q
    · rw [if_pos h2] at h; exact absurd h (by decide)
    · rw [if_neg h2] at h
      cases h3 : cH (Q 11) w with
      | false => rw [h3, if_neg (by decide)] at h; exact absurd h (by decide)
      | true =>
        rw [h3, if_pos rfl] at h
        by_cases h4 : q < 12
        · have hne : ¬ q = 12 := fun z => by rw [z] at h4; exact absurd h4 (by decide)
          have kb := M_keepsBack (Q := Q) (Z := Z) hb h8
          by_cases h5 : q = Q 11 0 8
          · have e1 : puA (Q 11) q = 9 := by
              unfold puA
              rw [if_neg (by rw [h5]; exact fun z => absurd z (by simp))]
            have e2 : spX (Q 11) q w = wrm (wrm (Q 11) 0 8 (Q 11 0 8 + 1)) 7 q w := by
              unfold spX
              rw [if_pos h5, wrm_comm _ (by decide)]
            rw [e1, e2]
            have h5' := eq_true h5
            simp only [sM_puts_0, sM_puts_1, sM_puts_4, sM_puts_5, sM_puts_6, sM_puts_9, sM_puts_12, sM_puts_13, sM_puts_14, sM_puts_17, sM_puts_20, sM_puts_21, sM_puts_24, sM_puts_25, sM_puts_27, sM_puts_30, sM_puts_32, sM_puts_35, sM_puts_36, sM_puts_37, sM_puts_38, sM_puts_41, sM_puts_42, sM_puts_43, sM_puts_46, sM_puts_47, sM_puts_48, sM_puts_51, sM_puts_52, sM_puts_53, sM_puts_56, sM_puts_59, sM_puts_61, sM_puts_64, sM_puts_65, sM_puts_68, sM_puts_69, sM_puts_70, sM_puts_72, sM_puts_73, sM_puts_74, sM_puts_75, sM_puts_78, sM_puts_81, sM_puts_82, sM_puts_85, sM_puts_86, sM_puts_87, sM_puts_90, sM_puts_91, sM_puts_94, sM_puts_97, sM_puts_98, sM_puts_101, sM_puts_102, sM_puts_103, sM_puts_104, sM_puts_106, rI_s, rJ_s, rA_s, rV_s, cw_0, cw_i, cw_j, cw_r, Nat.zero_le, Nat.le_refl, ↓reduceIte, not_true_eq_false, not_false_eq_true, and_true, true_and, and_self, and_false, false_and, true_or, or_true, false_or, or_false, b2_t, b2_f, b2_0, b2_r, i10, i01, bft, btf, z01, o01, cK_r1, nal_r1, cm_r1, wr_r1, cK_r2, nal_r2, cm_r2, wr_r2, cK_r3, nal_r3, cm_r3, wr_r3, cK_r4, nal_r4, cm_r4, wr_r4, cK_r5, nal_r5, cm_r5, wr_r5, cK_r6, nal_r6, cm_r6, wr_r6, cK_r7, nal_r7, cm_r7, wr_r7, cm_sa7, cm_sa8, cm_sa9, wr_sa7, wr_sa8, wr_sa9, Nat.reduceLT, Nat.reduceLeDiff, Nat.reduceAdd, Nat.reduceSub, reduceCtorEq, qup_s, qup_q, rmd_e, mx_e, mn_e, n12, n20, n10, n2, n3, n8, n65, cz_88, wz_88, cz_89, wz_89, cz_91, wz_91, cz_92, wz_92, cz_93, wz_93, cz_94, wz_94, cz_95, wz_95, cz_97, wz_97, cz_105, wz_105, cz_106, wz_106, cz_107, wz_107, cz_108, wz_108, cz_110, wz_110, cz_111, wz_111, ck_92, na_92, ck_94, na_94, ck_95, na_95, ck_97, na_97, ck_105, na_105, ck_106, na_106, ck_107, na_107, ck_108, na_108, ck_110, na_110, ck_111, na_111, cf_15, wf_15, cf_16, wf_16, cf_17, wf_17, cf_19, wf_19, cf_20, wf_20, cf_21, wf_21, cf_22, wf_22, cf_24, wf_24, cf_26, wf_26, cm_968, wr_968, cm_969, wr_969, cm_9610, wr_9610, mk_98, ma_98, mk_99, ma_99, mk_100, ma_100, mk_101, ma_101, mk_102, ma_102, mk_103, ma_103, mk_104, ma_104, cm_98, wr_98, cm_99, wr_99, cm_100, wr_100, cm_101, wr_101, cm_102, wr_102, cm_103, wr_103, cm_104, wr_104, mk_109, ma_109, decide_true, decide_false, Bool.not_true, Bool.not_false, Bool.false_and, Bool.and_false, Bool.true_and, Bool.and_true, Bool.and_self, l00, l10, l20, l03, l13, l23, h1, h2, hne, M_isHolder V.1 V.2.1, h3, kb, h11, h5', h4]
          · have e2 : spX (Q 11) q w = wrm (Q 11) 7 q w := if_neg h5
            obtain ⟨j, hj, rfl⟩ := nI_of h1
            have hjp : j < p := by
              rw [hp] at h2 h5
              rcases Nat.lt_or_ge j p with z | z
              · exact z
              · rcases Nat.lt_or_ge p j with y | y
                · exact absurd (nI_lt y hj) h2
                · exact absurd (congrArg nI (show j = p by omega)) h5
            have e1 : puA (Q 11) (nI j) = Q 11 7 (nI j) := by
              unfold puA
              rw [if_pos (by rw [hp]; exact nI_lt hjp (by omega)), hv_n hp h12 hjp]
            have hs : wrm (Q 11) 0 8 (Q 11 0 8) = Q 11 := wrm_self _ _ _
            rw [e1, e2]
            simp only [sM_puts_0, sM_puts_1, sM_puts_4, sM_puts_5, sM_puts_6, sM_puts_9, sM_puts_12, sM_puts_13, sM_puts_14, sM_puts_17, sM_puts_20, sM_puts_21, sM_puts_24, sM_puts_25, sM_puts_27, sM_puts_30, sM_puts_32, sM_puts_35, sM_puts_36, sM_puts_37, sM_puts_38, sM_puts_41, sM_puts_42, sM_puts_43, sM_puts_46, sM_puts_47, sM_puts_48, sM_puts_51, sM_puts_52, sM_puts_53, sM_puts_56, sM_puts_59, sM_puts_61, sM_puts_64, sM_puts_65, sM_puts_68, sM_puts_69, sM_puts_70, sM_puts_72, sM_puts_73, sM_puts_74, sM_puts_75, sM_puts_78, sM_puts_81, sM_puts_82, sM_puts_85, sM_puts_86, sM_puts_87, sM_puts_90, sM_puts_91, sM_puts_94, sM_puts_97, sM_puts_98, sM_puts_101, sM_puts_102, sM_puts_103, sM_puts_104, sM_puts_106, rI_s, rJ_s, rA_s, rV_s, cw_0, cw_i, cw_j, cw_r, Nat.zero_le, Nat.le_refl, ↓reduceIte, not_true_eq_false, not_false_eq_true, and_true, true_and, and_self, and_false, false_and, true_or, or_true, false_or, or_false, b2_t, b2_f, b2_0, b2_r, i10, i01, bft, btf, z01, o01, cK_r1, nal_r1, cm_r1, wr_r1, cK_r2, nal_r2, cm_r2, wr_r2, cK_r3, nal_r3, cm_r3, wr_r3, cK_r4, nal_r4, cm_r4, wr_r4, cK_r5, nal_r5, cm_r5, wr_r5, cK_r6, nal_r6, cm_r6, wr_r6, cK_r7, nal_r7, cm_r7, wr_r7, cm_sa7, cm_sa8, cm_sa9, wr_sa7, wr_sa8, wr_sa9, Nat.reduceLT, Nat.reduceLeDiff, Nat.reduceAdd, Nat.reduceSub, reduceCtorEq, qup_s, qup_q, rmd_e, mx_e, mn_e, n12, n20, n10, n2, n3, n8, n65, cz_88, wz_88, cz_89, wz_89, cz_91, wz_91, cz_92, wz_92, cz_93, wz_93, cz_94, wz_94, cz_95, wz_95, cz_97, wz_97, cz_105, wz_105, cz_106, wz_106, cz_107, wz_107, cz_108, wz_108, cz_110, wz_110, cz_111, wz_111, ck_92, na_92, ck_94, na_94, ck_95, na_95, ck_97, na_97, ck_105, na_105, ck_106, na_106, ck_107, na_107, ck_108, na_108, ck_110, na_110, ck_111, na_111, cf_15, wf_15, cf_16, wf_16, cf_17, wf_17, cf_19, wf_19, cf_20, wf_20, cf_21, wf_21, cf_22, wf_22, cf_24, wf_24, cf_26, wf_26, cm_968, wr_968, cm_969, wr_969, cm_9610, wr_9610, mk_98, ma_98, mk_99, ma_99, mk_100, ma_100, mk_101, ma_101, mk_102, ma_102, mk_103, ma_103, mk_104, ma_104, cm_98, wr_98, cm_99, wr_99, cm_100, wr_100, cm_101, wr_101, cm_102, wr_102, cm_103, wr_103, cm_104, wr_104, mk_109, ma_109, decide_true, decide_false, Bool.not_true, Bool.not_false, Bool.false_and, Bool.and_false, Bool.true_and, Bool.and_true, Bool.and_self, l00, l10, l20, l03, l13, l23, h1, h2, hne, M_isHolder V.1 V.2.1, h3, kb, h11, h5, h4, hs]
        · rw [if_neg h4] at h; exact absurd h (by decide)
end MODH

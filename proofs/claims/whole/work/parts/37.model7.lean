/-! the model: what is done, and back -/
section MOD7
variable {Q : Nat → St} {Z : Mem}
/-- what is kept moves one window down, place by place -/
def shQ (Q : Nat → St) : Nat → (Nat → St)
  | 0 => Q
  | i + 1 => qup (shQ Q i) (12 + (159 + i) / 53) (wrm (shQ Q i (12 + (159 + i) / 53)) (kl ((159 + i) % 53)).1 (kl ((159 + i) % 53)).2 (shQ Q i (13 + (159 + i) / 53) (kl ((159 + i) % 53)).1 (kl ((159 + i) % 53)).2))
theorem L_shift : ∀ k i, i + k = 371 → ev yM_keepsBack 13 [some (.ref 96), some (.int (nI (159 + i)))] [] (cm (shQ Q i) Z) = ev yM_keepsBack 41 [some (.ref 96), some (.int 530)] [] (cm (shQ Q 371) Z) := by
  intro k
  induction k with
  | zero =>
    intro i hi
    obtain rfl : i = 371 := by omega
    have c : (nI (159 + 371) < 530) = False := nge (a := 530) (b := 530) (by decide) (by decide)
    rw [sM_keepsBack_13]
    simp only [sM_keepsBack_14, sM_keepsBack_17, rI_s, rJ_s, rA_s, rV_s, cw_0, cw_i, cw_j, cw_r, Nat.zero_le, Nat.le_refl, ↓reduceIte, not_true_eq_false, not_false_eq_true, and_true, true_and, and_self, and_false, false_and, true_or, or_true, false_or, or_false, b2_t, b2_f, b2_0, b2_r, i10, i01, bft, btf, z01, o01, cK_r1, nal_r1, cm_r1, wr_r1, cK_r2, nal_r2, cm_r2, wr_r2, cK_r3, nal_r3, cm_r3, wr_r3, cK_r4, nal_r4, cm_r4, wr_r4, cK_r5, nal_r5, cm_r5, wr_r5, cK_r6, nal_r6, cm_r6, wr_r6, cK_r7, nal_r7, cm_r7, wr_r7, cm_sa7, cm_sa8, cm_sa9, wr_sa7, wr_sa8, wr_sa9, Nat.reduceLT, Nat.reduceLeDiff, Nat.reduceAdd, Nat.reduceSub, reduceCtorEq, qup_s, qup_q, rmd_e, mx_e, mn_e, n12, n20, n10, n2, n3, n8, n65, cz_88, wz_88, cz_89, wz_89, cz_91, wz_91, cz_92, wz_92, cz_93, wz_93, cz_94, wz_94, cz_95, wz_95, cz_97, wz_97, cz_105, wz_105, cz_106, wz_106, cz_107, wz_107, cz_108, wz_108, cz_110, wz_110, cz_111, wz_111, ck_92, na_92, ck_94, na_94, ck_95, na_95, ck_97, na_97, ck_105, na_105, ck_106, na_106, ck_107, na_107, ck_108, na_108, ck_110, na_110, ck_111, na_111, cf_15, wf_15, cf_16, wf_16, cf_17, wf_17, cf_19, wf_19, cf_20, wf_20, cf_21, wf_21, cf_22, wf_22, cf_24, wf_24, cf_26, wf_26, cm_968, wr_968, cm_969, wr_969, cm_9610, wr_9610, mk_98, ma_98, mk_99, ma_99, mk_100, ma_100, mk_101, ma_101, mk_102, ma_102, mk_103, ma_103, mk_104, ma_104, cm_98, wr_98, cm_99, wr_99, cm_100, wr_100, cm_101, wr_101, cm_102, wr_102, cm_103, wr_103, cm_104, wr_104, mk_109, ma_109, decide_true, decide_false, Bool.not_true, Bool.not_false, Bool.false_and, Bool.and_false, Bool.true_and, Bool.and_true, Bool.and_self, l00, l10, l20, l03, l13, l23, c]
    rfl
  | succ k ih =>
    intro i hi
    have c : (nI (159 + i) < 530) = True := nlt (b := 530) (by omega) (by decide)
    have c0 := npos (a := 159 + i) (by omega)
    have c1 : (nI (159 + i) < 583) = True := nlt (b := 583) (by omega) (by decide)
    have d0 := npos (a := 159 + i + 53) (by omega)
    have d1 : (nI (159 + i + 53) < 583) = True := nlt (b := 583) (by omega) (by decide)
    have em : 53 * ((159 + i) / 53) + (159 + i) % 53 = 159 + i := by omega
    have em2 : 53 * ((159 + i) / 53 + 1) + (159 + i) % 53 = 159 + i + 53 := by omega
    have hr : ∀ R Z', cm R Z' 109 (nI (159 + i + 53)) = R (13 + (159 + i) / 53) (kl ((159 + i) % 53)).1 (kl ((159 + i) % 53)).2 := fun R Z' => by
      have q := cm_109 (Q := R) (Z := Z') (w := (159 + i) / 53 + 1) (o := (159 + i) % 53) (by omega) (by omega)
      rw [em2, show 12 + ((159 + i) / 53 + 1) = 13 + (159 + i) / 53 by omega] at q
      exact q
    have hk : ∀ R Z' v, wrm (cm R Z') 109 (nI (159 + i)) v = cm (qup R (12 + (159 + i) / 53) (wrm (R (12 + (159 + i) / 53)) (kl ((159 + i) % 53)).1 (kl ((159 + i) % 53)).2 v)) Z' := fun R Z' v => by
      have q := wr_109 (Q := R) (Z := Z') (w := (159 + i) / 53) (o := (159 + i) % 53) (v := v) (by omega) (by omega)
      rw [em] at q
      exact q
    have e53 : nI (159 + i) + 53 = nI (159 + i + 53) := by rw [show (53 : Int32) = nI 53 from rfl, nI_add]
    rw [← ih (i + 1) (by omega)]
    have e0 : shQ Q (i + 1) = qup (shQ Q i) (12 + (159 + i) / 53) (wrm (shQ Q i (12 + (159 + i) / 53)) (kl ((159 + i) % 53)).1 (kl ((159 + i) % 53)).2 (shQ Q i (13 + (159 + i) / 53) (kl ((159 + i) % 53)).1 (kl ((159 + i) % 53)).2)) := rfl
    rw [e0, sM_keepsBack_13]
    simp only [sM_keepsBack_0, sM_keepsBack_1, sM_keepsBack_4, sM_keepsBack_6, sM_keepsBack_9, sM_keepsBack_12, sM_keepsBack_14, sM_keepsBack_17, sM_keepsBack_20, sM_keepsBack_21, sM_keepsBack_24, sM_keepsBack_25, sM_keepsBack_26, sM_keepsBack_29, sM_keepsBack_30, sM_keepsBack_32, sM_keepsBack_33, sM_keepsBack_34, sM_keepsBack_35, sM_keepsBack_38, sM_keepsBack_41, sM_keepsBack_42, sM_keepsBack_42b, sM_keepsBack_43, sM_keepsBack_46, sM_keepsBack_47, sM_keepsBack_48, sM_keepsBack_51, sM_keepsBack_52, sM_keepsBack_53, sM_keepsBack_54, sM_keepsBack_57, sM_keepsBack_58, sM_keepsBack_59, sM_keepsBack_62, sM_keepsBack_63, sM_keepsBack_63b, sM_keepsBack_64, sM_keepsBack_67, sM_keepsBack_68, sM_keepsBack_69, sM_keepsBack_72, rI_s, rJ_s, rA_s, rV_s, cw_0, cw_i, cw_j, cw_r, Nat.zero_le, Nat.le_refl, ↓reduceIte, not_true_eq_false, not_false_eq_true, and_true, true_and, and_self, and_false, false_and, true_or, or_true, false_or, or_false, b2_t, b2_f, b2_0, b2_r, i10, i01, bft, btf, z01, o01, cK_r1, nal_r1, cm_r1, wr_r1, cK_r2, nal_r2, cm_r2, wr_r2, cK_r3, nal_r3, cm_r3, wr_r3, cK_r4, nal_r4, cm_r4, wr_r4, cK_r5, nal_r5, cm_r5, wr_r5, cK_r6, nal_r6, cm_r6, wr_r6, cK_r7, nal_r7, cm_r7, wr_r7, cm_sa7, cm_sa8, cm_sa9, wr_sa7, wr_sa8, wr_sa9, Nat.reduceLT, Nat.reduceLeDiff, Nat.reduceAdd, Nat.reduceSub, reduceCtorEq, qup_s, qup_q, rmd_e, mx_e, mn_e, n12, n20, n10, n2, n3, n8, n65, cz_88, wz_88, cz_89, wz_89, cz_91, wz_91, cz_92, wz_92, cz_93, wz_93, cz_94, wz_94, cz_95, wz_95, cz_97, wz_97, cz_105, wz_105, cz_106, wz_106, cz_107, wz_107, cz_108, wz_108, cz_110, wz_110, cz_111, wz_111, ck_92, na_92, ck_94, na_94, ck_95, na_95, ck_97, na_97, ck_105, na_105, ck_106, na_106, ck_107, na_107, ck_108, na_108, ck_110, na_110, ck_111, na_111, cf_15, wf_15, cf_16, wf_16, cf_17, wf_17, cf_19, wf_19, cf_20, wf_20, cf_21, wf_21, cf_22, wf_22, cf_24, wf_24, cf_26, wf_26, cm_968, wr_968, cm_969, wr_969, cm_9610, wr_9610, mk_98, ma_98, mk_99, ma_99, mk_100, ma_100, mk_101, ma_101, mk_102, ma_102, mk_103, ma_103, mk_104, ma_104, cm_98, wr_98, cm_99, wr_99, cm_100, wr_100, cm_101, wr_101, cm_102, wr_102, cm_103, wr_103, cm_104, wr_104, mk_109, ma_109, decide_true, decide_false, Bool.not_true, Bool.not_false, Bool.false_and, Bool.and_false, Bool.true_and, Bool.and_true, Bool.and_self, l00, l10, l20, l03, l13, l23, mk_109, ma_109, c, c0, c1, d0, d1, e53, hr, hk, nI_1]
    rfl
/-- after that a window is the next one -/
def dnQ (Q : Nat → St) : Nat → St := fun s => if 15 ≤ s ∧ s < 22 then Q (s + 1) else Q s
theorem shQ_at (Q : Nat → St) : ∀ i, i ≤ 371 → ∀ w o, w < 11 → o < 53 → shQ Q i (12 + w) (kl o).1 (kl o).2 = if 159 ≤ 53 * w + o ∧ 53 * w + o < 159 + i then Q (13 + w) (kl o).1 (kl o).2 else Q (12 + w) (kl o).1 (kl o).2 := by
  intro i
  induction i with
  | zero => intro _ w o _ _; rw [if_neg (by omega)]; rfl
  | succ i ih =>
    intro hi w o hw ho
    have e0 : shQ Q (i + 1) = qup (shQ Q i) (12 + (159 + i) / 53) (wrm (shQ Q i (12 + (159 + i) / 53)) (kl ((159 + i) % 53)).1 (kl ((159 + i) % 53)).2 (shQ Q i (13 + (159 + i) / 53) (kl ((159 + i) % 53)).1 (kl ((159 + i) % 53)).2)) := rfl
    rw [e0]
    by_cases hw2 : w = (159 + i) / 53
    · subst hw2
      rw [qup_s, wrm_eq]
      by_cases ho2 : o = (159 + i) % 53
      · subst ho2
        rw [if_pos ⟨rfl, rfl⟩, if_pos (by omega)]
        have q := ih (by omega) ((159 + i) / 53 + 1) ((159 + i) % 53) (by omega) ho
        rw [if_neg (by omega), show 12 + ((159 + i) / 53 + 1) = 13 + (159 + i) / 53 by omega] at q
        exact q
      · rw [if_neg (fun z => ho2 (kl_inj _ ho _ (Nat.mod_lt _ (by decide)) (Prod.ext z.1 z.2)))]
        rw [ih (by omega) _ o hw ho]
        by_cases hc : 159 ≤ 53 * ((159 + i) / 53) + o ∧ 53 * ((159 + i) / 53) + o < 159 + i
        · rw [if_pos hc, if_pos (by omega)]
        · rw [if_neg hc, if_neg (by omega)]
    · rw [qup_n (by omega), ih (by omega) w o hw ho]
      by_cases hc : 159 ≤ 53 * w + o ∧ 53 * w + o < 159 + i
      · rw [if_pos hc, if_pos (by omega)]
      · rw [if_neg hc, if_neg (by omega)]
theorem shQ_o (Q : Nat → St) {s : Nat} (hs : s < 15 ∨ 21 < s) : ∀ i, i ≤ 371 → shQ Q i s = Q s := by
  intro i
  induction i with
  | zero => intro _; rfl
  | succ i ih =>
    intro hi
    unfold shQ
    rw [qup_n (by omega)]
    exact ih (by omega)
theorem kl_su : ∀ r, r < 8 → ∀ j, sok r j = true → ∃ o, o < 53 ∧ kl o = (r, j) := by
  intro r h8 j hs
  rcases sok_cases hs h8 with ⟨rfl, h⟩ | ⟨h0, h6, i, hi, rfl⟩ | ⟨rfl, i, hi, rfl⟩ | ⟨rfl, i, hi, rfl⟩
  · rcases h with rfl | rfl | rfl
    · exact ⟨50, by decide, by decide⟩
    · exact ⟨51, by decide, by decide⟩
    · exact ⟨52, by decide, by decide⟩
  · have l : ln r = 7 := by unfold ln; rw [if_neg (by omega), if_neg (by omega)]
    have q := ofs_ln r h8 h0
    exact ⟨ofs r + i, by omega, kl_r r h8 h0 i (by omega)⟩
  · exact ⟨ofs 6 + i, by have := ofs_ln 6 (by decide) (by decide); have l : ln 6 = 3 := by decide
                         omega, kl_r 6 (by decide) (by decide) i hi⟩
  · exact ⟨ofs 7 + i, by have := ofs_ln 7 (by decide) (by decide); have l : ln 7 = 12 := by decide
                         omega, kl_r 7 (by decide) (by decide) i hi⟩
theorem shQ_dn : cm (shQ Q 371) Z = cm (dnQ Q) Z := by
  apply cm_ext
  intro s r j h8 hs
  unfold dnQ
  by_cases h : 15 ≤ s ∧ s < 22
  · rw [if_pos h]
    obtain ⟨o, ho, hk⟩ := kl_su r h8 j hs
    have q := shQ_at Q 371 (Nat.le_refl _) (s - 12) o (by omega) ho
    rw [hk, if_pos (by omega), show 12 + (s - 12) = s by omega, show 13 + (s - 12) = s + 1 by omega] at q
    exact q
  · rw [if_neg h, shQ_o Q (by omega) 371 (Nat.le_refl _)]
/-- what is kept to go back to -/
def kbQ (Q : Nat → St) (b : Nat) : Nat → St := if b = 8 then qup (dnQ Q) 22 (Q 11) else qup Q (15 + b) (Q 11)
def kbZ (Z : Mem) (b : Nat) : Mem := if b = 8 then wrm (kz (wrm Z 96 22 7) 1 583) 96 22 8 else wrm (kz Z 1 (nI (53 * (3 + b) + 53))) 96 22 (nI (b + 1))
theorem M_keepsBack {b : Nat} (hb : Z 96 22 = nI b) (h8 : b ≤ 8) : cal yM_keepsBack [.ref 96] (cm Q Z) = some (none, cm (kbQ Q b) (kbZ Z b)) := by
  rw [cal_of (L := [some (.ref 96), none]) rfl rfl]
  by_cases h : b = 8
  · subst h
    have e1 := L_shift (Q := Q) (Z := Z) 371 0 (by omega)
    rw [shQ_dn, show shQ Q 0 = Q from rfl, show nI (159 + 0) = 159 from rfl] at e1
    have hb' : Z 96 22 = 8 := hb
    have p : cal yM_passesAll [.ref 96, .int 10, .int 1] (cm (dnQ Q) (wrm Z 96 22 7)) = some (none, cm (qup (dnQ Q) 22 (dnQ Q 11)) (kz (wrm Z 96 22 7) 1 583)) := M_passesAll_k (Q := dnQ Q) (Z := wrm Z 96 22 7) (w := 10) (by decide)
    have h11 : dnQ Q 11 = Q 11 := if_neg (by omega)
    have e7 : (8 : Int32) - 1 = 7 := by decide
    have e10 : (3 : Int32) + 7 = 10 := by decide
    have e8 : (7 : Int32) + 1 = 8 := by decide
    have w7 : wrm Z 96 22 7 96 22 = 7 := ws
    have k7 : kz (wrm Z 96 22 7) 1 583 96 22 = 7 := by rw [kz_o (by decide) (by decide)]; exact ws
    have eh : ev yM_keepsBack 0 [some (.ref 96), none] [] (cm Q Z) = ev yM_keepsBack 13 [some (.ref 96), some (.int 159)] [] (cm Q Z) := by
      simp only [sM_keepsBack_0, sM_keepsBack_1, sM_keepsBack_4, sM_keepsBack_6, sM_keepsBack_9, sM_keepsBack_12, sM_keepsBack_14, sM_keepsBack_17, sM_keepsBack_20, sM_keepsBack_21, sM_keepsBack_24, sM_keepsBack_25, sM_keepsBack_26, sM_keepsBack_29, sM_keepsBack_30, sM_keepsBack_32, sM_keepsBack_33, sM_keepsBack_34, sM_keepsBack_35, sM_keepsBack_38, sM_keepsBack_41, sM_keepsBack_42, sM_keepsBack_42b, sM_keepsBack_43, sM_keepsBack_46, sM_keepsBack_47, sM_keepsBack_48, sM_keepsBack_51, sM_keepsBack_52, sM_keepsBack_53, sM_keepsBack_54, sM_keepsBack_57, sM_keepsBack_58, sM_keepsBack_59, sM_keepsBack_62, sM_keepsBack_63, sM_keepsBack_63b, sM_keepsBack_64, sM_keepsBack_67, sM_keepsBack_68, sM_keepsBack_69, sM_keepsBack_72, rI_s, rJ_s, rA_s, rV_s, cw_0, cw_i, cw_j, cw_r, Nat.zero_le, Nat.le_refl, ↓reduceIte, not_true_eq_false, not_false_eq_true, and_true, true_and, and_self, and_false, false_and, true_or, or_true, false_or, or_false, b2_t, b2_f, b2_0, b2_r, i10, i01, bft, btf, z01, o01, cK_r1, nal_r1, cm_r1, wr_r1, cK_r2, nal_r2, cm_r2, wr_r2, cK_r3, nal_r3, cm_r3, wr_r3, cK_r4, nal_r4, cm_r4, wr_r4, cK_r5, nal_r5, cm_r5, wr_r5, cK_r6, nal_r6, cm_r6, wr_r6, cK_r7, nal_r7, cm_r7, wr_r7, cm_sa7, cm_sa8, cm_sa9, wr_sa7, wr_sa8, wr_sa9, Nat.reduceLT, Nat.reduceLeDiff, Nat.reduceAdd, Nat.reduceSub, reduceCtorEq, qup_s, qup_q, rmd_e, mx_e, mn_e, n12, n20, n10, n2, n3, n8, n65, cz_88, wz_88, cz_89, wz_89, cz_91, wz_91, cz_92, wz_92, cz_93, wz_93, cz_94, wz_94, cz_95, wz_95, cz_97, wz_97, cz_105, wz_105, cz_106, wz_106, cz_107, wz_107, cz_108, wz_108, cz_110, wz_110, cz_111, wz_111, ck_92, na_92, ck_94, na_94, ck_95, na_95, ck_97, na_97, ck_105, na_105, ck_106, na_106, ck_107, na_107, ck_108, na_108, ck_110, na_110, ck_111, na_111, cf_15, wf_15, cf_16, wf_16, cf_17, wf_17, cf_19, wf_19, cf_20, wf_20, cf_21, wf_21, cf_22, wf_22, cf_24, wf_24, cf_26, wf_26, cm_968, wr_968, cm_969, wr_969, cm_9610, wr_9610, mk_98, ma_98, mk_99, ma_99, mk_100, ma_100, mk_101, ma_101, mk_102, ma_102, mk_103, ma_103, mk_104, ma_104, cm_98, wr_98, cm_99, wr_99, cm_100, wr_100, cm_101, wr_101, cm_102, wr_102, cm_103, wr_103, cm_104, wr_104, mk_109, ma_109, decide_true, decide_false, Bool.not_true, Bool.not_false, Bool.false_and, Bool.and_false, Bool.true_and, Bool.and_true, Bool.and_self, l00, l10, l20, l03, l13, l23, hb']
    rw [eh, e1]
    unfold kbQ kbZ
    rw [if_pos rfl, if_pos rfl]
    simp only [sM_keepsBack_0, sM_keepsBack_1, sM_keepsBack_4, sM_keepsBack_6, sM_keepsBack_9, sM_keepsBack_12, sM_keepsBack_14, sM_keepsBack_17, sM_keepsBack_20, sM_keepsBack_21, sM_keepsBack_24, sM_keepsBack_25, sM_keepsBack_26, sM_keepsBack_29, sM_keepsBack_30, sM_keepsBack_32, sM_keepsBack_33, sM_keepsBack_34, sM_keepsBack_35, sM_keepsBack_38, sM_keepsBack_41, sM_keepsBack_42, sM_keepsBack_42b, sM_keepsBack_43, sM_keepsBack_46, sM_keepsBack_47, sM_keepsBack_48, sM_keepsBack_51, sM_keepsBack_52, sM_keepsBack_53, sM_keepsBack_54, sM_keepsBack_57, sM_keepsBack_58, sM_keepsBack_59, sM_keepsBack_62, sM_keepsBack_63, sM_keepsBack_63b, sM_keepsBack_64, sM_keepsBack_67, sM_keepsBack_68, sM_keepsBack_69, sM_keepsBack_72, rI_s, rJ_s, rA_s, rV_s, cw_0, cw_i, cw_j, cw_r, Nat.zero_le, Nat.le_refl, ↓reduceIte, not_true_eq_false, not_false_eq_true, and_true, true_and, and_self, and_false, false_and, true_or, or_true, false_or, or_false, b2_t, b2_f, b2_0, b2_r, i10, i01, bft, btf, z01, o01, cK_r1, nal_r1, cm_r1, wr_r1, cK_r2, nal_r2, cm_r2, wr_r2, cK_r3, nal_r3, cm_r3, wr_r3, cK_r4, nal_r4, cm_r4, wr_r4, cK_r5, nal_r5, cm_r5, wr_r5, cK_r6, nal_r6, cm_r6, wr_r6, cK_r7, nal_r7, cm_r7, wr_r7, cm_sa7, cm_sa8, cm_sa9, wr_sa7, wr_sa8, wr_sa9, Nat.reduceLT, Nat.reduceLeDiff, Nat.reduceAdd, Nat.reduceSub, reduceCtorEq, qup_s, qup_q, rmd_e, mx_e, mn_e, n12, n20, n10, n2, n3, n8, n65, cz_88, wz_88, cz_89, wz_89, cz_91, wz_91, cz_92, wz_92, cz_93, wz_93, cz_94, wz_94, cz_95, wz_95, cz_97, wz_97, cz_105, wz_105, cz_106, wz_106, cz_107, wz_107, cz_108, wz_108, cz_110, wz_110, cz_111, wz_111, ck_92, na_92, ck_94, na_94, ck_95, na_95, ck_97, na_97, ck_105, na_105, ck_106, na_106, ck_107, na_107, ck_108, na_108, ck_110, na_110, ck_111, na_111, cf_15, wf_15, cf_16, wf_16, cf_17, wf_17, cf_19, wf_19, cf_20, wf_20, cf_21, wf_21, cf_22, wf_22, cf_24, wf_24, cf_26, wf_26, cm_968, wr_968, cm_969, wr_969, cm_9610, wr_9610, mk_98, ma_98, mk_99, ma_99, mk_100, ma_100, mk_101, ma_101, mk_102, ma_102, mk_103, ma_103, mk_104, ma_104, cm_98, wr_98, cm_99, wr_99, cm_100, wr_100, cm_101, wr_101, cm_102, wr_102, cm_103, wr_103, cm_104, wr_104, mk_109, ma_109, decide_true, decide_false, Bool.not_true, Bool.not_false, Bool.false_and, Bool.and_false, Bool.true_and, Bool.and_true, Bool.and_self, l00, l10, l20, l03, l13, l23, hb', e7, w7, e10, p, k7, e8, h11]
  · have hne : ¬ nI b = 8 := fun z => h ((nI_eq (b := 8) (by omega) (by decide)).mp z)
    have p := M_passesAll_k (Q := Q) (Z := Z) (w := 3 + b) (by omega)
    have e3 : 3 + nI b = nI (3 + b) := by rw [show (3 : Int32) = nI 3 from rfl, nI_add]
    have kb : ∀ q, kz Z 1 q 96 22 = nI b := fun q => by rw [kz_o (by decide) (by decide)]; exact hb
    unfold kbQ kbZ
    rw [if_neg h, if_neg h]
    rw [show 12 + (3 + b) = 15 + b by omega] at p
    simp only [sM_keepsBack_0, sM_keepsBack_1, sM_keepsBack_4, sM_keepsBack_6, sM_keepsBack_9, sM_keepsBack_12, sM_keepsBack_14, sM_keepsBack_17, sM_keepsBack_20, sM_keepsBack_21, sM_keepsBack_24, sM_keepsBack_25, sM_keepsBack_26, sM_keepsBack_29, sM_keepsBack_30, sM_keepsBack_32, sM_keepsBack_33, sM_keepsBack_34, sM_keepsBack_35, sM_keepsBack_38, sM_keepsBack_41, sM_keepsBack_42, sM_keepsBack_42b, sM_keepsBack_43, sM_keepsBack_46, sM_keepsBack_47, sM_keepsBack_48, sM_keepsBack_51, sM_keepsBack_52, sM_keepsBack_53, sM_keepsBack_54, sM_keepsBack_57, sM_keepsBack_58, sM_keepsBack_59, sM_keepsBack_62, sM_keepsBack_63, sM_keepsBack_63b, sM_keepsBack_64, sM_keepsBack_67, sM_keepsBack_68, sM_keepsBack_69, sM_keepsBack_72, rI_s, rJ_s, rA_s, rV_s, cw_0, cw_i, cw_j, cw_r, Nat.zero_le, Nat.le_refl, ↓reduceIte, not_true_eq_false, not_false_eq_true, and_true, true_and, and_self, and_false, false_and, true_or, or_true, false_or, or_false, b2_t, b2_f, b2_0, b2_r, i10, i01, bft, btf, z01, o01, cK_r1, nal_r1, cm_r1, wr_r1, cK_r2, nal_r2, cm_r2, wr_r2, cK_r3, nal_r3, cm_r3, wr_r3, cK_r4, nal_r4, cm_r4, wr_r4, cK_r5, nal_r5, cm_r5, wr_r5, cK_r6, nal_r6, cm_r6, wr_r6, cK_r7, nal_r7, cm_r7, wr_r7, cm_sa7, cm_sa8, cm_sa9, wr_sa7, wr_sa8, wr_sa9, Nat.reduceLT, Nat.reduceLeDiff, Nat.reduceAdd, Nat.reduceSub, reduceCtorEq, qup_s, qup_q, rmd_e, mx_e, mn_e, n12, n20, n10, n2, n3, n8, n65, cz_88, wz_88, cz_89, wz_89, cz_91, wz_91, cz_92, wz_92, cz_93, wz_93, cz_94, wz_94, cz_95, wz_95, cz_97, wz_97, cz_105, wz_105, cz_106, wz_106, cz_107, wz_107, cz_108, wz_108, cz_110, wz_110, cz_111, wz_111, ck_92, na_92, ck_94, na_94, ck_95, na_95, ck_97, na_97, ck_105, na_105, ck_106, na_106, ck_107, na_107, ck_108, na_108, ck_110, na_110, ck_111, na_111, cf_15, wf_15, cf_16, wf_16, cf_17, wf_17, cf_19, wf_19, cf_20, wf_20, cf_21, wf_21, cf_22, wf_22, cf_24, wf_24, cf_26, wf_26, cm_968, wr_968, cm_969, wr_969, cm_9610, wr_9610, mk_98, ma_98, mk_99, ma_99, mk_100, ma_100, mk_101, ma_101, mk_102, ma_102, mk_103, ma_103, mk_104, ma_104, cm_98, wr_98, cm_99, wr_99, cm_100, wr_100, cm_101, wr_101, cm_102, wr_102, cm_103, wr_103, cm_104, wr_104, mk_109, ma_109, decide_true, decide_false, Bool.not_true, Bool.not_false, Bool.false_and, Bool.and_false, Bool.true_and, Bool.and_true, Bool.and_self, l00, l10, l20, l03, l13, l23, hb, hne, e3, p, kb, nI_1]
end MOD7

/-! the model: WEEKS go by, what is thought of them -/
section MOD5
variable {Q : Nat → St} {Z : Mem}
theorem VB_c {X Y : St} {n p : Nat} (h : ∀ r j, r < 8 → sok r j = true → X r j = Y r j) (V : VB X n p) : VB Y n p := by
  obtain ⟨hn, h7, hp, h12, hv, hs, hr⟩ := V
  have k : ∀ r, 0 < r → r < 6 → ∀ i, i < n → Y r (nI i) = X r (nI i) := fun r h0 h6 i hi => by
    refine (h r (nI i) (by omega) (sok_r h0 (nI_pos (by omega)) ?_)).symm
    rcases (show r = 1 ∨ r = 2 ∨ r = 3 ∨ r = 4 ∨ r = 5 by omega) with rfl | rfl | rfl | rfl | rfl <;> exact nI_lt (b := 7) (by omega) (by decide)
  refine ⟨by rw [← h 0 7 (by decide) (by decide)]; exact hn, h7, by rw [← h 0 8 (by decide) (by decide)]; exact hp, h12, ?_, ?_, ?_⟩
  · intro i hi
    rw [k 2 (by decide) (by decide) i hi, k 3 (by decide) (by decide) i hi, k 5 (by decide) (by decide) i hi]
    exact hv i hi
  · intro i hi
    rw [← h 6 (nI i) (by decide) (sok_r (by decide) (nI_pos (by omega)) (nI_lt (b := 3) hi (by decide)))]
    exact hs i hi
  · intro i hi
    rw [← h 7 (nI i) (by decide) (sok_r (by decide) (nI_pos (by omega)) (nI_lt (b := 12) (by omega) (by decide)))]
    exact hr i hi
theorem seX_b (Y : St) (h : Int32) : ∀ m, m ≤ 3 → ∀ i, i < m → ∃ s, s ≤ 99 ∧ seX Y h m 6 (nI i) = nI s := by
  intro m
  induction m with
  | zero => intro _ i hi; omega
  | succ m ih =>
    intro hm i hi
    unfold seX
    by_cases e : i = m
    · rw [e, ws]; exact wi_b _
    · rw [wo (fun z => e ((nI_eq (by omega) (by omega)).mp z))]
      exact ih (by omega) i (by omega)
theorem VB_go {X : St} {n p : Nat} (V : VB X n p) {h : Int32} (hh : h = 9 ∨ ∃ w, w < n ∧ h = nI w) : VB (goX X h n) n p := by
  obtain ⟨hn, h7, hp, h12, hv, hs, hr⟩ := V
  by_cases h9 : h = 9
  · have eg : goX X h n = wrm (grX X h n) 0 9 (X 0 9 + 1) := if_pos h9
    rw [eg]
    refine ⟨by rw [wp_9_7, grX_o X h (by decide)]; exact hn, h7, by rw [wp_9_8, grX_o X h (by decide)]; exact hp, h12, ?_, ?_, ?_⟩
    · intro i hi
      rw [wn_0_2, wn_0_3, wn_0_5, grX_o X h (show (2 : Nat) ≠ 3 by decide), grX_o X h (show (5 : Nat) ≠ 3 by decide), grX_3 X h (by omega) n (by omega), if_pos hi]
      exact ⟨(hv i hi).1, wi_b _, (hv i hi).2.2⟩
    · intro i hi
      rw [wn_0_6, grX_o X h (show (6 : Nat) ≠ 3 by decide)]
      exact hs i hi
    · intro i hi
      rw [wn_0_7, grX_o X h (show (7 : Nat) ≠ 3 by decide)]
      exact hr i hi
  · have eg : goX X h n = wrm (seX (mtX (grX X h n) h) h 3) 0 9 (X 0 9 + 1) := if_neg h9
    have em : ∀ {r}, r ≠ 5 → r ≠ 3 → r ≠ 6 → seX (mtX (grX X h n) h) h 3 r = X r := fun {r} a b c => by
      rw [seX_o _ _ c]
      unfold mtX
      rw [wrm_ne a, grX_o X h b]
    rw [eg]
    refine ⟨by rw [wp_9_7, em (by decide) (by decide) (by decide)]; exact hn, h7, by rw [wp_9_8, em (by decide) (by decide) (by decide)]; exact hp, h12, ?_, ?_, ?_⟩
    · intro i hi
      rw [wn_0_2, wn_0_3, wn_0_5, em (by decide) (by decide) (by decide), seX_o _ _ (show (3 : Nat) ≠ 6 by decide), seX_o _ _ (show (5 : Nat) ≠ 6 by decide)]
      refine ⟨(hv i hi).1, ?_, ?_⟩
      · unfold mtX
        rw [wrm_ne (by decide), grX_3 X h (by omega) n (by omega), if_pos hi]
        exact wi_b _
      · unfold mtX
        by_cases e : nI i = h
        · rw [e, ws]; exact wi_b _
        · rw [wo e, grX_o X h (by decide)]; exact (hv i hi).2.2
    · intro i hi
      rw [wn_0_6]
      exact seX_b _ _ 3 (by decide) i hi
    · intro i hi
      rw [wn_0_7, em (by decide) (by decide) (by decide)]
      exact hr i hi
theorem VB_pass {X : St} {n p k : Nat} (V : VB X n p) (hk : X 0 9 = nI k) (hk2 : k < 2147483648) (g : Int32) : VB (passX X g n) n p := VB_c (go_passX V hk hk2 g) (VB_go V (hst_h V hk hk2 g))
theorem VB_wks {X : St} {n p k : Nat} (V : VB X n p) (hk : X 0 9 = nI k) : ∀ i, k + i < 2147483648 → VB (wksX X n i) n p ∧ wksX X n i 0 9 = nI (k + i) := by
  intro i
  induction i with
  | zero => intro _; exact ⟨V, hk⟩
  | succ i ih =>
    intro hi
    obtain ⟨a, b⟩ := ih (by omega)
    refine ⟨VB_pass a b (by omega) 0, ?_⟩
    have e0 : wksX X n (i + 1) = passX (wksX X n i) 0 n := rfl
    rw [e0, passX_9, b, nI_1]
    rfl
theorem L_goes {n p k m : Nat} (V : VB (Q 11) n p) (hk : Q 11 0 9 = nI k) (hm : k + m < 2147483648) : ∀ j i, i + j = m → ev yM_goes 2 [some (.ref 96), some (.int (nI m)), some (.int (nI i))] [] (cm (qup Q 11 (wksX (Q 11) n i)) Z) = some (none, cm (qup Q 11 (wksX (Q 11) n m)) Z) := by
  intro j
  induction j with
  | zero =>
    intro i hi
    obtain rfl : i = m := by omega
    rw [sM_goes_2]
    simp only [sM_goes_0, sM_goes_1, sM_goes_3, sM_goes_4, sM_goes_7, sM_goes_8, sM_goes_9, sM_goes_12, sM_goes_15, sM_goes_18, rI_s, rJ_s, rA_s, rV_s, cw_0, cw_i, cw_j, cw_r, Nat.zero_le, Nat.le_refl, ↓reduceIte, not_true_eq_false, not_false_eq_true, and_true, true_and, and_self, and_false, false_and, true_or, or_true, false_or, or_false, b2_t, b2_f, b2_0, b2_r, i10, i01, bft, btf, z01, o01, cK_r1, nal_r1, cm_r1, wr_r1, cK_r2, nal_r2, cm_r2, wr_r2, cK_r3, nal_r3, cm_r3, wr_r3, cK_r4, nal_r4, cm_r4, wr_r4, cK_r5, nal_r5, cm_r5, wr_r5, cK_r6, nal_r6, cm_r6, wr_r6, cK_r7, nal_r7, cm_r7, wr_r7, cm_sa7, cm_sa8, cm_sa9, wr_sa7, wr_sa8, wr_sa9, Nat.reduceLT, Nat.reduceLeDiff, Nat.reduceAdd, Nat.reduceSub, reduceCtorEq, qup_s, qup_q, rmd_e, mx_e, mn_e, n12, n20, n10, n2, n3, n8, n65, cz_88, wz_88, cz_89, wz_89, cz_91, wz_91, cz_92, wz_92, cz_93, wz_93, cz_94, wz_94, cz_95, wz_95, cz_97, wz_97, cz_105, wz_105, cz_106, wz_106, cz_107, wz_107, cz_108, wz_108, cz_110, wz_110, cz_111, wz_111, ck_92, na_92, ck_94, na_94, ck_95, na_95, ck_97, na_97, ck_105, na_105, ck_106, na_106, ck_107, na_107, ck_108, na_108, ck_110, na_110, ck_111, na_111, cf_15, wf_15, cf_16, wf_16, cf_17, wf_17, cf_19, wf_19, cf_20, wf_20, cf_21, wf_21, cf_22, wf_22, cf_24, wf_24, cf_26, wf_26, cm_968, wr_968, cm_969, wr_969, cm_9610, wr_9610, mk_98, ma_98, mk_99, ma_99, mk_100, ma_100, mk_101, ma_101, mk_102, ma_102, mk_103, ma_103, mk_104, ma_104, cm_98, wr_98, cm_99, wr_99, cm_100, wr_100, cm_101, wr_101, cm_102, wr_102, cm_103, wr_103, cm_104, wr_104, mk_109, ma_109, decide_true, decide_false, Bool.not_true, Bool.not_false, Bool.false_and, Bool.and_false, Bool.true_and, Bool.and_true, Bool.and_self, l00, l10, l20, l03, l13, l23, nge (Nat.le_refl i) (by omega)]
  | succ j ih =>
    intro i hi
    have c := nlt (show i < m by omega) (by omega)
    obtain ⟨a, b⟩ := VB_wks V hk i (by omega)
    have hp := M_goesWeek (Q := qup Q 11 (wksX (Q 11) n i)) (Z := Z) (n := n) (p := p) (k := k + i) (by rw [qup_s]; exact a) (by rw [qup_s]; exact b) (by omega) 0
    rw [qup_s, qup_q] at hp
    rw [← ih (i + 1) (by omega)]
    have e0 : wksX (Q 11) n (i + 1) = passX (wksX (Q 11) n i) 0 n := rfl
    rw [e0, sM_goes_2]
    simp only [sM_goes_0, sM_goes_1, sM_goes_3, sM_goes_4, sM_goes_7, sM_goes_8, sM_goes_9, sM_goes_12, sM_goes_15, sM_goes_18, rI_s, rJ_s, rA_s, rV_s, cw_0, cw_i, cw_j, cw_r, Nat.zero_le, Nat.le_refl, ↓reduceIte, not_true_eq_false, not_false_eq_true, and_true, true_and, and_self, and_false, false_and, true_or, or_true, false_or, or_false, b2_t, b2_f, b2_0, b2_r, i10, i01, bft, btf, z01, o01, cK_r1, nal_r1, cm_r1, wr_r1, cK_r2, nal_r2, cm_r2, wr_r2, cK_r3, nal_r3, cm_r3, wr_r3, cK_r4, nal_r4, cm_r4, wr_r4, cK_r5, nal_r5, cm_r5, wr_r5, cK_r6, nal_r6, cm_r6, wr_r6, cK_r7, nal_r7, cm_r7, wr_r7, cm_sa7, cm_sa8, cm_sa9, wr_sa7, wr_sa8, wr_sa9, Nat.reduceLT, Nat.reduceLeDiff, Nat.reduceAdd, Nat.reduceSub, reduceCtorEq, qup_s, qup_q, rmd_e, mx_e, mn_e, n12, n20, n10, n2, n3, n8, n65, cz_88, wz_88, cz_89, wz_89, cz_91, wz_91, cz_92, wz_92, cz_93, wz_93, cz_94, wz_94, cz_95, wz_95, cz_97, wz_97, cz_105, wz_105, cz_106, wz_106, cz_107, wz_107, cz_108, wz_108, cz_110, wz_110, cz_111, wz_111, ck_92, na_92, ck_94, na_94, ck_95, na_95, ck_97, na_97, ck_105, na_105, ck_106, na_106, ck_107, na_107, ck_108, na_108, ck_110, na_110, ck_111, na_111, cf_15, wf_15, cf_16, wf_16, cf_17, wf_17, cf_19, wf_19, cf_20, wf_20, cf_21, wf_21, cf_22, wf_22, cf_24, wf_24, cf_26, wf_26, cm_968, wr_968, cm_969, wr_969, cm_9610, wr_9610, mk_98, ma_98, mk_99, ma_99, mk_100, ma_100, mk_101, ma_101, mk_102, ma_102, mk_103, ma_103, mk_104, ma_104, cm_98, wr_98, cm_99, wr_99, cm_100, wr_100, cm_101, wr_101, cm_102, wr_102, cm_103, wr_103, cm_104, wr_104, mk_109, ma_109, decide_true, decide_false, Bool.not_true, Bool.not_false, Bool.false_and, Bool.and_false, Bool.true_and, Bool.and_true, Bool.and_self, l00, l10, l20, l03, l13, l23, c, hp, nI_1]
theorem M_goes {n p k m : Nat} (V : VB (Q 11) n p) (hk : Q 11 0 9 = nI k) (hm : k + m < 2147483648) : cal yM_goes [.ref 96, .int (nI m)] (cm Q Z) = some (none, cm (qup Q 11 (wksX (Q 11) n m)) Z) := by
  have e := L_goes (Q := Q) (Z := Z) V hk hm m 0 (by omega)
  have e0 : wksX (Q 11) n 0 = Q 11 := rfl
  rw [e0, qup_id, n0'] at e
  rw [cal_of (L := [some (.ref 96), some (.int (nI m)), none]) rfl rfl]
  simp only [sM_goes_0, sM_goes_1, sM_goes_3, sM_goes_4, sM_goes_7, sM_goes_8, sM_goes_9, sM_goes_12, sM_goes_15, sM_goes_18, rI_s, rJ_s, rA_s, rV_s, cw_0, cw_i, cw_j, cw_r, Nat.zero_le, Nat.le_refl, ↓reduceIte, not_true_eq_false, not_false_eq_true, and_true, true_and, and_self, and_false, false_and, true_or, or_true, false_or, or_false, b2_t, b2_f, b2_0, b2_r, i10, i01, bft, btf, z01, o01, cK_r1, nal_r1, cm_r1, wr_r1, cK_r2, nal_r2, cm_r2, wr_r2, cK_r3, nal_r3, cm_r3, wr_r3, cK_r4, nal_r4, cm_r4, wr_r4, cK_r5, nal_r5, cm_r5, wr_r5, cK_r6, nal_r6, cm_r6, wr_r6, cK_r7, nal_r7, cm_r7, wr_r7, cm_sa7, cm_sa8, cm_sa9, wr_sa7, wr_sa8, wr_sa9, Nat.reduceLT, Nat.reduceLeDiff, Nat.reduceAdd, Nat.reduceSub, reduceCtorEq, qup_s, qup_q, rmd_e, mx_e, mn_e, n12, n20, n10, n2, n3, n8, n65, cz_88, wz_88, cz_89, wz_89, cz_91, wz_91, cz_92, wz_92, cz_93, wz_93, cz_94, wz_94, cz_95, wz_95, cz_97, wz_97, cz_105, wz_105, cz_106, wz_106, cz_107, wz_107, cz_108, wz_108, cz_110, wz_110, cz_111, wz_111, ck_92, na_92, ck_94, na_94, ck_95, na_95, ck_97, na_97, ck_105, na_105, ck_106, na_106, ck_107, na_107, ck_108, na_108, ck_110, na_110, ck_111, na_111, cf_15, wf_15, cf_16, wf_16, cf_17, wf_17, cf_19, wf_19, cf_20, wf_20, cf_21, wf_21, cf_22, wf_22, cf_24, wf_24, cf_26, wf_26, cm_968, wr_968, cm_969, wr_969, cm_9610, wr_9610, mk_98, ma_98, mk_99, ma_99, mk_100, ma_100, mk_101, ma_101, mk_102, ma_102, mk_103, ma_103, mk_104, ma_104, cm_98, wr_98, cm_99, wr_99, cm_100, wr_100, cm_101, wr_101, cm_102, wr_102, cm_103, wr_103, cm_104, wr_104, mk_109, ma_109, decide_true, decide_false, Bool.not_true, Bool.not_false, Bool.false_and, Bool.and_false, Bool.true_and, Bool.and_true, Bool.and_self, l00, l10, l20, l03, l13, l23]
  exact e
theorem L_allOf {r m : Nat} (h0 : 0 < r) (h8 : r < 8) (hm : m ≤ ln r) : ∀ j i, i + j = m → ev yM_allOf 5 [some (.ref 96), some (.ref (97 + r)), some (.int (nI m)), some (.int (sumv (Q 11) r i)), some (.int (nI i))] [] (cm Q Z) = some (some (.int (sumv (Q 11) r m)), cm Q Z) := by
  have l12 := ln_12 r h8
  have mk := mk_r r h8 h0
  have ma := ma_r r h8 h0
  intro j
  induction j with
  | zero =>
    intro i hi
    obtain rfl : i = m := by omega
    rw [sM_allOf_5]
    simp only [sM_allOf_0, sM_allOf_1, sM_allOf_2, sM_allOf_3, sM_allOf_7, sM_allOf_8, sM_allOf_11, sM_allOf_12, sM_allOf_13, sM_allOf_15, sM_allOf_16, sM_allOf_17, sM_allOf_18, sM_allOf_21, sM_allOf_24, sM_allOf_25, rI_s, rJ_s, rA_s, rV_s, cw_0, cw_i, cw_j, cw_r, Nat.zero_le, Nat.le_refl, ↓reduceIte, not_true_eq_false, not_false_eq_true, and_true, true_and, and_self, and_false, false_and, true_or, or_true, false_or, or_false, b2_t, b2_f, b2_0, b2_r, i10, i01, bft, btf, z01, o01, cK_r1, nal_r1, cm_r1, wr_r1, cK_r2, nal_r2, cm_r2, wr_r2, cK_r3, nal_r3, cm_r3, wr_r3, cK_r4, nal_r4, cm_r4, wr_r4, cK_r5, nal_r5, cm_r5, wr_r5, cK_r6, nal_r6, cm_r6, wr_r6, cK_r7, nal_r7, cm_r7, wr_r7, cm_sa7, cm_sa8, cm_sa9, wr_sa7, wr_sa8, wr_sa9, Nat.reduceLT, Nat.reduceLeDiff, Nat.reduceAdd, Nat.reduceSub, reduceCtorEq, qup_s, qup_q, rmd_e, mx_e, mn_e, n12, n20, n10, n2, n3, n8, n65, cz_88, wz_88, cz_89, wz_89, cz_91, wz_91, cz_92, wz_92, cz_93, wz_93, cz_94, wz_94, cz_95, wz_95, cz_97, wz_97, cz_105, wz_105, cz_106, wz_106, cz_107, wz_107, cz_108, wz_108, cz_110, wz_110, cz_111, wz_111, ck_92, na_92, ck_94, na_94, ck_95, na_95, ck_97, na_97, ck_105, na_105, ck_106, na_106, ck_107, na_107, ck_108, na_108, ck_110, na_110, ck_111, na_111, cf_15, wf_15, cf_16, wf_16, cf_17, wf_17, cf_19, wf_19, cf_20, wf_20, cf_21, wf_21, cf_22, wf_22, cf_24, wf_24, cf_26, wf_26, cm_968, wr_968, cm_969, wr_969, cm_9610, wr_9610, mk_98, ma_98, mk_99, ma_99, mk_100, ma_100, mk_101, ma_101, mk_102, ma_102, mk_103, ma_103, mk_104, ma_104, cm_98, wr_98, cm_99, wr_99, cm_100, wr_100, cm_101, wr_101, cm_102, wr_102, cm_103, wr_103, cm_104, wr_104, mk_109, ma_109, decide_true, decide_false, Bool.not_true, Bool.not_false, Bool.false_and, Bool.and_false, Bool.true_and, Bool.and_true, Bool.and_self, l00, l10, l20, l03, l13, l23, nge (Nat.le_refl i) (by omega)]
  | succ j ih =>
    intro i hi
    have c := nlt (show i < m by omega) (by omega)
    have c1 := nlt (show i < ln r by omega) (by omega)
    have c0 := npos (a := i) (by omega)
    have hs : cm Q Z (97 + r) (nI i) = Q 11 r (nI i) := cm_m h0 h8 (sok_r h0 (nI_pos (by omega)) (by rw [ln_rl r h8 h0]; exact nI_lt (by omega) (by omega)))
    have e := ih (i + 1) (by omega)
    have e0 : sumv (Q 11) r (i + 1) = sumv (Q 11) r i + Q 11 r (nI i) := rfl
    rw [e0] at e
    rw [sM_allOf_5]
    simp only [sM_allOf_0, sM_allOf_1, sM_allOf_2, sM_allOf_3, sM_allOf_7, sM_allOf_8, sM_allOf_11, sM_allOf_12, sM_allOf_13, sM_allOf_15, sM_allOf_16, sM_allOf_17, sM_allOf_18, sM_allOf_21, sM_allOf_24, sM_allOf_25, rI_s, rJ_s, rA_s, rV_s, cw_0, cw_i, cw_j, cw_r, Nat.zero_le, Nat.le_refl, ↓reduceIte, not_true_eq_false, not_false_eq_true, and_true, true_and, and_self, and_false, false_and, true_or, or_true, false_or, or_false, b2_t, b2_f, b2_0, b2_r, i10, i01, bft, btf, z01, o01, cK_r1, nal_r1, cm_r1, wr_r1, cK_r2, nal_r2, cm_r2, wr_r2, cK_r3, nal_r3, cm_r3, wr_r3, cK_r4, nal_r4, cm_r4, wr_r4, cK_r5, nal_r5, cm_r5, wr_r5, cK_r6, nal_r6, cm_r6, wr_r6, cK_r7, nal_r7, cm_r7, wr_r7, cm_sa7, cm_sa8, cm_sa9, wr_sa7, wr_sa8, wr_sa9, Nat.reduceLT, Nat.reduceLeDiff, Nat.reduceAdd, Nat.reduceSub, reduceCtorEq, qup_s, qup_q, rmd_e, mx_e, mn_e, n12, n20, n10, n2, n3, n8, n65, cz_88, wz_88, cz_89, wz_89, cz_91, wz_91, cz_92, wz_92, cz_93, wz_93, cz_94, wz_94, cz_95, wz_95, cz_97, wz_97, cz_105, wz_105, cz_106, wz_106, cz_107, wz_107, cz_108, wz_108, cz_110, wz_110, cz_111, wz_111, ck_92, na_92, ck_94, na_94, ck_95, na_95, ck_97, na_97, ck_105, na_105, ck_106, na_106, ck_107, na_107, ck_108, na_108, ck_110, na_110, ck_111, na_111, cf_15, wf_15, cf_16, wf_16, cf_17, wf_17, cf_19, wf_19, cf_20, wf_20, cf_21, wf_21, cf_22, wf_22, cf_24, wf_24, cf_26, wf_26, cm_968, wr_968, cm_969, wr_969, cm_9610, wr_9610, mk_98, ma_98, mk_99, ma_99, mk_100, ma_100, mk_101, ma_101, mk_102, ma_102, mk_103, ma_103, mk_104, ma_104, cm_98, wr_98, cm_99, wr_99, cm_100, wr_100, cm_101, wr_101, cm_102, wr_102, cm_103, wr_103, cm_104, wr_104, mk_109, ma_109, decide_true, decide_false, Bool.not_true, Bool.not_false, Bool.false_and, Bool.and_false, Bool.true_and, Bool.and_true, Bool.and_self, l00, l10, l20, l03, l13, l23, mk, ma, c, c0, c1, hs, nI_1]
    exact e
theorem M_allOf {r m : Nat} (h0 : 0 < r) (h8 : r < 8) (hm : m ≤ ln r) : cal yM_allOf [.ref 96, .ref (97 + r), .int (nI m)] (cm Q Z) = some (some (.int (sumv (Q 11) r m)), cm Q Z) := by
  rw [cal_of (L := [some (.ref 96), some (.ref (97 + r)), some (.int (nI m)), none, none]) rfl rfl]
  simp only [sM_allOf_0, sM_allOf_1, sM_allOf_2, sM_allOf_3, sM_allOf_7, sM_allOf_8, sM_allOf_11, sM_allOf_12, sM_allOf_13, sM_allOf_15, sM_allOf_16, sM_allOf_17, sM_allOf_18, sM_allOf_21, sM_allOf_24, sM_allOf_25, rI_s, rJ_s, rA_s, rV_s, cw_0, cw_i, cw_j, cw_r, Nat.zero_le, Nat.le_refl, ↓reduceIte, not_true_eq_false, not_false_eq_true, and_true, true_and, and_self, and_false, false_and, true_or, or_true, false_or, or_false, b2_t, b2_f, b2_0, b2_r, i10, i01, bft, btf, z01, o01, cK_r1, nal_r1, cm_r1, wr_r1, cK_r2, nal_r2, cm_r2, wr_r2, cK_r3, nal_r3, cm_r3, wr_r3, cK_r4, nal_r4, cm_r4, wr_r4, cK_r5, nal_r5, cm_r5, wr_r5, cK_r6, nal_r6, cm_r6, wr_r6, cK_r7, nal_r7, cm_r7, wr_r7, cm_sa7, cm_sa8, cm_sa9, wr_sa7, wr_sa8, wr_sa9, Nat.reduceLT, Nat.reduceLeDiff, Nat.reduceAdd, Nat.reduceSub, reduceCtorEq, qup_s, qup_q, rmd_e, mx_e, mn_e, n12, n20, n10, n2, n3, n8, n65, cz_88, wz_88, cz_89, wz_89, cz_91, wz_91, cz_92, wz_92, cz_93, wz_93, cz_94, wz_94, cz_95, wz_95, cz_97, wz_97, cz_105, wz_105, cz_106, wz_106, cz_107, wz_107, cz_108, wz_108, cz_110, wz_110, cz_111, wz_111, ck_92, na_92, ck_94, na_94, ck_95, na_95, ck_97, na_97, ck_105, na_105, ck_106, na_106, ck_107, na_107, ck_108, na_108, ck_110, na_110, ck_111, na_111, cf_15, wf_15, cf_16, wf_16, cf_17, wf_17, cf_19, wf_19, cf_20, wf_20, cf_21, wf_21, cf_22, wf_22, cf_24, wf_24, cf_26, wf_26, cm_968, wr_968, cm_969, wr_969, cm_9610, wr_9610, mk_98, ma_98, mk_99, ma_99, mk_100, ma_100, mk_101, ma_101, mk_102, ma_102, mk_103, ma_103, mk_104, ma_104, cm_98, wr_98, cm_99, wr_99, cm_100, wr_100, cm_101, wr_101, cm_102, wr_102, cm_103, wr_103, cm_104, wr_104, mk_109, ma_109, decide_true, decide_false, Bool.not_true, Bool.not_false, Bool.false_and, Bool.and_false, Bool.true_and, Bool.and_true, Bool.and_self, l00, l10, l20, l03, l13, l23]
  exact L_allOf (Q := Q) (Z := Z) h0 h8 hm m 0 (by omega)
theorem M_allGrief {n : Nat} (hn : Q 11 0 7 = nI n) (h7 : n ≤ 7) : cal yM_allGrief [.ref 96] (cm Q Z) = some (some (.int (sumv (Q 11) 3 n)), cm Q Z) := by
  rw [cal_of (L := [some (.ref 96)]) rfl rfl]
  have e : cal yM_allOf [.ref 96, .ref 100, .int (nI n)] (cm Q Z) = some (some (.int (sumv (Q 11) 3 n)), cm Q Z) := M_allOf (r := 3) (by decide) (by decide) h7
  simp only [sM_allGrief_0, sM_allGrief_1, sM_allGrief_2, sM_allGrief_5, sM_allGrief_6, sM_allGrief_9, sM_allGrief_12, rI_s, rJ_s, rA_s, rV_s, cw_0, cw_i, cw_j, cw_r, Nat.zero_le, Nat.le_refl, ↓reduceIte, not_true_eq_false, not_false_eq_true, and_true, true_and, and_self, and_false, false_and, true_or, or_true, false_or, or_false, b2_t, b2_f, b2_0, b2_r, i10, i01, bft, btf, z01, o01, cK_r1, nal_r1, cm_r1, wr_r1, cK_r2, nal_r2, cm_r2, wr_r2, cK_r3, nal_r3, cm_r3, wr_r3, cK_r4, nal_r4, cm_r4, wr_r4, cK_r5, nal_r5, cm_r5, wr_r5, cK_r6, nal_r6, cm_r6, wr_r6, cK_r7, nal_r7, cm_r7, wr_r7, cm_sa7, cm_sa8, cm_sa9, wr_sa7, wr_sa8, wr_sa9, Nat.reduceLT, Nat.reduceLeDiff, Nat.reduceAdd, Nat.reduceSub, reduceCtorEq, qup_s, qup_q, rmd_e, mx_e, mn_e, n12, n20, n10, n2, n3, n8, n65, cz_88, wz_88, cz_89, wz_89, cz_91, wz_91, cz_92, wz_92, cz_93, wz_93, cz_94, wz_94, cz_95, wz_95, cz_97, wz_97, cz_105, wz_105, cz_106, wz_106, cz_107, wz_107, cz_108, wz_108, cz_110, wz_110, cz_111, wz_111, ck_92, na_92, ck_94, na_94, ck_95, na_95, ck_97, na_97, ck_105, na_105, ck_106, na_106, ck_107, na_107, ck_108, na_108, ck_110, na_110, ck_111, na_111, cf_15, wf_15, cf_16, wf_16, cf_17, wf_17, cf_19, wf_19, cf_20, wf_20, cf_21, wf_21, cf_22, wf_22, cf_24, wf_24, cf_26, wf_26, cm_968, wr_968, cm_969, wr_969, cm_9610, wr_9610, mk_98, ma_98, mk_99, ma_99, mk_100, ma_100, mk_101, ma_101, mk_102, ma_102, mk_103, ma_103, mk_104, ma_104, cm_98, wr_98, cm_99, wr_99, cm_100, wr_100, cm_101, wr_101, cm_102, wr_102, cm_103, wr_103, cm_104, wr_104, mk_109, ma_109, decide_true, decide_false, Bool.not_true, Bool.not_false, Bool.false_and, Bool.and_false, Bool.true_and, Bool.and_true, Bool.and_self, l00, l10, l20, l03, l13, l23, hn, e]
/-- what was thought is forgotten -/
theorem M_fgT (W : St) (c p : Int32) : cal yM_forgets [.ref 96] (cm (qup (qup Q 14 (Q 11)) 11 W) (kz Z c p)) = some (none, cm (qup Q 14 (Q 11)) (kz Z 0 159)) := by
  have e := M_forgets (Q := qup (qup Q 14 (Q 11)) 11 W) (Z := kz Z c p)
  have e1 : qup (qup Q 14 (Q 11)) 11 W 14 = Q 11 := by rw [qup_n (by decide), qup_s]
  have e2 : qup (qup Q 14 (Q 11)) 11 (Q 11) = qup Q 14 (Q 11) := by
    have q := qup_id (Q := qup Q 14 (Q 11)) (s := 11)
    rw [show qup Q 14 (Q 11) 11 = Q 11 from qup_n (by decide)] at q
    exact q
  rw [e1, qup_q, kz_k, e2] at e
  exact e
theorem M_goT {n p k m : Nat} (V : VB (Q 11) n p) (hk : Q 11 0 9 = nI k) (hm : k + m < 2147483648) : cal yM_goes [.ref 96, .int (nI m)] (cm (qup Q 14 (Q 11)) Z) = some (none, cm (qup (qup Q 14 (Q 11)) 11 (wksX (Q 11) n m)) Z) := by
  have h11 : qup Q 14 (Q 11) 11 = Q 11 := qup_n (by decide)
  have e := M_goes (Q := qup Q 14 (Q 11)) (Z := Z) (n := n) (p := p) (k := k) (m := m) (by rw [h11]; exact V) (by rw [h11]; exact hk) hm
  rw [h11] at e
  exact e
theorem M_agT {n m : Nat} {R : Nat → St} (hn : Q 11 0 7 = nI n) (h7 : n ≤ 7) : cal yM_allGrief [.ref 96] (cm (qup R 11 (wksX (Q 11) n m)) Z) = some (some (.int (grv (Q 11) n m)), cm (qup R 11 (wksX (Q 11) n m)) Z) := by
  have e := M_allGrief (Q := qup R 11 (wksX (Q 11) n m)) (Z := Z) (n := n) (by rw [qup_s, wksX_7]; exact hn) h7
  rw [qup_s] at e
  exact e
theorem M_griefIn {n p k m : Nat} (V : VB (Q 11) n p) (hk : Q 11 0 9 = nI k) (hm : k + m < 2147483648) : cal yM_griefIn [.ref 96, .int (nI m)] (cm Q Z) = some (some (.int (grv (Q 11) n m)), cm (qup Q 14 (Q 11)) (kz Z 0 159)) := by
  rw [cal_of (L := [some (.ref 96), some (.int (nI m)), none]) rfl rfl]
  simp only [sM_griefIn_0, sM_griefIn_1, sM_griefIn_4, sM_griefIn_5, sM_griefIn_6, sM_griefIn_9, sM_griefIn_10, sM_griefIn_13, sM_griefIn_14, sM_griefIn_15, sM_griefIn_18, sM_griefIn_19, rI_s, rJ_s, rA_s, rV_s, cw_0, cw_i, cw_j, cw_r, Nat.zero_le, Nat.le_refl, ↓reduceIte, not_true_eq_false, not_false_eq_true, and_true, true_and, and_self, and_false, false_and, true_or, or_true, false_or, or_false, b2_t, b2_f, b2_0, b2_r, i10, i01, bft, btf, z01, o01, cK_r1, nal_r1, cm_r1, wr_r1, cK_r2, nal_r2, cm_r2, wr_r2, cK_r3, nal_r3, cm_r3, wr_r3, cK_r4, nal_r4, cm_r4, wr_r4, cK_r5, nal_r5, cm_r5, wr_r5, cK_r6, nal_r6, cm_r6, wr_r6, cK_r7, nal_r7, cm_r7, wr_r7, cm_sa7, cm_sa8, cm_sa9, wr_sa7, wr_sa8, wr_sa9, Nat.reduceLT, Nat.reduceLeDiff, Nat.reduceAdd, Nat.reduceSub, reduceCtorEq, qup_s, qup_q, rmd_e, mx_e, mn_e, n12, n20, n10, n2, n3, n8, n65, cz_88, wz_88, cz_89, wz_89, cz_91, wz_91, cz_92, wz_92, cz_93, wz_93, cz_94, wz_94, cz_95, wz_95, cz_97, wz_97, cz_105, wz_105, cz_106, wz_106, cz_107, wz_107, cz_108, wz_108, cz_110, wz_110, cz_111, wz_111, ck_92, na_92, ck_94, na_94, ck_95, na_95, ck_97, na_97, ck_105, na_105, ck_106, na_106, ck_107, na_107, ck_108, na_108, ck_110, na_110, ck_111, na_111, cf_15, wf_15, cf_16, wf_16, cf_17, wf_17, cf_19, wf_19, cf_20, wf_20, cf_21, wf_21, cf_22, wf_22, cf_24, wf_24, cf_26, wf_26, cm_968, wr_968, cm_969, wr_969, cm_9610, wr_9610, mk_98, ma_98, mk_99, ma_99, mk_100, ma_100, mk_101, ma_101, mk_102, ma_102, mk_103, ma_103, mk_104, ma_104, cm_98, wr_98, cm_99, wr_99, cm_100, wr_100, cm_101, wr_101, cm_102, wr_102, cm_103, wr_103, cm_104, wr_104, mk_109, ma_109, decide_true, decide_false, Bool.not_true, Bool.not_false, Bool.false_and, Bool.and_false, Bool.true_and, Bool.and_true, Bool.and_self, l00, l10, l20, l03, l13, l23, M_thinks, M_goT V hk hm, M_agT V.1 V.2.1, M_fgT]
theorem hW_7 {X : St} {w : Int32} (h : hW X w = true) : ¬ w < 0 ∧ w < 7 := ⟨(hW_t h).1, (hW_t h).2.2⟩
theorem M_griefOfIn {n p k m : Nat} {w : Int32} (V : VB (Q 11) n p) (hk : Q 11 0 9 = nI k) (hm : k + m < 2147483648) (hw : hW (Q 11) w = true) : cal yM_griefOfIn [.ref 96, .int w, .int (nI m)] (cm Q Z) = some (some (.int (wksX (Q 11) n m 3 w)), cm (qup Q 14 (Q 11)) (kz Z 0 159)) := by
  rw [cal_of (L := [some (.ref 96), some (.int w), some (.int (nI m)), none]) rfl rfl]
  obtain ⟨h1, h2⟩ := hW_7 hw
  simp only [sM_griefOfIn_0, sM_griefOfIn_1, sM_griefOfIn_4, sM_griefOfIn_5, sM_griefOfIn_6, sM_griefOfIn_9, sM_griefOfIn_10, sM_griefOfIn_13, sM_griefOfIn_14, sM_griefOfIn_15, sM_griefOfIn_16, sM_griefOfIn_17, sM_griefOfIn_20, sM_griefOfIn_21, rI_s, rJ_s, rA_s, rV_s, cw_0, cw_i, cw_j, cw_r, Nat.zero_le, Nat.le_refl, ↓reduceIte, not_true_eq_false, not_false_eq_true, and_true, true_and, and_self, and_false, false_and, true_or, or_true, false_or, or_false, b2_t, b2_f, b2_0, b2_r, i10, i01, bft, btf, z01, o01, cK_r1, nal_r1, cm_r1, wr_r1, cK_r2, nal_r2, cm_r2, wr_r2, cK_r3, nal_r3, cm_r3, wr_r3, cK_r4, nal_r4, cm_r4, wr_r4, cK_r5, nal_r5, cm_r5, wr_r5, cK_r6, nal_r6, cm_r6, wr_r6, cK_r7, nal_r7, cm_r7, wr_r7, cm_sa7, cm_sa8, cm_sa9, wr_sa7, wr_sa8, wr_sa9, Nat.reduceLT, Nat.reduceLeDiff, Nat.reduceAdd, Nat.reduceSub, reduceCtorEq, qup_s, qup_q, rmd_e, mx_e, mn_e, n12, n20, n10, n2, n3, n8, n65, cz_88, wz_88, cz_89, wz_89, cz_91, wz_91, cz_92, wz_92, cz_93, wz_93, cz_94, wz_94, cz_95, wz_95, cz_97, wz_97, cz_105, wz_105, cz_106, wz_106, cz_107, wz_107, cz_108, wz_108, cz_110, wz_110, cz_111, wz_111, ck_92, na_92, ck_94, na_94, ck_95, na_95, ck_97, na_97, ck_105, na_105, ck_106, na_106, ck_107, na_107, ck_108, na_108, ck_110, na_110, ck_111, na_111, cf_15, wf_15, cf_16, wf_16, cf_17, wf_17, cf_19, wf_19, cf_20, wf_20, cf_21, wf_21, cf_22, wf_22, cf_24, wf_24, cf_26, wf_26, cm_968, wr_968, cm_969, wr_969, cm_9610, wr_9610, mk_98, ma_98, mk_99, ma_99, mk_100, ma_100, mk_101, ma_101, mk_102, ma_102, mk_103, ma_103, mk_104, ma_104, cm_98, wr_98, cm_99, wr_99, cm_100, wr_100, cm_101, wr_101, cm_102, wr_102, cm_103, wr_103, cm_104, wr_104, mk_109, ma_109, decide_true, decide_false, Bool.not_true, Bool.not_false, Bool.false_and, Bool.and_false, Bool.true_and, Bool.and_true, Bool.and_self, l00, l10, l20, l03, l13, l23, M_thinks, M_goT V hk hm, M_fgT, h1, h2]
theorem in_wf (c l : Int32) : (inB c 0 l = true) = (wfv c l = 0) := by
  unfold inB wfv
  apply propext
  by_cases h1 : c < 0
  · rw [if_pos h1]; simp [h1]
  · rw [if_neg h1]
    by_cases h2 : l < c
    · rw [if_pos h2]; simp [h2]
    · rw [if_neg h2]; simp [h1, h2]
end MOD5

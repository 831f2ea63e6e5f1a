/-! the model: leave. What stands behind the ROTA's places doesn't count -/
section MODN
variable {Q : Nat → St} {Z : Mem}
def rp (X : St) (R : Int32 → Int32) : St := fun r j => if r = 7 then R j else X r j
theorem rp_n {X : St} {R : Int32 → Int32} {r : Nat} (h : r ≠ 7) : rp X R r = X r := by
  funext j
  exact if_neg h
theorem rp_7 {X : St} {R : Int32 → Int32} : rp X R 7 = R := by
  funext j
  exact if_pos rfl
theorem rp_w {X : St} {R : Int32 → Int32} {r : Nat} {j v : Int32} (h : r ≠ 7) : wrm (rp X R) r j v = rp (wrm X r j v) R := by
  funext s i
  by_cases hs : s = 7
  · subst hs
    rw [wrm_ne (show (7 : Nat) ≠ r from fun z => h z.symm), rp_7, rp_7]
  · rw [rp_n hs, wrm_eq, wrm_eq, rp_n hs]
theorem hW_rp (X : St) (R : Int32 → Int32) (w : Int32) : hW (rp X R) w = hW X w := by
  unfold hW
  rw [rp_n (show (0 : Nat) ≠ 7 by decide)]
theorem wv_rp (X : St) (R : Int32 → Int32) {r : Nat} (h : r ≠ 7) (w : Int32) : wv (rp X R) r w = wv X r w := by
  unfold wv
  rw [hW_rp, rp_n h]
theorem dM_rp (X : St) (R : Int32 → Int32) (w : Int32) : dM (rp X R) w = dM X w := by
  unfold dM
  rw [wv_rp X R (by decide), rp_n (show (0 : Nat) ≠ 7 by decide)]
theorem comfv_rp (X : St) (R : Int32 → Int32) (w : Int32) : comfv (rp X R) w = comfv X w := by
  unfold comfv
  rw [hW_rp, dM_rp, rp_n (show (1 : Nat) ≠ 7 by decide), rp_n (show (2 : Nat) ≠ 7 by decide), rp_n (show (6 : Nat) ≠ 7 by decide)]
theorem wearv_rp (X : St) (R : Int32 → Int32) (w p : Int32) : wearv (rp X R) w p = wearv X w p := by
  unfold wearv
  rw [hW_rp, rp_n (show (1 : Nat) ≠ 7 by decide), rp_n (show (2 : Nat) ≠ 7 by decide), rp_n (show (3 : Nat) ≠ 7 by decide)]
theorem hg1_rp (X : St) (R : Int32 → Int32) (w : Int32) : hg1 (rp X R) w = rp (hg1 X w) R := by
  unfold hg1
  rw [dM_rp, rp_n (show (5 : Nat) ≠ 7 by decide), rp_w (show (5 : Nat) ≠ 7 by decide)]
  by_cases h : dM X w = true ∧ X 5 w < 99
  · rw [if_pos h, if_pos h]
  · rw [if_neg h, if_neg h]
theorem hg2_rp (X : St) (R : Int32 → Int32) (w : Int32) : hg2 (rp X R) w = rp (hg2 X w) R := by
  unfold hg2
  rw [hg1_rp, comfv_rp, rp_n (show (3 : Nat) ≠ 7 by decide), rp_w (show (3 : Nat) ≠ 7 by decide)]
theorem hg3_rp (X : St) (R : Int32 → Int32) (w : Int32) : ∀ i, hg3 (rp X R) w i = rp (hg3 X w i) R := by
  intro i
  induction i with
  | zero => rfl
  | succ i ih =>
    unfold hg3
    rw [ih, wearv_rp, rp_n (show (6 : Nat) ≠ 7 by decide), rp_w (show (6 : Nat) ≠ 7 by decide)]
theorem hgX_rp (X : St) (R : Int32 → Int32) (w : Int32) : hgX (rp X R) w = rp (hgX X w) R := by
  unfold hgX
  rw [hg2_rp, hg3_rp]
theorem agX_rp (X : St) (R : Int32 → Int32) (h : Int32) : ∀ i, agX (rp X R) h i = rp (agX X h i) R := by
  intro i
  induction i with
  | zero => rfl
  | succ i ih =>
    unfold agX
    rw [ih, rp_n (show (3 : Nat) ≠ 7 by decide), rp_w (show (3 : Nat) ≠ 7 by decide)]
    by_cases h1 : nI i = h
    · rw [if_pos h1, if_pos h1]
    · rw [if_neg h1, if_neg h1]
      by_cases h2 : agX X h i 3 (nI i) < 99
      · rw [if_pos h2, if_pos h2]
      · rw [if_neg h2, if_neg h2]
theorem pw1_rp (X : St) (R : Int32 → Int32) (h : Int32) : pw1 (rp X R) h = rp (pw1 X h) R := by
  unfold pw1
  rw [hW_rp, hgX_rp]
  by_cases h1 : hW X h = true
  · rw [if_pos h1, if_pos h1]
  · rw [if_neg h1, if_neg h1]
theorem passX_rp (X : St) (R : Int32 → Int32) (g : Int32) (n : Nat) (hh : hst (rp X R) g = hst X g) : passX (rp X R) g n = rp (passX X g n) R := by
  unfold passX
  rw [hh, pw1_rp, agX_rp, rp_n (show (0 : Nat) ≠ 7 by decide), rp_w (show (0 : Nat) ≠ 7 by decide)]
theorem passX_r7 (X : St) (g : Int32) (n : Nat) : passX X g n 7 = X 7 := by
  unfold passX
  rw [wrm_ne (by decide), agX_o _ _ (by decide)]
  unfold pw1
  by_cases h1 : hW X (hst X g) = true
  · rw [if_pos h1]
    unfold hgX
    rw [hg3_o _ _ (by decide)]
    unfold hg2
    rw [wrm_ne (by decide), hg1_o _ _ (by decide)]
  · rw [if_neg h1]
theorem wksX_r7 (X : St) (n : Nat) : ∀ i, wksX X n i 7 = X 7 := by
  intro i
  induction i with
  | zero => rfl
  | succ i ih =>
    have e0 : wksX X n (i + 1) = passX (wksX X n i) 0 n := rfl
    rw [e0, passX_r7, ih]
theorem hostv_rp {X : St} {R : Int32 → Int32} {p k : Nat} (hp : X 0 8 = nI p) (h12 : p ≤ 12) (hk : X 0 9 = nI k) (hk2 : k < 2147483648) (hR : ∀ i, i < p → R (nI i) = X 7 (nI i)) : hostv (rp X R) 0 = hostv X 0 := by
  have hp' : rp X R 0 8 = nI p := by rw [rp_n (show (0 : Nat) ≠ 7 by decide)]; exact hp
  have hk' : rp X R 0 9 = nI k := by rw [rp_n (show (0 : Nat) ≠ 7 by decide)]; exact hk
  rcases Nat.eq_zero_or_pos p with h0 | h0
  · rw [h0] at hp hp'
    rw [hostv_0 hp, hostv_0 hp']
  · rw [hostv_p hp' h0 h12 (by rw [Int32.add_zero]; exact hk') hk2, hostv_p hp h0 h12 (by rw [Int32.add_zero]; exact hk) hk2, rp_7]
    exact hR _ (Nat.mod_lt _ h0)
theorem wksX_rp {X : St} {R : Int32 → Int32} {n p k : Nat} (V : VB X n p) (hk : X 0 9 = nI k) (hR : ∀ i, i < p → R (nI i) = X 7 (nI i)) : ∀ i, k + i < 2147483648 → wksX (rp X R) n i = rp (wksX X n i) R := by
  intro i
  induction i with
  | zero => intro _; rfl
  | succ i ih =>
    intro hi
    obtain ⟨a, b⟩ := VB_wks V hk i (by omega)
    have e0 : wksX (rp X R) n (i + 1) = passX (wksX (rp X R) n i) 0 n := rfl
    have e1 : wksX X n (i + 1) = passX (wksX X n i) 0 n := rfl
    rw [e0, e1, ih (by omega)]
    apply passX_rp
    rw [show hst (rp (wksX X n i) R) 0 = hostv (rp (wksX X n i) R) 0 from if_pos rfl, show hst (wksX X n i) 0 = hostv (wksX X n i) 0 from if_pos rfl]
    exact hostv_rp a.2.2.1 a.2.2.2.1 b (by omega) (fun j hj => by rw [wksX_r7]; exact hR j hj)
/-- alike but behind the places -/
def ER (p : Nat) (X Y : St) : Prop := (∀ r, r ≠ 7 → Y r = X r) ∧ (∀ i, i < p → Y 7 (nI i) = X 7 (nI i))
theorem ER_r (p : Nat) (X : St) : ER p X X := ⟨fun _ _ => rfl, fun _ _ => rfl⟩
theorem ER_rp {p : Nat} {X Y : St} (h : ER p X Y) : Y = rp X (Y 7) := by
  funext r j
  by_cases hr : r = 7
  · subst hr; rw [rp_7]
  · rw [rp_n hr, h.1 r hr]
theorem ER_wks {X Y : St} {n p k : Nat} (V : VB X n p) (hk : X 0 9 = nI k) (h : ER p X Y) {i : Nat} (hi : k + i < 2147483648) {r : Nat} (hr : r ≠ 7) : wksX Y n i r = wksX X n i r := by
  rw [ER_rp h, wksX_rp V hk h.2 i hi, rp_n hr]
theorem lvX_o (X : St) (w : Int32) {r : Nat} (hr : r ≠ 7) : ∀ i, lvX X w i r = X r := by
  intro i
  induction i with
  | zero => rfl
  | succ i ih =>
    unfold lvX
    split
    · rw [wrm_ne hr]; exact ih
    · exact ih
theorem lvX_p (X : St) (w : Int32) {a : Nat} (ha : a < 1000) : ∀ i, i < 1000 → lvX X w i 7 (nI a) = if a < i then (if X 7 (nI a) = w then 9 else X 7 (nI a)) else X 7 (nI a) := by
  intro i
  induction i with
  | zero => intro _; rw [if_neg (by omega)]; rfl
  | succ i ih =>
    intro hi
    have ih' := ih (by omega)
    by_cases e : a = i
    · subst e
      rw [if_neg (by omega)] at ih'
      rw [if_pos (by omega)]
      unfold lvX
      rw [ih']
      by_cases h : X 7 (nI a) = w
      · rw [if_pos h, if_pos h]; exact ws
      · rw [if_neg h, if_neg h, ih']
    · have hne : ¬ nI a = nI i := fun z => e ((nI_eq (by omega) (by omega)).mp z)
      have e2 : lvX X w (i + 1) 7 (nI a) = lvX X w i 7 (nI a) := by
        conv => lhs; unfold lvX
        split
        · exact wo hne
        · rfl
      rw [e2, ih']
      by_cases hl : a < i
      · rw [if_pos hl, if_pos (show a < i + 1 by omega)]
      · rw [if_neg hl, if_neg (show ¬ a < i + 1 by omega)]
theorem ER_lv {X Y : St} {p : Nat} (h12 : p ≤ 12) (h : ER p X Y) (w : Int32) : ER p (lvX X w p) (lvX Y w 12) := by
  refine ⟨fun r hr => by rw [lvX_o _ _ hr, lvX_o _ _ hr, h.1 r hr], fun i hi => ?_⟩
  rw [lvX_p Y w (by omega) 12 (by decide), lvX_p X w (by omega) p (by omega), if_pos (by omega), if_pos hi, h.2 i hi]
theorem VB_lv {X : St} {n p : Nat} (V : VB X n p) (w : Int32) : VB (lvX X w p) n p := by
  obtain ⟨hn, h7, hp, h12, hv, hs, hr⟩ := V
  refine ⟨by rw [lvX_o _ _ (by decide)]; exact hn, h7, by rw [lvX_o _ _ (by decide)]; exact hp, h12, ?_, ?_, ?_⟩
  · intro i hi
    rw [lvX_o _ _ (show (2 : Nat) ≠ 7 by decide), lvX_o _ _ (show (3 : Nat) ≠ 7 by decide), lvX_o _ _ (show (5 : Nat) ≠ 7 by decide)]
    exact hv i hi
  · intro i hi
    rw [lvX_o _ _ (show (6 : Nat) ≠ 7 by decide)]; exact hs i hi
  · intro i hi
    rw [lvX_p X w (by omega) p (by omega), if_pos hi]
    by_cases h : X 7 (nI i) = w
    · rw [if_pos h]; exact Or.inl rfl
    · rw [if_neg h]; exact hr i hi
theorem L_mleaves (w : Int32) (X : St) {p : Nat} (hp : X 0 8 = nI p) (h12 : p ≤ 12) : ∀ j i, i + j = p → ev yM_leavesOut 2 [some (.ref 96), some (.int w), some (.int (nI i))] [] (cm (qup Q 11 (lvX X w i)) Z) = some (none, cm (qup Q 11 (lvX X w p)) Z) := by
  intro j
  induction j with
  | zero =>
    intro i hi
    obtain rfl : i = p := by omega
    have e1 : lvX X w i 0 8 = nI i := by rw [lvX_o _ _ (by decide)]; exact hp
    rw [sM_leavesOut_2]
    simp only [sM_leavesOut_0, sM_leavesOut_1, sM_leavesOut_3, sM_leavesOut_4, sM_leavesOut_7, sM_leavesOut_10, sM_leavesOut_11, sM_leavesOut_14, sM_leavesOut_15, sM_leavesOut_16, sM_leavesOut_19, sM_leavesOut_20, sM_leavesOut_21, sM_leavesOut_22, sM_leavesOut_25, sM_leavesOut_27, sM_leavesOut_30, sM_leavesOut_31, sM_leavesOut_34, sM_leavesOut_35, sM_leavesOut_36, sM_leavesOut_37, sM_leavesOut_40, sM_leavesOut_43, rI_s, rJ_s, rA_s, rV_s, cw_0, cw_i, cw_j, cw_r, Nat.zero_le, Nat.le_refl, ↓reduceIte, not_true_eq_false, not_false_eq_true, and_true, true_and, and_self, and_false, false_and, true_or, or_true, false_or, or_false, b2_t, b2_f, b2_0, b2_r, i10, i01, bft, btf, z01, o01, cK_r1, nal_r1, cm_r1, wr_r1, cK_r2, nal_r2, cm_r2, wr_r2, cK_r3, nal_r3, cm_r3, wr_r3, cK_r4, nal_r4, cm_r4, wr_r4, cK_r5, nal_r5, cm_r5, wr_r5, cK_r6, nal_r6, cm_r6, wr_r6, cK_r7, nal_r7, cm_r7, wr_r7, cm_sa7, cm_sa8, cm_sa9, wr_sa7, wr_sa8, wr_sa9, Nat.reduceLT, Nat.reduceLeDiff, Nat.reduceAdd, Nat.reduceSub, reduceCtorEq, qup_s, qup_q, rmd_e, mx_e, mn_e, n12, n20, n10, n2, n3, n8, n65, cz_88, wz_88, cz_89, wz_89, cz_91, wz_91, cz_92, wz_92, cz_93, wz_93, cz_94, wz_94, cz_95, wz_95, cz_97, wz_97, cz_105, wz_105, cz_106, wz_106, cz_107, wz_107, cz_108, wz_108, cz_110, wz_110, cz_111, wz_111, ck_92, na_92, ck_94, na_94, ck_95, na_95, ck_97, na_97, ck_105, na_105, ck_106, na_106, ck_107, na_107, ck_108, na_108, ck_110, na_110, ck_111, na_111, cf_15, wf_15, cf_16, wf_16, cf_17, wf_17, cf_19, wf_19, cf_20, wf_20, cf_21, wf_21, cf_22, wf_22, cf_24, wf_24, cf_26, wf_26, cm_968, wr_968, cm_969, wr_969, cm_9610, wr_9610, mk_98, ma_98, mk_99, ma_99, mk_100, ma_100, mk_101, ma_101, mk_102, ma_102, mk_103, ma_103, mk_104, ma_104, cm_98, wr_98, cm_99, wr_99, cm_100, wr_100, cm_101, wr_101, cm_102, wr_102, cm_103, wr_103, cm_104, wr_104, mk_109, ma_109, decide_true, decide_false, Bool.not_true, Bool.not_false, Bool.false_and, Bool.and_false, Bool.true_and, Bool.and_true, Bool.and_self, l00, l10, l20, l03, l13, l23, e1, nge (Nat.le_refl i) (by omega)]
  | succ j ih =>
    intro i hi
    have c := nlt (show i < p by omega) (by omega)
    have a0 := npos (a := i) (by omega)
    have a1 : (nI i < 12) = True := nlt (b := 12) (by omega) (by decide)
    have e1 : lvX X w i 0 8 = nI p := by rw [lvX_o _ _ (by decide)]; exact hp
    have e := ih (i + 1) (by omega)
    have e0 : lvX X w (i + 1) = if lvX X w i 7 (nI i) = w then wrm (lvX X w i) 7 (nI i) 9 else lvX X w i := rfl
    rw [e0] at e
    rw [sM_leavesOut_2]
    by_cases h : lvX X w i 7 (nI i) = w
    · rw [if_pos h] at e
      have h' := eq_true h
      simp only [sM_leavesOut_0, sM_leavesOut_1, sM_leavesOut_3, sM_leavesOut_4, sM_leavesOut_7, sM_leavesOut_10, sM_leavesOut_11, sM_leavesOut_14, sM_leavesOut_15, sM_leavesOut_16, sM_leavesOut_19, sM_leavesOut_20, sM_leavesOut_21, sM_leavesOut_22, sM_leavesOut_25, sM_leavesOut_27, sM_leavesOut_30, sM_leavesOut_31, sM_leavesOut_34, sM_leavesOut_35, sM_leavesOut_36, sM_leavesOut_37, sM_leavesOut_40, sM_leavesOut_43, rI_s, rJ_s, rA_s, rV_s, cw_0, cw_i, cw_j, cw_r, Nat.zero_le, Nat.le_refl, ↓reduceIte, not_true_eq_false, not_false_eq_true, and_true, true_and, and_self, and_false, false_and, true_or, or_true, false_or, or_false, b2_t, b2_f, b2_0, b2_r, i10, i01, bft, btf, z01, o01, cK_r1, nal_r1, cm_r1, wr_r1, cK_r2, nal_r2, cm_r2, wr_r2, cK_r3, nal_r3, cm_r3, wr_r3, cK_r4, nal_r4, cm_r4, wr_r4, cK_r5, nal_r5, cm_r5, wr_r5, cK_r6, nal_r6, cm_r6, wr_r6, cK_r7, nal_r7, cm_r7, wr_r7, cm_sa7, cm_sa8, cm_sa9, wr_sa7, wr_sa8, wr_sa9, Nat.reduceLT, Nat.reduceLeDiff, Nat.reduceAdd, Nat.reduceSub, reduceCtorEq, qup_s, qup_q, rmd_e, mx_e, mn_e, n12, n20, n10, n2, n3, n8, n65, cz_88, wz_88, cz_89, wz_89, cz_91, wz_91, cz_92, wz_92, cz_93, wz_93, cz_94, wz_94, cz_95, wz_95, cz_97, wz_97, cz_105, wz_105, cz_106, wz_106, cz_107, wz_107, cz_108, wz_108, cz_110, wz_110, cz_111, wz_111, ck_92, na_92, ck_94, na_94, ck_95, na_95, ck_97, na_97, ck_105, na_105, ck_106, na_106, ck_107, na_107, ck_108, na_108, ck_110, na_110, ck_111, na_111, cf_15, wf_15, cf_16, wf_16, cf_17, wf_17, cf_19, wf_19, cf_20, wf_20, cf_21, wf_21, cf_22, wf_22, cf_24, wf_24, cf_26, wf_26, cm_968, wr_968, cm_969, wr_969, cm_9610, wr_9610, mk_98, ma_98, mk_99, ma_99, mk_100, ma_100, mk_101, ma_101, mk_102, ma_102, mk_103, ma_103, mk_104, ma_104, cm_98, wr_98, cm_99, wr_99, cm_100, wr_100, cm_101, wr_101, cm_102, wr_102, cm_103, wr_103, cm_104, wr_104, mk_109, ma_109, decide_true, decide_false, Bool.not_true, Bool.not_false, Bool.false_and, Bool.and_false, Bool.true_and, Bool.and_true, Bool.and_self, l00, l10, l20, l03, l13, l23, e1, c, a0, a1, h', nI_1]
      exact e
    · rw [if_neg h] at e
      have hs := wrm_self (lvX X w i) 7 (nI i)
      simp only [sM_leavesOut_0, sM_leavesOut_1, sM_leavesOut_3, sM_leavesOut_4, sM_leavesOut_7, sM_leavesOut_10, sM_leavesOut_11, sM_leavesOut_14, sM_leavesOut_15, sM_leavesOut_16, sM_leavesOut_19, sM_leavesOut_20, sM_leavesOut_21, sM_leavesOut_22, sM_leavesOut_25, sM_leavesOut_27, sM_leavesOut_30, sM_leavesOut_31, sM_leavesOut_34, sM_leavesOut_35, sM_leavesOut_36, sM_leavesOut_37, sM_leavesOut_40, sM_leavesOut_43, rI_s, rJ_s, rA_s, rV_s, cw_0, cw_i, cw_j, cw_r, Nat.zero_le, Nat.le_refl, ↓reduceIte, not_true_eq_false, not_false_eq_true, and_true, true_and, and_self, and_false, false_and, true_or, or_true, false_or, or_false, b2_t, b2_f, b2_0, b2_r, i10, i01, bft, btf, z01, o01, cK_r1, nal_r1, cm_r1, wr_r1, cK_r2, nal_r2, cm_r2, wr_r2, cK_r3, nal_r3, cm_r3, wr_r3, cK_r4, nal_r4, cm_r4, wr_r4, cK_r5, nal_r5, cm_r5, wr_r5, cK_r6, nal_r6, cm_r6, wr_r6, cK_r7, nal_r7, cm_r7, wr_r7, cm_sa7, cm_sa8, cm_sa9, wr_sa7, wr_sa8, wr_sa9, Nat.reduceLT, Nat.reduceLeDiff, Nat.reduceAdd, Nat.reduceSub, reduceCtorEq, qup_s, qup_q, rmd_e, mx_e, mn_e, n12, n20, n10, n2, n3, n8, n65, cz_88, wz_88, cz_89, wz_89, cz_91, wz_91, cz_92, wz_92, cz_93, wz_93, cz_94, wz_94, cz_95, wz_95, cz_97, wz_97, cz_105, wz_105, cz_106, wz_106, cz_107, wz_107, cz_108, wz_108, cz_110, wz_110, cz_111, wz_111, ck_92, na_92, ck_94, na_94, ck_95, na_95, ck_97, na_97, ck_105, na_105, ck_106, na_106, ck_107, na_107, ck_108, na_108, ck_110, na_110, ck_111, na_111, cf_15, wf_15, cf_16, wf_16, cf_17, wf_17, cf_19, wf_19, cf_20, wf_20, cf_21, wf_21, cf_22, wf_22, cf_24, wf_24, cf_26, wf_26, cm_968, wr_968, cm_969, wr_969, cm_9610, wr_9610, mk_98, ma_98, mk_99, ma_99, mk_100, ma_100, mk_101, ma_101, mk_102, ma_102, mk_103, ma_103, mk_104, ma_104, cm_98, wr_98, cm_99, wr_99, cm_100, wr_100, cm_101, wr_101, cm_102, wr_102, cm_103, wr_103, cm_104, wr_104, mk_109, ma_109, decide_true, decide_false, Bool.not_true, Bool.not_false, Bool.false_and, Bool.and_false, Bool.true_and, Bool.and_true, Bool.and_self, l00, l10, l20, l03, l13, l23, e1, c, a0, a1, h, hs, nI_1]
      exact e
theorem M_leavesOut (w : Int32) {p : Nat} (hp : Q 11 0 8 = nI p) (h12 : p ≤ 12) : cal yM_leavesOut [.ref 96, .int w] (cm Q Z) = some (none, cm (qup Q 11 (lvX (Q 11) w p)) Z) := by
  rw [cal_of (L := [some (.ref 96), some (.int w), none]) rfl rfl]
  have e := L_mleaves (Q := Q) (Z := Z) w (Q 11) hp h12 p 0 (by omega)
  rw [show lvX (Q 11) w 0 = Q 11 from rfl, qup_id, n0'] at e
  simp only [sM_leavesOut_0, sM_leavesOut_1, sM_leavesOut_3, sM_leavesOut_4, sM_leavesOut_7, sM_leavesOut_10, sM_leavesOut_11, sM_leavesOut_14, sM_leavesOut_15, sM_leavesOut_16, sM_leavesOut_19, sM_leavesOut_20, sM_leavesOut_21, sM_leavesOut_22, sM_leavesOut_25, sM_leavesOut_27, sM_leavesOut_30, sM_leavesOut_31, sM_leavesOut_34, sM_leavesOut_35, sM_leavesOut_36, sM_leavesOut_37, sM_leavesOut_40, sM_leavesOut_43, rI_s, rJ_s, rA_s, rV_s, cw_0, cw_i, cw_j, cw_r, Nat.zero_le, Nat.le_refl, ↓reduceIte, not_true_eq_false, not_false_eq_true, and_true, true_and, and_self, and_false, false_and, true_or, or_true, false_or, or_false, b2_t, b2_f, b2_0, b2_r, i10, i01, bft, btf, z01, o01, cK_r1, nal_r1, cm_r1, wr_r1, cK_r2, nal_r2, cm_r2, wr_r2, cK_r3, nal_r3, cm_r3, wr_r3, cK_r4, nal_r4, cm_r4, wr_r4, cK_r5, nal_r5, cm_r5, wr_r5, cK_r6, nal_r6, cm_r6, wr_r6, cK_r7, nal_r7, cm_r7, wr_r7, cm_sa7, cm_sa8, cm_sa9, wr_sa7, wr_sa8, wr_sa9, Nat.reduceLT, Nat.reduceLeDiff, Nat.reduceAdd, Nat.reduceSub, reduceCtorEq, qup_s, qup_q, rmd_e, mx_e, mn_e, n12, n20, n10, n2, n3, n8, n65, cz_88, wz_88, cz_89, wz_89, cz_91, wz_91, cz_92, wz_92, cz_93, wz_93, cz_94, wz_94, cz_95, wz_95, cz_97, wz_97, cz_105, wz_105, cz_106, wz_106, cz_107, wz_107, cz_108, wz_108, cz_110, wz_110, cz_111, wz_111, ck_92, na_92, ck_94, na_94, ck_95, na_95, ck_97, na_97, ck_105, na_105, ck_106, na_106, ck_107, na_107, ck_108, na_108, ck_110, na_110, ck_111, na_111, cf_15, wf_15, cf_16, wf_16, cf_17, wf_17, cf_19, wf_19, cf_20, wf_20, cf_21, wf_21, cf_22, wf_22, cf_24, wf_24, cf_26, wf_26, cm_968, wr_968, cm_969, wr_969, cm_9610, wr_9610, mk_98, ma_98, mk_99, ma_99, mk_100, ma_100, mk_101, ma_101, mk_102, ma_102, mk_103, ma_103, mk_104, ma_104, cm_98, wr_98, cm_99, wr_99, cm_100, wr_100, cm_101, wr_101, cm_102, wr_102, cm_103, wr_103, cm_104, wr_104, mk_109, ma_109, decide_true, decide_false, Bool.not_true, Bool.not_false, Bool.false_and, Bool.and_false, Bool.true_and, Bool.and_true, Bool.and_self, l00, l10, l20, l03, l13, l23]
  exact e
theorem sum_3 (Y : St) : sumv Y 6 3 = als Y := by
  have e : sumv Y 6 3 = 0 + Y 6 (nI 0) + Y 6 (nI 1) + Y 6 (nI 2) := rfl
  rw [e, Int32.zero_add]
  rfl
theorem M_goX {X : St} {R : Nat → St} {n p k m : Nat} (V : VB X n p) (hk : X 0 9 = nI k) (hm : k + m < 2147483648) : cal yM_goes [.ref 96, .int (nI m)] (cm (qup R 11 X) Z) = some (none, cm (qup R 11 (wksX X n m)) Z) := by
  have e := M_goes (Q := qup R 11 X) (Z := Z) (n := n) (p := p) (k := k) (m := m) (by rw [qup_s]; exact V) (by rw [qup_s]; exact hk) hm
  rw [qup_s, qup_q] at e
  exact e
theorem M_leX {X : St} {R : Nat → St} {n p : Nat} (V : VB X n p) (w : Int32) : cal yM_leavesOut [.ref 96, .int w] (cm (qup R 11 X) Z) = some (none, cm (qup R 11 (lvX X w p)) Z) := by
  have e := M_leavesOut (Q := qup R 11 X) (Z := Z) (p := p) w (by rw [qup_s]; exact V.2.2.1) V.2.2.2.1
  rw [qup_s, qup_q] at e
  exact e
theorem M_asX (X : St) (R : Nat → St) : cal yM_allOf [.ref 96, .ref 103, .int 3] (cm (qup R 11 X) Z) = some (some (.int (als X)), cm (qup R 11 X) Z) := by
  have e := M_allOf (Q := qup R 11 X) (Z := Z) (r := 6) (m := 3) (by decide) (by decide) (by decide)
  rw [qup_s, sum_3] at e
  exact e
theorem q14_11 : qup (qup Q 14 (Q 11)) 11 (Q 11) = qup Q 14 (Q 11) := th_0 (n := 0)
theorem M_seenNone {n p k m : Nat} (V : VB (Q 11) n p) (hk : Q 11 0 9 = nI k) (hm : k + m < 2147483648) : cal yM_seenLeaving [.ref 96, .int (-9), .int (nI m)] (cm Q Z) = some (some (.int (als (wksX (Q 11) n m))), cm (qup Q 14 (Q 11)) (kz Z 0 159)) := by
  rw [cal_of (L := [some (.ref 96), some (.int (-9)), some (.int (nI m)), none]) rfl rfl]
  simp only [sM_seenLeaving_0, sM_seenLeaving_1, sM_seenLeaving_4, sM_seenLeaving_5, sM_seenLeaving_8, sM_seenLeaving_9, sM_seenLeaving_10, sM_seenLeaving_13, sM_seenLeaving_14, sM_seenLeaving_15, sM_seenLeaving_18, sM_seenLeaving_19, sM_seenLeaving_20, sM_seenLeaving_23, sM_seenLeaving_24, sM_seenLeaving_27, sM_seenLeaving_28, sM_seenLeaving_29, sM_seenLeaving_32, sM_seenLeaving_33, rI_s, rJ_s, rA_s, rV_s, cw_0, cw_i, cw_j, cw_r, Nat.zero_le, Nat.le_refl, ↓reduceIte, not_true_eq_false, not_false_eq_true, and_true, true_and, and_self, and_false, false_and, true_or, or_true, false_or, or_false, b2_t, b2_f, b2_0, b2_r, i10, i01, bft, btf, z01, o01, cK_r1, nal_r1, cm_r1, wr_r1, cK_r2, nal_r2, cm_r2, wr_r2, cK_r3, nal_r3, cm_r3, wr_r3, cK_r4, nal_r4, cm_r4, wr_r4, cK_r5, nal_r5, cm_r5, wr_r5, cK_r6, nal_r6, cm_r6, wr_r6, cK_r7, nal_r7, cm_r7, wr_r7, cm_sa7, cm_sa8, cm_sa9, wr_sa7, wr_sa8, wr_sa9, Nat.reduceLT, Nat.reduceLeDiff, Nat.reduceAdd, Nat.reduceSub, reduceCtorEq, qup_s, qup_q, rmd_e, mx_e, mn_e, n12, n20, n10, n2, n3, n8, n65, cz_88, wz_88, cz_89, wz_89, cz_91, wz_91, cz_92, wz_92, cz_93, wz_93, cz_94, wz_94, cz_95, wz_95, cz_97, wz_97, cz_105, wz_105, cz_106, wz_106, cz_107, wz_107, cz_108, wz_108, cz_110, wz_110, cz_111, wz_111, ck_92, na_92, ck_94, na_94, ck_95, na_95, ck_97, na_97, ck_105, na_105, ck_106, na_106, ck_107, na_107, ck_108, na_108, ck_110, na_110, ck_111, na_111, cf_15, wf_15, cf_16, wf_16, cf_17, wf_17, cf_19, wf_19, cf_20, wf_20, cf_21, wf_21, cf_22, wf_22, cf_24, wf_24, cf_26, wf_26, cm_968, wr_968, cm_969, wr_969, cm_9610, wr_9610, mk_98, ma_98, mk_99, ma_99, mk_100, ma_100, mk_101, ma_101, mk_102, ma_102, mk_103, ma_103, mk_104, ma_104, cm_98, wr_98, cm_99, wr_99, cm_100, wr_100, cm_101, wr_101, cm_102, wr_102, cm_103, wr_103, cm_104, wr_104, mk_109, ma_109, decide_true, decide_false, Bool.not_true, Bool.not_false, Bool.false_and, Bool.and_false, Bool.true_and, Bool.and_true, Bool.and_self, l00, l10, l20, l03, l13, l23, m90, M_thinks, M_goT V hk hm, M_asX, M_fgT]
theorem M_seenLeaving {n p k m : Nat} (V : VB (Q 11) n p) (hk : Q 11 0 9 = nI k) (hm : k + m < 2147483648) {w : Int32} (hw : ¬ w < 0) : cal yM_seenLeaving [.ref 96, .int w, .int (nI m)] (cm Q Z) = some (some (.int (als (wksX (lvX (Q 11) w 12) n m))), cm (qup Q 14 (Q 11)) (kz Z 0 159)) := by
  rw [cal_of (L := [some (.ref 96), some (.int w), some (.int (nI m)), none]) rfl rfl]
  have hl := M_leX (R := qup Q 14 (Q 11)) (Z := kz Z 1 159) V w
  rw [q14_11] at hl
  have hg := M_goX (R := qup Q 14 (Q 11)) (Z := kz Z 1 159) (m := m) (k := k) (VB_lv V w) (by rw [lvX_o _ _ (by decide)]; exact hk) hm
  have ee : als (wksX (lvX (Q 11) w 12) n m) = als (wksX (lvX (Q 11) w p) n m) := by
    unfold als
    rw [ER_wks (k := k) (VB_lv V w) (by rw [lvX_o _ _ (by decide)]; exact hk) (ER_lv V.2.2.2.1 (ER_r p (Q 11)) w) hm (by decide)]
  rw [ee]
  simp only [sM_seenLeaving_0, sM_seenLeaving_1, sM_seenLeaving_4, sM_seenLeaving_5, sM_seenLeaving_8, sM_seenLeaving_9, sM_seenLeaving_10, sM_seenLeaving_13, sM_seenLeaving_14, sM_seenLeaving_15, sM_seenLeaving_18, sM_seenLeaving_19, sM_seenLeaving_20, sM_seenLeaving_23, sM_seenLeaving_24, sM_seenLeaving_27, sM_seenLeaving_28, sM_seenLeaving_29, sM_seenLeaving_32, sM_seenLeaving_33, rI_s, rJ_s, rA_s, rV_s, cw_0, cw_i, cw_j, cw_r, Nat.zero_le, Nat.le_refl, ↓reduceIte, not_true_eq_false, not_false_eq_true, and_true, true_and, and_self, and_false, false_and, true_or, or_true, false_or, or_false, b2_t, b2_f, b2_0, b2_r, i10, i01, bft, btf, z01, o01, cK_r1, nal_r1, cm_r1, wr_r1, cK_r2, nal_r2, cm_r2, wr_r2, cK_r3, nal_r3, cm_r3, wr_r3, cK_r4, nal_r4, cm_r4, wr_r4, cK_r5, nal_r5, cm_r5, wr_r5, cK_r6, nal_r6, cm_r6, wr_r6, cK_r7, nal_r7, cm_r7, wr_r7, cm_sa7, cm_sa8, cm_sa9, wr_sa7, wr_sa8, wr_sa9, Nat.reduceLT, Nat.reduceLeDiff, Nat.reduceAdd, Nat.reduceSub, reduceCtorEq, qup_s, qup_q, rmd_e, mx_e, mn_e, n12, n20, n10, n2, n3, n8, n65, cz_88, wz_88, cz_89, wz_89, cz_91, wz_91, cz_92, wz_92, cz_93, wz_93, cz_94, wz_94, cz_95, wz_95, cz_97, wz_97, cz_105, wz_105, cz_106, wz_106, cz_107, wz_107, cz_108, wz_108, cz_110, wz_110, cz_111, wz_111, ck_92, na_92, ck_94, na_94, ck_95, na_95, ck_97, na_97, ck_105, na_105, ck_106, na_106, ck_107, na_107, ck_108, na_108, ck_110, na_110, ck_111, na_111, cf_15, wf_15, cf_16, wf_16, cf_17, wf_17, cf_19, wf_19, cf_20, wf_20, cf_21, wf_21, cf_22, wf_22, cf_24, wf_24, cf_26, wf_26, cm_968, wr_968, cm_969, wr_969, cm_9610, wr_9610, mk_98, ma_98, mk_99, ma_99, mk_100, ma_100, mk_101, ma_101, mk_102, ma_102, mk_103, ma_103, mk_104, ma_104, cm_98, wr_98, cm_99, wr_99, cm_100, wr_100, cm_101, wr_101, cm_102, wr_102, cm_103, wr_103, cm_104, wr_104, mk_109, ma_109, decide_true, decide_false, Bool.not_true, Bool.not_false, Bool.false_and, Bool.and_false, Bool.true_and, Bool.and_true, Bool.and_self, l00, l10, l20, l03, l13, l23, hw, M_thinks, hl, hg, M_asX, M_fgT]
theorem M_slT {n p k m : Nat} (V : VB (Q 11) n p) (hk : Q 11 0 9 = nI k) (hm : k + m < 2147483648) {w : Int32} (hw : ¬ w < 0) : cal yM_seenLeaving [.ref 96, .int w, .int (nI m)] (cm (qup Q 14 (Q 11)) (kz Z 0 159)) = some (some (.int (als (wksX (lvX (Q 11) w 12) n m))), cm (qup Q 14 (Q 11)) (kz Z 0 159)) := by
  have h11 : qup Q 14 (Q 11) 11 = Q 11 := qup_n (by decide)
  have e := M_seenLeaving (Q := qup Q 14 (Q 11)) (Z := kz Z 0 159) (n := n) (p := p) (k := k) (m := m) (by rw [h11]; exact V) (by rw [h11]; exact hk) hm hw
  rw [h11, qup_q, kz_k] at e
  exact e
theorem L_mleave {n p k m : Nat} (V : VB (Q 11) n p) (hk : Q 11 0 9 = nI k) (hm : k + m < 2147483648) (y l0 : Int32) : ∀ j i, i + j = n → ∀ o6 : Option Value, ev yM_leave 30 [some (.ref 96), some (.int (nI m)), some (.int y), some (.int (amax (fun i => als (wksX (lvX (Q 11) (nI i) 12) n m)) (-9) l0 i).1), some (.int (amax (fun i => als (wksX (lvX (Q 11) (nI i) 12) n m)) (-9) l0 i).2), some (.int (nI i)), o6] [] (cm (qup Q 14 (Q 11)) (kz Z 0 159)) = some (some (.int (amax (fun i => als (wksX (lvX (Q 11) (nI i) 12) n m)) (-9) l0 n).1), cm (qup Q 14 (Q 11)) (kz Z 0 159)) := by
  have hn := V.1
  have h7 := V.2.1
  have h11 : qup Q 14 (Q 11) 11 = Q 11 := qup_n (by decide)
  intro j
  induction j with
  | zero =>
    intro i hi o6
    obtain rfl : i = n := by omega
    rw [sM_leave_30]
    simp only [sM_leave_0, sM_leave_1, sM_leave_4, sM_leave_5, sM_leave_6, sM_leave_9, sM_leave_10, sM_leave_11, sM_leave_14, sM_leave_15, sM_leave_17, sM_leave_18, sM_leave_19, sM_leave_21, sM_leave_22, sM_leave_25, sM_leave_27, sM_leave_28, sM_leave_32, sM_leave_33, sM_leave_36, sM_leave_39, sM_leave_40, sM_leave_42, sM_leave_43, sM_leave_46, sM_leave_48, sM_leave_50, sM_leave_52, sM_leave_55, sM_leave_58, sM_leave_60, sM_leave_61, sM_leave_63, sM_leave_65, sM_leave_68, sM_leave_71, sM_leave_72, rI_s, rJ_s, rA_s, rV_s, cw_0, cw_i, cw_j, cw_r, Nat.zero_le, Nat.le_refl, ↓reduceIte, not_true_eq_false, not_false_eq_true, and_true, true_and, and_self, and_false, false_and, true_or, or_true, false_or, or_false, b2_t, b2_f, b2_0, b2_r, i10, i01, bft, btf, z01, o01, cK_r1, nal_r1, cm_r1, wr_r1, cK_r2, nal_r2, cm_r2, wr_r2, cK_r3, nal_r3, cm_r3, wr_r3, cK_r4, nal_r4, cm_r4, wr_r4, cK_r5, nal_r5, cm_r5, wr_r5, cK_r6, nal_r6, cm_r6, wr_r6, cK_r7, nal_r7, cm_r7, wr_r7, cm_sa7, cm_sa8, cm_sa9, wr_sa7, wr_sa8, wr_sa9, Nat.reduceLT, Nat.reduceLeDiff, Nat.reduceAdd, Nat.reduceSub, reduceCtorEq, qup_s, qup_q, rmd_e, mx_e, mn_e, n12, n20, n10, n2, n3, n8, n65, cz_88, wz_88, cz_89, wz_89, cz_91, wz_91, cz_92, wz_92, cz_93, wz_93, cz_94, wz_94, cz_95, wz_95, cz_97, wz_97, cz_105, wz_105, cz_106, wz_106, cz_107, wz_107, cz_108, wz_108, cz_110, wz_110, cz_111, wz_111, ck_92, na_92, ck_94, na_94, ck_95, na_95, ck_97, na_97, ck_105, na_105, ck_106, na_106, ck_107, na_107, ck_108, na_108, ck_110, na_110, ck_111, na_111, cf_15, wf_15, cf_16, wf_16, cf_17, wf_17, cf_19, wf_19, cf_20, wf_20, cf_21, wf_21, cf_22, wf_22, cf_24, wf_24, cf_26, wf_26, cm_968, wr_968, cm_969, wr_969, cm_9610, wr_9610, mk_98, ma_98, mk_99, ma_99, mk_100, ma_100, mk_101, ma_101, mk_102, ma_102, mk_103, ma_103, mk_104, ma_104, cm_98, wr_98, cm_99, wr_99, cm_100, wr_100, cm_101, wr_101, cm_102, wr_102, cm_103, wr_103, cm_104, wr_104, mk_109, ma_109, decide_true, decide_false, Bool.not_true, Bool.not_false, Bool.false_and, Bool.and_false, Bool.true_and, Bool.and_true, Bool.and_self, l00, l10, l20, l03, l13, l23, h11, hn, nge (Nat.le_refl i) (by omega)]
  | succ j ih =>
    intro i hi o6
    have c := nlt (show i < n by omega) (by omega)
    have g := M_slT (Q := Q) (Z := Z) V hk hm (w := nI i) (nI_pos (by omega))
    have e := ih (i + 1) (by omega) (some (.int (als (wksX (lvX (Q 11) (nI i) 12) n m))))
    have e0 : amax (fun i => als (wksX (lvX (Q 11) (nI i) 12) n m)) (-9) l0 (i + 1) = if (amax (fun i => als (wksX (lvX (Q 11) (nI i) 12) n m)) (-9) l0 i).2 < als (wksX (lvX (Q 11) (nI i) 12) n m) then (nI i, als (wksX (lvX (Q 11) (nI i) 12) n m)) else amax (fun i => als (wksX (lvX (Q 11) (nI i) 12) n m)) (-9) l0 i := rfl
    rw [e0] at e
    rw [sM_leave_30]
    by_cases h : (amax (fun i => als (wksX (lvX (Q 11) (nI i) 12) n m)) (-9) l0 i).2 < als (wksX (lvX (Q 11) (nI i) 12) n m)
    · rw [if_pos h] at e
      simp only [sM_leave_0, sM_leave_1, sM_leave_4, sM_leave_5, sM_leave_6, sM_leave_9, sM_leave_10, sM_leave_11, sM_leave_14, sM_leave_15, sM_leave_17, sM_leave_18, sM_leave_19, sM_leave_21, sM_leave_22, sM_leave_25, sM_leave_27, sM_leave_28, sM_leave_32, sM_leave_33, sM_leave_36, sM_leave_39, sM_leave_40, sM_leave_42, sM_leave_43, sM_leave_46, sM_leave_48, sM_leave_50, sM_leave_52, sM_leave_55, sM_leave_58, sM_leave_60, sM_leave_61, sM_leave_63, sM_leave_65, sM_leave_68, sM_leave_71, sM_leave_72, rI_s, rJ_s, rA_s, rV_s, cw_0, cw_i, cw_j, cw_r, Nat.zero_le, Nat.le_refl, ↓reduceIte, not_true_eq_false, not_false_eq_true, and_true, true_and, and_self, and_false, false_and, true_or, or_true, false_or, or_false, b2_t, b2_f, b2_0, b2_r, i10, i01, bft, btf, z01, o01, cK_r1, nal_r1, cm_r1, wr_r1, cK_r2, nal_r2, cm_r2, wr_r2, cK_r3, nal_r3, cm_r3, wr_r3, cK_r4, nal_r4, cm_r4, wr_r4, cK_r5, nal_r5, cm_r5, wr_r5, cK_r6, nal_r6, cm_r6, wr_r6, cK_r7, nal_r7, cm_r7, wr_r7, cm_sa7, cm_sa8, cm_sa9, wr_sa7, wr_sa8, wr_sa9, Nat.reduceLT, Nat.reduceLeDiff, Nat.reduceAdd, Nat.reduceSub, reduceCtorEq, qup_s, qup_q, rmd_e, mx_e, mn_e, n12, n20, n10, n2, n3, n8, n65, cz_88, wz_88, cz_89, wz_89, cz_91, wz_91, cz_92, wz_92, cz_93, wz_93, cz_94, wz_94, cz_95, wz_95, cz_97, wz_97, cz_105, wz_105, cz_106, wz_106, cz_107, wz_107, cz_108, wz_108, cz_110, wz_110, cz_111, wz_111, ck_92, na_92, ck_94, na_94, ck_95, na_95, ck_97, na_97, ck_105, na_105, ck_106, na_106, ck_107, na_107, ck_108, na_108, ck_110, na_110, ck_111, na_111, cf_15, wf_15, cf_16, wf_16, cf_17, wf_17, cf_19, wf_19, cf_20, wf_20, cf_21, wf_21, cf_22, wf_22, cf_24, wf_24, cf_26, wf_26, cm_968, wr_968, cm_969, wr_969, cm_9610, wr_9610, mk_98, ma_98, mk_99, ma_99, mk_100, ma_100, mk_101, ma_101, mk_102, ma_102, mk_103, ma_103, mk_104, ma_104, cm_98, wr_98, cm_99, wr_99, cm_100, wr_100, cm_101, wr_101, cm_102, wr_102, cm_103, wr_103, cm_104, wr_104, mk_109, ma_109, decide_true, decide_false, Bool.not_true, Bool.not_false, Bool.false_and, Bool.and_false, Bool.true_and, Bool.and_true, Bool.and_self, l00, l10, l20, l03, l13, l23, h11, hn, c, g, h, nI_1]
      exact e
    · rw [if_neg h] at e
      simp only [sM_leave_0, sM_leave_1, sM_leave_4, sM_leave_5, sM_leave_6, sM_leave_9, sM_leave_10, sM_leave_11, sM_leave_14, sM_leave_15, sM_leave_17, sM_leave_18, sM_leave_19, sM_leave_21, sM_leave_22, sM_leave_25, sM_leave_27, sM_leave_28, sM_leave_32, sM_leave_33, sM_leave_36, sM_leave_39, sM_leave_40, sM_leave_42, sM_leave_43, sM_leave_46, sM_leave_48, sM_leave_50, sM_leave_52, sM_leave_55, sM_leave_58, sM_leave_60, sM_leave_61, sM_leave_63, sM_leave_65, sM_leave_68, sM_leave_71, sM_leave_72, rI_s, rJ_s, rA_s, rV_s, cw_0, cw_i, cw_j, cw_r, Nat.zero_le, Nat.le_refl, ↓reduceIte, not_true_eq_false, not_false_eq_true, and_true, true_and, and_self, and_false, false_and, true_or, or_true, false_or, or_false, b2_t, b2_f, b2_0, b2_r, i10, i01, bft, btf, z01, o01, cK_r1, nal_r1, cm_r1, wr_r1, cK_r2, nal_r2, cm_r2, wr_r2, cK_r3, nal_r3, cm_r3, wr_r3, cK_r4, nal_r4, cm_r4, wr_r4, cK_r5, nal_r5, cm_r5, wr_r5, cK_r6, nal_r6, cm_r6, wr_r6, cK_r7, nal_r7, cm_r7, wr_r7, cm_sa7, cm_sa8, cm_sa9, wr_sa7, wr_sa8, wr_sa9, Nat.reduceLT, Nat.reduceLeDiff, Nat.reduceAdd, Nat.reduceSub, reduceCtorEq, qup_s, qup_q, rmd_e, mx_e, mn_e, n12, n20, n10, n2, n3, n8, n65, cz_88, wz_88, cz_89, wz_89, cz_91, wz_91, cz_92, wz_92, cz_93, wz_93, cz_94, wz_94, cz_95, wz_95, cz_97, wz_97, cz_105, wz_105, cz_106, wz_106, cz_107, wz_107, cz_108, wz_108, cz_110, wz_110, cz_111, wz_111, ck_92, na_92, ck_94, na_94, ck_95, na_95, ck_97, na_97, ck_105, na_105, ck_106, na_106, ck_107, na_107, ck_108, na_108, ck_110, na_110, ck_111, na_111, cf_15, wf_15, cf_16, wf_16, cf_17, wf_17, cf_19, wf_19, cf_20, wf_20, cf_21, wf_21, cf_22, wf_22, cf_24, wf_24, cf_26, wf_26, cm_968, wr_968, cm_969, wr_969, cm_9610, wr_9610, mk_98, ma_98, mk_99, ma_99, mk_100, ma_100, mk_101, ma_101, mk_102, ma_102, mk_103, ma_103, mk_104, ma_104, cm_98, wr_98, cm_99, wr_99, cm_100, wr_100, cm_101, wr_101, cm_102, wr_102, cm_103, wr_103, cm_104, wr_104, mk_109, ma_109, decide_true, decide_false, Bool.not_true, Bool.not_false, Bool.false_and, Bool.and_false, Bool.true_and, Bool.and_true, Bool.and_self, l00, l10, l20, l03, l13, l23, h11, hn, c, g, h, nI_1]
      exact e
theorem M_leave_no (m : Int32) (h : ¬ rgv m 0 60 = 0) : cal yM_leave [.ref 96, .int m] (cm Q Z) = some (some (.int (rgv m 0 60)), cm Q (rfz 97 Z (rgv m 0 60))) := by
  rw [cal_of (L := [some (.ref 96), some (.int m), none, none, none, none, none]) rfl rfl]
  simp only [sM_leave_0, sM_leave_1, sM_leave_4, sM_leave_5, sM_leave_6, sM_leave_9, sM_leave_10, sM_leave_11, sM_leave_14, sM_leave_15, sM_leave_17, sM_leave_18, sM_leave_19, sM_leave_21, sM_leave_22, sM_leave_25, sM_leave_27, sM_leave_28, sM_leave_32, sM_leave_33, sM_leave_36, sM_leave_39, sM_leave_40, sM_leave_42, sM_leave_43, sM_leave_46, sM_leave_48, sM_leave_50, sM_leave_52, sM_leave_55, sM_leave_58, sM_leave_60, sM_leave_61, sM_leave_63, sM_leave_65, sM_leave_68, sM_leave_71, sM_leave_72, rI_s, rJ_s, rA_s, rV_s, cw_0, cw_i, cw_j, cw_r, Nat.zero_le, Nat.le_refl, ↓reduceIte, not_true_eq_false, not_false_eq_true, and_true, true_and, and_self, and_false, false_and, true_or, or_true, false_or, or_false, b2_t, b2_f, b2_0, b2_r, i10, i01, bft, btf, z01, o01, cK_r1, nal_r1, cm_r1, wr_r1, cK_r2, nal_r2, cm_r2, wr_r2, cK_r3, nal_r3, cm_r3, wr_r3, cK_r4, nal_r4, cm_r4, wr_r4, cK_r5, nal_r5, cm_r5, wr_r5, cK_r6, nal_r6, cm_r6, wr_r6, cK_r7, nal_r7, cm_r7, wr_r7, cm_sa7, cm_sa8, cm_sa9, wr_sa7, wr_sa8, wr_sa9, Nat.reduceLT, Nat.reduceLeDiff, Nat.reduceAdd, Nat.reduceSub, reduceCtorEq, qup_s, qup_q, rmd_e, mx_e, mn_e, n12, n20, n10, n2, n3, n8, n65, cz_88, wz_88, cz_89, wz_89, cz_91, wz_91, cz_92, wz_92, cz_93, wz_93, cz_94, wz_94, cz_95, wz_95, cz_97, wz_97, cz_105, wz_105, cz_106, wz_106, cz_107, wz_107, cz_108, wz_108, cz_110, wz_110, cz_111, wz_111, ck_92, na_92, ck_94, na_94, ck_95, na_95, ck_97, na_97, ck_105, na_105, ck_106, na_106, ck_107, na_107, ck_108, na_108, ck_110, na_110, ck_111, na_111, cf_15, wf_15, cf_16, wf_16, cf_17, wf_17, cf_19, wf_19, cf_20, wf_20, cf_21, wf_21, cf_22, wf_22, cf_24, wf_24, cf_26, wf_26, cm_968, wr_968, cm_969, wr_969, cm_9610, wr_9610, mk_98, ma_98, mk_99, ma_99, mk_100, ma_100, mk_101, ma_101, mk_102, ma_102, mk_103, ma_103, mk_104, ma_104, cm_98, wr_98, cm_99, wr_99, cm_100, wr_100, cm_101, wr_101, cm_102, wr_102, cm_103, wr_103, cm_104, wr_104, mk_109, ma_109, decide_true, decide_false, Bool.not_true, Bool.not_false, Bool.false_and, Bool.and_false, Bool.true_and, Bool.and_true, Bool.and_self, l00, l10, l20, l03, l13, l23, M_notWeeks, h, M_no ((rgv_no m 0 60).resolve_left h)]
theorem M_leave_ok {n p k m : Nat} (V : VB (Q 11) n p) (hk : Q 11 0 9 = nI k) (hm : k + m < 2147483648) (h : rgv (nI m) 0 60 = 0) : cal yM_leave [.ref 96, .int (nI m)] (cm Q Z) = some (some (.int (amax (fun i => als (wksX (lvX (Q 11) (nI i) 12) n m)) (-9) (als (wksX (Q 11) n m)) n).1), cm (qup Q 14 (Q 11)) (kz Z 0 159)) := by
  rw [cal_of (L := [some (.ref 96), some (.int (nI m)), none, none, none, none, none]) rfl rfl]
  have e := L_mleave (Q := Q) (Z := Z) V hk hm 0 (als (wksX (Q 11) n m)) n 0 (by omega) none
  simp only [sM_leave_0, sM_leave_1, sM_leave_4, sM_leave_5, sM_leave_6, sM_leave_9, sM_leave_10, sM_leave_11, sM_leave_14, sM_leave_15, sM_leave_17, sM_leave_18, sM_leave_19, sM_leave_21, sM_leave_22, sM_leave_25, sM_leave_27, sM_leave_28, sM_leave_32, sM_leave_33, sM_leave_36, sM_leave_39, sM_leave_40, sM_leave_42, sM_leave_43, sM_leave_46, sM_leave_48, sM_leave_50, sM_leave_52, sM_leave_55, sM_leave_58, sM_leave_60, sM_leave_61, sM_leave_63, sM_leave_65, sM_leave_68, sM_leave_71, sM_leave_72, rI_s, rJ_s, rA_s, rV_s, cw_0, cw_i, cw_j, cw_r, Nat.zero_le, Nat.le_refl, ↓reduceIte, not_true_eq_false, not_false_eq_true, and_true, true_and, and_self, and_false, false_and, true_or, or_true, false_or, or_false, b2_t, b2_f, b2_0, b2_r, i10, i01, bft, btf, z01, o01, cK_r1, nal_r1, cm_r1, wr_r1, cK_r2, nal_r2, cm_r2, wr_r2, cK_r3, nal_r3, cm_r3, wr_r3, cK_r4, nal_r4, cm_r4, wr_r4, cK_r5, nal_r5, cm_r5, wr_r5, cK_r6, nal_r6, cm_r6, wr_r6, cK_r7, nal_r7, cm_r7, wr_r7, cm_sa7, cm_sa8, cm_sa9, wr_sa7, wr_sa8, wr_sa9, Nat.reduceLT, Nat.reduceLeDiff, Nat.reduceAdd, Nat.reduceSub, reduceCtorEq, qup_s, qup_q, rmd_e, mx_e, mn_e, n12, n20, n10, n2, n3, n8, n65, cz_88, wz_88, cz_89, wz_89, cz_91, wz_91, cz_92, wz_92, cz_93, wz_93, cz_94, wz_94, cz_95, wz_95, cz_97, wz_97, cz_105, wz_105, cz_106, wz_106, cz_107, wz_107, cz_108, wz_108, cz_110, wz_110, cz_111, wz_111, ck_92, na_92, ck_94, na_94, ck_95, na_95, ck_97, na_97, ck_105, na_105, ck_106, na_106, ck_107, na_107, ck_108, na_108, ck_110, na_110, ck_111, na_111, cf_15, wf_15, cf_16, wf_16, cf_17, wf_17, cf_19, wf_19, cf_20, wf_20, cf_21, wf_21, cf_22, wf_22, cf_24, wf_24, cf_26, wf_26, cm_968, wr_968, cm_969, wr_969, cm_9610, wr_9610, mk_98, ma_98, mk_99, ma_99, mk_100, ma_100, mk_101, ma_101, mk_102, ma_102, mk_103, ma_103, mk_104, ma_104, cm_98, wr_98, cm_99, wr_99, cm_100, wr_100, cm_101, wr_101, cm_102, wr_102, cm_103, wr_103, cm_104, wr_104, mk_109, ma_109, decide_true, decide_false, Bool.not_true, Bool.not_false, Bool.false_and, Bool.and_false, Bool.true_and, Bool.and_true, Bool.and_self, l00, l10, l20, l03, l13, l23, M_notWeeks, h, M_seenNone V hk hm]
  exact e
end MODN

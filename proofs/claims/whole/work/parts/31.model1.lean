/-! the model's cells in the memory by Streets -/
section MOD1
variable {Q : Nat → St} {Z : Mem}
theorem cm_968 : cm Q Z 96 8 = Q 11 0 7 := by
  unfold cm
  rw [if_neg (by decide), if_pos rfl, if_pos rfl]
theorem cm_969 : cm Q Z 96 9 = Q 11 0 8 := by
  unfold cm
  rw [if_neg (by decide), if_pos rfl, if_neg (by decide), if_pos rfl]
theorem cm_9610 : cm Q Z 96 10 = Q 11 0 9 := by
  unfold cm
  rw [if_neg (by decide), if_pos rfl, if_neg (by decide), if_neg (by decide), if_pos rfl]
theorem cm_96z {j : Int32} (h1 : ¬ j = 8) (h2 : ¬ j = 9) (h3 : ¬ j = 10) : cm Q Z 96 j = Z 96 j := by
  unfold cm
  rw [if_neg (by decide), if_pos rfl, if_neg h1, if_neg h2, if_neg h3]
theorem cm_m {r : Nat} {j : Int32} (h0 : 0 < r) (h8 : r < 8) (hj : sok r j = true) : cm Q Z (97 + r) j = Q 11 r j := by
  unfold cm
  rw [if_neg (by omega), if_neg (by omega), if_pos (by omega), show 97 + r - 97 = r by omega, if_pos hj]
theorem wr_m {r : Nat} {j v : Int32} (h0 : 0 < r) (h8 : r < 8) (hj : sok r j = true) : wrm (cm Q Z) (97 + r) j v = cm (qup Q 11 (wrm (Q 11) r j v)) Z := by
  funext k i
  have e1 : ∀ t, t ≠ 11 → qup Q 11 (wrm (Q 11) r j v) t = Q t := fun t ht => if_neg ht
  have e2 : qup Q 11 (wrm (Q 11) r j v) 11 = wrm (Q 11) r j v := if_pos rfl
  by_cases he : k = 97 + r
  · subst he
    rw [show wrm (cm Q Z) (97 + r) j v (97 + r) i = if i = j then v else cm Q Z (97 + r) i by
      by_cases hi : i = j
      · rw [if_pos hi, hi]; exact ws
      · rw [if_neg hi]; exact wo hi]
    unfold cm
    rw [if_neg (show ¬ 97 + r < 88 by omega), if_neg (show ¬ 97 + r = 96 by omega), if_pos (show 98 ≤ 97 + r ∧ 97 + r ≤ 104 by omega), if_neg (show ¬ 97 + r < 88 by omega), if_neg (show ¬ 97 + r = 96 by omega), if_pos (show 98 ≤ 97 + r ∧ 97 + r ≤ 104 by omega), show 97 + r - 97 = r by omega, e2]
    by_cases hi : i = j
    · rw [if_pos hi, hi, if_pos hj]; exact ws.symm
    · rw [if_neg hi, wo hi]
  · rw [show wrm (cm Q Z) (97 + r) j v k i = cm Q Z k i from wnn he]
    unfold cm
    by_cases a1 : k < 88
    · rw [if_pos a1, if_pos a1, e1 (k / 8) (by omega)]
    · rw [if_neg a1, if_neg a1]
      by_cases a2 : k = 96
      · have w : ∀ i, wrm (Q 11) r j v 0 i = Q 11 0 i := fun i => wnn (by omega)
        rw [if_pos a2, if_pos a2, e2, w, w, w]
      · rw [if_neg a2, if_neg a2]
        by_cases a3 : 98 ≤ k ∧ k ≤ 104
        · rw [if_pos a3, if_pos a3, e2, wnn (show k - 97 ≠ r by omega)]
        · rw [if_neg a3, if_neg a3, e1 _ (by omega)]
theorem wr_96 {p j v : Int32} (h : (p = 8 ∧ j = 7) ∨ (p = 9 ∧ j = 8) ∨ (p = 10 ∧ j = 9)) : wrm (cm Q Z) 96 p v = cm (qup Q 11 (wrm (Q 11) 0 j v)) Z := by
  funext k i
  have e1 : ∀ t, t ≠ 11 → qup Q 11 (wrm (Q 11) 0 j v) t = Q t := fun t ht => if_neg ht
  have e2 : qup Q 11 (wrm (Q 11) 0 j v) 11 = wrm (Q 11) 0 j v := if_pos rfl
  by_cases he : k = 96
  · subst he
    rw [show wrm (cm Q Z) 96 p v 96 i = if i = p then v else cm Q Z 96 i by
      by_cases hi : i = p
      · rw [if_pos hi, hi]; exact ws
      · rw [if_neg hi]; exact wo hi]
    unfold cm
    rw [if_neg (show ¬ 96 < 88 by decide), if_pos rfl, if_neg (show ¬ 96 < 88 by decide), if_pos rfl, e2]
    rcases h with ⟨rfl, rfl⟩ | ⟨rfl, rfl⟩ | ⟨rfl, rfl⟩
    · by_cases hi : i = 8
      · rw [if_pos hi, if_pos hi]; exact ws.symm
      · rw [if_neg hi, if_neg hi, if_neg hi, wp_7_8, wp_7_9]
    · by_cases hi : i = 9
      · rw [if_pos hi, hi, if_neg (by decide), if_pos rfl]; exact ws.symm
      · rw [if_neg hi, if_neg hi, if_neg hi, wp_8_7, wp_8_9]
    · by_cases hi : i = 10
      · rw [if_pos hi, hi, if_neg (by decide), if_neg (by decide), if_pos rfl]; exact ws.symm
      · rw [if_neg hi, if_neg hi, if_neg hi, wp_9_7, wp_9_8]
  · rw [show wrm (cm Q Z) 96 p v k i = cm Q Z k i from wnn he]
    unfold cm
    by_cases a1 : k < 88
    · rw [if_pos a1, if_pos a1, e1 (k / 8) (by omega)]
    · rw [if_neg a1, if_neg a1, if_neg he, if_neg he]
      by_cases a3 : 98 ≤ k ∧ k ≤ 104
      · rw [if_pos a3, if_pos a3, e2, wnn (show k - 97 ≠ 0 by omega)]
      · rw [if_neg a3, if_neg a3, e1 _ (by omega)]
theorem wr_968 {v : Int32} : wrm (cm Q Z) 96 8 v = cm (qup Q 11 (wrm (Q 11) 0 7 v)) Z := wr_96 (Or.inl ⟨rfl, rfl⟩)
theorem wr_969 {v : Int32} : wrm (cm Q Z) 96 9 v = cm (qup Q 11 (wrm (Q 11) 0 8 v)) Z := wr_96 (Or.inr (Or.inl ⟨rfl, rfl⟩))
theorem wr_9610 {v : Int32} : wrm (cm Q Z) 96 10 v = cm (qup Q 11 (wrm (Q 11) 0 9 v)) Z := wr_96 (Or.inr (Or.inr ⟨rfl, rfl⟩))
theorem wr_96z {j v : Int32} (h1 : ¬ j = 8) (h2 : ¬ j = 9) (h3 : ¬ j = 10) : wrm (cm Q Z) 96 j v = cm Q (wrm Z 96 j v) := by
  funext k i
  by_cases he : k = 96
  · subst he
    by_cases hi : i = j
    · subst hi
      rw [cm_96z h1 h2 h3]
      unfold wrm
      rw [if_pos ⟨rfl, rfl⟩, if_pos ⟨rfl, rfl⟩]
    · rw [show wrm (cm Q Z) 96 j v 96 i = cm Q Z 96 i from wo hi]
      unfold cm
      rw [show wrm Z 96 j v 96 i = Z 96 i from wo hi]
  · rw [show wrm (cm Q Z) 96 j v k i = cm Q Z k i from wnn he]
    unfold cm
    rw [show wrm Z 96 j v k i = Z k i from wnn he]
theorem cf_15 : cm Q Z 96 15 = Z 96 15 := cm_96z (by decide) (by decide) (by decide)
theorem wf_15 {v : Int32} : wrm (cm Q Z) 96 15 v = cm Q (wrm Z 96 15 v) := wr_96z (by decide) (by decide) (by decide)
theorem cf_16 : cm Q Z 96 16 = Z 96 16 := cm_96z (by decide) (by decide) (by decide)
theorem wf_16 {v : Int32} : wrm (cm Q Z) 96 16 v = cm Q (wrm Z 96 16 v) := wr_96z (by decide) (by decide) (by decide)
theorem cf_17 : cm Q Z 96 17 = Z 96 17 := cm_96z (by decide) (by decide) (by decide)
theorem wf_17 {v : Int32} : wrm (cm Q Z) 96 17 v = cm Q (wrm Z 96 17 v) := wr_96z (by decide) (by decide) (by decide)
theorem cf_19 : cm Q Z 96 19 = Z 96 19 := cm_96z (by decide) (by decide) (by decide)
theorem wf_19 {v : Int32} : wrm (cm Q Z) 96 19 v = cm Q (wrm Z 96 19 v) := wr_96z (by decide) (by decide) (by decide)
theorem cf_20 : cm Q Z 96 20 = Z 96 20 := cm_96z (by decide) (by decide) (by decide)
theorem wf_20 {v : Int32} : wrm (cm Q Z) 96 20 v = cm Q (wrm Z 96 20 v) := wr_96z (by decide) (by decide) (by decide)
theorem cf_21 : cm Q Z 96 21 = Z 96 21 := cm_96z (by decide) (by decide) (by decide)
theorem wf_21 {v : Int32} : wrm (cm Q Z) 96 21 v = cm Q (wrm Z 96 21 v) := wr_96z (by decide) (by decide) (by decide)
theorem cf_22 : cm Q Z 96 22 = Z 96 22 := cm_96z (by decide) (by decide) (by decide)
theorem wf_22 {v : Int32} : wrm (cm Q Z) 96 22 v = cm Q (wrm Z 96 22 v) := wr_96z (by decide) (by decide) (by decide)
theorem cf_24 : cm Q Z 96 24 = Z 96 24 := cm_96z (by decide) (by decide) (by decide)
theorem wf_24 {v : Int32} : wrm (cm Q Z) 96 24 v = cm Q (wrm Z 96 24 v) := wr_96z (by decide) (by decide) (by decide)
theorem cf_26 : cm Q Z 96 26 = Z 96 26 := cm_96z (by decide) (by decide) (by decide)
theorem wf_26 {v : Int32} : wrm (cm Q Z) 96 26 v = cm Q (wrm Z 96 26 v) := wr_96z (by decide) (by decide) (by decide)
theorem mk_98 : cK 98 = 6 := by decide
theorem ma_98 : nI (aln 98) = 7 := by decide
theorem cm_98 {j : Int32} (h1 : ¬ j < 0) (h2 : j < 7) : cm Q Z 98 j = Q 11 1 j := cm_m (r := 1) (by decide) (by decide) (sok_r (by decide) h1 h2)
theorem wr_98 {j v : Int32} (h1 : ¬ j < 0) (h2 : j < 7) : wrm (cm Q Z) 98 j v = cm (qup Q 11 (wrm (Q 11) 1 j v)) Z := wr_m (r := 1) (by decide) (by decide) (sok_r (by decide) h1 h2)
theorem mk_99 : cK 99 = 6 := by decide
theorem ma_99 : nI (aln 99) = 7 := by decide
theorem cm_99 {j : Int32} (h1 : ¬ j < 0) (h2 : j < 7) : cm Q Z 99 j = Q 11 2 j := cm_m (r := 2) (by decide) (by decide) (sok_r (by decide) h1 h2)
theorem wr_99 {j v : Int32} (h1 : ¬ j < 0) (h2 : j < 7) : wrm (cm Q Z) 99 j v = cm (qup Q 11 (wrm (Q 11) 2 j v)) Z := wr_m (r := 2) (by decide) (by decide) (sok_r (by decide) h1 h2)
theorem mk_100 : cK 100 = 6 := by decide
theorem ma_100 : nI (aln 100) = 7 := by decide
theorem cm_100 {j : Int32} (h1 : ¬ j < 0) (h2 : j < 7) : cm Q Z 100 j = Q 11 3 j := cm_m (r := 3) (by decide) (by decide) (sok_r (by decide) h1 h2)
theorem wr_100 {j v : Int32} (h1 : ¬ j < 0) (h2 : j < 7) : wrm (cm Q Z) 100 j v = cm (qup Q 11 (wrm (Q 11) 3 j v)) Z := wr_m (r := 3) (by decide) (by decide) (sok_r (by decide) h1 h2)
theorem mk_101 : cK 101 = 6 := by decide
theorem ma_101 : nI (aln 101) = 7 := by decide
theorem cm_101 {j : Int32} (h1 : ¬ j < 0) (h2 : j < 7) : cm Q Z 101 j = Q 11 4 j := cm_m (r := 4) (by decide) (by decide) (sok_r (by decide) h1 h2)
theorem wr_101 {j v : Int32} (h1 : ¬ j < 0) (h2 : j < 7) : wrm (cm Q Z) 101 j v = cm (qup Q 11 (wrm (Q 11) 4 j v)) Z := wr_m (r := 4) (by decide) (by decide) (sok_r (by decide) h1 h2)
theorem mk_102 : cK 102 = 6 := by decide
theorem ma_102 : nI (aln 102) = 7 := by decide
theorem cm_102 {j : Int32} (h1 : ¬ j < 0) (h2 : j < 7) : cm Q Z 102 j = Q 11 5 j := cm_m (r := 5) (by decide) (by decide) (sok_r (by decide) h1 h2)
theorem wr_102 {j v : Int32} (h1 : ¬ j < 0) (h2 : j < 7) : wrm (cm Q Z) 102 j v = cm (qup Q 11 (wrm (Q 11) 5 j v)) Z := wr_m (r := 5) (by decide) (by decide) (sok_r (by decide) h1 h2)
theorem mk_103 : cK 103 = 6 := by decide
theorem ma_103 : nI (aln 103) = 3 := by decide
theorem cm_103 {j : Int32} (h1 : ¬ j < 0) (h2 : j < 3) : cm Q Z 103 j = Q 11 6 j := cm_m (r := 6) (by decide) (by decide) (sok_r (by decide) h1 h2)
theorem wr_103 {j v : Int32} (h1 : ¬ j < 0) (h2 : j < 3) : wrm (cm Q Z) 103 j v = cm (qup Q 11 (wrm (Q 11) 6 j v)) Z := wr_m (r := 6) (by decide) (by decide) (sok_r (by decide) h1 h2)
theorem mk_104 : cK 104 = 6 := by decide
theorem ma_104 : nI (aln 104) = 12 := by decide
theorem cm_104 {j : Int32} (h1 : ¬ j < 0) (h2 : j < 12) : cm Q Z 104 j = Q 11 7 j := cm_m (r := 7) (by decide) (by decide) (sok_r (by decide) h1 h2)
theorem wr_104 {j v : Int32} (h1 : ¬ j < 0) (h2 : j < 12) : wrm (cm Q Z) 104 j v = cm (qup Q 11 (wrm (Q 11) 7 j v)) Z := wr_m (r := 7) (by decide) (by decide) (sok_r (by decide) h1 h2)
theorem mk_109 : cK 109 = 6 := by decide
theorem ma_109 : nI (aln 109) = 583 := by decide
theorem kl_inj : ∀ a, a < 53 → ∀ b, b < 53 → kl a = kl b → a = b := by decide +kernel
theorem kl_ok : ∀ a, a < 53 → (kl a).1 < 8 ∧ sok (kl a).1 (kl a).2 = true := by decide +kernel
theorem cm_109 {w o : Nat} (hw : w < 11) (ho : o < 53) : cm Q Z 109 (nI (53 * w + o)) = Q (12 + w) (kl o).1 (kl o).2 := by
  have a : ¬ nI (53 * w + o) < 0 ∧ nI (53 * w + o) < 583 := ⟨nI_pos (by omega), nI_lt (b := 583) (by omega) (by decide)⟩
  unfold cm
  rw [if_neg (by decide), if_neg (by decide), if_neg (by decide), if_pos rfl, if_pos a, nI_clamp (show 53 * w + o < 2147483648 by omega), show (53 * w + o) / 53 = w by omega, show (53 * w + o) % 53 = o by omega]
theorem wr_109 {w o : Nat} {v : Int32} (hw : w < 11) (ho : o < 53) : wrm (cm Q Z) 109 (nI (53 * w + o)) v = cm (qup Q (12 + w) (wrm (Q (12 + w)) (kl o).1 (kl o).2 v)) Z := by
  funext k i
  have e1 : ∀ t, t ≠ 12 + w → qup Q (12 + w) (wrm (Q (12 + w)) (kl o).1 (kl o).2 v) t = Q t := fun t ht => if_neg ht
  have e2 : qup Q (12 + w) (wrm (Q (12 + w)) (kl o).1 (kl o).2 v) (12 + w) = wrm (Q (12 + w)) (kl o).1 (kl o).2 v := if_pos rfl
  by_cases he : k = 109
  · subst he
    by_cases hr : ¬ i < 0 ∧ i < 583
    · obtain ⟨m, hm, rfl⟩ := nI_of hr.1
      have hm2 : m < 583 := (nI_ltI hm (b := 583) (by decide)).mp hr.2
      have hmw : m / 53 < 11 := by omega
      have hmo : m % 53 < 53 := by omega
      have em : m = 53 * (m / 53) + m % 53 := by omega
      by_cases h1 : m = 53 * w + o
      · subst h1
        rw [cm_109 hw ho, e2]
        rw [show wrm (Q (12 + w)) (kl o).1 (kl o).2 v (kl o).1 (kl o).2 = v from ws]
        exact ws
      · have hne : ¬ nI m = nI (53 * w + o) := fun z => h1 ((nI_eq (by omega) (by omega)).mp z)
        rw [show wrm (cm Q Z) 109 (nI (53 * w + o)) v 109 (nI m) = cm Q Z 109 (nI m) from wo hne]
        rw [em, cm_109 hmw hmo, cm_109 hmw hmo]
        by_cases h2 : m / 53 = w
        · rw [h2, e2]
          have h3 : ¬ m % 53 = o := fun z => h1 (by omega)
          refine (if_neg (fun z => h3 (kl_inj _ hmo _ ho ?_))).symm
          exact Prod.ext z.1 z.2
        · rw [e1 _ (by omega)]
    · have hne : ¬ i = nI (53 * w + o) := fun z => hr (by rw [z]; exact ⟨nI_pos (by omega), nI_lt (b := 583) (by omega) (by decide)⟩)
      rw [show wrm (cm Q Z) 109 (nI (53 * w + o)) v 109 i = cm Q Z 109 i from wo hne]
      unfold cm
      rw [if_neg (by decide), if_neg (by decide), if_neg (by decide), if_pos rfl, if_neg hr, if_neg (by decide), if_neg (by decide), if_neg (by decide), if_pos rfl, if_neg hr]
  · rw [show wrm (cm Q Z) 109 (nI (53 * w + o)) v k i = cm Q Z k i from wnn he]
    unfold cm
    by_cases a1 : k < 88
    · rw [if_pos a1, if_pos a1, e1 (k / 8) (by omega)]
    · rw [if_neg a1, if_neg a1, e1 11 (by omega), if_neg he, if_neg he]
/-- memories that can't be told apart -/
theorem cm_ext {Q' : Nat → St} (h : ∀ s r j, r < 8 → sok r j = true → Q s r j = Q' s r j) : cm Q Z = cm Q' Z := by
  funext k j
  unfold cm
  by_cases a1 : k < 88
  · rw [if_pos a1, if_pos a1]
    by_cases hs : sok (k % 8) j = true
    · rw [if_pos hs, if_pos hs]; exact h _ _ _ (by omega) hs
    · rw [if_neg hs, if_neg hs]
  · rw [if_neg a1, if_neg a1, h 11 0 7 (by decide) (by decide), h 11 0 8 (by decide) (by decide), h 11 0 9 (by decide) (by decide)]
    by_cases a3 : 98 ≤ k ∧ k ≤ 104
    · rw [if_pos a3, if_pos a3]
      by_cases hs : sok (k - 97) j = true
      · rw [if_pos hs, if_pos hs, h 11 _ _ (by omega) hs]
      · rw [if_neg hs, if_neg hs]
    · rw [if_neg a3, if_neg a3]
      have hk := kl_ok (j.toNatClampNeg % 53) (Nat.mod_lt _ (by decide))
      rw [h _ _ _ hk.1 hk.2]
theorem cm_con {s : Nat} {X Y : St} (h : ∀ r j, r < 8 → sok r j = true → X r j = Y r j) : cm (qup Q s X) Z = cm (qup Q s Y) Z := by
  apply cm_ext
  intro t r j h8 hs
  by_cases ht : t = s
  · subst ht; rw [qup_s, qup_s]; exact h r j h8 hs
  · rw [qup_n ht, qup_n ht]
/-- what keeps and what reads next -/
def kz (Z : Mem) (c p : Int32) : Mem := wrm (wrm Z 96 20 c) 96 21 p
theorem kz_20 {c p : Int32} : kz Z c p 96 20 = c := by unfold kz; rw [wo (by decide)]; exact ws
theorem kz_21 {c p : Int32} : kz Z c p 96 21 = p := ws
theorem kz_o {c p j : Int32} (h1 : j ≠ 20) (h2 : j ≠ 21) : kz Z c p 96 j = Z 96 j := by unfold kz; rw [wo h2, wo h1]
theorem kz_n {c p : Int32} {k : Nat} {j : Int32} (h : k ≠ 96) : kz Z c p k j = Z k j := by unfold kz; rw [wnn h, wnn h]
theorem kz_w21 {c p q : Int32} : wrm (kz Z c p) 96 21 q = kz Z c q := by
  unfold kz
  funext k j
  by_cases h : k = 96 ∧ j = 21
  · obtain ⟨rfl, rfl⟩ := h
    rw [ws, ws]
  · rw [wrm_eq (X := wrm (wrm Z 96 20 c) 96 21 p), if_neg h, wrm_eq, if_neg h, wrm_eq (X := wrm Z 96 20 c), if_neg h]
theorem kz_w20 {c p d : Int32} : wrm (kz Z c p) 96 20 d = kz Z d p := by
  unfold kz
  funext k j
  by_cases h : k = 96 ∧ j = 20
  · obtain ⟨rfl, rfl⟩ := h
    rw [ws, wo (by decide), ws]
  · rw [wrm_eq (X := wrm (wrm Z 96 20 c) 96 21 p), if_neg h]
    by_cases h2 : k = 96 ∧ j = 21
    · obtain ⟨rfl, rfl⟩ := h2
      rw [ws, ws]
    · rw [wrm_eq, if_neg h2, wrm_eq, if_neg h, wrm_eq, if_neg h2, wrm_eq, if_neg h]
theorem kz_w {p : Int32} : wrm Z 96 21 p = kz Z (Z 96 20) p := by
  unfold kz
  funext k j
  by_cases h : k = 96 ∧ j = 21
  · obtain ⟨rfl, rfl⟩ := h
    rw [ws, ws]
  · rw [wrm_eq, if_neg h, wrm_eq, if_neg h, wrm_eq]
    by_cases h2 : k = 96 ∧ j = 20
    · rw [if_pos h2, h2.1, h2.2]
    · rw [if_neg h2]
theorem kz_k {c p d q : Int32} : kz (kz Z c p) d q = kz Z d q := by
  rw [show kz (kz Z c p) d q = wrm (wrm (kz Z c p) 96 20 d) 96 21 q from rfl, kz_w20, kz_w21]
end MOD1

/-! class and model side by side: feed, row, judge, clear, back, image, restore, count, street -/
section PAIR4
variable {Q Q' : Nat → St} {Z Z' : Mem}
theorem P_feed (I : IV Q Z) (v : Int32) : PRi yO_feed yM_feed [.int v] (cm Q Z) := by
  obtain ⟨i1, i2, i3, i4, ⟨l, l96, t1, t2, t3⟩, i6, i7⟩ := id I
  by_cases h : rgv v 0 255 = 0
  · by_cases hl : l = 96
    · subst hl
      exact PR_no I no6 (O_feed_full (Q := Q) v t1 h) (M_feed_full (Q := Q) v t2 h)
    · have hlt : l < 96 := by omega
      have e1 := O_feed_ok (Q := Q) (Z := Z) v t1 hlt h
      have e2 := M_feed_ok (Q := Q) (Z := wrm (wrm Z 92 (nI l) v) 91 1 (nI (l + 1))) v (n := l) (by rw [wnn (by decide), wnn (by decide)]; exact t2) hlt h
      refine ⟨_, _, _, e1, e2, _, _, rfl, ?_⟩
      have z : ∀ k j, k ≠ 91 → k ≠ 92 → k ≠ 105 → k ≠ 96 → wrm (wrm (wrm (wrm Z 92 (nI l) v) 91 1 (nI (l + 1))) 105 (nI l) v) 96 15 (nI (l + 1)) k j = Z k j := fun k j a b c d => by rw [wnn d, wnn c, wnn a, wnn b]
      have y : ∀ j, j ≠ 15 → wrm (wrm (wrm (wrm Z 92 (nI l) v) 91 1 (nI (l + 1))) 105 (nI l) v) 96 15 (nI (l + 1)) 96 j = Z 96 j := fun j a => by rw [wo a, wnn (by decide), wnn (by decide), wnn (by decide)]
      refine IV_mk i1 i2 (C3_f i3 (z 88 3 (by decide) (by decide) (by decide) (by decide)) (y 19 (by decide)) rfl rfl) (C4_f i4 (z 89 1 (by decide) (by decide) (by decide) (by decide)) (z 89 2 (by decide) (by decide) (by decide) (by decide)) (y 22 (by decide)) (fun _ _ _ => rfl) (fun _ _ _ => rfl)) ⟨l + 1, by omega, ?_, ws, fun i hi => ?_⟩ (C6_f i6 (z 93 1 (by decide) (by decide) (by decide) (by decide)) (y 24 (by decide)) (fun j => z 94 j (by decide) (by decide) (by decide) (by decide)) (fun j => z 110 j (by decide) (by decide) (by decide) (by decide))) (C7_f i7 (fun j => z 95 j (by decide) (by decide) (by decide) (by decide)) (fun j => z 97 j (by decide) (by decide) (by decide) (by decide)))
      · rw [wnn (by decide), wnn (by decide)]; exact ws
      · rw [wnn (show (105 : Nat) ≠ 96 by decide), wnn (show (92 : Nat) ≠ 96 by decide), wnn (show (92 : Nat) ≠ 105 by decide), wnn (show (92 : Nat) ≠ 91 by decide)]
        by_cases e : i = l
        · rw [e, ws, ws]
        · have ne : nI i ≠ nI l := nne e (by omega) (by omega)
          rw [wo ne, wo ne, wnn (show (105 : Nat) ≠ 91 by decide), wnn (show (105 : Nat) ≠ 92 by decide)]
          exact t3 i (by omega)
  · exact PR_no I ((rgv_no v 0 255).resolve_left h) (O_feed_no (Q := Q) v t1 l96 h) (M_feed_no (Q := Q) v h)
theorem P_row (I : IV Q Z) (v : Int32) : PRi yO_row yM_row [.int v] (cm Q Z) := by
  obtain ⟨i1, i2, i3, i4, i5, ⟨l, l96, t1, t2, t3⟩, i7⟩ := id I
  by_cases h : rgv v 0 99 = 0
  · by_cases hl : l = 12
    · subst hl
      exact PR_no I no6 (O_row_full (Q := Q) v t1 h) (M_row_full (Q := Q) v t2 h)
    · have hlt : l < 12 := by omega
      have e1 := O_row_ok (Q := Q) (Z := Z) v t1 hlt h
      have e2 := M_row_ok (Q := Q) (Z := wrm (wrm Z 94 (nI l) v) 93 1 (nI (l + 1))) v (n := l) (by rw [wnn (by decide), wnn (by decide)]; exact t2) hlt h
      refine ⟨_, _, _, e1, e2, _, _, rfl, ?_⟩
      have z : ∀ k j, k ≠ 93 → k ≠ 94 → k ≠ 110 → k ≠ 96 → wrm (wrm (wrm (wrm Z 94 (nI l) v) 93 1 (nI (l + 1))) 110 (nI l) v) 96 24 (nI (l + 1)) k j = Z k j := fun k j a b c d => by rw [wnn d, wnn c, wnn a, wnn b]
      have y : ∀ j, j ≠ 24 → wrm (wrm (wrm (wrm Z 94 (nI l) v) 93 1 (nI (l + 1))) 110 (nI l) v) 96 24 (nI (l + 1)) 96 j = Z 96 j := fun j a => by rw [wo a, wnn (by decide), wnn (by decide), wnn (by decide)]
      refine IV_mk i1 i2 (C3_f i3 (z 88 3 (by decide) (by decide) (by decide) (by decide)) (y 19 (by decide)) rfl rfl) (C4_f i4 (z 89 1 (by decide) (by decide) (by decide) (by decide)) (z 89 2 (by decide) (by decide) (by decide) (by decide)) (y 22 (by decide)) (fun _ _ _ => rfl) (fun _ _ _ => rfl)) (C5_f i5 (z 91 1 (by decide) (by decide) (by decide) (by decide)) (y 15 (by decide)) (fun j => z 92 j (by decide) (by decide) (by decide) (by decide)) (fun j => z 105 j (by decide) (by decide) (by decide) (by decide))) ⟨l + 1, by omega, ?_, ws, fun i hi => ?_⟩ (C7_f i7 (fun j => z 95 j (by decide) (by decide) (by decide) (by decide)) (fun j => z 97 j (by decide) (by decide) (by decide) (by decide)))
      · rw [wnn (by decide), wnn (by decide)]; exact ws
      · rw [wnn (show (110 : Nat) ≠ 96 by decide), wnn (show (94 : Nat) ≠ 96 by decide), wnn (show (94 : Nat) ≠ 110 by decide), wnn (show (94 : Nat) ≠ 93 by decide)]
        by_cases e : i = l
        · rw [e, ws, ws]
        · have ne : nI i ≠ nI l := nne e (by omega) (by omega)
          rw [wo ne, wo ne, wnn (show (110 : Nat) ≠ 93 by decide), wnn (show (110 : Nat) ≠ 94 by decide)]
          exact t3 i (by omega)
  · exact PR_no I ((rgv_no v 0 99).resolve_left h) (O_row_no (Q := Q) v h) (M_row_no (Q := Q) v h)
theorem IV_norow (I : IV Q Z) : IV Q (wrm (wrm Z 93 1 0) 96 24 0) := by
  obtain ⟨i1, i2, i3, i4, i5, i6, i7⟩ := I
  have z : ∀ k j, k ≠ 93 → k ≠ 96 → wrm (wrm Z 93 1 0) 96 24 0 k j = Z k j := fun k j a b => by rw [wnn b, wnn a]
  have y : ∀ j, j ≠ 24 → wrm (wrm Z 93 1 0) 96 24 0 96 j = Z 96 j := fun j a => by rw [wo a, wnn (by decide)]
  refine IV_mk i1 i2 (C3_f i3 (z 88 3 (by decide) (by decide)) (y 19 (by decide)) rfl rfl) (C4_f i4 (z 89 1 (by decide) (by decide)) (z 89 2 (by decide) (by decide)) (y 22 (by decide)) (fun _ _ _ => rfl) (fun _ _ _ => rfl)) (C5_f i5 (z 91 1 (by decide) (by decide)) (y 15 (by decide)) (fun j => z 92 j (by decide) (by decide)) (fun j => z 105 j (by decide) (by decide))) ⟨0, by omega, by rw [wnn (by decide)]; exact ws, ws, fun i hi => by omega⟩ (C7_f i7 (fun j => z 95 j (by decide) (by decide)) (fun j => z 97 j (by decide) (by decide)))
theorem P_clear (I : IV Q Z) : PRi yO_clear yM_clear [] (cm Q Z) := by
  obtain ⟨i1, i2, i3, i4, i5, ⟨l, l96, t1, t2, t3⟩, i7⟩ := id I
  have e1 := O_clear (Q := Q) (Z := Z)
  have e2 := M_clear (Q := Q) (Z := wrm Z 93 1 0)
  rw [show wrm Z 93 1 0 96 24 = nI l by rw [wnn (by decide)]; exact t2] at e2
  rw [t1] at e1
  exact ⟨_, _, _, e1, e2, _, _, rfl, IV_norow I⟩
theorem ju_e {X : St} {n : Nat} (hn : X 0 7 = nI n) (h7 : n ≤ 7) : ∀ k i, i + k ≤ 12 → (∀ a, i ≤ a → a < i + k → Z' 110 (nI a) = rv Z (nI a)) → juA X Z k i = juM X Z' k i := by
  intro k
  induction k with
  | zero => intro i _ _; rfl
  | succ k ih =>
    intro i hi h
    have e1 : juA X Z (k + 1) i = if hW X (nI i) = true ∧ X 3 (nI i) = rv Z (nI i) then juA X Z k (i + 1) else nI i := rfl
    have e2 : juM X Z' (k + 1) i = if nI i < X 0 7 ∧ X 3 (nI i) = Z' 110 (nI i) then juM X Z' k (i + 1) else nI i := rfl
    have hh : (hW X (nI i) = true) ↔ (nI i < X 0 7) := by
      refine ⟨fun z => (hW_t z).2.1, fun z => ?_⟩
      rw [hn] at z
      exact hW_n hn h7 ((nI_ltI (by omega) (by omega)).mp z)
    rw [e1, e2, h i (by omega) (by omega), ih (i + 1) (by omega) (fun a h1 h2 => h a (by omega) (by omega))]
    by_cases c : hW X (nI i) = true ∧ X 3 (nI i) = rv Z (nI i)
    · rw [if_pos c, if_pos ⟨hh.mp c.1, c.2⟩]
    · rw [if_neg c, if_neg (fun z => c ⟨hh.mpr z.1, z.2⟩)]
theorem P_judge (I : IV Q Z) : PRi yO_judge yM_judge [] (cm Q Z) := by
  obtain ⟨i1, ⟨n, p, k, V, hk, hk2⟩, i3, i4, i5, ⟨l, l96, t1, t2, t3⟩, i7⟩ := id I
  have e1 := O_judge (Q := Q) (Z := Z) t1 l96
  have e2 := M_judge (Q := Q) (Z := wrm Z 93 1 0) V.1 V.2.1 (r := l) (by rw [wnn (by decide)]; exact t2) l96
  rw [← ju_e (Z := Z) (Z' := wrm Z 93 1 0) V.1 V.2.1 l 0 (by omega) (fun a _ ha => by rw [wnn (by decide), rv_in t1 l96 (by omega)]; exact t3 a (by omega))] at e2
  rw [i1] at e1
  exact ⟨_, _, _, e1, e2, _, _, rfl, IV_norow I⟩
theorem P_back (I : IV Q Z) : PRi yO_back yM_back [] (cm Q Z) := by
  obtain ⟨i1, i2, i3, ⟨f, h, f8, h8, p1, p2, p3, p4⟩, i5, i6, i7⟩ := id I
  rcases Nat.eq_zero_or_pos h with h0 | h0
  · subst h0
    exact PR_no I no3 (O_back_no (Q := Q) p1 f8 (by rw [p2]; rfl)) (M_back_no (Q := Q) (by unfold rfz; rw [wnn (by decide)]; exact p3))
  · obtain ⟨b, rfl⟩ : ∃ b, h = b + 1 := ⟨h - 1, by omega⟩
    have e1 := O_back_ok (Q := Q) (Z := Z) p1 f8 (by rw [p2]; exact nI_ne0 (by omega) (by omega))
    rw [p2, show nI (b + 1) - 1 = nI b from nI_pred b] at e1
    have key := p4 b (by omega)
    rw [show 3 + (f + (8 - (b + 1)) + b) % 8 = 3 + (f + 7) % 8 by omega] at key
    rw [key.1] at e1
    have e2 := M_back_ok (Q := qup Q 0 (Q (15 + b))) (Z := wrm (wrm Z 89 1 (nI ((f + 7) % 8))) 89 2 (nI b)) (b := b) (by rw [wnn (by decide), wnn (by decide)]; exact p3) (by omega)
    rw [show qup Q 0 (Q (15 + b)) (15 + b) = Q (15 + b) from qup_n (by omega)] at e2
    refine ⟨_, _, _, e1, e2, _, _, rfl, ?_⟩
    refine IV_fr (Z := wrm (wrm (wrm Z 89 1 (nI ((f + 7) % 8))) 89 2 (nI b)) 96 22 (nI b)) ?_ (FQ_r _) (FZ_kz _ _)
    have z : ∀ k j, k ≠ 89 → k ≠ 96 → wrm (wrm (wrm Z 89 1 (nI ((f + 7) % 8))) 89 2 (nI b)) 96 22 (nI b) k j = Z k j := fun k j a b => by rw [wnn b, wnn a, wnn a]
    have y : ∀ j, j ≠ 22 → wrm (wrm (wrm Z 89 1 (nI ((f + 7) % 8))) 89 2 (nI b)) 96 22 (nI b) 96 j = Z 96 j := fun j a => by rw [wo a, wnn (by decide), wnn (by decide)]
    have hm := Nat.mod_lt (f + 7) (show 0 < 8 by decide)
    refine IV_mk (by rw [qup_s, qup_n (by decide), qup_s]) (by rw [qup_s]; exact key.2) (C3_f i3 (z 88 3 (by decide) (by decide)) (y 19 (by decide)) (by rw [qup_n (by decide), qup_n (by decide)]) (by rw [qup_n (by decide), qup_n (by decide)])) ⟨(f + 7) % 8, b, hm, by omega, by rw [wnn (by decide), wo (by decide)]; exact ws, by rw [wnn (by decide)]; exact ws, ws, fun i hi => ?_⟩ (C5_f i5 (z 91 1 (by decide) (by decide)) (y 15 (by decide)) (fun j => z 92 j (by decide) (by decide)) (fun j => z 105 j (by decide) (by decide))) (C6_f i6 (z 93 1 (by decide) (by decide)) (y 24 (by decide)) (fun j => z 94 j (by decide) (by decide)) (fun j => z 110 j (by decide) (by decide))) (C7_f i7 (fun j => z 95 j (by decide) (by decide)) (fun j => z 97 j (by decide) (by decide)))
    have hm2 := Nat.mod_lt ((f + 7) % 8 + (8 - b) + i) (show 0 < 8 by decide)
    rw [qup_n (by omega), qup_n (by omega), qup_n (by omega), qup_n (by omega), show 3 + ((f + 7) % 8 + (8 - b) + i) % 8 = 3 + (f + (8 - (b + 1)) + i) % 8 by omega]
    exact p4 i (by omega)
theorem P_image (I : IV Q Z) : PRi yO_image yM_image [] (cm Q Z) := by
  obtain ⟨i1, i2, i3, i4, i5, i6, i7⟩ := id I
  have e1 := O_image (Q := Q) (Z := Z)
  have e2 := M_image (Q := qup Q 2 (Q 11)) (Z := wrm Z 88 3 1)
  rw [show qup Q 2 (Q 11) 11 = Q 11 from qup_n (by decide)] at e2
  rw [i1] at e1
  refine ⟨_, _, _, e1, e2, _, _, rfl, ?_⟩
  refine IV_fr (Z := wrm (wrm Z 88 3 1) 96 19 1) ?_ (FQ_r _) (FZ_kz _ _)
  have z : ∀ k j, k ≠ 88 → k ≠ 96 → wrm (wrm Z 88 3 1) 96 19 1 k j = Z k j := fun k j a b => by rw [wnn b, wnn a]
  have y : ∀ j, j ≠ 19 → wrm (wrm Z 88 3 1) 96 19 1 96 j = Z 96 j := fun j a => by rw [wo a, wnn (by decide)]
  have q : ∀ s, s ≠ 2 → s ≠ 12 → qup (qup Q 2 (Q 11)) 12 (Q 11) s = Q s := fun s a b => by rw [qup_n b, qup_n a]
  refine IV_mk (by rw [q 0 (by decide) (by decide), q 11 (by decide) (by decide)]; exact i1) (by rw [q 11 (by decide) (by decide)]; exact i2) (Or.inr ⟨by rw [wnn (by decide)]; exact ws, ws, by rw [qup_s, qup_n (by decide), qup_s], by rw [qup_s]; exact i2⟩) (C4_f i4 (z 89 1 (by decide) (by decide)) (z 89 2 (by decide) (by decide)) (y 22 (by decide)) (fun s a b => q s (by omega) (by omega)) (fun s a b => q s (by omega) (by omega))) (C5_f i5 (z 91 1 (by decide) (by decide)) (y 15 (by decide)) (fun j => z 92 j (by decide) (by decide)) (fun j => z 105 j (by decide) (by decide))) (C6_f i6 (z 93 1 (by decide) (by decide)) (y 24 (by decide)) (fun j => z 94 j (by decide) (by decide)) (fun j => z 110 j (by decide) (by decide))) (C7_f i7 (fun j => z 95 j (by decide) (by decide)) (fun j => z 97 j (by decide) (by decide)))
theorem P_restore (I : IV Q Z) : PRi yO_restore yM_restore [] (cm Q Z) := by
  obtain ⟨i1, i2, i3, i4, i5, i6, i7⟩ := id I
  rcases i3 with ⟨h1, h2⟩ | ⟨h1, h2, h3, h4⟩
  · exact PR_no I no3 (O_restore_no (Q := Q) h1) (M_restore_no (Q := Q) (by unfold rfz; rw [wnn (by decide)]; exact h2))
  · have e1 := O_restore_ok (Q := Q) (Z := Z) (by rw [h1]; decide)
    have e2 := M_restore_ok (Q := qup Q 0 (Q 12)) (Z := wrm Z 89 2 0) (by rw [wnn (by decide), h2]; decide)
    rw [show qup Q 0 (Q 12) 12 = Q 12 from qup_n (by decide)] at e2
    rw [h3] at e1
    exact ⟨_, _, _, e1, e2, _, _, rfl, IV_fr (IV_forget I h4) (FQ_r _) (FZ_w (FZ_kz _ _) 96 22 0)⟩
theorem co_e (I : IV Q Z) (n : Nat) (c : Int32) : coA (Q 11) Z n c = coM (Q 11) Z n c := by
  obtain ⟨i1, i2, i3, ⟨f, h, f8, h8, p1, p2, p3, p4⟩, ⟨l, l96, t1, t2, t3⟩, ⟨r, r12, r1, r2, r3⟩, i7⟩ := I
  have w1 : Z 91 1 = Z 96 15 := t1.trans t2.symm
  have w2 : Z 93 1 = Z 96 24 := r1.trans r2.symm
  have w3 : Z 89 2 = Z 96 22 := p2.trans p3.symm
  unfold coA coM
  by_cases hc : c < 11 ∨ 16 < c
  · rw [if_pos hc, w1, w2, w3]
    have last : (if c < 11 then (-9 : Int32) else if 16 < c then -9 else Z 95 (-(10 - c))) = -9 := by
      by_cases a : c < 11
      · rw [if_pos a]
      · rw [if_neg a, if_pos (hc.resolve_left a)]
    rw [last]
  · rw [if_neg hc]
    have hc1 : ¬ c < 11 := fun z => hc (Or.inl z)
    have hc2 : ¬ 16 < c := fun z => hc (Or.inr z)
    obtain ⟨j, hj, rfl⟩ := nI_of (x := c) (fun z => hc1 (Int32.lt_trans z (by decide)))
    have a1 : 11 ≤ j := by
      rcases Nat.lt_or_ge j 11 with q | q
      · exact absurd (nI_lt (b := 11) q (by decide)) hc1
      · exact q
    have a2 : j ≤ 16 := by
      rcases Nat.lt_or_ge 16 j with q | q
      · exact absurd (nI_lt (a := 16) q hj) hc2
      · exact q
    have ne : ∀ a, a < 9 → ¬ nI j = nI a := fun a ha z => by
      have := (nI_eq (by omega) (by omega)).mp z
      omega
    rw [if_neg (show ¬ nI j = 0 from ne 0 (by decide)), if_neg (show ¬ nI j = 1 from ne 1 (by decide)), if_neg (show ¬ nI j = 2 from ne 2 (by decide)), if_neg (show ¬ nI j = 3 from ne 3 (by decide)), if_neg (show ¬ nI j = 4 from ne 4 (by decide)), if_neg (show ¬ nI j = 5 from ne 5 (by decide)), if_neg (show ¬ nI j = 6 from ne 6 (by decide)), if_neg (show ¬ nI j = 7 from ne 7 (by decide)), if_neg (show ¬ nI j = 8 from ne 8 (by decide)), if_neg hc1, if_neg hc2]
    have e1 : ∀ j, j ≤ 16 → 11 ≤ j → -(10 - nI j) = nI (j - 10) ∧ nI j - 10 = nI (j - 10) := by decide
    rw [(e1 j a2 a1).1, (e1 j a2 a1).2]
    exact i7 _ (by omega)
theorem P_count (I : IV Q Z) (c : Int32) : PRi yO_count yM_count [.int c] (cm Q Z) := by
  obtain ⟨h01, ⟨n, p, k, V, hk, hk2⟩, _⟩ := id I
  have e1 := O_count (Q := Q) (Z := Z) c (n := n) (by rw [h01]; exact V.1) V.2.1
  have e2 := M_count (Q := Q) (Z := Z) V hk (by omega) c
  rw [h01, co_e I] at e1
  exact PR_q I e1 e2 (FQ_r Q) (FZ_r Z)
theorem IV_notext (I : IV Q Z) : IV Q (wrm (wrm Z 91 1 0) 96 15 0) := by
  obtain ⟨i1, i2, i3, i4, i5, i6, i7⟩ := I
  have z : ∀ k j, k ≠ 91 → k ≠ 96 → wrm (wrm Z 91 1 0) 96 15 0 k j = Z k j := fun k j a b => by rw [wnn b, wnn a]
  have y : ∀ j, j ≠ 15 → wrm (wrm Z 91 1 0) 96 15 0 96 j = Z 96 j := fun j a => by rw [wo a, wnn (by decide)]
  refine IV_mk i1 i2 (C3_f i3 (z 88 3 (by decide) (by decide)) (y 19 (by decide)) rfl rfl) (C4_f i4 (z 89 1 (by decide) (by decide)) (z 89 2 (by decide) (by decide)) (y 22 (by decide)) (fun _ _ _ => rfl) (fun _ _ _ => rfl)) ⟨0, by omega, by rw [wnn (by decide)]; exact ws, ws, fun i hi => by omega⟩ (C6_f i6 (z 93 1 (by decide) (by decide)) (y 24 (by decide)) (fun j => z 94 j (by decide) (by decide)) (fun j => z 110 j (by decide) (by decide))) (C7_f i7 (fun j => z 95 j (by decide) (by decide)) (fun j => z 97 j (by decide) (by decide)))
theorem P_street (I : IV Q Z) : PRi yO_street yM_street [] (cm Q Z) := by
  obtain ⟨h01, hS, i3, i4, ⟨l, l96, t1, t2, t3⟩, i6, i7⟩ := id I
  obtain ⟨n, p, k, V, hk, hk2⟩ := id hS
  by_cases h : fbv Z l l 0 (-1) < 0
  · have e1 := O_street_ok (Q := Q) (Z := Z) t1 l96 (n := n) (by rw [h01]; exact V.1) V.2.1 h
    rw [h01] at e1
    generalize hr : rtv Z 96 (Q 11) 0 0 = r at e1
    have T : TXT Z (wrm (rtZ Z r) 91 1 0) l := by
      have hz : ∀ k j, k ≠ 89 → k ≠ 91 → wrm (rtZ Z r) 91 1 0 k j = Z k j := fun k j a b => by
        rw [wnn b]
        unfold rtZ
        split
        · rw [wnn a]
        · rfl
      exact ⟨l96, t1, by rw [hz 96 15 (by decide) (by decide)]; exact t2, fun i hi => by rw [hz 105 _ (by decide) (by decide)]; exact t3 i hi⟩
    have q11 : rtQ Q r 11 = Q 11 := by
      unfold rtQ
      split
      · rw [qup_n (by decide), qup_n (by decide)]
      · rw [qup_n (by decide)]
    obtain ⟨⟨Z2, f2, e2⟩, sv⟩ := M_street_ok (Q := rtQ Q r) T h (by rw [q11]; exact hS)
    rw [q11, hr] at e2 sv
    refine ⟨_, _, _, e1, e2, _, _, rfl, ?_⟩
    obtain ⟨ok, v, X⟩ := r
    cases ok with
    | true =>
      have sX : SV X := sv rfl
      have a1 : tlQ (rtQ Q (true, v, X)) (Q 11) (true, v, X) = qup (qup (qup (qup Q 1 X) 0 X) 13 (Q 11)) 11 X := rfl
      have a2 : tlZ (wrm Z2 96 15 0) (true, v, X) = wrm (kz (wrm Z2 96 15 0) 1 106) 96 22 0 := rfl
      have a3 : rtZ Z (true, v, X) = wrm Z 89 2 0 := rfl
      rw [a3] at f2
      rw [a1, a2]
      have J := IV_forget (IV_fr (IV_notext I) (FQ_1 X) (FZ_r _)) sX
      refine IV_fr J (fun s a b c => ?_) ?_
      · by_cases s11 : s = 11
        · subst s11; rw [qup_s, qup_s]
        · rw [qup_n s11, qup_n b, qup_n s11]
      · have w1 : wrm (wrm (wrm (wrm Z 91 1 0) 96 15 0) 89 2 0) 96 22 0 = wrm (wrm (wrm (wrm Z 89 2 0) 91 1 0) 96 15 0) 96 22 0 := by
          rw [wrm_cm (X := wrm Z 91 1 0) (r := 96) (j := 15) (r' := 89) (j' := 2) (Or.inl (by decide)), wrm_cm (X := Z) (r := 91) (j := 1) (r' := 89) (j' := 2) (Or.inl (by decide))]
        rw [w1]
        exact FZ_w (FZ_t (FZ_w (FZ_FR f2) 96 15 0) (FZ_kz _ _)) 96 22 0
    | false =>
      have a1 : tlQ (rtQ Q (false, v, X)) (Q 11) (false, v, X) = qup (qup (qup Q 1 X) 13 (Q 11)) 11 (Q 11) := rfl
      have a2 : tlZ (wrm Z2 96 15 0) (false, v, X) = kz (wrm Z2 96 15 0) 0 106 := rfl
      have a3 : rtZ Z (false, v, X) = Z := rfl
      rw [a3] at f2
      rw [a1, a2]
      refine IV_fr (IV_notext I) (fun s a b c => ?_) (FZ_t (FZ_w (FZ_FR f2) 96 15 0) (FZ_kz _ _))
      by_cases s11 : s = 11
      · subst s11; rw [qup_s]
      · rw [qup_n s11, qup_n b, qup_n a]
  · have e1 := O_street_bad (Q := Q) (Z := Z) t1 l96 h
    have T : TXT Z (wrm Z 91 1 0) l := ⟨l96, t1, by rw [wnn (by decide)]; exact t2, fun i hi => by rw [wnn (by decide)]; exact t3 i hi⟩
    obtain ⟨Z2, f2, e2⟩ := M_street_bad (Q := Q) T h
    exact ⟨_, _, _, e1, e2, _, _, rfl, IV_fr (IV_notext I) (FQ_r Q) (FZ_w (FZ_FR f2) 96 15 0)⟩
end PAIR4

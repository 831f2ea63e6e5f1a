/-! class and model side by side: what changes -/
section PAIR3
variable {Q Q' : Nat → St} {Z Z' : Mem}
def C3 (Q : Nat → St) (Z : Mem) : Prop := (Z 88 3 = 0 ∧ Z 96 19 = 0) ∨ (Z 88 3 = 1 ∧ Z 96 19 = 1 ∧ Q 2 = Q 12 ∧ SV (Q 12))
def C4 (Q : Nat → St) (Z : Mem) : Prop := ∃ f h, f < 8 ∧ h ≤ 8 ∧ Z 89 1 = nI f ∧ Z 89 2 = nI h ∧ Z 96 22 = nI h ∧ ∀ i, i < h → Q (3 + (f + (8 - h) + i) % 8) = Q (15 + i) ∧ SV (Q (15 + i))
def C5 (Z : Mem) : Prop := ∃ l, l ≤ 96 ∧ Z 91 1 = nI l ∧ Z 96 15 = nI l ∧ ∀ i, i < l → Z 105 (nI i) = Z 92 (nI i)
def C6 (Z : Mem) : Prop := ∃ r, r ≤ 12 ∧ Z 93 1 = nI r ∧ Z 96 24 = nI r ∧ ∀ i, i < r → Z 110 (nI i) = Z 94 (nI i)
def C7 (Z : Mem) : Prop := ∀ j, j < 7 → Z 95 (nI j) = Z 97 (nI j)
theorem IV_mk (h1 : Q 0 = Q 11) (h2 : SV (Q 11)) (h3 : C3 Q Z) (h4 : C4 Q Z) (h5 : C5 Z) (h6 : C6 Z) (h7 : C7 Z) : IV Q Z := ⟨h1, h2, h3, h4, h5, h6, h7⟩
theorem C3_f (h : C3 Q Z) (a : Z' 88 3 = Z 88 3) (b : Z' 96 19 = Z 96 19) (c : Q' 2 = Q 2) (d : Q' 12 = Q 12) : C3 Q' Z' := by
  unfold C3
  rw [a, b, c, d]
  exact h
theorem C4_f (h : C4 Q Z) (a : Z' 89 1 = Z 89 1) (b : Z' 89 2 = Z 89 2) (c : Z' 96 22 = Z 96 22) (d : ∀ s, 3 ≤ s → s ≤ 10 → Q' s = Q s) (e : ∀ s, 15 ≤ s → s ≤ 22 → Q' s = Q s) : C4 Q' Z' := by
  obtain ⟨f, k, f8, h8, p1, p2, p3, p4⟩ := h
  refine ⟨f, k, f8, h8, by rw [a]; exact p1, by rw [b]; exact p2, by rw [c]; exact p3, fun i hi => ?_⟩
  have hm := Nat.mod_lt (f + (8 - k) + i) (show 0 < 8 by decide)
  rw [d _ (by omega) (by omega), e _ (by omega) (by omega)]
  exact p4 i hi
theorem C5_f (h : C5 Z) (a : Z' 91 1 = Z 91 1) (b : Z' 96 15 = Z 96 15) (c : ∀ j, Z' 92 j = Z 92 j) (d : ∀ j, Z' 105 j = Z 105 j) : C5 Z' := by
  obtain ⟨l, l96, t1, t2, t3⟩ := h
  exact ⟨l, l96, by rw [a]; exact t1, by rw [b]; exact t2, fun i hi => by rw [d, c]; exact t3 i hi⟩
theorem C6_f (h : C6 Z) (a : Z' 93 1 = Z 93 1) (b : Z' 96 24 = Z 96 24) (c : ∀ j, Z' 94 j = Z 94 j) (d : ∀ j, Z' 110 j = Z 110 j) : C6 Z' := by
  obtain ⟨l, l96, t1, t2, t3⟩ := h
  exact ⟨l, l96, by rw [a]; exact t1, by rw [b]; exact t2, fun i hi => by rw [d, c]; exact t3 i hi⟩
theorem C7_f (h : C7 Z) (a : ∀ j, Z' 95 j = Z 95 j) (b : ∀ j, Z' 97 j = Z 97 j) : C7 Z' := fun j hj => by rw [a, b]; exact h j hj
theorem FZ_w (h : FZ Z Z') (k : Nat) (j v : Int32) : FZ (wrm Z k j v) (wrm Z' k j v) := fun k' j' hl => by
  rw [wrm_eq, wrm_eq]
  by_cases e : k' = k ∧ j' = j
  · rw [if_pos e, if_pos e]
  · rw [if_neg e, if_neg e]; exact h k' j' hl
theorem FZ_FR (h : FRz Z Z') : FZ Z Z' := fun k j hl => by
  rcases hl with rfl | rfl | rfl | rfl | rfl | rfl | rfl | rfl | rfl | rfl | ⟨rfl, hl⟩
  iterate 10 exact h _ _ (fun z => absurd z.1 (by decide)) (by decide) (by decide) (by decide)
  rcases hl with rfl | rfl | rfl | rfl
  iterate 4 exact h _ _ (fun z => z.2.elim (fun z => absurd z (by decide)) (fun z => absurd z (by decide))) (by decide) (by decide) (by decide)
/-- one more can be taken back -/
theorem IV_keep {f h : Nat} {X : St} (I : IV Q Z) (f8 : f < 8) (h8 : h ≤ 8) (p1 : Z 89 1 = nI f) (p2 : Z 89 2 = nI h) (p3 : Z 96 22 = nI h) (hX : SV X) : IV (qup (kbQ (qup (kpQ Q f) 0 X) h) 11 X) (kbZ (kpZ Z f) h) := by
  obtain ⟨i1, i2, i3, ⟨f', h', f8', h8', p1', p2', p3', p4⟩, i5, i6, i7⟩ := I
  have ef : f' = f := (nI_eq (by omega) (by omega)).mp (p1'.symm.trans p1)
  have eh : h' = h := (nI_eq (by omega) (by omega)).mp (p2'.symm.trans p2)
  subst ef
  subst eh
  have q11 : qup (kpQ Q f') 0 X 11 = Q 11 := by rw [qup_n (by decide)]; exact qup_n (by omega)
  have zk : ∀ k j, ¬ (k = 89 ∧ (j = 1 ∨ j = 2)) → ¬ (k = 96 ∧ (j = 20 ∨ j = 21 ∨ j = 22)) → kbZ (kpZ Z f') h' k j = Z k j := fun k j a b => by
    have e1 : kpZ Z f' k j = Z k j := by
      unfold kpZ
      rw [wrm_eq, if_neg (fun z => a ⟨z.1, Or.inr z.2⟩), wrm_eq, if_neg (fun z => a ⟨z.1, Or.inl z.2⟩)]
    unfold kbZ
    by_cases e : h' = 8
    · rw [if_pos e, wrm_eq, if_neg (fun z => b ⟨z.1, Or.inr (Or.inr z.2)⟩)]
      unfold kz
      rw [wrm_eq, if_neg (fun z => b ⟨z.1, Or.inr (Or.inl z.2)⟩), wrm_eq, if_neg (fun z => b ⟨z.1, Or.inl z.2⟩), wrm_eq, if_neg (fun z => b ⟨z.1, Or.inr (Or.inr z.2)⟩)]
      exact e1
    · rw [if_neg e, wrm_eq, if_neg (fun z => b ⟨z.1, Or.inr (Or.inr z.2)⟩)]
      unfold kz
      rw [wrm_eq, if_neg (fun z => b ⟨z.1, Or.inr (Or.inl z.2)⟩), wrm_eq, if_neg (fun z => b ⟨z.1, Or.inl z.2⟩)]
      exact e1
  have z89 : ∀ j, kbZ (kpZ Z f') h' 89 j = kpZ Z f' 89 j := fun j => by
    unfold kbZ
    by_cases e : h' = 8
    · rw [if_pos e, wnn (by decide), kz_n (by decide), wnn (by decide)]
    · rw [if_neg e, wnn (by decide), kz_n (by decide)]
  have z1 : kbZ (kpZ Z f') h' 89 1 = nI ((f' + 1) % 8) := by
    rw [z89]
    unfold kpZ
    rw [wo (by decide)]
    exact ws
  have z2 : kbZ (kpZ Z f') h' 89 2 = mn 8 (nI h' + 1) := by
    rw [z89]
    unfold kpZ
    rw [ws, p2]
  have mnv : ∀ h, h ≤ 8 → mn 8 (nI h + 1) = nI (if h = 8 then 8 else h + 1) := by decide
  rw [mnv h' h8] at z2
  have z22 : kbZ (kpZ Z f') h' 96 22 = nI (if h' = 8 then 8 else h' + 1) := by
    unfold kbZ
    by_cases e : h' = 8
    · rw [if_pos e, if_pos e]; exact ws
    · rw [if_neg e, if_neg e]; exact ws
  have qk : ∀ s, s ≠ 0 → s ≠ 11 → ¬ (3 ≤ s ∧ s ≤ 10) → ¬ (15 ≤ s ∧ s ≤ 22) → qup (kbQ (qup (kpQ Q f') 0 X) h') 11 X s = Q s := fun s a b c d => by
    rw [qup_n b]
    have e1 : qup (kpQ Q f') 0 X s = Q s := by rw [qup_n a]; exact qup_n (by omega)
    unfold kbQ
    by_cases e : h' = 8
    · rw [if_pos e, qup_n (by omega)]
      unfold dnQ
      rw [if_neg (by omega)]
      exact e1
    · rw [if_neg e, qup_n (by omega)]
      exact e1
  refine IV_mk ?_ ?_ (C3_f i3 (zk 88 3 (fun z => absurd z.1 (by decide)) (fun z => absurd z.1 (by decide))) (zk 96 19 (fun z => absurd z.1 (by decide)) (fun z => by revert z; decide)) (qk 2 (by decide) (by decide) (by decide) (by decide)) (qk 12 (by decide) (by decide) (by decide) (by decide))) ?_ (C5_f i5 (zk 91 1 (fun z => absurd z.1 (by decide)) (fun z => absurd z.1 (by decide))) (zk 96 15 (fun z => absurd z.1 (by decide)) (fun z => by revert z; decide)) (fun j => zk 92 j (fun z => absurd z.1 (by decide)) (fun z => absurd z.1 (by decide))) (fun j => zk 105 j (fun z => absurd z.1 (by decide)) (fun z => absurd z.1 (by decide)))) (C6_f i6 (zk 93 1 (fun z => absurd z.1 (by decide)) (fun z => absurd z.1 (by decide))) (zk 96 24 (fun z => absurd z.1 (by decide)) (fun z => by revert z; decide)) (fun j => zk 94 j (fun z => absurd z.1 (by decide)) (fun z => absurd z.1 (by decide))) (fun j => zk 110 j (fun z => absurd z.1 (by decide)) (fun z => absurd z.1 (by decide)))) (C7_f i7 (fun j => zk 95 j (fun z => absurd z.1 (by decide)) (fun z => absurd z.1 (by decide))) (fun j => zk 97 j (fun z => absurd z.1 (by decide)) (fun z => absurd z.1 (by decide))))
  · rw [qup_s, qup_n (by decide)]
    unfold kbQ
    by_cases e : h' = 8
    · rw [if_pos e, qup_n (by decide)]
      unfold dnQ
      rw [if_neg (by decide)]
      exact qup_s
    · rw [if_neg e, qup_n (by omega)]
      exact qup_s
  · rw [qup_s]; exact hX
  · have hf := Nat.mod_lt (f' + 1) (show 0 < 8 by decide)
    -- the ring's places, and the model's
    have cr : ∀ s, 3 ≤ s → s ≤ 10 → qup (kbQ (qup (kpQ Q f') 0 X) h') 11 X s = if s = 3 + f' then Q 11 else Q s := fun s a b => by
      rw [qup_n (by omega)]
      have e1 : qup (kpQ Q f') 0 X s = if s = 3 + f' then Q 11 else Q s := by
        rw [qup_n (by omega)]
        unfold kpQ
        by_cases e : s = 3 + f'
        · rw [if_pos e, e, qup_s]; exact i1
        · rw [if_neg e, qup_n e]
      unfold kbQ
      by_cases e : h' = 8
      · rw [if_pos e, qup_n (by omega)]
        unfold dnQ
        rw [if_neg (by omega)]
        exact e1
      · rw [if_neg e, qup_n (by omega)]
        exact e1
    have q1s : ∀ s, 15 ≤ s → qup (kpQ Q f') 0 X s = Q s := fun s a => by rw [qup_n (by omega)]; exact qup_n (by omega)
    by_cases e : h' = 8
    · rw [if_pos e] at z2 z22
      have cm' : ∀ i, i < 8 → qup (kbQ (qup (kpQ Q f') 0 X) h') 11 X (15 + i) = if i = 7 then Q 11 else Q (15 + (i + 1)) := fun i hi => by
        rw [qup_n (by omega)]
        unfold kbQ
        rw [if_pos e]
        by_cases e7 : i = 7
        · subst e7
          rw [if_pos rfl, qup_s]
          exact q11
        · rw [if_neg e7, qup_n (by omega)]
          unfold dnQ
          rw [if_pos (by omega)]
          exact q1s _ (by omega)
      refine ⟨(f' + 1) % 8, 8, hf, by omega, z1, z2, z22, fun i hi => ?_⟩
      have hm := Nat.mod_lt ((f' + 1) % 8 + (8 - 8) + i) (show 0 < 8 by decide)
      rw [cr _ (by omega) (by omega), cm' i hi]
      by_cases e7 : i = 7
      · rw [if_pos e7, if_pos (by omega)]
        exact ⟨rfl, i2⟩
      · rw [if_neg e7, if_neg (by omega)]
        have key := p4 (i + 1) (by omega)
        rw [show 3 + ((f' + 1) % 8 + (8 - 8) + i) % 8 = 3 + (f' + (8 - h') + (i + 1)) % 8 by omega]
        exact key
    · rw [if_neg e] at z2 z22
      have cm' : ∀ i, i < h' + 1 → qup (kbQ (qup (kpQ Q f') 0 X) h') 11 X (15 + i) = if i = h' then Q 11 else Q (15 + i) := fun i hi => by
        rw [qup_n (by omega)]
        unfold kbQ
        rw [if_neg e]
        by_cases e7 : i = h'
        · subst e7
          rw [if_pos rfl, qup_s]
          exact q11
        · rw [if_neg e7, qup_n (by omega)]
          exact q1s _ (by omega)
      refine ⟨(f' + 1) % 8, h' + 1, hf, by omega, z1, z2, z22, fun i hi => ?_⟩
      have hm := Nat.mod_lt ((f' + 1) % 8 + (8 - (h' + 1)) + i) (show 0 < 8 by decide)
      rw [cr _ (by omega) (by omega), cm' i hi]
      by_cases e7 : i = h'
      · rw [if_pos e7, if_pos (by omega)]
        exact ⟨rfl, i2⟩
      · rw [if_neg e7, if_neg (by omega)]
        have key := p4 i (by omega)
        rw [show 3 + ((f' + 1) % 8 + (8 - (h' + 1)) + i) % 8 = 3 + (f' + (8 - h') + i) % 8 by omega]
        exact key
/-- none can be taken back -/
theorem IV_forget {X : St} (I : IV Q Z) (hX : SV X) : IV (qup (qup Q 0 X) 11 X) (wrm (wrm Z 89 2 0) 96 22 0) := by
  obtain ⟨i1, i2, i3, ⟨f, h, f8, h8, p1, p2, p3, p4⟩, i5, i6, i7⟩ := I
  have z : ∀ k j, k ≠ 89 → k ≠ 96 → wrm (wrm Z 89 2 0) 96 22 0 k j = Z k j := fun k j a b => by rw [wnn b, wnn a]
  have y : ∀ j, j ≠ 22 → wrm (wrm Z 89 2 0) 96 22 0 96 j = Z 96 j := fun j a => by rw [wo a, wnn (by decide)]
  refine IV_mk (by rw [qup_s, qup_n (by decide), qup_s]) (by rw [qup_s]; exact hX) (C3_f i3 (z 88 3 (by decide) (by decide)) (y 19 (by decide)) (by rw [qup_n (by decide), qup_n (by decide)]) (by rw [qup_n (by decide), qup_n (by decide)])) ⟨f, 0, f8, by omega, by rw [wnn (by decide), wo (by decide)]; exact p1, by rw [wnn (by decide)]; exact ws, ws, fun i hi => by omega⟩ (C5_f i5 (z 91 1 (by decide) (by decide)) (y 15 (by decide)) (fun j => z 92 j (by decide) (by decide)) (fun j => z 105 j (by decide) (by decide))) (C6_f i6 (z 93 1 (by decide) (by decide)) (y 24 (by decide)) (fun j => z 94 j (by decide) (by decide)) (fun j => z 110 j (by decide) (by decide))) (C7_f i7 (fun j => z 95 j (by decide) (by decide)) (fun j => z 97 j (by decide) (by decide)))
theorem P_mends (I : IV Q Z) (q v : Int32) : PRi yO_mends yM_mends [.int q, .int v] (cm Q Z) := by
  obtain ⟨h01, ⟨n, p, k, V, hk, hk2⟩, _, ⟨f, h', f8, h8, p1, p2, p3, p4⟩, _⟩ := id I
  by_cases h : eiv (pfv q) (rgv v 0 99) = 0
  · obtain ⟨a, ha, hae⟩ := pI_n (pfv_0 (eiv_0 h).1)
    obtain ⟨b, hb, hbe⟩ := rgv_99 (eiv_0 h).2
    have e1 := O_mends_ok (Q := Q) (Z := Z) q v p1 f8 h
    have q11 : qup (kpQ Q f) 0 (wrm (Q 11) 6 q v) 11 = Q 11 := by rw [qup_n (by decide)]; exact qup_n (by omega)
    have e2 := M_mends_ok (Q := qup (kpQ Q f) 0 (wrm (Q 11) 6 q v)) (Z := kpZ Z f) q v (b := h') (by unfold kpZ; rw [wnn (by decide), wnn (by decide)]; exact p3) h8 h
    rw [q11] at e2
    rw [h01] at e1
    exact ⟨_, _, _, e1, e2, _, _, rfl, IV_keep I f8 h8 p1 p2 p3 ⟨n, p, k, by rw [hae, hbe]; exact VB_w6 V ha hb, by rw [wn_6_0]; exact hk, hk2⟩⟩
  · exact PR_no I ((eiv_no (pfv_no q) (rgv_no v 0 99)).resolve_left h) (O_mends_no (Q := Q) q v h) (M_mends_no (Q := Q) q v h)
theorem P_grieves (I : IV Q Z) (w v : Int32) : PRi yO_grieves yM_grieves [.int w, .int v] (cm Q Z) := by
  obtain ⟨h01, ⟨n, p, k, V, hk, hk2⟩, _, ⟨f, h', f8, h8, p1, p2, p3, p4⟩, _⟩ := id I
  by_cases h : eiv (wdv (Q 11) w) (rgv v 0 99) = 0
  · obtain ⟨a, ha, hae⟩ := hW_ex V.1 V.2.1 (wdv_t (eiv_0 h).1)
    obtain ⟨b, hb, hbe⟩ := rgv_99 (eiv_0 h).2
    have e1 := O_grieves_ok (Q := Q) (Z := Z) w v p1 f8 (by rw [h01]; exact h)
    have q11 : qup (kpQ Q f) 0 (wrm (Q 11) 3 w v) 11 = Q 11 := by rw [qup_n (by decide)]; exact qup_n (by omega)
    have e2 := M_grieves_ok (Q := qup (kpQ Q f) 0 (wrm (Q 11) 3 w v)) (Z := kpZ Z f) (n := n) (by rw [q11]; exact V.1) V.2.1 w v (b := h') (by unfold kpZ; rw [wnn (by decide), wnn (by decide)]; exact p3) h8 (by rw [q11]; exact h)
    rw [q11] at e2
    rw [h01] at e1
    exact ⟨_, _, _, e1, e2, _, _, rfl, IV_keep I f8 h8 p1 p2 p3 ⟨n, p, k, by rw [hae, hbe]; exact VB_w3 V (by have := V.2.1; omega) hb, by rw [wn_3_0]; exact hk, hk2⟩⟩
  · have e1 := O_grieves_no (Q := Q) (Z := Z) w v (by rw [h01]; exact h)
    rw [h01] at e1
    exact PR_no I ((eiv_no (wdv_no (Q 11) w) (rgv_no v 0 99)).resolve_left h) e1 (M_grieves_no (Q := Q) V.1 V.2.1 w v h)
theorem P_weeks (I : IV Q Z) (m : Int32) : PRi yO_weeks yM_weeks [.int m] (cm Q Z) := by
  obtain ⟨h01, ⟨n, p, k, V, hk, hk2⟩, _, ⟨f, h', f8, h8, p1, p2, p3, p4⟩, _⟩ := id I
  by_cases h : wkv (Q 11) m = 0
  · have hr : rgv m 1 60 = 0 ∧ ¬ 999 < Q 11 0 9 + m := by
      have z := h
      unfold wkv at z
      by_cases h1 : rgv m 1 60 = 0
      · rw [if_pos h1] at z
        by_cases h2 : 999 < Q 11 0 9 + m
        · rw [if_pos h2] at z; exact absurd z (by decide)
        · exact ⟨h1, h2⟩
      · rw [if_neg h1] at z; exact absurd z h1
    obtain ⟨hr1, hr2⟩ := hr
    obtain ⟨m, hm0, hm, rfl⟩ := rgv_160 hr1
    have hle : k + m ≤ 999 := by
      rw [hk, nI_add] at hr2
      rcases Nat.lt_or_ge 999 (k + m) with z | z
      · exact absurd (nI_lt (a := 999) z (by omega)) hr2
      · exact z
    have e1 := O_weeks_ok (Q := Q) (Z := Z) (m := m) (n := n) (by rw [h01]; exact V.1) V.2.1 (by omega) p1 f8 (by rw [h01]; exact h)
    have q11 : qup (kpQ Q f) 0 (wksX (Q 11) n m) 11 = Q 11 := by rw [qup_n (by decide)]; exact qup_n (by omega)
    have e2 := M_weeks_ok (Q := qup (kpQ Q f) 0 (wksX (Q 11) n m)) (Z := kpZ Z f) (n := n) (p := p) (k := k) (m := m) (by rw [q11]; exact V) (by rw [q11]; exact hk) (by omega) (b := h') (by unfold kpZ; rw [wnn (by decide), wnn (by decide)]; exact p3) h8 (by rw [q11]; exact h)
    rw [q11] at e2
    rw [h01] at e1
    obtain ⟨V', hw'⟩ := VB_wks V hk m (by omega)
    exact ⟨_, _, _, e1, e2, _, _, rfl, IV_keep I f8 h8 p1 p2 p3 ⟨n, p, k + m, V', hw', hle⟩⟩
  · have e1 := O_weeks_no (Q := Q) (Z := Z) m (by rw [h01]; exact h)
    rw [h01] at e1
    exact PR_no I ((wkv_no (Q 11) m).resolve_left h) e1 (M_weeks_no (Q := Q) m h)
theorem P_puts (I : IV Q Z) (q w : Int32) : PRi yO_puts yM_puts [.int q, .int w] (cm Q Z) := by
  obtain ⟨h01, ⟨n, p, k, V, hk, hk2⟩, _, ⟨f, h', f8, h8, p1, p2, p3, p4⟩, _⟩ := id I
  by_cases h : puv (Q 11) q w = 0
  · have hq : ∃ a, a ≤ p ∧ a < 12 ∧ q = nI a ∧ cH (Q 11) w = true := by
      have z := h
      unfold puv at z
      by_cases h1 : q < 0
      · rw [if_pos h1] at z; exact absurd z (by decide)
      · rw [if_neg h1] at z
        by_cases h2 : Q 11 0 8 < q
        · rw [if_pos h2] at z; exact absurd z (by decide)
        · rw [if_neg h2] at z
          cases h3 : cH (Q 11) w with
          | false => rw [h3, if_neg (by decide)] at z; exact absurd z (by decide)
          | true =>
            rw [h3, if_pos rfl] at z
            by_cases h4 : q < 12
            · obtain ⟨a, ha, rfl⟩ := nI_of h1
              refine ⟨a, ?_, (nI_ltI ha (b := 12) (by decide)).mp h4, rfl, rfl⟩
              rw [V.2.2.1] at h2
              rcases Nat.lt_or_ge p a with y | y
              · exact absurd (nI_lt y ha) h2
              · exact y
            · rw [if_neg h4] at z; exact absurd z (by decide)
    obtain ⟨a, hap, ha12, rfl, hcH⟩ := hq
    have e1 := O_puts_ok (Q := Q) (Z := Z) (nI a) w p1 f8 (by rw [h01]; exact h)
    have q11 : qup (kpQ Q f) 0 (spX (Q 11) (nI a) w) 11 = Q 11 := by rw [qup_n (by decide)]; exact qup_n (by omega)
    have e2 := M_puts_ok (Q := qup (kpQ Q f) 0 (spX (Q 11) (nI a) w)) (Z := kpZ Z f) (n := n) (p := p) (b := h') (by rw [q11]; exact V) (by unfold kpZ; rw [wnn (by decide), wnn (by decide)]; exact p3) h8 (nI a) w (by rw [q11]; exact h)
    rw [q11] at e2
    rw [h01] at e1
    obtain ⟨p', V'⟩ := VB_sp V hap ha12 (cH_g V.1 V.2.1 hcH)
    exact ⟨_, _, _, e1, e2, _, _, rfl, IV_keep I f8 h8 p1 p2 p3 ⟨n, p', k, V', by rw [spX_9]; exact hk, hk2⟩⟩
  · have e1 := O_puts_no (Q := Q) (Z := Z) q w (by rw [h01]; exact h)
    rw [h01] at e1
    exact PR_no I ((puv_no (Q 11) q w).resolve_left h) e1 (M_puts_no (Q := Q) V q w h)
theorem P_widow (I : IV Q Z) (k f g d : Int32) : PRi yO_widow yM_widow [.int k, .int f, .int g, .int d] (cm Q Z) := by
  obtain ⟨h01, ⟨n, p, w, V, hw, hw2⟩, _⟩ := id I
  by_cases h : nwv (Q 11) k f g d = 0
  · have hOK : awOK (Q 11) k f g d = true := by
      have z := h
      unfold nwv at z
      cases h6 : awOK (Q 11) k f g d with
      | true => rfl
      | false =>
        rw [h6] at z
        split at z
        · exact absurd z (by decide)
        · split at z
          · split at z
            · exact absurd z (by decide)
            · split at z
              · exact absurd z (by decide)
              · split at z
                · exact absurd z (by decide)
                · exact absurd z (by decide)
          · exact absurd z (by decide)
    have hd := hOK
    unfold awOK awR at hd
    simp only [Bool.and_eq_true, Bool.not_eq_true', decide_eq_false_iff_not, decide_eq_true_eq] at hd
    obtain ⟨⟨_, _, f0, f10, g0, g99, _, _⟩, _, hn7⟩ := hd
    obtain ⟨a, ha, rfl⟩ := nI_of f0
    obtain ⟨b, hb, rfl⟩ := nI_of g0
    have ha9 : a ≤ 9 := by
      have := (nI_ltI ha (b := 10) (by decide)).mp f10
      omega
    have hb99 : b ≤ 99 := by
      rcases Nat.lt_or_ge 99 b with y | y
      · exact absurd (nI_lt (a := 99) y hb) g99
      · exact y
    have hlt : n < 7 := by
      rw [V.1] at hn7
      exact (nI_ltI (b := 7) (by have := V.2.1; omega) (by decide)).mp hn7
    have e1 := O_widow_ok (Q := Q) (Z := Z) k (nI a) (nI b) d (by rw [h01]; exact h)
    have q11 : qup Q 0 (awX (Q 11) k (nI a) (nI b) d) 11 = Q 11 := qup_n (by decide)
    have e2 := M_widow_ok (Q := qup Q 0 (awX (Q 11) k (nI a) (nI b) d)) (Z := wrm Z 89 2 0) (n := n) (by rw [q11]; exact V.1) V.2.1 k (nI a) (nI b) d (by rw [q11]; exact h)
    rw [q11] at e2
    rw [h01] at e1
    exact ⟨_, _, _, e1, e2, _, _, rfl, IV_forget I ⟨n + 1, p, w, VB_aw V hlt ha9 hb99 k d, by rw [awX_9]; exact hw, hw2⟩⟩
  · have e1 := O_widow_no (Q := Q) (Z := Z) k f g d (by rw [h01]; exact h)
    rw [h01] at e1
    exact PR_no I ((nwv_no (Q 11) k f g d).resolve_left h) e1 (M_widow_no (Q := Q) V.1 V.2.1 k f g d h)
end PAIR3

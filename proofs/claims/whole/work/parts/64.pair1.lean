/-! class and model side by side: what holds between two calls -/
section PAIR1
variable {Q : Nat → St} {Z : Mem}
def IV (Q : Nat → St) (Z : Mem) : Prop := Q 0 = Q 11 ∧ SV (Q 11) ∧ ((Z 88 3 = 0 ∧ Z 96 19 = 0) ∨ (Z 88 3 = 1 ∧ Z 96 19 = 1 ∧ Q 2 = Q 12 ∧ SV (Q 12))) ∧ (∃ f h, f < 8 ∧ h ≤ 8 ∧ Z 89 1 = nI f ∧ Z 89 2 = nI h ∧ Z 96 22 = nI h ∧ ∀ i, i < h → Q (3 + (f + (8 - h) + i) % 8) = Q (15 + i) ∧ SV (Q (15 + i))) ∧ (∃ l, l ≤ 96 ∧ Z 91 1 = nI l ∧ Z 96 15 = nI l ∧ ∀ i, i < l → Z 105 (nI i) = Z 92 (nI i)) ∧ (∃ r, r ≤ 12 ∧ Z 93 1 = nI r ∧ Z 96 24 = nI r ∧ ∀ i, i < r → Z 110 (nI i) = Z 94 (nI i)) ∧ (∀ j, j < 7 → Z 95 (nI j) = Z 97 (nI j))
def live (k : Nat) (j : Int32) : Prop := k = 88 ∨ k = 89 ∨ k = 91 ∨ k = 92 ∨ k = 93 ∨ k = 94 ∨ k = 95 ∨ k = 97 ∨ k = 105 ∨ k = 110 ∨ (k = 96 ∧ (j = 15 ∨ j = 19 ∨ j = 22 ∨ j = 24))
def FZ (Z Z' : Mem) : Prop := ∀ k j, live k j → Z' k j = Z k j
def FQ (Q Q' : Nat → St) : Prop := ∀ s, s ≠ 1 → s ≠ 13 → s ≠ 14 → Q' s = Q s
theorem FZ_r (Z : Mem) : FZ Z Z := fun _ _ _ => rfl
theorem FZ_t {Z' Z'' : Mem} (h : FZ Z Z') (h' : FZ Z' Z'') : FZ Z Z'' := fun k j a => (h' k j a).trans (h k j a)
theorem FQ_r (Q : Nat → St) : FQ Q Q := fun _ _ _ _ => rfl
theorem FQ_t {Q' Q'' : Nat → St} (h : FQ Q Q') (h' : FQ Q' Q'') : FQ Q Q'' := fun s a b c => (h' s a b c).trans (h s a b c)
theorem FQ_1 (X : St) : FQ Q (qup Q 1 X) := fun s a _ _ => qup_n a
theorem FQ_13 (X : St) : FQ Q (qup Q 13 X) := fun s _ b _ => qup_n b
theorem FQ_14 (X : St) : FQ Q (qup Q 14 X) := fun s _ _ c => qup_n c
theorem FQ_11 : FQ Q (qup Q 11 (Q 11)) := fun s _ _ _ => by
  rw [qup_id]
theorem FZ_kz (c d : Int32) : FZ Z (kz Z c d) := fun k j h => by
  rcases h with rfl | rfl | rfl | rfl | rfl | rfl | rfl | rfl | rfl | rfl | ⟨rfl, h⟩
  iterate 10 exact kz_n (by decide)
  rcases h with rfl | rfl | rfl | rfl
  iterate 4 exact kz_o (by decide) (by decide)
theorem FZ_26 (v : Int32) : FZ Z (wrm Z 96 26 v) := fun k j h => by
  rcases h with rfl | rfl | rfl | rfl | rfl | rfl | rfl | rfl | rfl | rfl | ⟨rfl, h⟩
  iterate 10 exact wnn (by decide)
  rcases h with rfl | rfl | rfl | rfl
  iterate 4 exact wo (by decide)
theorem FZ_111 (i v : Int32) : FZ Z (wrm Z 111 i v) := fun k j h => by
  rcases h with rfl | rfl | rfl | rfl | rfl | rfl | rfl | rfl | rfl | rfl | ⟨rfl, h⟩ <;> exact wnn (by decide)
theorem FZ_w2 (i : Nat) (u v : Int32) : FZ Z (w2 Z i u v) := FZ_t (FZ_111 _ _) (FZ_111 _ _)
theorem FZ_c84 (X : St) (n m p : Nat) (a b : Int32) : FZ Z (c84 Z X n m p a b) := FZ_t (FZ_t (FZ_t (FZ_w2 _ _ _) (FZ_w2 _ _ _)) (FZ_w2 _ _ _)) (FZ_w2 _ _ _)
theorem IV_fr {Q' : Nat → St} {Z' : Mem} (I : IV Q Z) (hq : FQ Q Q') (hz : FZ Z Z') : IV Q' Z' := by
  obtain ⟨i1, i2, i3, ⟨f, h, f8, h8, p1, p2, p3, p4⟩, ⟨l, l96, t1, t2, t3⟩, ⟨r, r12, r1, r2, r3⟩, i7⟩ := I
  have q0 : Q' 0 = Q 0 := hq 0 (by decide) (by decide) (by decide)
  have q2 : Q' 2 = Q 2 := hq 2 (by decide) (by decide) (by decide)
  have q11 : Q' 11 = Q 11 := hq 11 (by decide) (by decide) (by decide)
  have q12 : Q' 12 = Q 12 := hq 12 (by decide) (by decide) (by decide)
  have z88 : ∀ j, Z' 88 j = Z 88 j := fun j => hz 88 j (by unfold live; simp)
  have z89 : ∀ j, Z' 89 j = Z 89 j := fun j => hz 89 j (by unfold live; simp)
  have z91 : ∀ j, Z' 91 j = Z 91 j := fun j => hz 91 j (by unfold live; simp)
  have z92 : ∀ j, Z' 92 j = Z 92 j := fun j => hz 92 j (by unfold live; simp)
  have z93 : ∀ j, Z' 93 j = Z 93 j := fun j => hz 93 j (by unfold live; simp)
  have z94 : ∀ j, Z' 94 j = Z 94 j := fun j => hz 94 j (by unfold live; simp)
  have z95 : ∀ j, Z' 95 j = Z 95 j := fun j => hz 95 j (by unfold live; simp)
  have z97 : ∀ j, Z' 97 j = Z 97 j := fun j => hz 97 j (by unfold live; simp)
  have z105 : ∀ j, Z' 105 j = Z 105 j := fun j => hz 105 j (by unfold live; simp)
  have z110 : ∀ j, Z' 110 j = Z 110 j := fun j => hz 110 j (by unfold live; simp)
  have y15 : Z' 96 15 = Z 96 15 := hz 96 15 (by unfold live; simp)
  have y19 : Z' 96 19 = Z 96 19 := hz 96 19 (by unfold live; simp)
  have y22 : Z' 96 22 = Z 96 22 := hz 96 22 (by unfold live; simp)
  have y24 : Z' 96 24 = Z 96 24 := hz 96 24 (by unfold live; simp)
  refine ⟨by rw [q0, q11]; exact i1, by rw [q11]; exact i2, by rw [z88, y19, q2, q12]; exact i3, ⟨f, h, f8, h8, by rw [z89]; exact p1, by rw [z89]; exact p2, by rw [y22]; exact p3, fun i hi => ?_⟩, ⟨l, l96, by rw [z91]; exact t1, by rw [y15]; exact t2, fun i hi => by rw [z105, z92]; exact t3 i hi⟩, ⟨r, r12, by rw [z93]; exact r1, by rw [y24]; exact r2, fun i hi => by rw [z110, z94]; exact r3 i hi⟩, fun j hj => by rw [z95, z97]; exact i7 j hj⟩
  have hm := Nat.mod_lt (f + (8 - h) + i) (show 0 < 8 by decide)
  rw [hq (3 + (f + (8 - h) + i) % 8) (by omega) (by omega) (by omega), hq (15 + i) (by omega) (by omega) (by omega)]
  exact p4 i hi
theorem no_n {x : Int32} (h : isNo x) : ∃ j, j < 7 ∧ -x = nI j := by
  rcases h with rfl | rfl | rfl | rfl | rfl
  · exact ⟨1, by decide, by decide⟩
  · exact ⟨2, by decide, by decide⟩
  · exact ⟨3, by decide, by decide⟩
  · exact ⟨4, by decide, by decide⟩
  · exact ⟨6, by decide, by decide⟩
theorem IV_rf {x : Int32} (I : IV Q Z) (h : isNo x) : IV Q (rfz 97 (rfz 95 Z x) x) := by
  obtain ⟨i1, i2, i3, ⟨f, hh, f8, h8, p1, p2, p3, p4⟩, ⟨l, l96, t1, t2, t3⟩, ⟨r, r12, r1, r2, r3⟩, i7⟩ := I
  obtain ⟨a, ha, hx⟩ := no_n h
  unfold rfz
  rw [hx]
  have z : ∀ k j, k ≠ 95 → k ≠ 97 → wrm (wrm Z 95 (nI a) (Z 95 (nI a) + 1)) 97 (nI a) (wrm Z 95 (nI a) (Z 95 (nI a) + 1) 97 (nI a) + 1) k j = Z k j := fun k j a1 a2 => by rw [wnn a2, wnn a1]
  refine ⟨i1, i2, by rw [z 88 3 (by decide) (by decide), z 96 19 (by decide) (by decide)]; exact i3, ⟨f, hh, f8, h8, by rw [z 89 1 (by decide) (by decide)]; exact p1, by rw [z 89 2 (by decide) (by decide)]; exact p2, by rw [z 96 22 (by decide) (by decide)]; exact p3, p4⟩, ⟨l, l96, by rw [z 91 1 (by decide) (by decide)]; exact t1, by rw [z 96 15 (by decide) (by decide)]; exact t2, fun i hi => by rw [z 105 _ (by decide) (by decide), z 92 _ (by decide) (by decide)]; exact t3 i hi⟩, ⟨r, r12, by rw [z 93 1 (by decide) (by decide)]; exact r1, by rw [z 96 24 (by decide) (by decide)]; exact r2, fun i hi => by rw [z 110 _ (by decide) (by decide), z 94 _ (by decide) (by decide)]; exact r3 i hi⟩, fun j hj => ?_⟩
  have e97 : wrm Z 95 (nI a) (Z 95 (nI a) + 1) 97 (nI a) = Z 97 (nI a) := wnn (by decide)
  rw [e97, wnn (show (95 : Nat) ≠ 97 by decide)]
  by_cases e : j = a
  · rw [e, ws, ws, i7 a ha]
  · have ne : nI j ≠ nI a := nne e (by omega) (by omega)
    rw [wo ne, wo ne, wnn (show (97 : Nat) ≠ 95 by decide)]
    exact i7 j hj
/-- the two answer alike, and what holds holds then too -/
def IN (u : Mem) : Prop := ∃ Q Z, u = cm Q Z ∧ IV Q Z
def PRi (yo ym : MI) (vs : List Value) (u : Mem) : Prop := ∃ (v : Int32) (u1 u2 : Mem), cal yo (.ref 88 :: vs) u = some (some (.int v), u1) ∧ cal ym (.ref 96 :: vs) u1 = some (some (.int v), u2) ∧ IN u2
def PRl (yo ym : MI) (vs : List Value) (u : Mem) : Prop := ∃ (v : Int64) (u1 u2 : Mem), cal yo (.ref 88 :: vs) u = some (some (.long v), u1) ∧ cal ym (.ref 96 :: vs) u1 = some (some (.long v), u2) ∧ IN u2
theorem PR_no {yo ym : MI} {vs : List Value} {v x : Int32} (I : IV Q Z) (h : isNo x) (h1 : cal yo (.ref 88 :: vs) (cm Q Z) = some (some (.int v), cm Q (rfz 95 Z x))) (h2 : cal ym (.ref 96 :: vs) (cm Q (rfz 95 Z x)) = some (some (.int v), cm Q (rfz 97 (rfz 95 Z x) x))) : PRi yo ym vs (cm Q Z) := ⟨v, _, _, h1, h2, _, _, rfl, IV_rf I h⟩
theorem PR_nol {yo ym : MI} {vs : List Value} {v : Int64} {x : Int32} (I : IV Q Z) (h : isNo x) (h1 : cal yo (.ref 88 :: vs) (cm Q Z) = some (some (.long v), cm Q (rfz 95 Z x))) (h2 : cal ym (.ref 96 :: vs) (cm Q (rfz 95 Z x)) = some (some (.long v), cm Q (rfz 97 (rfz 95 Z x) x))) : PRl yo ym vs (cm Q Z) := ⟨v, _, _, h1, h2, _, _, rfl, IV_rf I h⟩
theorem PR_q {yo ym : MI} {vs : List Value} {v : Int32} {Q' Q'' : Nat → St} {Z' : Mem} (I : IV Q Z) (h1 : cal yo (.ref 88 :: vs) (cm Q Z) = some (some (.int v), cm Q' Z)) (h2 : cal ym (.ref 96 :: vs) (cm Q' Z) = some (some (.int v), cm Q'' Z')) (hq : FQ Q Q'') (hz : FZ Z Z') : PRi yo ym vs (cm Q Z) := ⟨v, _, _, h1, h2, _, _, rfl, IV_fr I hq hz⟩
theorem PR_ql {yo ym : MI} {vs : List Value} {v : Int64} {Q' Q'' : Nat → St} {Z' : Mem} (I : IV Q Z) (h1 : cal yo (.ref 88 :: vs) (cm Q Z) = some (some (.long v), cm Q' Z)) (h2 : cal ym (.ref 96 :: vs) (cm Q' Z) = some (some (.long v), cm Q'' Z')) (hq : FQ Q Q'') (hz : FZ Z Z') : PRl yo ym vs (cm Q Z) := ⟨v, _, _, h1, h2, _, _, rfl, IV_fr I hq hz⟩
theorem q1_11 (X : St) : qup Q 1 X 11 = Q 11 := qup_n (by decide)
theorem rgv_x {v : Int32} {a b : Nat} (hb : b < 1000) (ha : a < 1000) (h : rgv v (nI a) (nI b) = 0) : ∃ m, a ≤ m ∧ m ≤ b ∧ v = nI m := by
  unfold rgv at h
  by_cases h1 : v < nI a
  · rw [if_pos h1] at h; exact absurd h (by decide)
  · rw [if_neg h1] at h
    by_cases h2 : nI b < v
    · rw [if_pos h2] at h; exact absurd h (by decide)
    · have h0 : ¬ v < 0 := fun z => h1 (by
        rcases Nat.eq_zero_or_pos a with y | y
        · rw [y]; exact z
        · exact Int32.lt_trans z (nI_lt (a := 0) y (by omega)))
      obtain ⟨m, hm, rfl⟩ := nI_of h0
      refine ⟨m, ?_, ?_, rfl⟩
      · rcases Nat.lt_or_ge m a with q | q
        · exact absurd (nI_lt q (by omega)) h1
        · exact q
      · rcases Nat.lt_or_ge b m with q | q
        · exact absurd (nI_lt q hm) h2
        · exact q
theorem rgv_60 {v : Int32} (h : rgv v 0 60 = 0) : ∃ m, m ≤ 60 ∧ v = nI m := by
  obtain ⟨m, _, h2, h3⟩ := rgv_x (v := v) (a := 0) (b := 60) (by decide) (by decide) h
  exact ⟨m, h2, h3⟩
theorem rgv_160 {v : Int32} (h : rgv v 1 60 = 0) : ∃ m, 1 ≤ m ∧ m ≤ 60 ∧ v = nI m := rgv_x (v := v) (a := 1) (b := 60) (by decide) (by decide) h
theorem rgv_99 {v : Int32} (h : rgv v 0 99 = 0) : ∃ m, m ≤ 99 ∧ v = nI m := by
  obtain ⟨m, _, h2, h3⟩ := rgv_x (v := v) (a := 0) (b := 99) (by decide) (by decide) h
  exact ⟨m, h2, h3⟩
end PAIR1

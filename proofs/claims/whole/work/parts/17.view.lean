/-! the memory by Streets: Q s the Street s (0 now, 1 mind, 2 pictured, 3 .. 10 the ring's, 11 the model's own, 12 .. 22 what the model keeps), Z all else -/
abbrev St : Type := Nat → Int32 → Int32
def rl (r : Nat) : Int32 := [0, 7, 7, 7, 7, 7, 3, 12].getD r 0
def sok (r : Nat) (j : Int32) : Bool := if r = 0 then decide (j = 7) || (decide (j = 8) || decide (j = 9)) else !(decide (j < 0)) && decide (j < rl r)
def kl (n : Nat) : Nat × Int32 := if n < 35 then (1 + n / 7, nI (n % 7)) else if n < 38 then (6, nI (n - 35)) else if n < 50 then (7, nI (n - 38)) else (0, nI (n - 43))
def qup (Q : Nat → St) (s : Nat) (X : St) : Nat → St := fun t => if t = s then X else Q t
def cm (Q : Nat → St) (Z : Mem) : Mem := fun k j =>
  if k < 88 then (if sok (k % 8) j = true then Q (k / 8) (k % 8) j else Z k j)
  else if k = 96 then (if j = 8 then Q 11 0 7 else if j = 9 then Q 11 0 8 else if j = 10 then Q 11 0 9 else Z k j)
  else if 98 ≤ k ∧ k ≤ 104 then (if sok (k - 97) j = true then Q 11 (k - 97) j else Z k j)
  else if k = 109 then (if ¬ j < 0 ∧ j < 583 then Q (12 + j.toNatClampNeg / 53) (kl (j.toNatClampNeg % 53)).1 (kl (j.toNatClampNeg % 53)).2 else Z k j)
  else Z k j
theorem rl_1 : rl 1 = 7 := rfl
theorem rl_2 : rl 2 = 7 := rfl
theorem rl_3 : rl 3 = 7 := rfl
theorem rl_4 : rl 4 = 7 := rfl
theorem rl_5 : rl 5 = 7 := rfl
theorem rl_6 : rl 6 = 3 := rfl
theorem rl_7 : rl 7 = 12 := rfl
theorem nal_sr {s r : Nat} (h : s < 11) (h8 : r < 8) : nI (aln (sr s r)) = rl r := by
  rw [aln_sr h h8]
  rcases (show r = 0 ∨ r = 1 ∨ r = 2 ∨ r = 3 ∨ r = 4 ∨ r = 5 ∨ r = 6 ∨ r = 7 by omega) with rfl | rfl | rfl | rfl | rfl | rfl | rfl | rfl <;> rfl
theorem sok_r {r : Nat} {j : Int32} (h0 : 0 < r) (h1 : ¬ j < 0) (h2 : j < rl r) : sok r j = true := by
  unfold sok
  rw [if_neg (by omega)]
  simp [h1, h2]
theorem cm_sr {Q : Nat → St} {Z : Mem} {s r : Nat} {j : Int32} (h : s < 11) (h0 : 0 < r) (h8 : r < 8) (h1 : ¬ j < 0) (h2 : j < rl r) : cm Q Z (sr s r) j = Q s r j := by
  unfold cm sr
  rw [if_pos (by omega), show (8 * s + r) % 8 = r by omega, show (8 * s + r) / 8 = s by omega, if_pos (sok_r h0 h1 h2)]
theorem cm_sa {Q : Nat → St} {Z : Mem} {s : Nat} {j : Int32} (h : s < 11) (hj : sok 0 j = true) : cm Q Z (sa s) j = Q s 0 j := by
  unfold cm sa
  rw [if_pos (by omega), show (8 * s) % 8 = 0 by omega, show (8 * s) / 8 = s by omega, if_pos hj]
theorem cm_sa7 {Q : Nat → St} {Z : Mem} {s : Nat} (h : s < 11) : cm Q Z (sa s) 7 = Q s 0 7 := cm_sa h (by decide)
theorem cm_sa8 {Q : Nat → St} {Z : Mem} {s : Nat} (h : s < 11) : cm Q Z (sa s) 8 = Q s 0 8 := cm_sa h (by decide)
theorem cm_sa9 {Q : Nat → St} {Z : Mem} {s : Nat} (h : s < 11) : cm Q Z (sa s) 9 = Q s 0 9 := cm_sa h (by decide)
theorem wr_st {Q : Nat → St} {Z : Mem} {s r : Nat} {j v : Int32} (h : s < 11) (h8 : r < 8) (hj : sok r j = true) : wrm (cm Q Z) (8 * s + r) j v = cm (qup Q s (wrm (Q s) r j v)) Z := by
  funext k i
  by_cases hk : k < 88
  · by_cases he : k = 8 * s + r
    · subst he
      unfold wrm cm qup
      rw [if_pos hk, if_pos hk, show (8 * s + r) % 8 = r by omega, show (8 * s + r) / 8 = s by omega, if_pos rfl]
      by_cases hi : i = j
      · subst hi
        rw [if_pos ⟨rfl, rfl⟩, if_pos hj, if_pos ⟨rfl, rfl⟩]
      · rw [if_neg (fun z => hi z.2)]
        by_cases hs : sok r i = true
        · rw [if_pos hs, if_pos hs, if_neg (fun z => hi z.2)]
        · rw [if_neg hs, if_neg hs]
    · unfold wrm cm qup
      rw [if_neg (fun z => he z.1), if_pos hk, if_pos hk]
      by_cases hs : k / 8 = s
      · rw [if_pos hs]
        have hr : k % 8 ≠ r := by omega
        by_cases hs2 : sok (k % 8) i = true
        · rw [if_pos hs2, if_pos hs2, if_neg (fun z => hr z.1), hs]
        · rw [if_neg hs2, if_neg hs2]
      · rw [if_neg hs]
  · have hk2 : ¬ k = 8 * s + r := by omega
    unfold wrm cm qup
    rw [if_neg (fun z => hk2 z.1), if_neg hk, if_neg hk]
    have e1 : ∀ t, 11 ≤ t → (if t = s then (fun k' j' => if k' = r ∧ j' = j then v else Q s k' j') else Q t) = Q t := fun t ht => if_neg (by omega)
    rw [e1 11 (by omega), e1 (12 + i.toNatClampNeg / 53) (by omega)]
theorem wr_sr {Q : Nat → St} {Z : Mem} {s r : Nat} {j v : Int32} (h : s < 11) (h0 : 0 < r) (h8 : r < 8) (h1 : ¬ j < 0) (h2 : j < rl r) : wrm (cm Q Z) (sr s r) j v = cm (qup Q s (wrm (Q s) r j v)) Z := wr_st h h8 (sok_r h0 h1 h2)
theorem wr_sa7 {Q : Nat → St} {Z : Mem} {s : Nat} {v : Int32} (h : s < 11) : wrm (cm Q Z) (sa s) 7 v = cm (qup Q s (wrm (Q s) 0 7 v)) Z := wr_st (r := 0) h (by decide) (by decide)
theorem wr_sa8 {Q : Nat → St} {Z : Mem} {s : Nat} {v : Int32} (h : s < 11) : wrm (cm Q Z) (sa s) 8 v = cm (qup Q s (wrm (Q s) 0 8 v)) Z := wr_st (r := 0) h (by decide) (by decide)
theorem wr_sa9 {Q : Nat → St} {Z : Mem} {s : Nat} {v : Int32} (h : s < 11) : wrm (cm Q Z) (sa s) 9 v = cm (qup Q s (wrm (Q s) 0 9 v)) Z := wr_st (r := 0) h (by decide) (by decide)
/-- a cell that no Street has a part in -/
def zk (k : Nat) : Bool := !(decide (k < 88)) && (!(decide (k = 96)) && (!(decide (98 ≤ k) && decide (k ≤ 104)) && !(decide (k = 109))))
theorem cm_z {Q : Nat → St} {Z : Mem} {k : Nat} {j : Int32} (h : zk k = true) : cm Q Z k j = Z k j := by
  unfold zk at h
  simp only [Bool.and_eq_true, Bool.not_eq_true', Bool.and_eq_false_iff, decide_eq_false_iff_not] at h
  obtain ⟨h1, h2, h3, h4⟩ := h
  unfold cm
  rw [if_neg h1, if_neg h2, if_neg (fun z => h3.elim (fun q => q z.1) (fun q => q z.2)), if_neg h4]
theorem wr_z {Q : Nat → St} {Z : Mem} {k : Nat} {j v : Int32} (h : zk k = true) : wrm (cm Q Z) k j v = cm Q (wrm Z k j v) := by
  funext x i
  by_cases hx : x = k
  · subst hx
    rw [cm_z h]
    unfold wrm
    rw [cm_z h]
  · unfold wrm
    have e : ∀ j', (if x = k ∧ j' = j then v else Z x j') = Z x j' := fun j' => if_neg (fun z => hx z.1)
    rw [if_neg (fun z => hx z.1)]
    unfold cm
    simp only [e]
theorem cal_of {y : MI} {vs : List Value} {L : Lv} {u : Mem} (hL : ent y vs = L) (hl : Nat.ble (lsl vs).length (mL y) = true) : cal y vs u = ev y 0 L [] u := by
  unfold cal
  rw [if_pos (Nat.le_of_ble_eq_true hl), hL]
theorem cw_0 : cw [] = 0 := by decide
theorem cw_i {a : Int32} {st : List Value} : cw (.int a :: st) = 1 + cw st := congrArg (fun z : Nat => z) rfl
theorem cw_j {a : Int64} {st : List Value} : cw (.long a :: st) = 2 + cw st := congrArg (fun z : Nat => z) rfl
theorem cw_r {a : Nat} {st : List Value} : cw (.ref a :: st) = 1 + cw st := congrArg (fun z : Nat => z) rfl
/-- a truth as an int -/
def b2 (b : Bool) : Int32 := if b = true then 1 else 0
theorem b2_t : b2 true = 1 := rfl
theorem b2_f : b2 false = 0 := rfl
theorem b2_0 {b : Bool} : (b2 b = 0) = (b = false) := by cases b <;> decide
theorem b2_r {b : Bool} : (b2 b = 0 ∨ b2 b = 1) = True := by cases b <;> decide
theorem z01 : ((0 : Int32) = 0 ∨ (0 : Int32) = 1) = True := by decide
theorem o01 : ((1 : Int32) = 0 ∨ (1 : Int32) = 1) = True := by decide
theorem i10 : ((1 : Int32) = 0) = False := by decide
theorem i01 : ((0 : Int32) = 1) = False := by decide
theorem bft : (false = true) = False := by decide
theorem btf : (true = false) = False := by decide
/-! the rows, one by one -/
theorem cK_r1 {s : Nat} (h : s < 11) : cK (sr s 1) = 6 := cK_sr h (by decide) (by decide)
theorem nal_r1 {s : Nat} (h : s < 11) : nI (aln (sr s 1)) = 7 := nal_sr h (by decide)
theorem cm_r1 {Q : Nat → St} {Z : Mem} {s : Nat} {j : Int32} (h : s < 11) (h1 : ¬ j < 0) (h2 : j < 7) : cm Q Z (sr s 1) j = Q s 1 j := cm_sr h (by decide) (by decide) h1 h2
theorem wr_r1 {Q : Nat → St} {Z : Mem} {s : Nat} {j v : Int32} (h : s < 11) (h1 : ¬ j < 0) (h2 : j < 7) : wrm (cm Q Z) (sr s 1) j v = cm (qup Q s (wrm (Q s) 1 j v)) Z := wr_sr h (by decide) (by decide) h1 h2
theorem cK_r2 {s : Nat} (h : s < 11) : cK (sr s 2) = 6 := cK_sr h (by decide) (by decide)
theorem nal_r2 {s : Nat} (h : s < 11) : nI (aln (sr s 2)) = 7 := nal_sr h (by decide)
theorem cm_r2 {Q : Nat → St} {Z : Mem} {s : Nat} {j : Int32} (h : s < 11) (h1 : ¬ j < 0) (h2 : j < 7) : cm Q Z (sr s 2) j = Q s 2 j := cm_sr h (by decide) (by decide) h1 h2
theorem wr_r2 {Q : Nat → St} {Z : Mem} {s : Nat} {j v : Int32} (h : s < 11) (h1 : ¬ j < 0) (h2 : j < 7) : wrm (cm Q Z) (sr s 2) j v = cm (qup Q s (wrm (Q s) 2 j v)) Z := wr_sr h (by decide) (by decide) h1 h2
theorem cK_r3 {s : Nat} (h : s < 11) : cK (sr s 3) = 6 := cK_sr h (by decide) (by decide)
theorem nal_r3 {s : Nat} (h : s < 11) : nI (aln (sr s 3)) = 7 := nal_sr h (by decide)
theorem cm_r3 {Q : Nat → St} {Z : Mem} {s : Nat} {j : Int32} (h : s < 11) (h1 : ¬ j < 0) (h2 : j < 7) : cm Q Z (sr s 3) j = Q s 3 j := cm_sr h (by decide) (by decide) h1 h2
theorem wr_r3 {Q : Nat → St} {Z : Mem} {s : Nat} {j v : Int32} (h : s < 11) (h1 : ¬ j < 0) (h2 : j < 7) : wrm (cm Q Z) (sr s 3) j v = cm (qup Q s (wrm (Q s) 3 j v)) Z := wr_sr h (by decide) (by decide) h1 h2
theorem cK_r4 {s : Nat} (h : s < 11) : cK (sr s 4) = 6 := cK_sr h (by decide) (by decide)
theorem nal_r4 {s : Nat} (h : s < 11) : nI (aln (sr s 4)) = 7 := nal_sr h (by decide)
theorem cm_r4 {Q : Nat → St} {Z : Mem} {s : Nat} {j : Int32} (h : s < 11) (h1 : ¬ j < 0) (h2 : j < 7) : cm Q Z (sr s 4) j = Q s 4 j := cm_sr h (by decide) (by decide) h1 h2
theorem wr_r4 {Q : Nat → St} {Z : Mem} {s : Nat} {j v : Int32} (h : s < 11) (h1 : ¬ j < 0) (h2 : j < 7) : wrm (cm Q Z) (sr s 4) j v = cm (qup Q s (wrm (Q s) 4 j v)) Z := wr_sr h (by decide) (by decide) h1 h2
theorem cK_r5 {s : Nat} (h : s < 11) : cK (sr s 5) = 6 := cK_sr h (by decide) (by decide)
theorem nal_r5 {s : Nat} (h : s < 11) : nI (aln (sr s 5)) = 7 := nal_sr h (by decide)
theorem cm_r5 {Q : Nat → St} {Z : Mem} {s : Nat} {j : Int32} (h : s < 11) (h1 : ¬ j < 0) (h2 : j < 7) : cm Q Z (sr s 5) j = Q s 5 j := cm_sr h (by decide) (by decide) h1 h2
theorem wr_r5 {Q : Nat → St} {Z : Mem} {s : Nat} {j v : Int32} (h : s < 11) (h1 : ¬ j < 0) (h2 : j < 7) : wrm (cm Q Z) (sr s 5) j v = cm (qup Q s (wrm (Q s) 5 j v)) Z := wr_sr h (by decide) (by decide) h1 h2
theorem cK_r6 {s : Nat} (h : s < 11) : cK (sr s 6) = 6 := cK_sr h (by decide) (by decide)
theorem nal_r6 {s : Nat} (h : s < 11) : nI (aln (sr s 6)) = 3 := nal_sr h (by decide)
theorem cm_r6 {Q : Nat → St} {Z : Mem} {s : Nat} {j : Int32} (h : s < 11) (h1 : ¬ j < 0) (h2 : j < 3) : cm Q Z (sr s 6) j = Q s 6 j := cm_sr h (by decide) (by decide) h1 h2
theorem wr_r6 {Q : Nat → St} {Z : Mem} {s : Nat} {j v : Int32} (h : s < 11) (h1 : ¬ j < 0) (h2 : j < 3) : wrm (cm Q Z) (sr s 6) j v = cm (qup Q s (wrm (Q s) 6 j v)) Z := wr_sr h (by decide) (by decide) h1 h2
theorem cK_r7 {s : Nat} (h : s < 11) : cK (sr s 7) = 6 := cK_sr h (by decide) (by decide)
theorem nal_r7 {s : Nat} (h : s < 11) : nI (aln (sr s 7)) = 12 := nal_sr h (by decide)
theorem cm_r7 {Q : Nat → St} {Z : Mem} {s : Nat} {j : Int32} (h : s < 11) (h1 : ¬ j < 0) (h2 : j < 12) : cm Q Z (sr s 7) j = Q s 7 j := cm_sr h (by decide) (by decide) h1 h2
theorem wr_r7 {Q : Nat → St} {Z : Mem} {s : Nat} {j v : Int32} (h : s < 11) (h1 : ¬ j < 0) (h2 : j < 12) : wrm (cm Q Z) (sr s 7) j v = cm (qup Q s (wrm (Q s) 7 j v)) Z := wr_sr h (by decide) (by decide) h1 h2
theorem qup_s {Q : Nat → St} {s : Nat} {X : St} : qup Q s X s = X := if_pos rfl
theorem qup_n {Q : Nat → St} {s t : Nat} {X : St} (h : t ≠ s) : qup Q s X t = Q t := if_neg h
theorem qup_q {Q : Nat → St} {s : Nat} {X Y : St} : qup (qup Q s X) s Y = qup Q s Y := by
  funext t
  unfold qup
  by_cases h : t = s
  · rw [if_pos h, if_pos h]
  · rw [if_neg h, if_neg h, if_neg h]
theorem qup_id {Q : Nat → St} {s : Nat} : qup Q s (Q s) = Q := by
  funext t
  unfold qup
  by_cases h : t = s
  · rw [if_pos h, h]
  · rw [if_neg h]
/-- answers, a choice brought out -/
theorem ans_if {c : Prop} [Decidable c] {a b : Int32} {u : Mem} : some (some (Value.int (if c then a else b)), u) = if c then some (some (Value.int a), u) else some (some (Value.int b), u) := by
  by_cases h : c
  · rw [if_pos h, if_pos h]
  · rw [if_neg h, if_neg h]
def rmd (a b : Int32) : Int32 := a - a / b * b
theorem rmd_e {a b : Int32} : a - a / b * b = rmd a b := rfl
def mx (a b : Int32) : Int32 := if a < b then b else a
def mn (a b : Int32) : Int32 := if b < a then b else a
theorem mx_e {a b : Int32} : (if a < b then b else a) = mx a b := rfl
theorem mn_e {a b : Int32} : (if b < a then b else a) = mn a b := rfl
theorem n12 : ((12 : Int32) = 0) = False := by decide
theorem n20 : ((20 : Int32) = 0) = False := by decide
theorem n10 : ((10 : Int32) = 0) = False := by decide
theorem n2 : ((2 : Int32) = 0) = False := by decide
theorem n3 : ((3 : Int32) = 0) = False := by decide
theorem n8 : ((8 : Int32) = 0) = False := by decide
theorem n65 : ((65536 : Int32) = 0) = False := by decide
/-! other rows, other places -/
theorem wn_0_1 {X : St} {j v i : Int32} : wrm X 0 j v 1 i = X 1 i := if_neg (fun z => absurd z.1 (by decide))
theorem wn_0_2 {X : St} {j v i : Int32} : wrm X 0 j v 2 i = X 2 i := if_neg (fun z => absurd z.1 (by decide))
theorem wn_0_3 {X : St} {j v i : Int32} : wrm X 0 j v 3 i = X 3 i := if_neg (fun z => absurd z.1 (by decide))
theorem wn_0_4 {X : St} {j v i : Int32} : wrm X 0 j v 4 i = X 4 i := if_neg (fun z => absurd z.1 (by decide))
theorem wn_0_5 {X : St} {j v i : Int32} : wrm X 0 j v 5 i = X 5 i := if_neg (fun z => absurd z.1 (by decide))
theorem wn_0_6 {X : St} {j v i : Int32} : wrm X 0 j v 6 i = X 6 i := if_neg (fun z => absurd z.1 (by decide))
theorem wn_0_7 {X : St} {j v i : Int32} : wrm X 0 j v 7 i = X 7 i := if_neg (fun z => absurd z.1 (by decide))
theorem wn_1_0 {X : St} {j v i : Int32} : wrm X 1 j v 0 i = X 0 i := if_neg (fun z => absurd z.1 (by decide))
theorem wn_1_2 {X : St} {j v i : Int32} : wrm X 1 j v 2 i = X 2 i := if_neg (fun z => absurd z.1 (by decide))
theorem wn_1_3 {X : St} {j v i : Int32} : wrm X 1 j v 3 i = X 3 i := if_neg (fun z => absurd z.1 (by decide))
theorem wn_1_4 {X : St} {j v i : Int32} : wrm X 1 j v 4 i = X 4 i := if_neg (fun z => absurd z.1 (by decide))
theorem wn_1_5 {X : St} {j v i : Int32} : wrm X 1 j v 5 i = X 5 i := if_neg (fun z => absurd z.1 (by decide))
theorem wn_1_6 {X : St} {j v i : Int32} : wrm X 1 j v 6 i = X 6 i := if_neg (fun z => absurd z.1 (by decide))
theorem wn_1_7 {X : St} {j v i : Int32} : wrm X 1 j v 7 i = X 7 i := if_neg (fun z => absurd z.1 (by decide))
theorem wn_2_0 {X : St} {j v i : Int32} : wrm X 2 j v 0 i = X 0 i := if_neg (fun z => absurd z.1 (by decide))
theorem wn_2_1 {X : St} {j v i : Int32} : wrm X 2 j v 1 i = X 1 i := if_neg (fun z => absurd z.1 (by decide))
theorem wn_2_3 {X : St} {j v i : Int32} : wrm X 2 j v 3 i = X 3 i := if_neg (fun z => absurd z.1 (by decide))
theorem wn_2_4 {X : St} {j v i : Int32} : wrm X 2 j v 4 i = X 4 i := if_neg (fun z => absurd z.1 (by decide))
theorem wn_2_5 {X : St} {j v i : Int32} : wrm X 2 j v 5 i = X 5 i := if_neg (fun z => absurd z.1 (by decide))
theorem wn_2_6 {X : St} {j v i : Int32} : wrm X 2 j v 6 i = X 6 i := if_neg (fun z => absurd z.1 (by decide))
theorem wn_2_7 {X : St} {j v i : Int32} : wrm X 2 j v 7 i = X 7 i := if_neg (fun z => absurd z.1 (by decide))
theorem wn_3_0 {X : St} {j v i : Int32} : wrm X 3 j v 0 i = X 0 i := if_neg (fun z => absurd z.1 (by decide))
theorem wn_3_1 {X : St} {j v i : Int32} : wrm X 3 j v 1 i = X 1 i := if_neg (fun z => absurd z.1 (by decide))
theorem wn_3_2 {X : St} {j v i : Int32} : wrm X 3 j v 2 i = X 2 i := if_neg (fun z => absurd z.1 (by decide))
theorem wn_3_4 {X : St} {j v i : Int32} : wrm X 3 j v 4 i = X 4 i := if_neg (fun z => absurd z.1 (by decide))
theorem wn_3_5 {X : St} {j v i : Int32} : wrm X 3 j v 5 i = X 5 i := if_neg (fun z => absurd z.1 (by decide))
theorem wn_3_6 {X : St} {j v i : Int32} : wrm X 3 j v 6 i = X 6 i := if_neg (fun z => absurd z.1 (by decide))
theorem wn_3_7 {X : St} {j v i : Int32} : wrm X 3 j v 7 i = X 7 i := if_neg (fun z => absurd z.1 (by decide))
theorem wn_4_0 {X : St} {j v i : Int32} : wrm X 4 j v 0 i = X 0 i := if_neg (fun z => absurd z.1 (by decide))
theorem wn_4_1 {X : St} {j v i : Int32} : wrm X 4 j v 1 i = X 1 i := if_neg (fun z => absurd z.1 (by decide))
theorem wn_4_2 {X : St} {j v i : Int32} : wrm X 4 j v 2 i = X 2 i := if_neg (fun z => absurd z.1 (by decide))
theorem wn_4_3 {X : St} {j v i : Int32} : wrm X 4 j v 3 i = X 3 i := if_neg (fun z => absurd z.1 (by decide))
theorem wn_4_5 {X : St} {j v i : Int32} : wrm X 4 j v 5 i = X 5 i := if_neg (fun z => absurd z.1 (by decide))
theorem wn_4_6 {X : St} {j v i : Int32} : wrm X 4 j v 6 i = X 6 i := if_neg (fun z => absurd z.1 (by decide))
theorem wn_4_7 {X : St} {j v i : Int32} : wrm X 4 j v 7 i = X 7 i := if_neg (fun z => absurd z.1 (by decide))
theorem wn_5_0 {X : St} {j v i : Int32} : wrm X 5 j v 0 i = X 0 i := if_neg (fun z => absurd z.1 (by decide))
theorem wn_5_1 {X : St} {j v i : Int32} : wrm X 5 j v 1 i = X 1 i := if_neg (fun z => absurd z.1 (by decide))
theorem wn_5_2 {X : St} {j v i : Int32} : wrm X 5 j v 2 i = X 2 i := if_neg (fun z => absurd z.1 (by decide))
theorem wn_5_3 {X : St} {j v i : Int32} : wrm X 5 j v 3 i = X 3 i := if_neg (fun z => absurd z.1 (by decide))
theorem wn_5_4 {X : St} {j v i : Int32} : wrm X 5 j v 4 i = X 4 i := if_neg (fun z => absurd z.1 (by decide))
theorem wn_5_6 {X : St} {j v i : Int32} : wrm X 5 j v 6 i = X 6 i := if_neg (fun z => absurd z.1 (by decide))
theorem wn_5_7 {X : St} {j v i : Int32} : wrm X 5 j v 7 i = X 7 i := if_neg (fun z => absurd z.1 (by decide))
theorem wn_6_0 {X : St} {j v i : Int32} : wrm X 6 j v 0 i = X 0 i := if_neg (fun z => absurd z.1 (by decide))
theorem wn_6_1 {X : St} {j v i : Int32} : wrm X 6 j v 1 i = X 1 i := if_neg (fun z => absurd z.1 (by decide))
theorem wn_6_2 {X : St} {j v i : Int32} : wrm X 6 j v 2 i = X 2 i := if_neg (fun z => absurd z.1 (by decide))
theorem wn_6_3 {X : St} {j v i : Int32} : wrm X 6 j v 3 i = X 3 i := if_neg (fun z => absurd z.1 (by decide))
theorem wn_6_4 {X : St} {j v i : Int32} : wrm X 6 j v 4 i = X 4 i := if_neg (fun z => absurd z.1 (by decide))
theorem wn_6_5 {X : St} {j v i : Int32} : wrm X 6 j v 5 i = X 5 i := if_neg (fun z => absurd z.1 (by decide))
theorem wn_6_7 {X : St} {j v i : Int32} : wrm X 6 j v 7 i = X 7 i := if_neg (fun z => absurd z.1 (by decide))
theorem wn_7_0 {X : St} {j v i : Int32} : wrm X 7 j v 0 i = X 0 i := if_neg (fun z => absurd z.1 (by decide))
theorem wn_7_1 {X : St} {j v i : Int32} : wrm X 7 j v 1 i = X 1 i := if_neg (fun z => absurd z.1 (by decide))
theorem wn_7_2 {X : St} {j v i : Int32} : wrm X 7 j v 2 i = X 2 i := if_neg (fun z => absurd z.1 (by decide))
theorem wn_7_3 {X : St} {j v i : Int32} : wrm X 7 j v 3 i = X 3 i := if_neg (fun z => absurd z.1 (by decide))
theorem wn_7_4 {X : St} {j v i : Int32} : wrm X 7 j v 4 i = X 4 i := if_neg (fun z => absurd z.1 (by decide))
theorem wn_7_5 {X : St} {j v i : Int32} : wrm X 7 j v 5 i = X 5 i := if_neg (fun z => absurd z.1 (by decide))
theorem wn_7_6 {X : St} {j v i : Int32} : wrm X 7 j v 6 i = X 6 i := if_neg (fun z => absurd z.1 (by decide))
theorem ws {X : St} {r : Nat} {j v : Int32} : wrm X r j v r j = v := if_pos ⟨rfl, rfl⟩
theorem wo {X : St} {r : Nat} {j v i : Int32} (h : i ≠ j) : wrm X r j v r i = X r i := if_neg (fun z => h z.2)
theorem wp_0_1 {X : St} {r : Nat} {v : Int32} : wrm X r 0 v r 1 = X r 1 := wo (by decide)
theorem wp_0_2 {X : St} {r : Nat} {v : Int32} : wrm X r 0 v r 2 = X r 2 := wo (by decide)
theorem wp_1_0 {X : St} {r : Nat} {v : Int32} : wrm X r 1 v r 0 = X r 0 := wo (by decide)
theorem wp_1_2 {X : St} {r : Nat} {v : Int32} : wrm X r 1 v r 2 = X r 2 := wo (by decide)
theorem wp_2_0 {X : St} {r : Nat} {v : Int32} : wrm X r 2 v r 0 = X r 0 := wo (by decide)
theorem wp_2_1 {X : St} {r : Nat} {v : Int32} : wrm X r 2 v r 1 = X r 1 := wo (by decide)
theorem wp_7_8 {X : St} {r : Nat} {v : Int32} : wrm X r 7 v r 8 = X r 8 := wo (by decide)
theorem wp_7_9 {X : St} {r : Nat} {v : Int32} : wrm X r 7 v r 9 = X r 9 := wo (by decide)
theorem wp_8_7 {X : St} {r : Nat} {v : Int32} : wrm X r 8 v r 7 = X r 7 := wo (by decide)
theorem wp_8_9 {X : St} {r : Nat} {v : Int32} : wrm X r 8 v r 9 = X r 9 := wo (by decide)
theorem wp_9_7 {X : St} {r : Nat} {v : Int32} : wrm X r 9 v r 7 = X r 7 := wo (by decide)
theorem wp_9_8 {X : St} {r : Nat} {v : Int32} : wrm X r 9 v r 8 = X r 8 := wo (by decide)
theorem nlt {a b : Nat} (h : a < b) (hb : b < 2147483648) : (nI a < nI b) = True := eq_true (nI_lt h hb)
theorem nge {a b : Nat} (h : b ≤ a) (hb : a < 2147483648) : (nI a < nI b) = False := eq_false (nI_nlt h hb)
theorem n7 : nI 7 = 7 := rfl
theorem n12' : nI 12 = 12 := rfl
theorem n3' : nI 3 = 3 := rfl
theorem n0' : nI 0 = 0 := rfl
theorem npos {a : Nat} (h : a < 2147483648) : (nI a < 0) = False := eq_false (nI_pos h)
/-! other cells -/
theorem cz_88 {Q : Nat → St} {Z : Mem} {j : Int32} : cm Q Z 88 j = Z 88 j := cm_z (by decide)
theorem wz_88 {Q : Nat → St} {Z : Mem} {j v : Int32} : wrm (cm Q Z) 88 j v = cm Q (wrm Z 88 j v) := wr_z (by decide)
theorem cz_89 {Q : Nat → St} {Z : Mem} {j : Int32} : cm Q Z 89 j = Z 89 j := cm_z (by decide)
theorem wz_89 {Q : Nat → St} {Z : Mem} {j v : Int32} : wrm (cm Q Z) 89 j v = cm Q (wrm Z 89 j v) := wr_z (by decide)
theorem cz_91 {Q : Nat → St} {Z : Mem} {j : Int32} : cm Q Z 91 j = Z 91 j := cm_z (by decide)
theorem wz_91 {Q : Nat → St} {Z : Mem} {j v : Int32} : wrm (cm Q Z) 91 j v = cm Q (wrm Z 91 j v) := wr_z (by decide)
theorem cz_92 {Q : Nat → St} {Z : Mem} {j : Int32} : cm Q Z 92 j = Z 92 j := cm_z (by decide)
theorem wz_92 {Q : Nat → St} {Z : Mem} {j v : Int32} : wrm (cm Q Z) 92 j v = cm Q (wrm Z 92 j v) := wr_z (by decide)
theorem cz_93 {Q : Nat → St} {Z : Mem} {j : Int32} : cm Q Z 93 j = Z 93 j := cm_z (by decide)
theorem wz_93 {Q : Nat → St} {Z : Mem} {j v : Int32} : wrm (cm Q Z) 93 j v = cm Q (wrm Z 93 j v) := wr_z (by decide)
theorem cz_94 {Q : Nat → St} {Z : Mem} {j : Int32} : cm Q Z 94 j = Z 94 j := cm_z (by decide)
theorem wz_94 {Q : Nat → St} {Z : Mem} {j v : Int32} : wrm (cm Q Z) 94 j v = cm Q (wrm Z 94 j v) := wr_z (by decide)
theorem cz_95 {Q : Nat → St} {Z : Mem} {j : Int32} : cm Q Z 95 j = Z 95 j := cm_z (by decide)
theorem wz_95 {Q : Nat → St} {Z : Mem} {j v : Int32} : wrm (cm Q Z) 95 j v = cm Q (wrm Z 95 j v) := wr_z (by decide)
theorem cz_97 {Q : Nat → St} {Z : Mem} {j : Int32} : cm Q Z 97 j = Z 97 j := cm_z (by decide)
theorem wz_97 {Q : Nat → St} {Z : Mem} {j v : Int32} : wrm (cm Q Z) 97 j v = cm Q (wrm Z 97 j v) := wr_z (by decide)
theorem cz_105 {Q : Nat → St} {Z : Mem} {j : Int32} : cm Q Z 105 j = Z 105 j := cm_z (by decide)
theorem wz_105 {Q : Nat → St} {Z : Mem} {j v : Int32} : wrm (cm Q Z) 105 j v = cm Q (wrm Z 105 j v) := wr_z (by decide)
theorem cz_106 {Q : Nat → St} {Z : Mem} {j : Int32} : cm Q Z 106 j = Z 106 j := cm_z (by decide)
theorem wz_106 {Q : Nat → St} {Z : Mem} {j v : Int32} : wrm (cm Q Z) 106 j v = cm Q (wrm Z 106 j v) := wr_z (by decide)
theorem cz_107 {Q : Nat → St} {Z : Mem} {j : Int32} : cm Q Z 107 j = Z 107 j := cm_z (by decide)
theorem wz_107 {Q : Nat → St} {Z : Mem} {j v : Int32} : wrm (cm Q Z) 107 j v = cm Q (wrm Z 107 j v) := wr_z (by decide)
theorem cz_108 {Q : Nat → St} {Z : Mem} {j : Int32} : cm Q Z 108 j = Z 108 j := cm_z (by decide)
theorem wz_108 {Q : Nat → St} {Z : Mem} {j v : Int32} : wrm (cm Q Z) 108 j v = cm Q (wrm Z 108 j v) := wr_z (by decide)
theorem cz_110 {Q : Nat → St} {Z : Mem} {j : Int32} : cm Q Z 110 j = Z 110 j := cm_z (by decide)
theorem wz_110 {Q : Nat → St} {Z : Mem} {j v : Int32} : wrm (cm Q Z) 110 j v = cm Q (wrm Z 110 j v) := wr_z (by decide)
theorem cz_111 {Q : Nat → St} {Z : Mem} {j : Int32} : cm Q Z 111 j = Z 111 j := cm_z (by decide)
theorem wz_111 {Q : Nat → St} {Z : Mem} {j v : Int32} : wrm (cm Q Z) 111 j v = cm Q (wrm Z 111 j v) := wr_z (by decide)
theorem ck_92 : cK 92 = 6 := by decide
theorem na_92 : nI (aln 92) = 96 := by decide
theorem ck_94 : cK 94 = 6 := by decide
theorem na_94 : nI (aln 94) = 12 := by decide
theorem ck_95 : cK 95 = 6 := by decide
theorem na_95 : nI (aln 95) = 7 := by decide
theorem ck_97 : cK 97 = 6 := by decide
theorem na_97 : nI (aln 97) = 7 := by decide
theorem ck_105 : cK 105 = 6 := by decide
theorem na_105 : nI (aln 105) = 96 := by decide
theorem ck_106 : cK 106 = 6 := by decide
theorem na_106 : nI (aln 106) = 48 := by decide
theorem ck_107 : cK 107 = 6 := by decide
theorem na_107 : nI (aln 107) = 48 := by decide
theorem ck_108 : cK 108 = 6 := by decide
theorem na_108 : nI (aln 108) = 192 := by decide
theorem ck_110 : cK 110 = 6 := by decide
theorem na_110 : nI (aln 110) = 12 := by decide
theorem ck_111 : cK 111 = 6 := by decide
theorem na_111 : nI (aln 111) = 8 := by decide
theorem wnn {X : Mem} {r t : Nat} {j v i : Int32} (h : t ≠ r) : wrm X r j v t i = X t i := if_neg (fun z => h z.1)
theorem rmd_n {a d : Nat} (ha : a < 2147483648) (h0 : 0 < d) (hd : d < 2147483648) : rmd (nI a) (nI d) = nI (a % d) := pk_rem ha h0 hd
/-- two Streets that the memory can't tell apart -/
theorem cm_congr {Q : Nat → St} {Z : Mem} {s : Nat} {X Y : St} (h : s < 11) (hXY : ∀ r j, r < 8 → sok r j = true → X r j = Y r j) : cm (qup Q s X) Z = cm (qup Q s Y) Z := by
  funext k j
  unfold cm
  by_cases hk : k < 88
  · rw [if_pos hk, if_pos hk]
    by_cases hs : sok (k % 8) j = true
    · rw [if_pos hs, if_pos hs]
      unfold qup
      by_cases hs2 : k / 8 = s
      · rw [if_pos hs2, if_pos hs2]
        exact hXY _ _ (Nat.mod_lt _ (by decide)) hs
      · rw [if_neg hs2, if_neg hs2]
    · rw [if_neg hs, if_neg hs]
  · rw [if_neg hk, if_neg hk]
    have e1 : ∀ t, 11 ≤ t → qup Q s X t = qup Q s Y t := fun t ht => by unfold qup; rw [if_neg (by omega), if_neg (by omega)]
    rw [e1 11 (by omega), e1 (12 + j.toNatClampNeg / 53) (by omega)]
/-- a place in range, by its number -/
theorem sok_cases {r : Nat} {j : Int32} (h : sok r j = true) (h8 : r < 8) : (r = 0 ∧ (j = 7 ∨ j = 8 ∨ j = 9)) ∨ (0 < r ∧ r < 6 ∧ ∃ i, i < 7 ∧ j = nI i) ∨ (r = 6 ∧ ∃ i, i < 3 ∧ j = nI i) ∨ (r = 7 ∧ ∃ i, i < 12 ∧ j = nI i) := by
  unfold sok at h
  by_cases h0 : r = 0
  · rw [if_pos h0] at h
    simp only [Bool.or_eq_true, decide_eq_true_eq] at h
    exact Or.inl ⟨h0, h⟩
  · rw [if_neg h0] at h
    simp only [Bool.and_eq_true, Bool.not_eq_true', decide_eq_false_iff_not, decide_eq_true_eq] at h
    obtain ⟨h1, h2⟩ := h
    obtain ⟨i, hi, rfl⟩ := nI_of h1
    have key : ∀ b : Nat, b < 100 → rl r = nI b → i < b := fun b hb e => by rw [e] at h2; exact (nI_ltI hi (by omega)).mp h2
    rcases (show (0 < r ∧ r < 6) ∨ r = 6 ∨ r = 7 by omega) with ⟨a, b⟩ | rfl | rfl
    · refine Or.inr (Or.inl ⟨a, b, i, key 7 (by decide) ?_, rfl⟩)
      rcases (show r = 1 ∨ r = 2 ∨ r = 3 ∨ r = 4 ∨ r = 5 by omega) with rfl | rfl | rfl | rfl | rfl <;> rfl
    · exact Or.inr (Or.inr (Or.inl ⟨rfl, i, key 3 (by decide) rfl, rfl⟩))
    · exact Or.inr (Or.inr (Or.inr ⟨rfl, i, key 12 (by decide) rfl, rfl⟩))

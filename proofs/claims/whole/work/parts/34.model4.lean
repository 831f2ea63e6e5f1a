/-! a WEEK of the model's is a WEEK of the class's -/
section MOD4
variable {Q : Nat → St} {Z : Mem}
/-- a STREET as it may be -/
def VB (X : St) (n p : Nat) : Prop := X 0 7 = nI n ∧ n ≤ 7 ∧ X 0 8 = nI p ∧ p ≤ 12 ∧ (∀ i, i < n → (∃ f, f ≤ 9 ∧ X 2 (nI i) = nI f) ∧ (∃ g, g ≤ 99 ∧ X 3 (nI i) = nI g) ∧ (∃ m, m ≤ 99 ∧ X 5 (nI i) = nI m)) ∧ (∀ i, i < 3 → ∃ s, s ≤ 99 ∧ X 6 (nI i) = nI s) ∧ (∀ i, i < p → X 7 (nI i) = 9 ∨ ∃ w, w < n ∧ X 7 (nI i) = nI w)
theorem wi_mm (x : Int32) : wi x = mx 0 (mn 99 x) := by
  unfold wi mx mn
  by_cases h1 : x < 0
  · have h2 : x < 99 := Int32.lt_trans h1 (by decide)
    have h3 : ¬ 0 < x := fun z => absurd (Int32.lt_trans h1 z) (by simp)
    rw [if_pos h1, if_pos h2, if_neg h3]
  · rw [if_neg h1]
    obtain ⟨i, hi, rfl⟩ := nI_of h1
    by_cases h2 : 99 < nI i
    · have h3 : ¬ nI i < 99 := fun z => absurd (Int32.lt_trans h2 z) (by simp)
      rw [if_pos h2, if_neg h3]
      decide
    · rw [if_neg h2]
      have h4 : i ≤ 99 := by
        rcases Nat.lt_or_ge 99 i with q | q
        · exact absurd (nI_lt (a := 99) q hi) h2
        · exact q
      by_cases h5 : i = 99
      · subst h5; decide
      · have h6 : nI i < 99 := nI_lt (b := 99) (by omega) (by decide)
        rw [if_pos h6]
        by_cases h7 : i = 0
        · subst h7; decide
        · rw [if_pos (show 0 < nI i from nI_lt (a := 0) (by omega) (by omega))]
theorem wi_b (x : Int32) : ∃ s, s ≤ 99 ∧ wi x = nI s := by
  unfold wi
  by_cases h1 : x < 0
  · exact ⟨0, by decide, by rw [if_pos h1]; rfl⟩
  · obtain ⟨i, hi, rfl⟩ := nI_of h1
    by_cases h2 : 99 < nI i
    · exact ⟨99, by decide, by rw [if_neg h1, if_pos h2]; rfl⟩
    · refine ⟨i, ?_, by rw [if_neg h1, if_neg h2]⟩
      rcases Nat.lt_or_ge 99 i with q | q
      · exact absurd (nI_lt (a := 99) q hi) h2
      · exact q
theorem wi_inc : ∀ g, g < 100 → wi (nI g + 1) = if nI g < 99 then nI g + 1 else nI g := by decide
theorem wi_id : ∀ g, g < 100 → wi (nI g + 0) = nI g := by decide
theorem wi_dec : ∀ g, g < 100 → ∀ c, c < 30 → wi (nI g - nI c) = mx 0 (nI g - nI c) := by decide +kernel
theorem dv20 : ∀ s, s < 100 → nI s / 20 + 1 = nI (s / 20 + 1) := by decide
theorem dv10 : ∀ s, s < 100 → nI s / 10 = nI (s / 10) := by decide
theorem db20 : ∀ s, s < 100 → 2 * (nI s / 20 + 1) = nI (2 * (s / 20 + 1)) := by decide
theorem pl5 : ∀ s, s < 100 → 2 * (nI s / 20 + 1) / 2 = nI s / 20 + 1 := by decide
theorem wear_eq {X : St} {w : Int32} (h : hW X w = true) (p : Int32) : wearv X w p = wrM X w p := by
  unfold wearv wrM
  rw [if_pos h]
  by_cases p0 : p = 0
  · have p2 : ¬ p = 2 := fun z => by rw [p0] at z; exact absurd z (by decide)
    simp only [if_pos p0, if_neg p2, Int32.add_zero]
  · by_cases p2 : p = 2
    · simp only [if_neg p0, if_pos p2, Int32.add_zero]
    · simp only [if_neg p0, if_neg p2, Int32.add_zero, ite_self]
theorem comf_eq {X : St} {n p w : Nat} (V : VB X n p) (hw : w < n) : comfv X (nI w) = cfM X (nI w) := by
  obtain ⟨hn, h7, hp, h12, hv, hs, hr⟩ := V
  have hh := hW_n hn h7 hw
  have hd : (dM X (nI w) = true) = (rmd (X 0 9) 12 = X 4 (nI w)) := by
    unfold dM
    rw [wv_t hh]
    apply propext
    rw [decide_eq_true_eq]
    exact ⟨fun z => z.symm, fun z => z.symm⟩
  obtain ⟨s, hs1, hs2⟩ := hs 0 (by decide)
  rw [n0'] at hs2
  unfold comfv cfM
  rw [if_pos hh]
  simp only [hd]
  rw [hs2, pl5 s (by omega)]
  by_cases k1 : X 1 (nI w) = 1
  · rw [if_pos k1, if_pos k1]
    exact (Int32.add_comm _ _).trans (Int32.add_assoc _ _ _).symm
  · rw [if_neg k1, if_neg k1]
    by_cases k2 : X 1 (nI w) = 2
    · rw [if_pos k2, if_pos k2]; exact Int32.add_comm _ _
    · rw [if_neg k2, if_neg k2]
      by_cases k3 : X 1 (nI w) = 3
      · rw [if_pos k3, if_pos k3]; exact Int32.add_comm _ _
      · rw [if_neg k3, if_neg k3]
        by_cases k4 : X 1 (nI w) = 4
        · rw [if_pos k4, if_pos k4]; exact Int32.add_comm _ _
        · rw [if_neg k4, if_neg k4, ite_self]; exact Int32.add_comm _ _
theorem comf_b {X : St} {n p w : Nat} (V : VB X n p) (hw : w < n) : ∃ c, c < 30 ∧ cfM X (nI w) = nI c := by
  obtain ⟨hn, h7, hp, h12, hv, hs, hr⟩ := V
  obtain ⟨s, hs1, hs2⟩ := hs 0 (by decide)
  obtain ⟨t, ht1, ht2⟩ := hs 1 (by decide)
  obtain ⟨⟨f, hf1, hf2⟩, _, _⟩ := hv w hw
  rw [n0'] at hs2
  rw [show nI 1 = 1 from rfl] at ht2
  obtain ⟨d, hd1, hd2⟩ : ∃ d, d ≤ 10 ∧ (if rmd (X 0 9) 12 = X 4 (nI w) then (10 : Int32) else 0) = nI d := by
    by_cases z : rmd (X 0 9) 12 = X 4 (nI w)
    · exact ⟨10, by decide, by rw [if_pos z]; rfl⟩
    · exact ⟨0, by decide, by rw [if_neg z]; rfl⟩
  unfold cfM
  rw [hd2, hs2, ht2, hf2, dv20 s (by omega), dv10 t (by omega)]
  have e3 : (2 : Int32) * nI (s / 20 + 1) = nI (2 * (s / 20 + 1)) := by rw [← dv20 s (by omega)]; exact db20 s (by omega)
  rw [e3, show (2 : Int32) = nI 2 from rfl, nI_add, nI_add, nI_add, nI_add, nI_add]
  by_cases k1 : X 1 (nI w) = 1
  · rw [if_pos k1]; exact ⟨_, by omega, rfl⟩
  · rw [if_neg k1]
    by_cases k2 : X 1 (nI w) = nI 2
    · rw [if_pos k2]; exact ⟨_, by omega, rfl⟩
    · rw [if_neg k2]
      by_cases k3 : X 1 (nI w) = 3
      · rw [if_pos k3]; exact ⟨_, by omega, rfl⟩
      · rw [if_neg k3]
        by_cases k4 : X 1 (nI w) = 4
        · rw [if_pos k4]; exact ⟨_, by omega, rfl⟩
        · rw [if_neg k4]; exact ⟨_, by omega, rfl⟩
theorem agX_o (X : St) (h : Int32) {r : Nat} (hr : r ≠ 3) : ∀ i, agX X h i r = X r := by
  intro i
  induction i with
  | zero => rfl
  | succ i ih =>
    unfold agX
    split
    · exact ih
    · split
      · rw [wrm_ne hr]; exact ih
      · exact ih
theorem agX_3 (X : St) (h : Int32) {a : Nat} (ha : a < 1000) : ∀ i, i < 1000 → agX X h i 3 (nI a) = if a < i then (if nI a = h then X 3 (nI a) else if X 3 (nI a) < 99 then X 3 (nI a) + 1 else X 3 (nI a)) else X 3 (nI a) := by
  have key : ∀ i, i < 1000 → ∀ b, i ≤ b → b < 1000 → agX X h i 3 (nI b) = X 3 (nI b) := by
    intro i
    induction i with
    | zero => intro _ b _ _; rfl
    | succ i ih =>
      intro hi b hb hb2
      have hne : ¬ nI b = nI i := fun z => by
        have := (nI_eq (by omega) (by omega)).mp z
        omega
      unfold agX
      split
      · exact ih (by omega) b (by omega) hb2
      · split
        · rw [wo hne]; exact ih (by omega) b (by omega) hb2
        · exact ih (by omega) b (by omega) hb2
  intro i
  induction i with
  | zero => intro _; rw [if_neg (by omega)]; rfl
  | succ i ih =>
    intro hi
    have ih' := ih (by omega)
    by_cases e : a = i
    · subst e
      have k := key a (by omega) a (Nat.le_refl a) ha
      rw [if_pos (by omega)]
      unfold agX
      by_cases hh : nI a = h
      · rw [if_pos hh, if_pos hh]; exact k
      · rw [if_neg hh, if_neg hh, k]
        by_cases h9 : X 3 (nI a) < 99
        · rw [if_pos h9, if_pos h9]; exact ws
        · rw [if_neg h9, if_neg h9]; exact k
    · have hne : ¬ nI a = nI i := fun z => e ((nI_eq (by omega) (by omega)).mp z)
      have e2 : agX X h (i + 1) 3 (nI a) = agX X h i 3 (nI a) := by
        conv => lhs; unfold agX
        split
        · rfl
        · split
          · exact wo hne
          · rfl
      rw [e2, ih']
      by_cases hl : a < i
      · rw [if_pos hl, if_pos (show a < i + 1 by omega)]
      · rw [if_neg hl, if_neg (show ¬ a < i + 1 by omega)]
theorem cfM_gr (X : St) (h : Int32) (i : Nat) (w : Int32) : cfM (grX X h i) w = cfM X w := by
  unfold cfM
  rw [grX_o X h (show (0 : Nat) ≠ 3 by decide), grX_o X h (show (1 : Nat) ≠ 3 by decide), grX_o X h (show (2 : Nat) ≠ 3 by decide), grX_o X h (show (4 : Nat) ≠ 3 by decide), grX_o X h (show (6 : Nat) ≠ 3 by decide)]
theorem grX_3 (X : St) (h : Int32) {a : Nat} (ha : a < 1000) : ∀ i, i < 1000 → grX X h i 3 (nI a) = if a < i then wi (if nI a = h then X 3 (nI a) - cfM X (nI a) else X 3 (nI a) + 1) else X 3 (nI a) := by
  have key : ∀ i, i < 1000 → ∀ b, i ≤ b → b < 1000 → grX X h i 3 (nI b) = X 3 (nI b) := by
    intro i
    induction i with
    | zero => intro _ b _ _; rfl
    | succ i ih =>
      intro hi b hb hb2
      have hne : ¬ nI b = nI i := fun z => by
        have := (nI_eq (by omega) (by omega)).mp z
        omega
      unfold grX
      rw [wo hne]; exact ih (by omega) b (by omega) hb2
  intro i
  induction i with
  | zero => intro _; rw [if_neg (by omega)]; rfl
  | succ i ih =>
    intro hi
    have ih' := ih (by omega)
    by_cases e : a = i
    · subst e
      have k := key a (by omega) a (Nat.le_refl a) ha
      rw [if_pos (by omega)]
      unfold grX
      rw [ws, k, cfM_gr]
    · have hne : ¬ nI a = nI i := fun z => e ((nI_eq (by omega) (by omega)).mp z)
      have e2 : grX X h (i + 1) 3 (nI a) = grX X h i 3 (nI a) := by
        conv => lhs; unfold grX
        exact wo hne
      rw [e2, ih']
      by_cases hl : a < i
      · rw [if_pos hl, if_pos (show a < i + 1 by omega)]
      · rw [if_neg hl, if_neg (show ¬ a < i + 1 by omega)]
theorem hg3_o (Y : St) (w : Int32) {r : Nat} (hr : r ≠ 6) : ∀ i, hg3 Y w i r = Y r := by
  intro i
  induction i with
  | zero => rfl
  | succ i ih => unfold hg3; rw [wrm_ne hr]; exact ih
theorem hW_c {X Y : St} (h : X 0 = Y 0) (w : Int32) : hW X w = hW Y w := by unfold hW; rw [h]
theorem se_eq {Y Y' : St} {h : Int32} (h1 : Y 1 = Y' 1) (h2 : Y 2 = Y' 2) (h3 : Y 3 h = Y' 3 h) (h6 : Y 6 = Y' 6) (hh : hW Y h = true) : ∀ i, hg3 Y h i 6 = seX Y' h i 6 := by
  intro i
  induction i with
  | zero => exact h6
  | succ i ih =>
    have e1 : wearv (hg3 Y h i) h (nI i) = wrM (seX Y' h i) h (nI i) := by
      rw [wear_eq (by rw [hW_c (hg3_o Y h (by decide) i)]; exact hh)]
      unfold wrM
      rw [hg3_o Y h (show (1 : Nat) ≠ 6 by decide), hg3_o Y h (show (2 : Nat) ≠ 6 by decide), hg3_o Y h (show (3 : Nat) ≠ 6 by decide), seX_o Y' h (show (1 : Nat) ≠ 6 by decide), seX_o Y' h (show (2 : Nat) ≠ 6 by decide), seX_o Y' h (show (3 : Nat) ≠ 6 by decide), h1, h2, h3]
    unfold hg3 seX
    funext j
    rw [wrm_eq, wrm_eq, e1, ih, wi_mm]
theorem comfv_hg1 (X : St) (w v : Int32) : comfv (hg1 X w) v = comfv X v := by
  unfold hg1
  split
  · unfold comfv hW dM wv hW
    rw [wrm_ne (show (0 : Nat) ≠ 5 by decide), wrm_ne (show (1 : Nat) ≠ 5 by decide), wrm_ne (show (2 : Nat) ≠ 5 by decide), wrm_ne (show (4 : Nat) ≠ 5 by decide), wrm_ne (show (6 : Nat) ≠ 5 by decide)]
  · rfl
theorem hg1_o (X : St) (w : Int32) {r : Nat} (hr : r ≠ 5) : hg1 X w r = X r := by
  unfold hg1
  split
  · exact wrm_ne hr
  · rfl
theorem hst_h {X : St} {n p k : Nat} (V : VB X n p) (hk : X 0 9 = nI k) (hk2 : k < 2147483648) (g : Int32) : hst X g = 9 ∨ ∃ w, w < n ∧ hst X g = nI w := by
  obtain ⟨hn, h7, hp, h12, hv, hs, hr⟩ := V
  unfold hst
  by_cases h1 : g = 0
  · rw [if_pos h1]
    rcases Nat.eq_zero_or_pos p with h0 | h0
    · rw [h0] at hp
      exact Or.inl (hostv_0 hp)
    · rw [hostv_p hp h0 h12 (by rw [Int32.add_zero]; exact hk) hk2]
      exact hr _ (Nat.mod_lt _ h0)
  · rw [if_neg h1]; exact Or.inl rfl
theorem go_pass {X : St} {n p : Nat} (V : VB X n p) {h : Int32} (hh : h = 9 ∨ ∃ w, w < n ∧ h = nI w) : ∀ r j, r < 8 → sok r j = true → goX X h n r j = wrm (agX (pw1 X h) h n) 0 9 (X 0 9 + 1) r j := by
  have V' := V
  obtain ⟨hn, h7, hp, h12, hv, hs, hr⟩ := V
  intro r j h8 hsk
  by_cases h9 : h = 9
  · have hw9 : hW X 9 = false := by unfold hW; rw [decide_eq_false (show ¬ (9 : Int32) < 7 by decide), Bool.and_false, Bool.and_false]
    have hp1 : pw1 X h = X := by unfold pw1; rw [h9, if_neg (by rw [hw9]; decide)]
    have eg : goX X h n = wrm (grX X h n) 0 9 (X 0 9 + 1) := if_pos h9
    rw [eg, hp1, wrm_eq, wrm_eq]
    by_cases h09 : r = 0 ∧ j = 9
    · rw [if_pos h09, if_pos h09]
    · rw [if_neg h09, if_neg h09]
      by_cases h3 : r = 3
      · subst h3
        rcases sok_cases hsk h8 with ⟨z, _⟩ | ⟨_, _, a, ha, rfl⟩ | ⟨z, _⟩ | ⟨z, _⟩
        · exact absurd z (by decide)
        · rw [grX_3 X h (by omega) n (by omega), agX_3 X h (by omega) n (by omega)]
          by_cases hl : a < n
          · have hne : ¬ nI a = h := fun z => by
              rw [h9, show (9 : Int32) = nI 9 from rfl] at z
              have := (nI_eq (by omega) (by decide)).mp z
              omega
            obtain ⟨_, ⟨g, hg1, hg2⟩, _⟩ := hv a hl
            rw [if_pos hl, if_pos hl, if_neg hne, if_neg hne, hg2]
            exact wi_inc g (by omega)
          · rw [if_neg hl, if_neg hl]
        · exact absurd z (by decide)
        · exact absurd z (by decide)
      · rw [grX_o X h h3, agX_o X h h3]
  · obtain ⟨w, hw, rfl⟩ := hh.resolve_left h9
    have hW1 := hW_n hn h7 hw
    have hp1 : pw1 X (nI w) = hgX X (nI w) := if_pos hW1
    have eg : goX X (nI w) n = wrm (seX (mtX (grX X (nI w) n) (nI w)) (nI w) 3) 0 9 (X 0 9 + 1) := if_neg h9
    obtain ⟨_, ⟨g, hg1', hg2'⟩, ⟨m, hm1, hm2⟩⟩ := hv w hw
    obtain ⟨c, hc1, hc2⟩ := comf_b V' hw
    have e3 : hg2 X (nI w) 3 (nI w) = wi (X 3 (nI w) - cfM X (nI w)) := by
      unfold hg2
      rw [ws, hg1_o X _ (by decide), comfv_hg1, comf_eq V' hw, hg2', hc2]
      exact (wi_dec g (by omega) c hc1).symm
    have e3g : grX X (nI w) n 3 (nI w) = wi (X 3 (nI w) - cfM X (nI w)) := by
      rw [grX_3 X _ (by omega) n (by omega), if_pos hw, if_pos rfl]
    rw [eg, hp1, wrm_eq, wrm_eq]
    by_cases h09 : r = 0 ∧ j = 9
    · rw [if_pos h09, if_pos h09]
    · rw [if_neg h09, if_neg h09]
      by_cases h3 : r = 3
      · subst h3
        rcases sok_cases hsk h8 with ⟨z, _⟩ | ⟨_, _, a, ha, rfl⟩ | ⟨z, _⟩ | ⟨z, _⟩
        · exact absurd z (by decide)
        · rw [seX_o _ _ (by decide), agX_3 _ _ (by omega) n (by omega)]
          have e5 : mtX (grX X (nI w) n) (nI w) 3 = grX X (nI w) n 3 := wrm_ne (by decide)
          rw [e5]
          have e6 : hgX X (nI w) 3 = hg2 X (nI w) 3 := hg3_o _ _ (by decide) 3
          rw [e6]
          by_cases he : a = w
          · subst he
            rw [e3g, if_pos hw, if_pos rfl, e3]
          · have hne : ¬ nI a = nI w := fun z => he ((nI_eq (by omega) (by omega)).mp z)
            have e7 : hg2 X (nI w) 3 (nI a) = X 3 (nI a) := by
              unfold hg2
              rw [wo hne, hg1_o X _ (by decide)]
            rw [e7, grX_3 X _ (by omega) n (by omega)]
            by_cases hl : a < n
            · obtain ⟨_, ⟨g', hg3', hg4'⟩, _⟩ := hv a hl
              rw [if_pos hl, if_pos hl, if_neg hne, if_neg hne, hg4']
              exact wi_inc g' (by omega)
            · rw [if_neg hl, if_neg hl]
        · exact absurd z (by decide)
        · exact absurd z (by decide)
      · rw [agX_o _ _ h3]
        by_cases h6 : r = 6
        · subst h6
          have q := se_eq (Y := hg2 X (nI w)) (Y' := mtX (grX X (nI w) n) (nI w)) (h := nI w) ?_ ?_ ?_ ?_ ?_ 3
          · exact (congrFun q j).symm
          · unfold hg2 mtX; rw [wrm_ne (by decide), wrm_ne (by decide), hg1_o X _ (by decide), grX_o X _ (by decide)]
          · unfold hg2 mtX; rw [wrm_ne (by decide), wrm_ne (by decide), hg1_o X _ (by decide), grX_o X _ (by decide)]
          · rw [e3]; unfold mtX; rw [wrm_ne (by decide), e3g]
          · unfold hg2 mtX; rw [wrm_ne (by decide), wrm_ne (by decide), hg1_o X _ (by decide), grX_o X _ (by decide)]
          · rw [hW_c (show hg2 X (nI w) 0 = X 0 by unfold hg2; rw [wrm_ne (by decide), hg1_o X _ (by decide)])]; exact hW1
        · rw [seX_o _ _ h6]
          have e8 : hgX X (nI w) r = hg1 X (nI w) r := by
            unfold hgX
            rw [hg3_o _ _ h6]
            exact wrm_ne h3
          rw [e8]
          by_cases h5 : r = 5
          · subst h5
            unfold mtX
            rw [wrm_eq, grX_o X _ (show (5 : Nat) ≠ 3 by decide), grX_o X _ (show (0 : Nat) ≠ 3 by decide), grX_o X _ (show (4 : Nat) ≠ 3 by decide)]
            have hd : (dM X (nI w) = true) = (rmd (X 0 9) 12 = X 4 (nI w)) := by
              unfold dM
              rw [wv_t hW1]
              apply propext
              rw [decide_eq_true_eq]
              exact ⟨fun z => z.symm, fun z => z.symm⟩
            unfold hg1
            rw [hm2]
            by_cases hj : j = nI w
            · rw [if_pos ⟨rfl, hj⟩, hj]
              by_cases hday : rmd (X 0 9) 12 = X 4 (nI w)
              · rw [if_pos hday, wi_inc m (by omega)]
                by_cases hm9 : nI m < 99
                · rw [if_pos hm9, if_pos ⟨hd.mpr hday, hm9⟩]; exact ws.symm
                · rw [if_neg hm9, if_neg (fun z => hm9 z.2)]; exact hm2.symm
              · rw [if_neg hday, if_neg (fun z => hday (hd.mp z.1)), wi_id m (by omega)]; exact hm2.symm
            · rw [if_neg (fun z => hj z.2)]
              split
              · exact (wo hj).symm
              · rfl
          · unfold mtX
            rw [wrm_ne h5, grX_o X _ h3, hg1_o X _ h5]
theorem go_passX {X : St} {n p k : Nat} (V : VB X n p) (hk : X 0 9 = nI k) (hk2 : k < 2147483648) (g : Int32) : ∀ r j, r < 8 → sok r j = true → goX X (hst X g) n r j = passX X g n r j := go_pass V (hst_h V hk hk2 g)
/-- a WEEK of the model's -/
theorem M_goesWeek {n p k : Nat} (V : VB (Q 11) n p) (hk : Q 11 0 9 = nI k) (hk2 : k < 2147483648) (g : Int32) : cal yM_goesWeek [.ref 96, .int g] (cm Q Z) = some (none, cm (qup Q 11 (passX (Q 11) g n)) Z) := by
  rw [M_goesWeek1 g V.1 V.2.1 V.2.2.1 V.2.2.2.1 hk hk2 ?_, cm_con (go_passX V hk hk2 g)]
  rcases hst_h V hk hk2 g with h | ⟨w, hw, h⟩
  · exact Or.inl h
  · refine Or.inr ?_
    rw [h]
    have := V.2.1
    exact ⟨nI_pos (by omega), nI_lt (b := 7) (by omega) (by decide)⟩
end MOD4

/-! the small machine's memory as cells of the heap -/
section WLD
variable {D : va_G} {rho : Nat → Nat} {cI cS : ClassId}
def cv (rho : Nat → Nat) : Value → Value
  | .ref k => .ref (rho k)
  | v => v
theorem cv_cat (v : Value) : (cv rho v).category = v.category := by cases v <;> rfl
def cellE (rho : Nat → Nat) (cI cS : ClassId) (u : Mem) (k : Nat) : va_E :=
  if cK k = 6 then .inl (cI, aln k, .inl (fun j => if j < aln k then u k (nI j) else 0))
  else if cK k = 7 then .inl (cS, 8, .inr (.inr (.inr (.inr (fun j => if j < 8 then some (rho (24 + 8 * j)) else none)))))
  else .inr (cK k, (List.range (NFs (cK k))).map (fun j => if fK (cK k) j = 2 then .ref (rho (fref k j)) else .int (u k (nI j))))
def wl (rho : Nat → Nat) (cI cS : ClassId) (u : Mem) : va_W := (List.range 112).map (fun k => (rho k, cellE rho cI cS u k))
theorem wl_at {u : Mem} {k : Nat} (h : k < 112) : (wl rho cI cS u)[k]? = some (rho k, cellE rho cI cS u k) := by
  unfold wl
  rw [List.getElem?_map, List.getElem?_range h]
  rfl
theorem wl_in {u : Mem} {k : Nat} {q : Nat × va_E} (h : (wl rho cI cS u)[k]? = some q) : k < 112 ∧ q = (rho k, cellE rho cI cS u k) := by
  have hk : k < 112 := by
    have := (List.getElem?_eq_some_iff.mp h).1
    simpa [wl] using this
  rw [wl_at hk] at h
  exact ⟨hk, (Option.some.inj h).symm⟩
theorem cellE_congr {u u' : Mem} {k : Nat} (h : u' k = u k) : cellE rho cI cS u' k = cellE rho cI cS u k := by
  unfold cellE
  rw [h]
theorem wl_set {u u' : Mem} {k : Nat} (h : ∀ j, j ≠ k → u' j = u j) : (wl rho cI cS u).set k (rho k, cellE rho cI cS u' k) = wl rho cI cS u' := by
  apply List.ext_getElem?
  intro j
  by_cases hj : j < 112
  · by_cases hk : j = k
    · subst hk
      rw [List.getElem?_set_self (by simpa [wl] using hj), wl_at hj]
    · rw [List.getElem?_set_ne (Ne.symm hk), wl_at hj, wl_at hj, cellE_congr (h j hk)]
  · rw [List.getElem?_eq_none (by simpa [wl] using Nat.le_of_not_lt hj), List.getElem?_eq_none (by simpa [wl] using Nat.le_of_not_lt hj)]
theorem wrm_ne {u : Mem} {a : Nat} {i v : Int32} {j : Nat} (h : j ≠ a) : wrm u a i v j = u j := by
  funext x
  simp [wrm, h]
def inj112 (rho : Nat → Nat) : Prop := ∀ i j, i < 112 → j < 112 → rho i = rho j → i = j
theorem wl_D {A : Nat → Prop} {u : Mem} (hi : inj112 rho) (hA : ∀ k, k < 112 → A (rho k)) : va_D A (wl rho cI cS u) := by
  refine ⟨fun i j p q h1 h2 h3 => ?_, fun k q h => ?_⟩
  · obtain ⟨l1, rfl⟩ := wl_in h1
    obtain ⟨l2, rfl⟩ := wl_in h2
    exact hi i j l1 l2 h3
  · obtain ⟨l1, rfl⟩ := wl_in h
    exact hA k l1
theorem wl_A {A : Nat → Prop} {u : Mem} {sz : Nat} (hA : ∀ k, k < 112 → A (rho k)) (hz : ∀ q, sz ≤ q → A q) : ∀ q, va_A (wl rho cI cS u) sz q → A q := by
  intro q h
  rcases h with ⟨k, e, h⟩ | h
  · obtain ⟨l1, h2⟩ := wl_in h
    cases h2
    exact hA k l1
  · exact hz q h
theorem wl_A_in {u : Mem} {sz k : Nat} (h : k < 112) : va_A (wl rho cI cS u) sz (rho k) := Or.inl ⟨k, _, wl_at h⟩
theorem cell_int {u : Mem} {k : Nat} (h : cK k = 6) : cellE rho cI cS u k = .inl (cI, aln k, .inl (fun j => if j < aln k then u k (nI j) else 0)) := by
  unfold cellE
  rw [if_pos h]
theorem cell_ring {u : Mem} {k : Nat} (h : cK k = 7) : cellE rho cI cS u k = .inl (cS, 8, .inr (.inr (.inr (.inr (fun j => if j < 8 then some (rho (24 + 8 * j)) else none))))) := by
  unfold cellE
  rw [if_neg (by rw [h]; decide), if_pos h]
theorem cell_obj {u : Mem} {k c : Nat} (h : cK k = c) (hc : c < 6) : cellE rho cI cS u k = .inr (c, (List.range (NFs c)).map (fun j => if fK c j = 2 then .ref (rho (fref k j)) else .int (u k (nI j)))) := by
  subst h
  unfold cellE
  rw [if_neg (by omega), if_neg (by omega)]
theorem cK_lt {k : Nat} (h : cK k < 8) : k < 112 := by
  unfold cK at h
  split at h
  · omega
  · rcases Nat.lt_or_ge (k - 88) 24 with q | q
    · omega
    · rw [List.getD_eq_getElem?_getD, List.getElem?_eq_none (by simpa using q)] at h
      exact absurd h (by decide)
theorem aln_lt (k : Nat) : aln k < 600 := by
  have h1 : ∀ j, j < 8 → [0, 7, 7, 7, 7, 7, 3, 12].getD j 0 < 600 := by decide
  have h2 : ∀ j, j < 24 → [0, 0, 8, 0, 96, 0, 12, 7, 0, 7, 7, 7, 7, 7, 7, 3, 12, 96, 48, 48, 192, 583, 12, 8].getD j 0 < 600 := by decide
  unfold aln
  split
  · exact h1 _ (Nat.mod_lt _ (by decide))
  · rcases Nat.lt_or_ge (k - 88) 24 with q | q
    · exact h2 _ q
    · rw [List.getD_eq_getElem?_getD, List.getElem?_eq_none (by simpa using q)]
      decide
theorem aok_sp {k : Nat} {i : Int32} (h : aok k i = true) : cK k = 6 ∧ ∃ j, j < aln k ∧ i = nI j := by
  unfold aok at h
  simp only [Bool.and_eq_true, beq_iff_eq, Bool.not_eq_true', decide_eq_false_iff_not, decide_eq_true_eq] at h
  obtain ⟨h1, h2, h3⟩ := h
  refine ⟨h1, ?_⟩
  obtain ⟨j, hj, rfl⟩ := nI_of h2
  exact ⟨j, (nI_ltI hj (by have := aln_lt k; omega)).mp h3, rfl⟩
theorem cell_put {u : Mem} {k j : Nat} {v : Int32} (h : cK k = 6) (hj : j < aln k) : cellE rho cI cS (wrm u k (nI j) v) k = .inl (cI, aln k, .inl (upd (fun j => if j < aln k then u k (nI j) else 0) j v)) := by
  rw [cell_int h]
  have e : (fun x => if x < aln k then wrm u k (nI j) v k (nI x) else 0) = upd (fun j => if j < aln k then u k (nI j) else 0) j v := by
    funext x
    have ha := aln_lt k
    unfold upd wrm
    by_cases hx : x = j
    · subst hx
      simp [hj]
    · by_cases hl : x < aln k
      · have : ¬ nI x = nI j := fun e => hx ((nI_eq (by omega) (by omega)).mp e)
        simp [hl, hx, this]
      · simp [hl, hx]
  rw [e]
theorem NFs_lt (c : Nat) : NFs c < 28 := by
  unfold NFs
  split <;> decide
theorem obj_put {u : Mem} {k c j : Nat} {v : Int32} (h : cK k = c) (hc : c < 6) (hj : j < NFs c) (hf : fK c j ≠ 2) : cellE rho cI cS (wrm u k (nI j) v) k = .inr (c, ((List.range (NFs c)).map (fun j => if fK c j = 2 then Value.ref (rho (fref k j)) else .int (u k (nI j)))).set j (.int v)) := by
  rw [cell_obj h hc]
  have e : (List.range (NFs c)).map (fun x => if fK c x = 2 then Value.ref (rho (fref k x)) else .int (wrm u k (nI j) v k (nI x))) = ((List.range (NFs c)).map (fun j => if fK c j = 2 then Value.ref (rho (fref k j)) else .int (u k (nI j)))).set j (.int v) := by
    apply List.ext_getElem?
    intro x
    have hN := NFs_lt c
    by_cases hl : x < NFs c
    · by_cases hx : x = j
      · subst hx
        rw [List.getElem?_set_self (by simpa using hl), List.getElem?_map, List.getElem?_range hl]
        simp [hf, wrm]
      · rw [List.getElem?_set_ne (Ne.symm hx), List.getElem?_map, List.getElem?_map, List.getElem?_range hl]
        have : ¬ nI x = nI j := fun e => hx ((nI_eq (by omega) (by omega)).mp e)
        simp [wrm, this]
    · rw [List.getElem?_eq_none (by simpa using Nat.le_of_not_lt hl), List.getElem?_eq_none (by simpa using Nat.le_of_not_lt hl)]
  rw [e]
theorem obj_at {u : Mem} {k c j : Nat} (hj : j < NFs c) : ((List.range (NFs c)).map (fun j => if fK c j = 2 then Value.ref (rho (fref k j)) else .int (u k (nI j))))[j]? = some (if fK c j = 2 then Value.ref (rho (fref k j)) else .int (u k (nI j))) := by
  rw [List.getElem?_map, List.getElem?_range hj]
  rfl
/-- the locals: what the small machine knows of them is so -/
def LR (rho : Nat → Nat) (nL : Nat) (L : Lv) (arr : Array Slot) : Prop := arr.size = nL ∧ lv_wf arr ∧ L.length = nL ∧ ∀ (i : Nat) (v : Value), lget L i = some v → arr[i]? = some (.val (cv rho v))
def lvo (rho : Nat → Nat) (L : Lv) : List (Nat × Value) := (List.range L.length).filterMap (fun i => (lget L i).map (fun v => (i, cv rho v)))
theorem lget_lt {L : Lv} {i : Nat} {v : Value} (h : lget L i = some v) : i < L.length := by
  unfold lget at h
  rcases Nat.lt_or_ge i L.length with q | q
  · exact q
  · rw [List.getD_eq_getElem?_getD, List.getElem?_eq_none q] at h
    cases h
theorem lvo_mem {L : Lv} {i : Nat} {v : Value} (h : lget L i = some v) : (i, cv rho v) ∈ lvo rho L := List.mem_filterMap.mpr ⟨i, List.mem_range.mpr (lget_lt h), by rw [h]; rfl⟩
theorem lvo_has {nL : Nat} {L : Lv} {arr : Array Slot} (h : LR rho nL L arr) : lv_has arr nL (lvo rho L) := by
  refine ⟨h.1, h.2.1, fun q hq => ?_⟩
  obtain ⟨i, -, hi⟩ := List.mem_filterMap.mp hq
  cases hv : lget L i with
  | none => rw [hv] at hi; cases hi
  | some v =>
    rw [hv] at hi
    cases hi
    exact h.2.2.2 i v hv
theorem lget_set {L : Lv} {i j : Nat} {x : Option Value} : lget (L.set i x) j = if i = j ∧ i < L.length then x else lget L j := by
  unfold lget
  rw [List.getD_eq_getElem?_getD, List.getD_eq_getElem?_getD, List.getElem?_set]
  by_cases h : i = j
  · subst h
    by_cases hl : i < L.length
    · simp [hl]
    · simp [hl]
  · simp [h]
theorem lkill_succ (L : Lv) (j : Nat) : lkill L (j + 1) = match lget L j with
    | some (.long _) => L.set j none
    | some (.double _) => L.set j none
    | _ => L := rfl
theorem lkill_len (L : Lv) (i : Nat) : (lkill L i).length = L.length := by
  cases i with
  | zero => rfl
  | succ j =>
    rw [lkill_succ]
    split <;> first | rfl | exact List.length_set
theorem lkill_get {L : Lv} {i j : Nat} {w : Value} (h : lget (lkill L i) j = some w) : lget L j = some w ∧ (j + 1 = i → ¬ w.category = 2) := by
  cases i with
  | zero => exact ⟨h, fun e => by omega⟩
  | succ k =>
    rw [lkill_succ] at h
    split at h
    · next x hx =>
      rw [lget_set] at h
      split at h
      · cases h
      · next hn => exact ⟨h, fun e => absurd ⟨by omega, lget_lt hx⟩ hn⟩
    · next x hx =>
      rw [lget_set] at h
      split at h
      · cases h
      · next hn => exact ⟨h, fun e => absurd ⟨by omega, lget_lt hx⟩ hn⟩
    · next h1 h2 =>
      refine ⟨h, fun e => ?_⟩
      obtain rfl : j = k := by omega
      cases w with
      | long x => exact absurd h (h1 x)
      | double x => exact absurd h (h2 x)
      | _ => exact (by simp [Value.category])
theorem LR.st1 {nL i : Nat} {L : Lv} {arr ls : Array Slot} {v : Value} (h : LR rho nL L arr) (hi : i < nL) (hh : lv_has ls nL ((i, cv rho v) :: (lvo rho L).filter (fun q => !(q.1 == i) && !(q.1 + 1 == i && q.2.category == 2)))) : LR rho nL (lst1 L i v) ls := by
  obtain ⟨g1, g2, g3⟩ := hh
  refine ⟨g1, g2, by unfold lst1; rw [List.length_set, lkill_len]; exact h.2.2.1, fun j w hw => ?_⟩
  unfold lst1 at hw
  rw [lget_set] at hw
  split at hw
  · next e =>
    cases hw
    obtain ⟨rfl, -⟩ := e
    exact g3 _ List.mem_cons_self
  · next e =>
    obtain ⟨h1, h2⟩ := lkill_get hw
    have hij : ¬ i = j := fun z => e ⟨z, by rw [lkill_len, h.2.2.1]; exact hi⟩
    refine g3 (j, cv rho w) (List.mem_cons_of_mem _ (List.mem_filter.mpr ⟨lvo_mem h1, ?_⟩))
    simp only [Bool.and_eq_true, Bool.not_eq_true', beq_eq_false_iff_ne, Bool.and_eq_false_iff, cv_cat]
    refine ⟨fun z => hij z.symm, ?_⟩
    by_cases z : j + 1 = i
    · exact Or.inr (h2 z)
    · exact Or.inl z
theorem LR.st2 {nL i : Nat} {L : Lv} {arr ls : Array Slot} {v : Value} (h : LR rho nL L arr) (hi : i + 1 < nL) (hh : lv_has ls nL ((i, cv rho v) :: (lvo rho L).filter (fun q => !(q.1 == i) && (!(q.1 == i + 1) && !(q.1 + 1 == i && q.2.category == 2))))) : LR rho nL (lst2 L i v) ls := by
  obtain ⟨g1, g2, g3⟩ := hh
  refine ⟨g1, g2, by unfold lst2; rw [List.length_set, List.length_set, lkill_len]; exact h.2.2.1, fun j w hw => ?_⟩
  unfold lst2 at hw
  rw [lget_set] at hw
  split at hw
  · next e =>
    cases hw
    obtain ⟨rfl, -⟩ := e
    exact g3 _ List.mem_cons_self
  · next e =>
    rw [lget_set] at hw
    split at hw
    · cases hw
    · next e2 =>
      obtain ⟨h1, h2⟩ := lkill_get hw
      have hij : ¬ i = j := fun z => e ⟨z, by rw [List.length_set, lkill_len, h.2.2.1]; omega⟩
      have hij2 : ¬ i + 1 = j := fun z => e2 ⟨z, by rw [lkill_len, h.2.2.1]; omega⟩
      refine g3 (j, cv rho w) (List.mem_cons_of_mem _ (List.mem_filter.mpr ⟨lvo_mem h1, ?_⟩))
      simp only [Bool.and_eq_true, Bool.not_eq_true', beq_eq_false_iff_ne, Bool.and_eq_false_iff, cv_cat]
      refine ⟨fun z => hij z.symm, fun z => hij2 z.symm, ?_⟩
      by_cases z : j + 1 = i
      · exact Or.inr (h2 z)
      · exact Or.inl z
theorem lsl_get : ∀ (vs : List Value) (i : Nat) (w : Value), lget (lsl vs) i = some w → (lg_sl (vs.map (cv rho)))[i]? = some (.val (cv rho w)) := by
  intro vs
  induction vs with
  | nil => intro i w h; cases h
  | cons v vs ih =>
    intro i w h
    have hc := cv_cat (rho := rho) v
    by_cases h2 : v.category = 2
    · have e1 : lsl (v :: vs) = some v :: none :: lsl vs := by simp [lsl, h2]
      have e2 : lg_sl ((v :: vs).map (cv rho)) = .val (cv rho v) :: .second :: lg_sl (vs.map (cv rho)) := by simp [lg_sl, hc, h2]
      rw [e1] at h
      rw [e2]
      match i, h with
      | 0, h => cases h; rfl
      | 1, h => cases h
      | i + 2, h => exact ih i w h
    · have e1 : lsl (v :: vs) = some v :: lsl vs := by simp [lsl, h2]
      have e2 : lg_sl ((v :: vs).map (cv rho)) = .val (cv rho v) :: lg_sl (vs.map (cv rho)) := by simp [lg_sl, hc, h2]
      rw [e1] at h
      rw [e2]
      match i, h with
      | 0, h => cases h; rfl
      | i + 1, h => exact ih i w h
theorem lsl_len (vs : List Value) : (lg_sl (vs.map (cv rho))).length = (lsl vs).length := by
  induction vs with
  | nil => rfl
  | cons v vs ih =>
    have hc := cv_cat (rho := rho) v
    by_cases h2 : v.category = 2
    · have e1 : lsl (v :: vs) = some v :: none :: lsl vs := by simp [lsl, h2]
      have e2 : lg_sl ((v :: vs).map (cv rho)) = .val (cv rho v) :: .second :: lg_sl (vs.map (cv rho)) := by simp [lg_sl, hc, h2]
      rw [e1, e2]
      simp [ih]
    · have e1 : lsl (v :: vs) = some v :: lsl vs := by simp [lsl, h2]
      have e2 : lg_sl ((v :: vs).map (cv rho)) = .val (cv rho v) :: lg_sl (vs.map (cv rho)) := by simp [lg_sl, hc, h2]
      rw [e1, e2]
      simp [ih]
theorem LR.entry {z : MI} {vs : List Value} (h : (lsl vs).length ≤ mL z) : LR rho (mL z) (ent z vs) ((lg_sl (vs.map (cv rho)) ++ List.replicate (mL z - (lg_sl (vs.map (cv rho))).length) Slot.unset).toArray) := by
  have hh := lv_entry (vs.map (cv rho)) (n := mL z) (by rw [lsl_len]; exact h)
  refine ⟨hh.1, hh.2.1, by unfold ent; simp; omega, fun i v hv => ?_⟩
  unfold ent lget at hv
  rw [List.getD_eq_getElem?_getD] at hv
  by_cases hi : i < (lsl vs).length
  · rw [List.getElem?_append_left hi] at hv
    have h1 := lsl_get (rho := rho) vs i v (by unfold lget; rw [List.getD_eq_getElem?_getD]; exact hv)
    rw [List.getElem?_toArray, List.getElem?_append_left (by rw [lsl_len]; exact hi)]
    exact h1
  · rw [List.getElem?_append_right (by omega), List.getElem?_replicate] at hv
    split at hv <;> cases hv
end WLD

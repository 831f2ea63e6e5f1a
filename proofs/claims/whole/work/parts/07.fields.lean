/-! a step that goes on within the method; a return; a call; then all of it -/
section SIM3
variable {p : Program} {l : Launch} {e : Env} {R : Room} {s : State} {m : MethodId} {args : Array Value} {below : List Frame} {meth : Method} {c : Code} {H : Heap} {locs : List Loc} {Q : State → Prop}
variable {D : va_G} {rho : Nat → Nat} {cI cS : ClassId} {A : Nat → Prop}
theorem fK_fin : ∀ c, c < 6 → ∀ k, k < NFs c → fK c k ≠ 2 → (TFs c k).2.2.2 = false := by
  intro c hc
  rcases (show c = 0 ∨ c = 1 ∨ c = 2 ∨ c = 3 ∨ c = 4 ∨ c = 5 by omega) with rfl | rfl | rfl | rfl | rfl | rfl
  all_goals decide +kernel
theorem fK_ty : ∀ c, c < 6 → ∀ k, k < NFs c → (fK c k = 0 → tyFs c k = .int) ∧ (fK c k = 1 → tyFs c k = .boolean) := by
  intro c hc
  rcases (show c = 0 ∨ c = 1 ∨ c = 2 ∨ c = 3 ∨ c = 4 ∨ c = 5 by omega) with rfl | rfl | rfl | rfl | rfl | rfl
  all_goals decide +kernel
theorem TFs_own : ∀ c, c < 6 → c ≠ 3 → ∀ k, k < NFs c → (TFs c k).1 = RC c := by
  intro c hc
  rcases (show c = 0 ∨ c = 1 ∨ c = 2 ∨ c = 3 ∨ c = 4 ∨ c = 5 by omega) with rfl | rfl | rfl | rfl | rfl | rfl
  all_goals decide +kernel
/-- an heir's fields are laid as its elder's -/
theorem sb_same {o ci : Nat} (h : sb o ci) (h1 : ci < 6) : o < 6 ∧ TFs o = TFs ci ∧ NFs o = NFs ci ∧ (∀ k, fK o k = fK ci k) := by
  rcases h with rfl | ⟨rfl, rfl⟩
  · exact ⟨h1, rfl, rfl, fun _ => rfl⟩
  · refine ⟨by decide, ?_, rfl, fun _ => rfl⟩
    show TF3 = TF0
    funext k
    cases k <;> rfl
/-- a field under the name that a link gives it -/
theorem fld_same {o ci k : Nat} {args : Array Value} {s : State} {y : MI} (hts : ∀ w ∈ wsY y, w.before args s = true) (g : TFs o = TFs ci) (h5 : (TFs ci k).1 = RC ci ∨ TW (.sameField (RC ci) (TFs ci k).1 (TFs ci k).2.1 (TFs ci k).2.2.1)) : ∀ x, s.fieldFound? (TFs o k).1 (TFs o k).2.1 (TFs o k).2.2.1 = some x → s.fieldFound? (RC ci) (TFs o k).2.1 (TFs o k).2.2.1 = some x := by
  rw [g]
  rcases h5 with h5 | h5
  · intro x hx
    rw [h5] at hx
    exact hx
  · exact fun x hx => u_same (hts _ (TW.inY h5 y)) x hx
theorem narZ {v : Int32} (h : v = 0 ∨ v = 1) : narrow .boolean (.int v) = .int v := by
  rcases h with rfl | rfl <;> decide
theorem fitZ {v : Int32} (h : v = 0 ∨ v = 1) : fits .boolean (.int v) = true := by
  rcases h with rfl | rfl <;> decide
theorem u_wsY {cl : Nat} (hc : cl < 6) (y : MI) : ∀ w ∈ u_ws (RC cl) (TFs cl) (NFs cl), w ∈ wsY y := by
  intro w hw
  obtain ⟨k, hk, rfl⟩ := List.mem_map.mp hw
  exact (wfs cl hc k (List.mem_range.mp hk)).inY y
theorem xget_inl {c i pc : Nat} {L : Lv} {st : List Value} {u : Mem} {q} (h : xget c i pc L st u = some (.inl q)) : ∃ nest ci k a st0, lk (FLs c) i = some (nest, ci, k) ∧ st = .ref a :: st0 ∧ sb (cK a) ci ∧ q = (pc + 3, L, (if fK ci k = 2 then .ref (fref a k) else .int (u a (nI k))) :: st0, u) := by
  unfold xget at h
  generalize lk (FLs c) i = o at h ⊢
  match o, st, h with
  | some (nest, ci, k), .ref a :: st0, h =>
    dsimp only at h
    split at h
    · next hk =>
      refine ⟨nest, ci, k, a, st0, rfl, rfl, hk, ?_⟩
      split at h
      · next hf => rw [if_pos hf]; cases h; rfl
      · next hf => rw [if_neg hf]; cases h; rfl
    · cases h
theorem xput_inl {c i pc : Nat} {L : Lv} {st : List Value} {u : Mem} {q} (h : xput c i pc L st u = some (.inl q)) : ∃ nest ci k v a st0, lk (FLs c) i = some (nest, ci, k) ∧ st = .int v :: .ref a :: st0 ∧ sb (cK a) ci ∧ (fK ci k = 0 ∨ (fK ci k = 1 ∧ (v = 0 ∨ v = 1))) ∧ q = (pc + 3, L, st0, wrm u a (nI k) v) := by
  unfold xput at h
  generalize lk (FLs c) i = o at h ⊢
  match o, st, h with
  | some (nest, ci, k), .int v :: .ref a :: st0, h =>
    dsimp only at h
    split at h
    · next hk => cases h; exact ⟨nest, ci, k, v, a, st0, rfl, rfl, hk.1, hk.2, rfl⟩
    · cases h
/-- a field's value, out of the world -/
theorem sy_get {y : MI} {i pc ci k a : Nat} {nest : Bool} {arr : Array Slot} {rest : List Value} {u : Mem} {v : Value} (C : CX D rho cI cS A y p s m args meth c) (hdg : decode (mB y) pc = .ok (.getfield i, 3)) (hl : lk (FLs (mC y)) i = some (nest, ci, k)) (hk : sb (cK a) ci) (hvv : (if fK ci k = 2 then Value.ref (rho (fref a k)) else .int (u a (nI k))) = v) (hP : va_P D vwCl (wl rho cI cS u) H) (kk : W p l e R s m args below meth c H locs 0 0 Q (F0 m (pc + 3) arr (v :: rest))) : W p l e R s m args below meth c H locs 0 0 Q (F0 m pc arr (.ref (rho a) :: rest)) := by
  obtain ⟨hx, hb, hml, hr, hown, hts, hlk, hK, hN, hi, hA, hAr, hmc⟩ := C
  have hl2 := hN (mC y) i _ hmc hl
  have h3 := lk_all (P := fun i x => fOK (mC y) i x) (fun x hx => okFLs (mC y) hmc x hx) hl
  have h1 : ci < 6 := h3.1
  have h2 : k < NFs ci := h3.2.1
  have h5 : (TFs ci k).1 = RC ci ∨ TW (.sameField (RC ci) (TFs ci k).1 (TFs ci k).2.1 (TFs ci k).2.2.1) := h3.2.2.1
  have h4 := h3.2.2.2
  obtain ⟨g1, g2, g3, g4⟩ := sb_same hk h1
  generalize ho : cK a = o at g1 g2 g3 g4
  have ha : a < 112 := cK_lt (by omega)
  have hat := wl_at (rho := rho) (cI := cI) (cS := cS) (u := u) ha
  rw [cell_obj ho g1] at hat
  rw [← g3] at h2
  rw [← g4] at hvv
  have hv := obj_at (rho := rho) (u := u) (k := a) h2
  rw [hvv] at hv
  have hin := u_wsY g1 y
  have hsame := fld_same hts g2 h5
  have hcl := vwCl_at o g1
  clear h3 h5 hk
  generalize TFs o = T at *
  generalize TFs ci = T' at *
  subst g2
  generalize RC o = Co at *
  generalize RC ci = Cn at *
  generalize RC (mC y) = own at *
  generalize vwCl = cl at *
  generalize mB y = cc at *
  generalize hws : wsY y = Ts at *
  cases nest with
  | true => exact va_getN hx hb hts hin hown hK hP a hat hcl k h2 (va_Nw.use rfl (hl2 rfl)) hsame hv hdg kk
  | false => exact va_get hx hb hts hin hown hK hP a hat hcl k h2 (hts _ (by rw [← hws]; exact TW.inY h4 y)) hsame hv hdg kk
theorem sx_get {y : MI} {i pc : Nat} {L : Lv} {st : List Value} {u : Mem} {q1 : Nat} {q2 : Lv} {q3 : List Value} {q4 : Mem} (C : CX D rho cI cS A y p s m args meth c) (hdg : decode (mB y) pc = .ok (.getfield i, 3)) (h : xget (mC y) i pc L st u = some (.inl (q1, q2, q3, q4))) (K : KN D rho cI cS A y p l e R s m args below meth c Q q1 q2 q3 q4) {arr : Array Slot} (hP : va_P D vwCl (wl rho cI cS u) H) (hS : va_S A s.heap H locs) (hL : LR rho (mL y) L arr) : W p l e R s m args below meth c H locs 0 0 Q (F0 m pc arr (st.map (cv rho))) := by
  obtain ⟨nest, ci, k, a, st0, hl, rfl, hk, hq⟩ := xget_inl h
  cases hq
  refine sy_get (v := cv rho (if fK ci k = 2 then .ref (fref a k) else .int (u a (nI k)))) C hdg hl hk ?_ hP (K _ _ _ hP hS hL)
  by_cases hf : fK ci k = 2
  · rw [if_pos hf, if_pos hf]; rfl
  · rw [if_neg hf, if_neg hf]; rfl
theorem sx_put {y : MI} {i pc : Nat} {L : Lv} {st : List Value} {u : Mem} {q1 : Nat} {q2 : Lv} {q3 : List Value} {q4 : Mem} (C : CX D rho cI cS A y p s m args meth c) (hdg : decode (mB y) pc = .ok (.putfield i, 3)) (h : xput (mC y) i pc L st u = some (.inl (q1, q2, q3, q4))) (K : KN D rho cI cS A y p l e R s m args below meth c Q q1 q2 q3 q4) {arr : Array Slot} (hP : va_P D vwCl (wl rho cI cS u) H) (hS : va_S A s.heap H locs) (hL : LR rho (mL y) L arr) : W p l e R s m args below meth c H locs 0 0 Q (F0 m pc arr (st.map (cv rho))) := by
  obtain ⟨hx, hb, hml, hr, hown, hts, hlk, hK, hN, hi, hA, hAr, hmc⟩ := C
  obtain ⟨nest, ci, k, v, a, st0, hl, rfl, hk, hf, hq⟩ := xput_inl h
  cases hq
  have hl2 := hN (mC y) i _ hmc hl
  have h3 := lk_all (P := fun i x => fOK (mC y) i x) (fun x hx => okFLs (mC y) hmc x hx) hl
  have h1 : ci < 6 := h3.1
  have h2 : k < NFs ci := h3.2.1
  have h5 : (TFs ci k).1 = RC ci ∨ TW (.sameField (RC ci) (TFs ci k).1 (TFs ci k).2.1 (TFs ci k).2.2.1) := h3.2.2.1
  have h4 := h3.2.2.2
  obtain ⟨g1, g2, g3, g4⟩ := sb_same hk h1
  generalize ho : cK a = o at g1 g2 g3 g4
  have ha : a < 112 := cK_lt (by omega)
  have hat := wl_at (rho := rho) (cI := cI) (cS := cS) (u := u) ha
  rw [cell_obj ho g1] at hat
  rw [← g3] at h2
  rw [← g4] at hf
  have hf2 : fK o k ≠ 2 := by omega
  have hin := u_wsY g1 y
  have hD := wl_D (rho := rho) (cI := cI) (cS := cS) (u := u) hi hAr
  have hsame := fld_same hts g2 h5
  have hlen : k < ((List.range (NFs o)).map (fun j => if fK o j = 2 then Value.ref (rho (fref a j)) else .int (u a (nI j)))).length := by simpa using h2
  have kk : ∀ (H1 : Heap) (locs1 : List Loc), va_P D vwCl ((wl rho cI cS u).set a (rho a, .inr (o, ((List.range (NFs o)).map (fun j => if fK o j = 2 then Value.ref (rho (fref a j)) else .int (u a (nI j)))).set k (.int v)))) H1 → va_D A ((wl rho cI cS u).set a (rho a, .inr (o, ((List.range (NFs o)).map (fun j => if fK o j = 2 then Value.ref (rho (fref a j)) else .int (u a (nI j)))).set k (.int v)))) → va_S A s.heap H1 locs1 → W p l e R s m args below meth c H1 locs1 0 0 Q (F0 m (pc + 3) arr (q3.map (cv rho))) := by
    intro H1 locs1 w1 _ w3
    rw [← obj_put (cI := cI) (cS := cS) ho g1 h2 hf2, wl_set (fun j hj => wrm_ne hj)] at w1
    exact K _ _ _ w1 w3 hL
  have hfin := fK_fin o g1 k h2 hf2
  have hty := tyFs_ok o g1 k h2
  have hnf : ∃ ty, parseFieldDescriptor (TFs o k).2.2.1 = some ty ∧ narrow ty (.int v) = .int v ∧ fits ty (.int v) = true := by
    rcases hf with hf | ⟨hf, hv⟩
    · refine ⟨.int, by rw [hty, (fK_ty o g1 k h2).1 hf], rfl, rfl⟩
    · refine ⟨.boolean, by rw [hty, (fK_ty o g1 k h2).2 hf], narZ hv, fitZ hv⟩
  obtain ⟨ty, hd, hn, hfit⟩ := hnf
  have hcl := vwCl_at o g1
  have ht0 := tyFs_ok o g1
  have hnm := nmFs o g1
  clear h3 hf hty h5 hk
  generalize tyFs o = T0 at *
  generalize TFs o = T at *
  generalize TFs ci = T' at *
  subst g2
  generalize RC o = Co at *
  generalize RC ci = Cn at *
  generalize RC (mC y) = own at *
  generalize vwCl = cl at *
  generalize mB y = cc at *
  generalize hws : wsY y = Ts at *
  generalize ((List.range (NFs o)).map (fun j => if fK o j = 2 then Value.ref (rho (fref a j)) else .int (u a (nI j)))) = fs at *
  show W p l e R s m args below meth c H locs 0 0 Q (F0 m pc arr (.int v :: .ref (rho a) :: q3.map (cv rho)))
  cases nest with
  | true => exact va_putN hx hb hts hin T0 ht0 hnm hown hK hP hD hS a hat hcl k h2 (va_Nw.use rfl (hl2 rfl)) hsame hfin hd hn hfit hlen hdg kk
  | false => exact va_put hx hb hts hin T0 ht0 hnm hown hK hP hD hS a hat hcl k h2 (hts _ (by rw [← hws]; exact TW.inY h4 y)) hsame hfin hd hn hfit hlen hdg kk
end SIM3

/-! THE LAW: the memory at its start; one call of each in turn -/
/-- the Streets at the start: nobody, no ROTA, seen never -/
def Q0 : Nat → St := fun s r _ => if s ≤ 11 ∧ r = 6 then 90 else 0
theorem cm_0 : cm Q0 u0 = u0 := by
  funext k j
  unfold cm
  have hz : ∀ k j, u0 k j = if (k < 88 ∧ k % 8 = 6) ∨ k = 103 then 90 else 0 := fun _ _ => rfl
  have hq : ∀ s r j, Q0 s r j = if s ≤ 11 ∧ r = 6 then 90 else 0 := fun _ _ _ => rfl
  by_cases h1 : k < 88
  · rw [if_pos h1]
    split
    · rw [hz, hq]
      by_cases h6 : k % 8 = 6
      · rw [if_pos ⟨by omega, h6⟩, if_pos (Or.inl ⟨h1, h6⟩)]
      · rw [if_neg (fun z => h6 z.2), if_neg (by omega)]
    · rfl
  · rw [if_neg h1]
    by_cases h2 : k = 96
    · subst h2
      rw [if_pos rfl]
      split
      · rfl
      · split
        · rfl
        · split <;> rfl
    · rw [if_neg h2]
      by_cases h3 : 98 ≤ k ∧ k ≤ 104
      · rw [if_pos h3]
        split
        · rw [hz, hq]
          by_cases h6 : k = 103
          · rw [if_pos ⟨by omega, by omega⟩, if_pos (Or.inr h6)]
          · rw [if_neg (by omega), if_neg (by omega)]
        · rfl
      · rw [if_neg h3]
        by_cases h4 : k = 109
        · rw [if_pos h4]
          subst h4
          split
          · rw [hz, hq, if_neg (by omega), if_neg (by omega)]
          · rfl
        · rw [if_neg h4]
theorem SV_0 {s : Nat} (hs : s ≤ 11) : SV (Q0 s) := by
  have hq : ∀ r j, Q0 s r j = if r = 6 then 90 else 0 := fun r j => by
    show (if s ≤ 11 ∧ r = 6 then (90 : Int32) else 0) = _
    by_cases h : r = 6
    · rw [if_pos ⟨hs, h⟩, if_pos h]
    · rw [if_neg (fun z => h z.2), if_neg h]
  refine ⟨0, 0, 0, ⟨by rw [hq]; rfl, by decide, by rw [hq]; rfl, by decide, fun i hi => absurd hi (by omega), fun i hi => ⟨90, by decide, by rw [hq]; rfl⟩, fun i hi => absurd hi (by omega)⟩, by rw [hq]; rfl, by decide⟩
theorem IN_0 : IN u0 := by
  have q0 : Q0 0 = Q0 11 := by
    funext r j
    show (if 0 ≤ 11 ∧ r = 6 then (90 : Int32) else 0) = if 11 ≤ 11 ∧ r = 6 then 90 else 0
    simp
  refine ⟨Q0, u0, cm_0.symm, q0, SV_0 (by decide), Or.inl ⟨rfl, rfl⟩, ⟨0, 0, by decide, by decide, rfl, rfl, rfl, fun i hi => absurd hi (by omega)⟩, ⟨0, by decide, rfl, rfl, fun i hi => absurd hi (by omega)⟩, ⟨0, by decide, rfl, rfl, fun i hi => absurd hi (by omega)⟩, fun j hj => rfl⟩
section LAW1
variable {p : Program} {l : Launch} {e : Env} {s : State} {m : MethodId} {below : List Frame} {meth : Method} {c : Code} {H : Heap} {locs : List Loc} {cells slots : Nat} {Q : State → Prop}
variable {D : va_G} {rho : Nat → Nat} {cI cS : ClassId} {b L : Nat} {xs : Nat → Int32} {pc : Nat} {ls : Array Slot} {rest : List Value}
/-- what holds in the law, all along its loop -/
def LX (D : va_G) (rho : Nat → Nat) (cI cS : ClassId) (b L : Nat) (xs : Nat → Int32) (p : Program) (s : State) (m : MethodId) (c : Code) : Prop :=
  p.tables.exec = Jvm.exec ∧ c.code = code ∧ c.maxLocals = 4 ∧ s.vm.findClass R_law = some m.cls ∧ (∀ w ∈ lw_tbl, w.before #[Value.ref b] s = true) ∧ va_K D vwCl (tysW cI cS) s ∧ NWok s ∧ inj112 rho ∧ (∀ k, k < 112 → s.heap.size ≤ rho k) ∧ va_X b L xs s s.heap ∧ b < s.heap.size ∧ L ≤ 3072
abbrev A0 (s : State) : Nat → Prop := fun q => s.heap.size ≤ q
/-- one of the five ints behind a call's number -/
abbrev xat (xs : Nat → Int32) (i j : Nat) : Int32 := xs (nI i + Int32.ofInt (j : Int)).toNatClampNeg
theorem xat_in {i j : Nat} (hj : j ≤ 5) (hi : i + 6 ≤ L) (hL : L ≤ 3072) : vp_in (nI i + Int32.ofInt (j : Int)) L := by
  have e : Int32.ofInt (j : Int) = nI j := rfl
  rw [e, nI_add]
  exact vp_in_nI (by omega) (by omega)
abbrev argc (q j : Nat) : Prop := decode code q = .ok (.aload_n 0, 1) ∧ decode code (q + 1) = .ok (.iload_n 3, 1) ∧ decode code (q + 2) = .ok (.iconst (j : Int), 1) ∧ decode code (q + 3) = .ok (.iadd, 1) ∧ decode code (q + 4) = .ok (.iaload, 1)
theorem kl_arg {i j q0 q1 : Nat} (X : LX D rho cI cS b L xs p s m c) (hd : argc pc j) (hj : j ≤ 5) (hi : i + 6 ≤ L) (hS : va_S (A0 s) s.heap H locs) (hls : lv_has ls 4 [(3, .int (nI i)), (0, .ref b), (1, .ref q0), (2, .ref q1)])
    (kk : W p l e room_1 s m #[Value.ref b] below meth c H locs cells slots Q (F0 m (pc + 5) ls (.int (xat xs i j) :: rest))) : W p l e room_1 s m #[Value.ref b] below meth c H locs cells slots Q (F0 m pc ls rest) := by
  obtain ⟨hx, hb, hml, hown, hts, hK, hN, hi1, hA, hX, hbl, hL⟩ := X
  obtain ⟨d0, d1, d2, d3, d4⟩ := hd
  refine lv_aload_n hx hb d0 rfl (lv_at hls 1 rfl) ?_
  refine lv_iload_n hx hb d1 rfl (lv_at hls 0 rfl) ?_
  refine lv_iconst (v := Int32.ofInt (j : Int)) hx hb d2 rfl ?_
  refine lv_iadd hx hb d3 ?_
  exact va_sld hx hb hX hbl (Nat.not_le.mpr hbl) hS (xat_in hj hi hL) d4 kk
theorem kl_args {i q0 q1 : Nat} (X : LX D rho cI cS b L xs p s m c) (hi : i + 6 ≤ L) (hS : va_S (A0 s) s.heap H locs) (hls : lv_has ls 4 [(3, .int (nI i)), (0, .ref b), (1, .ref q0), (2, .ref q1)]) : ∀ (k : Nat), k ≤ 5 → ∀ (pc : Nat), (∀ t, t < k → argc (pc + 5 * t) (t + 1)) →
    W p l e room_1 s m #[Value.ref b] below meth c H locs cells slots Q (F0 m (pc + 5 * k) ls (((List.range k).map (fun t => Value.int (xat xs i (t + 1)))).reverse ++ rest)) → W p l e room_1 s m #[Value.ref b] below meth c H locs cells slots Q (F0 m pc ls rest) := by
  intro k
  induction k with
  | zero => intro _ pc _ kk; exact kk
  | succ k ih =>
    intro hk pc hd kk
    refine ih (by omega) pc (fun t ht => hd t (by omega)) ?_
    refine kl_arg X (hd k (by omega)) (by omega) hi hS hls ?_
    rw [List.range_succ, List.map_append, List.reverse_append] at kk
    exact kk
theorem goodL {z : MI} {i : Nat} (hl : TW (.methodLink R_law i (mN z))) (hz : OKm z) (hs : mS z = false) : GoodIn lw_tbl (wsV R_law i (RC (mC z)) (mN z) (wsY z)) := by
  obtain ⟨h1, h2, ⟨h3, -⟩, -, h5, -⟩ := hz
  obtain ⟨h6, h7⟩ := h5 hs
  rw [h3] at h7 h2
  intro w hw
  unfold wsV at hw
  rcases List.mem_append.mp hw with hw | hw
  · have key : TW w := by
      simp only [List.mem_cons, List.not_mem_nil, or_false] at hw
      rcases hw with rfl | rfl | rfl | rfl
      · exact hl
      · exact h6
      · exact h7
      · exact h2
    exact ⟨key.1, good_of_word key.2⟩
  · rcases List.mem_cons.mp hw with rfl | hw
    · exact ⟨h1.1, good_of_word h1.2⟩
    · exact ⟨(List.mem_filter.mp hw).1, good_of_word (List.mem_filter.mp hw).2⟩
theorem kl_call {z : MI} {a idx : Nat} {vs : List Value} {u u' : Mem} {r : Option Value} (X : LX D rho cI cS b L xs p s m c) (hl : TW (.methodLink R_law idx (mN z))) (hok : OKm z) (hs : mS z = false) (hH : mH z ≤ 9) (ha : cK a = mC z) (hcal : cal z (.ref a :: vs) u = some (r, u')) (hn : vs.length = mP z) (hrest : (rest.map fun v => v.category).sum ≤ 8) (hdg : decode code pc = .ok (.invokevirtual idx, 3))
    (hP : va_P D vwCl (wl rho cI cS u) H) (hS : va_S (A0 s) s.heap H locs) (hsz : ls.size = 4)
    (kk : ∀ (H1 : Heap) (locs1 : List Loc), va_P D vwCl (wl rho cI cS u') H1 → va_S (A0 s) s.heap H1 locs1 → W p l e room_1 s m #[Value.ref b] below meth c H1 locs1 cells slots Q (F0 m (pc + 3) ls ((r.map (cv rho)).toList ++ rest))) (hcs : cells ≤ 600000 ∧ slots ≤ 7302250) : W p l e room_1 s m #[Value.ref b] below meth c H locs cells slots Q (F0 m pc ls ((vs.map (cv rho)).reverse ++ .ref (rho a) :: rest)) := by
  obtain ⟨hx, hb, hml, hown, hts, hK, hN, hi, hA, hX, hbl, hL⟩ := X
  have hG := goodL hl hok hs
  have hM := ct_of (l := l) (D := D) (rho := rho) (cI := cI) (cS := cS) hok hcal
  obtain ⟨-, -, ⟨hz1, hz2, hz3, hz4⟩, -, -, hz5, hz6, hz7⟩ := hok
  have hsub : ∀ q, va_A (wl rho cI cS u) H.size q → A0 s q := wl_A hA (fun q hq => Nat.le_trans hS.1 hq)
  have hwd : ∀ U : State, U.heap = H → s.WarmedH U.vm → WD D rho cI cS u H.size U := fun U hU hW => ⟨by rw [hU], by rw [hU]; exact hP, va_K.moved hW.alike hK, hi, hN.warm hW⟩
  have hcw := cwV (R := room_1) (rm := rmY z) (mc := 0) (ms := 0) (mP z) hts hG rfl rfl rfl ⟨hz1, hz2, hz3, hz4⟩ ⟨by show mH z + 1 ≤ 10; omega, by show 8 + (mL z + 11) + 34 * mH z ≤ 378; omega⟩
  have hal : a < 112 := cK_lt (by omega)
  have hat := wl_at (rho := rho) (cI := cI) (cS := cS) (u := u) hal
  rw [cell_obj ha hz7] at hat
  have hrec := va_recv hK hP (vwCl_at (mC z) hz7) hat
  have hrun := va_runV (e := e) (below := below) (meth := meth) (locs := locs) (cells := cells) (slots := slots) (b := rho a) (As := vs.map (cv rho)) (rest := rest) (g := F0 m pc ls ((vs.map (cv rho)).reverse ++ .ref (rho a) :: rest)) ⟨hx, hb, hml, hown, hts⟩ (hM H.size) hcw ⟨WD_blind, hrec, fun U hU hW => ⟨rfl, hwd U hU hW⟩⟩ rfl (by rw [List.length_map]; exact hn) hsz rfl (lv_room hrest) hdg ⟨hcs.1, hcs.2⟩
  exact va_callg (a := #[]) hrun hS (fun q _ hq => hsub q hq) hsub (fun t H1 locs1 e1 hP1 hS1 => kk H1 locs1 (by rw [← e1]; exact hP1) hS1)
end LAW1

/-! the law from its entry -/
theorem u_lw {cl : Nat} (hc : cl < 6) : ∀ w ∈ u_ws (RC cl) (TFs cl) (NFs cl), w ∈ lw_tbl := by
  intro w hw
  obtain ⟨k, hk, rfl⟩ := List.mem_map.mp hw
  exact (wfs cl hc k (List.mem_range.mp hk)).1
theorem tw_inst {cl : Nat} (hc : cl < 6) : TW (.instantiable (RC cl) (NFs cl)) := by
  rcases (show cl = 0 ∨ cl = 1 ∨ cl = 2 ∨ cl = 3 ∨ cl = 4 ∨ cl = 5 by omega) with rfl | rfl | rfl | rfl | rfl | rfl
  · exact twnN_1
  · exact twnP_1
  · exact twnS_1
  · exact twnT_1
  · exact twnO_1
  · exact twnM_1
theorem tw_ao : Cond.arrayOver (.object "OnePortrait$Street") ∈ lw_tbl := List.mem_append_right _ (List.mem_of_getElem? (i := 64) (by decide +kernel))
theorem gL {z : MI} (h : TW (.code (mN z) (mB z) (mL z) (mR z))) : GoodIn lw_tbl (wsY z) := by
  intro w hw
  rcases List.mem_cons.mp hw with rfl | hw
  · exact ⟨h.1, good_of_word h.2⟩
  · exact ⟨(List.mem_filter.mp hw).1, good_of_word (List.mem_filter.mp hw).2⟩
theorem twlL_1 : TW (.classLink R_law 7 (RC 4)) := tw_t 8 (by decide +kernel) (by decide +kernel)
theorem twlL_2 : TW (.methodLink R_law 9 (mN yO_init)) := tw_t 10 (by decide +kernel) (by decide +kernel)
theorem twlL_3 : TW (.classLink R_law 10 (RC 5)) := tw_t 584 (by decide +kernel) (by decide +kernel)
theorem twlL_4 : TW (.methodLink R_law 12 (mN yM_init)) := tw_t 586 (by decide +kernel) (by decide +kernel)
abbrev mIdx : List Nat := [96, 97, 98, 99, 100, 101, 102, 103, 104, 105, 106, 107, 108, 109, 110, 111]
theorem clO : clos oIdx := by
  unfold clos
  decide +kernel
theorem clM : clos mIdx := by
  unfold clos
  decide +kernel
theorem allIdx : ∀ k, k < 112 → k ∈ oIdx ++ mIdx := by decide +kernel
theorem oIdx_lt : ∀ k ∈ oIdx, k < 96 := by decide +kernel
theorem mIdx_ge : ∀ k ∈ mIdx, ¬ k < 96 := by decide +kernel
section LAW4
variable {D : va_G} {cI cS : ClassId} {r : Nat → Nat} {H : Heap} {A : Nat → Prop}
theorem wlx_wl {idx : List Nat} (h : ∀ k, k < 112 → k ∈ idx) (hP : va_P D vwCl (wlx cI cS r idx) H) : va_P D vwCl (wl r cI cS u0) H := by
  intro k q hq
  obtain ⟨hk, rfl⟩ := wl_in hq
  obtain ⟨i, hi⟩ := List.getElem?_of_mem (h k hk)
  refine hP i _ ?_
  unfold wlx
  rw [List.getElem?_map, hi]
  rfl
theorem wlx_inj {idx : List Nat} (h : ∀ k, k < 112 → k ∈ idx) (hD : va_D A (wlx cI cS r idx)) : inj112 r ∧ ∀ k, k < 112 → A (r k) := by
  have at' : ∀ k, k < 112 → ∃ i : Nat, idx[i]? = some k ∧ (wlx cI cS r idx)[i]? = some (r k, cellE r cI cS u0 k) := by
    intro k hk
    obtain ⟨i, hi⟩ := List.getElem?_of_mem (h k hk)
    refine ⟨i, hi, ?_⟩
    unfold wlx
    rw [List.getElem?_map, hi]
    rfl
  refine ⟨fun i j hi hj e => ?_, fun k hk => ?_⟩
  · obtain ⟨a, a1, a2⟩ := at' i hi
    obtain ⟨b, b1, b2⟩ := at' j hj
    have := hD.1 a b _ _ a2 b2 e
    subst this
    exact Option.some.inj (a1.symm.trans b1)
  · obtain ⟨a, a1, a2⟩ := at' k hk
    exact hD.2 a _ a2
end LAW4
set_option maxRecDepth 20000 in
/-- THE LAW, from its entry -/
theorem whole_start {p : Program} {e : Env} {s : State} {m : MethodId} {below : List Frame} {meth : Method} {c : Code} (l : Launch) (hflags : l.flags = flags0) {b L : Nat} {xs : Nat → Int32} (hL : L ≤ 3072) (C0 : lw_At p s m meth c b L xs) : W p l e room_1 s m #[Value.ref b] below meth c s.heap [] 0 0 (lw_Z below #[Value.ref b] s) (entryFrame m ([Value.ref b] : List Value).toArray 4) := by
  obtain ⟨hx, hb, hr, hml, hown, hts, hX, hbl, hlocks, hgv⟩ := C0
  have hA : ∀ q : Nat, s.heap.size ≤ q → A0 s q := fun _ h => h
  have hkn : ∀ cc : Nat, ∃ q : ClassId × (Nat → Nat), cc < 6 → u_Kn s (RC cc) (TFs cc) (NFs cc) q.1 q.2 := by
    intro cc
    by_cases h : cc < 6
    · obtain ⟨a1, a2, a3⟩ := u_known (C := RC cc) (T := TFs cc) (N := NFs cc) (n := NFs cc) hts (u_lw h) (hts _ (tw_inst h).1)
      exact ⟨(a1, a2), fun _ => a3⟩
    · exact ⟨(0, fun _ => 0), fun z => absurd z h⟩
  obtain ⟨F, hF⟩ : ∃ F : Nat → ClassId × (Nat → Nat), ∀ cc, cc < 6 → u_Kn s (RC cc) (TFs cc) (NFs cc) (F cc).1 (F cc).2 := ⟨fun k => Classical.choose (hkn k), fun k => Classical.choose_spec (hkn k)⟩
  obtain ⟨D, hDD⟩ : ∃ D : va_G, D = (fun k => (F k).1, fun k => (F k).2) := ⟨_, rfl⟩
  obtain ⟨cI, kI, compI, i1, i2, i3⟩ := Cond.arrayClass_spec (hts _ tw_int.1)
  have ho := hts _ tw_ao
  obtain ⟨comp, cS, kS, s1, s2, s3, s4, s5⟩ := Cond.arrayOver_spec ho
  have hK : va_K D vwCl (tysW cI cS) s := by
    refine ⟨fun k q hq => ?_, fun k q hq => ?_⟩
    · have h6 : k < 6 := by
        have := (List.getElem?_eq_some_iff.mp hq).1
        simpa using this
      rw [vwCl_at k h6] at hq
      cases hq
      rw [hDD]
      exact hF k h6
    · match k, hq with
      | 0, hq =>
        cases hq
        exact ⟨fun n z => ⟨(fun k h => by cases h), kI, i2, compI, i3⟩, i1⟩
      | 1, hq =>
        cases hq
        exact ⟨fun n z => ⟨(fun k h => by cases h), kS, s3, comp, s4⟩, kS, comp, s3, s4, s1, s5⟩
      | k + 2, hq => simp at hq
  clear hDD hF
  have hKK : KK D cI cS s := ⟨hK, va_AO.of ho⟩
  have hl := lv_entry ([.ref b]) (n := 4) (Nat.le_of_ble_eq_true rfl)
  rw [lg_entry_eq]
  generalize (lg_sl ([.ref b]) ++ List.replicate (4 - (lg_sl ([.ref b])).length) Slot.unset).toArray = ls at hl ⊢
  have hl : lv_has ls 4 [(0, .ref b)] := hl
  have hS : va_S (A0 s) s.heap s.heap [] := va_S.rf
  have hP : va_P D vwCl [] s.heap := fun k q h => by simp at h
  have hD : va_D (A0 s) [] := ⟨fun i j p q h => by simp at h, fun k q h => by simp at h⟩
  refine kc_new3 (z := yO_init) (n0 := 95) (k0 := 790) (kz := 88) (idx := oIdx) (ix1 := 7) (ix2 := 9) (Ts := lw_tbl) (own := R_law) hx hb hml hown hts hKK hA (by decide) (u_lw (by decide)) (gL twnO_4) (hts _ twlL_1.1) (hts _ twnO_1.1) (hts _ twnO_2.1) (hts _ twlL_2.1) (hts _ twnO_3.1) (con_O_init l D cI cS) rfl rfl rfl (by decide) (by decide) (by show 96 ≤ 600000; omega) (by show 798 ≤ 7302250; omega) (by simp) hl.1 dl_0 dl_3 dl_4 hP hD hS (fun rO H locs hP hD hS => ?_)
  refine lv_astore_n hx hb dl_7 rfl hl (by decide) rfl (fun ls hl => ?_)
  refine kc_new3 (z := yM_init) (n0 := 15) (k0 := 1044) (kz := 96) (idx := mIdx) (ix1 := 10) (ix2 := 12) (Ts := lw_tbl) (own := R_law) hx hb hml hown hts hKK hA (by decide) (u_lw (by decide)) (gL twnM_4) (hts _ twlL_3.1) (hts _ twnM_1.1) (hts _ twnM_2.1) (hts _ twlL_4.1) (hts _ twnM_3.1) (con_M_init l D cI cS) rfl rfl rfl (by decide) (by decide) (by show 112 ≤ 600000; omega) (by show 1869 ≤ 7302250; omega) (by simp) hl.1 dl_8 dl_11 dl_12 hP hD hS (fun rM H locs hP hD hS => ?_)
  refine lv_astore_n hx hb dl_15 rfl hl (by decide) rfl (fun ls hl => ?_)
  refine lv_iconst (v := 0) hx hb dl_16 (by decide) ?_
  refine lv_istore_n hx hb dl_17 rfl hl (by decide) rfl (fun ls hl => ?_)
  obtain ⟨rho, hrho⟩ : ∃ rho : Nat → Nat, rho = fun k => if k < 96 then rO k else rM k := ⟨_, rfl⟩
  have mO : ∀ k ∈ oIdx, rho k = rO k := fun k hk => by
    rw [hrho]
    exact if_pos (oIdx_lt k hk)
  have mM : ∀ k ∈ mIdx, rho k = rM k := fun k hk => by
    rw [hrho]
    exact if_neg (mIdx_ge k hk)
  have e1 : wlx cI cS rho (oIdx ++ mIdx) = [] ++ wlx cI cS rO oIdx ++ wlx cI cS rM mIdx := by
    rw [wlx_app, wlx_congr clO mO, wlx_congr clM mM]
    rfl
  rw [← e1] at hP hD
  have hPw := wlx_wl allIdx hP
  obtain ⟨hinj, hAr⟩ := wlx_inj allIdx hD
  have q1 : rO 88 = rho 88 := by rw [hrho]; rfl
  have q2 : rM 96 = rho 96 := by rw [hrho]; rfl
  have hls : lv_has ls 4 [(3, .int 0), (2, .ref (rM 96)), (1, .ref (rO 88)), (0, .ref b)] := hl
  rw [q1, q2] at hls
  have X : LX D rho cI cS b L xs p s m c := ⟨hx, hb, hml, hown, hts, hK, NWok.of hts, hinj, hAr, hX, hbl, hL⟩
  refine W.widen (k := 600000) (n := 7302250) (by show 112 ≤ 600000; omega) (by show 1869 ≤ 7302250; omega) ?_
  exact lw_loop X hr hlocks (L + 1) 0 (by omega) (by omega) u0 H locs ls IN_0 hPw hS (lv_sub hls [0, 3, 2, 1] rfl)

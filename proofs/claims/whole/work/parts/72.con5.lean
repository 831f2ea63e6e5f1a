section CON7
theorem clP : clos ([89, 90] ++ sIdx 3 8) := by
  unfold clos
  decide +kernel
theorem clT : clos [91, 92] := by
  unfold clos
  decide +kernel
theorem clN : clos [93, 94] := by
  unfold clos
  decide +kernel
abbrev oIdx : List Nat := [88] ++ sIdx 0 1 ++ sIdx 1 1 ++ sIdx 2 1 ++ ([89, 90] ++ sIdx 3 8) ++ [91, 92] ++ [93, 94] ++ [95]
set_option maxRecDepth 20000 in
theorem con_O_init (l : Launch) (D : va_G) (cI cS : ClassId) : CN l D cI cS yO_init 95 790 oIdx 88 := by
  refine kc_met (ix := 1) (by decide) rfl rfl rfl (by decide) (by decide) (by decide) twO_init_0 dcO_init_0 dcO_init_1 ?_
  intro p e s m below meth c A h0 ls C hP hD hls
  have hx := C.1
  have hb := C.2.1
  have hS : va_S A s.heap s.heap [] := va_S.rf
  have hP : va_P D vwCl ([(h0, .inr (4, [.null, .null, .null, .int 0, .null, .null, .null, .null]))] : va_W) s.heap := hP
  have hD : va_D A ([(h0, .inr (4, [.null, .null, .null, .int 0, .null, .null, .null, .null]))] : va_W) := hD
  refine lv_aload_n hx hb dcO_init_4 rfl (lv_at hls 0 rfl) ?_
  refine kc_newy (z := yS_init) (ix1 := 7) (ix2 := 9) (idx := sIdx 0 1) (kz := (8 * 0)) C (by decide) (con_S_init l D cI cS 0 (by omega)) twlOS_1 twnS_1 twnS_2 twlOS_2 twnS_3 twnS_4 rfl rfl rfl (by decide) (by decide) (by show 8 ≤ 95; omega) (by show 60 ≤ 790; omega) (by simp [Value.category]) hls.1 dcO_init_5 dcO_init_8 dcO_init_9 hP hD hS (fun r0 H locs hP hD hS => ?_)
  refine kc_put (i := 10) (k := 0) (q0 := 0) (ty := .object (RC 2)) C rfl rfl rfl rfl rfl (Nat.le_of_ble_eq_true rfl) hP hD hS dcO_init_12 (fun H locs hP hD hS => ?_)
  have hP : va_P D vwCl ([(h0, .inr (4, [.ref (r0 (8 * 0)), .null, .null, .int 0, .null, .null, .null, .null]))] ++ wlx cI cS r0 (sIdx 0 1) : va_W) H := hP
  have hD : va_D A ([(h0, .inr (4, [.ref (r0 (8 * 0)), .null, .null, .int 0, .null, .null, .null, .null]))] ++ wlx cI cS r0 (sIdx 0 1) : va_W) := hD
  refine W.widen (k := 8) (n := 60) (by show _ ≤ _; exact Nat.le_refl _) (by exact Nat.le_refl _) ?_
  refine lv_aload_n hx hb dcO_init_15 rfl (lv_at hls 0 rfl) ?_
  refine kc_newy (z := yS_init) (ix1 := 7) (ix2 := 9) (idx := sIdx 1 1) (kz := (8 * 1)) C (by decide) (con_S_init l D cI cS 1 (by omega)) twlOS_1 twnS_1 twnS_2 twlOS_2 twnS_3 twnS_4 rfl rfl rfl (by decide) (by decide) (by show 16 ≤ 95; omega) (by show 120 ≤ 790; omega) (by simp [Value.category]) hls.1 dcO_init_16 dcO_init_19 dcO_init_20 hP hD hS (fun r1 H locs hP hD hS => ?_)
  refine kc_put (i := 16) (k := 1) (q0 := 0) (ty := .object (RC 2)) C rfl rfl rfl rfl rfl (Nat.le_of_ble_eq_true rfl) hP hD hS dcO_init_23 (fun H locs hP hD hS => ?_)
  have hP : va_P D vwCl ([(h0, .inr (4, [.ref (r0 (8 * 0)), .ref (r1 (8 * 1)), .null, .int 0, .null, .null, .null, .null]))] ++ wlx cI cS r0 (sIdx 0 1) ++ wlx cI cS r1 (sIdx 1 1) : va_W) H := hP
  have hD : va_D A ([(h0, .inr (4, [.ref (r0 (8 * 0)), .ref (r1 (8 * 1)), .null, .int 0, .null, .null, .null, .null]))] ++ wlx cI cS r0 (sIdx 0 1) ++ wlx cI cS r1 (sIdx 1 1) : va_W) := hD
  refine W.widen (k := 16) (n := 120) (by show _ ≤ _; exact Nat.le_refl _) (by exact Nat.le_refl _) ?_
  refine lv_aload_n hx hb dcO_init_26 rfl (lv_at hls 0 rfl) ?_
  refine kc_newy (z := yS_init) (ix1 := 7) (ix2 := 9) (idx := sIdx 2 1) (kz := (8 * 2)) C (by decide) (con_S_init l D cI cS 2 (by omega)) twlOS_1 twnS_1 twnS_2 twlOS_2 twnS_3 twnS_4 rfl rfl rfl (by decide) (by decide) (by show 24 ≤ 95; omega) (by show 180 ≤ 790; omega) (by simp [Value.category]) hls.1 dcO_init_27 dcO_init_30 dcO_init_31 hP hD hS (fun r2 H locs hP hD hS => ?_)
  refine kc_put (i := 19) (k := 2) (q0 := 0) (ty := .object (RC 2)) C rfl rfl rfl rfl rfl (Nat.le_of_ble_eq_true rfl) hP hD hS dcO_init_34 (fun H locs hP hD hS => ?_)
  have hP : va_P D vwCl ([(h0, .inr (4, [.ref (r0 (8 * 0)), .ref (r1 (8 * 1)), .ref (r2 (8 * 2)), .int 0, .null, .null, .null, .null]))] ++ wlx cI cS r0 (sIdx 0 1) ++ wlx cI cS r1 (sIdx 1 1) ++ wlx cI cS r2 (sIdx 2 1) : va_W) H := hP
  have hD : va_D A ([(h0, .inr (4, [.ref (r0 (8 * 0)), .ref (r1 (8 * 1)), .ref (r2 (8 * 2)), .int 0, .null, .null, .null, .null]))] ++ wlx cI cS r0 (sIdx 0 1) ++ wlx cI cS r1 (sIdx 1 1) ++ wlx cI cS r2 (sIdx 2 1) : va_W) := hD
  refine W.widen (k := 24) (n := 180) (by show _ ≤ _; exact Nat.le_refl _) (by exact Nat.le_refl _) ?_
  refine lv_aload_n hx hb dcO_init_37 rfl (lv_at hls 0 rfl) ?_
  refine lv_iconst (v := 0) hx hb dcO_init_38 (by decide) ?_
  refine kc_put (i := 22) (k := 3) (q0 := 0) (ty := .boolean) C rfl rfl rfl (by decide) (by decide) (Nat.le_of_ble_eq_true rfl) hP hD hS dcO_init_39 (fun H locs hP hD hS => ?_)
  have hP : va_P D vwCl ([(h0, .inr (4, [.ref (r0 (8 * 0)), .ref (r1 (8 * 1)), .ref (r2 (8 * 2)), .int 0, .null, .null, .null, .null]))] ++ wlx cI cS r0 (sIdx 0 1) ++ wlx cI cS r1 (sIdx 1 1) ++ wlx cI cS r2 (sIdx 2 1) : va_W) H := hP
  have hD : va_D A ([(h0, .inr (4, [.ref (r0 (8 * 0)), .ref (r1 (8 * 1)), .ref (r2 (8 * 2)), .int 0, .null, .null, .null, .null]))] ++ wlx cI cS r0 (sIdx 0 1) ++ wlx cI cS r1 (sIdx 1 1) ++ wlx cI cS r2 (sIdx 2 1) : va_W) := hD
  refine lv_aload_n hx hb dcO_init_42 rfl (lv_at hls 0 rfl) ?_
  refine kc_newy (z := yP_init) (ix1 := 26) (ix2 := 28) (idx := ([89, 90] ++ sIdx 3 8)) (kz := 89) C (by decide) (con_P_init l D cI cS) twlOP_1 twnP_1 twnP_2 twlOP_2 twnP_3 twnP_4 rfl rfl rfl (by decide) (by decide) (by show 90 ≤ 95; omega) (by show 671 ≤ 790; omega) (by simp [Value.category]) hls.1 dcO_init_43 dcO_init_46 dcO_init_47 hP hD hS (fun rP H locs hP hD hS => ?_)
  refine kc_put (i := 29) (k := 4) (q0 := 0) (ty := .object (RC 1)) C rfl rfl rfl rfl rfl (Nat.le_of_ble_eq_true rfl) hP hD hS dcO_init_50 (fun H locs hP hD hS => ?_)
  have hP : va_P D vwCl ([(h0, .inr (4, [.ref (r0 (8 * 0)), .ref (r1 (8 * 1)), .ref (r2 (8 * 2)), .int 0, .ref (rP 89), .null, .null, .null]))] ++ wlx cI cS r0 (sIdx 0 1) ++ wlx cI cS r1 (sIdx 1 1) ++ wlx cI cS r2 (sIdx 2 1) ++ wlx cI cS rP ([89, 90] ++ sIdx 3 8) : va_W) H := hP
  have hD : va_D A ([(h0, .inr (4, [.ref (r0 (8 * 0)), .ref (r1 (8 * 1)), .ref (r2 (8 * 2)), .int 0, .ref (rP 89), .null, .null, .null]))] ++ wlx cI cS r0 (sIdx 0 1) ++ wlx cI cS r1 (sIdx 1 1) ++ wlx cI cS r2 (sIdx 2 1) ++ wlx cI cS rP ([89, 90] ++ sIdx 3 8) : va_W) := hD
  refine W.widen (k := 90) (n := 671) (by show _ ≤ _; exact Nat.le_refl _) (by exact Nat.le_refl _) ?_
  refine lv_aload_n hx hb dcO_init_53 rfl (lv_at hls 0 rfl) ?_
  refine kc_newy (z := yT_init) (ix1 := 33) (ix2 := 35) (idx := [91, 92]) (kz := 91) C (by decide) (con_T_init l D cI cS) twlOT_1 twnT_1 twnT_2 twlOT_2 twnT_3 twnT_4 rfl rfl rfl (by decide) (by decide) (by show 92 ≤ 95; omega) (by show 769 ≤ 790; omega) (by simp [Value.category]) hls.1 dcO_init_54 dcO_init_57 dcO_init_58 hP hD hS (fun rT H locs hP hD hS => ?_)
  refine kc_put (i := 36) (k := 5) (q0 := 0) (ty := .object (RC 3)) C rfl rfl rfl rfl rfl (Nat.le_of_ble_eq_true rfl) hP hD hS dcO_init_61 (fun H locs hP hD hS => ?_)
  have hP : va_P D vwCl ([(h0, .inr (4, [.ref (r0 (8 * 0)), .ref (r1 (8 * 1)), .ref (r2 (8 * 2)), .int 0, .ref (rP 89), .ref (rT 91), .null, .null]))] ++ wlx cI cS r0 (sIdx 0 1) ++ wlx cI cS r1 (sIdx 1 1) ++ wlx cI cS r2 (sIdx 2 1) ++ wlx cI cS rP ([89, 90] ++ sIdx 3 8) ++ wlx cI cS rT [91, 92] : va_W) H := hP
  have hD : va_D A ([(h0, .inr (4, [.ref (r0 (8 * 0)), .ref (r1 (8 * 1)), .ref (r2 (8 * 2)), .int 0, .ref (rP 89), .ref (rT 91), .null, .null]))] ++ wlx cI cS r0 (sIdx 0 1) ++ wlx cI cS r1 (sIdx 1 1) ++ wlx cI cS r2 (sIdx 2 1) ++ wlx cI cS rP ([89, 90] ++ sIdx 3 8) ++ wlx cI cS rT [91, 92] : va_W) := hD
  refine W.widen (k := 92) (n := 769) (by show _ ≤ _; exact Nat.le_refl _) (by exact Nat.le_refl _) ?_
  refine lv_aload_n hx hb dcO_init_64 rfl (lv_at hls 0 rfl) ?_
  refine kc_newyx (z := yN_init) (vs := [.int 12]) (pcx := 71) (ix1 := 40) (ix2 := 42) (idx := [93, 94]) (kz := 93) C (by decide) (con_N_init_12 l D cI cS) twlON_1 twnN_1 twnN_2 twlON_2 twnN_3 twnN_4 rfl rfl rfl (by decide) (by decide) (by show 94 ≤ 95; omega) (by show 783 ≤ 790; omega) (by simp [Value.category]) hls.1 dcO_init_65 dcO_init_68 dcO_init_71 (fun q H locs cells slots K => lv_bipush hx hb dcO_init_69 (by decide) K) hP hD hS (fun rN H locs hP hD hS => ?_)
  refine kc_put (i := 45) (k := 6) (q0 := 0) (ty := .object (RC 0)) C rfl rfl rfl rfl rfl (Nat.le_of_ble_eq_true rfl) hP hD hS dcO_init_74 (fun H locs hP hD hS => ?_)
  have hP : va_P D vwCl ([(h0, .inr (4, [.ref (r0 (8 * 0)), .ref (r1 (8 * 1)), .ref (r2 (8 * 2)), .int 0, .ref (rP 89), .ref (rT 91), .ref (rN 93), .null]))] ++ wlx cI cS r0 (sIdx 0 1) ++ wlx cI cS r1 (sIdx 1 1) ++ wlx cI cS r2 (sIdx 2 1) ++ wlx cI cS rP ([89, 90] ++ sIdx 3 8) ++ wlx cI cS rT [91, 92] ++ wlx cI cS rN [93, 94] : va_W) H := hP
  have hD : va_D A ([(h0, .inr (4, [.ref (r0 (8 * 0)), .ref (r1 (8 * 1)), .ref (r2 (8 * 2)), .int 0, .ref (rP 89), .ref (rT 91), .ref (rN 93), .null]))] ++ wlx cI cS r0 (sIdx 0 1) ++ wlx cI cS r1 (sIdx 1 1) ++ wlx cI cS r2 (sIdx 2 1) ++ wlx cI cS rP ([89, 90] ++ sIdx 3 8) ++ wlx cI cS rT [91, 92] ++ wlx cI cS rN [93, 94] : va_W) := hD
  refine W.widen (k := 94) (n := 783) (by show _ ≤ _; exact Nat.le_refl _) (by exact Nat.le_refl _) ?_
  refine kc_newf (i := 49) (k := 7) (N := 7) (n := 7) (w := 2) (ty := .array .int) (pc2 := 80) C (fun H locs cells slots K => lv_bipush hx hb dcO_init_78 (by decide) K) rfl rfl rfl (fun _ => rfl) (fun _ => rfl) (Nat.le_of_ble_eq_true rfl) (by decide) (by decide) (by decide) (by decide) (by decide) rfl hP hD hS dcO_init_77 dcO_init_80 dcO_init_82 (lv_at hls 0 rfl) (fun q H locs hP hD hS => ?_)
  have hP : va_P D vwCl ([(h0, .inr (4, [.ref (r0 (8 * 0)), .ref (r1 (8 * 1)), .ref (r2 (8 * 2)), .int 0, .ref (rP 89), .ref (rT 91), .ref (rN 93), .ref q]))] ++ wlx cI cS r0 (sIdx 0 1) ++ wlx cI cS r1 (sIdx 1 1) ++ wlx cI cS r2 (sIdx 2 1) ++ wlx cI cS rP ([89, 90] ++ sIdx 3 8) ++ wlx cI cS rT [91, 92] ++ wlx cI cS rN [93, 94] ++ [zr cI q 7] : va_W) H := hP
  have hD : va_D A ([(h0, .inr (4, [.ref (r0 (8 * 0)), .ref (r1 (8 * 1)), .ref (r2 (8 * 2)), .int 0, .ref (rP 89), .ref (rT 91), .ref (rN 93), .ref q]))] ++ wlx cI cS r0 (sIdx 0 1) ++ wlx cI cS r1 (sIdx 1 1) ++ wlx cI cS r2 (sIdx 2 1) ++ wlx cI cS rP ([89, 90] ++ sIdx 3 8) ++ wlx cI cS rT [91, 92] ++ wlx cI cS rN [93, 94] ++ [zr cI q 7] : va_W) := hD
  obtain ⟨r, hr⟩ : ∃ r : Nat → Nat, r = fun k => if k < 8 then r0 k else if k < 16 then r1 k else if k < 24 then r2 k else if k < 88 ∨ k = 89 ∨ k = 90 then rP k else if k = 91 ∨ k = 92 then rT k else if k = 93 ∨ k = 94 then rN k else if k = 95 then q else h0 := ⟨_, rfl⟩
  have m0 : ∀ k ∈ sIdx 0 1, r k = r0 k := fun k hk => by
    have := sIdx_mem.mp hk
    rw [hr]
    exact if_pos (by omega)
  have m1 : ∀ k ∈ sIdx 1 1, r k = r1 k := fun k hk => by
    have := sIdx_mem.mp hk
    rw [hr]
    exact (if_neg (by omega)).trans (if_pos (by omega))
  have m2 : ∀ k ∈ sIdx 2 1, r k = r2 k := fun k hk => by
    have := sIdx_mem.mp hk
    rw [hr]
    exact (if_neg (by omega)).trans ((if_neg (by omega)).trans (if_pos (by omega)))
  have mP : ∀ k ∈ [89, 90] ++ sIdx 3 8, r k = rP k := fun k hk => by
    have h1 : 24 ≤ k ∧ (k < 88 ∨ k = 89 ∨ k = 90) := by
      rcases List.mem_append.mp hk with h | h
      · simp only [List.mem_cons, List.not_mem_nil, or_false] at h
        omega
      · have := sIdx_mem.mp h
        omega
    rw [hr]
    exact (if_neg (by omega)).trans ((if_neg (by omega)).trans ((if_neg (by omega)).trans (if_pos h1.2)))
  have mT : ∀ k ∈ [91, 92], r k = rT k := fun k hk => by
    simp only [List.mem_cons, List.not_mem_nil, or_false] at hk
    rw [hr]
    rcases hk with rfl | rfl <;> rfl
  have mN : ∀ k ∈ [93, 94], r k = rN k := fun k hk => by
    simp only [List.mem_cons, List.not_mem_nil, or_false] at hk
    rw [hr]
    rcases hk with rfl | rfl <;> rfl
  have q0 : r 0 = r0 (8 * 0) := m0 0 (by decide)
  have q1 : r 8 = r1 (8 * 1) := m1 8 (by decide)
  have q2 : r 16 = r2 (8 * 2) := m2 16 (by decide)
  have qP : r 89 = rP 89 := mP 89 (by decide)
  have qT : r 91 = rT 91 := mT 91 (by decide)
  have qN : r 93 = rN 93 := mN 93 (by decide)
  have q5 : r 95 = q := by rw [hr]; rfl
  have q8 : r 88 = h0 := by rw [hr]; rfl
  have e : wlx cI cS r oIdx = ([(h0, .inr (4, [.ref (r0 (8 * 0)), .ref (r1 (8 * 1)), .ref (r2 (8 * 2)), .int 0, .ref (rP 89), .ref (rT 91), .ref (rN 93), .ref q]))] ++ wlx cI cS r0 (sIdx 0 1) ++ wlx cI cS r1 (sIdx 1 1) ++ wlx cI cS r2 (sIdx 2 1) ++ wlx cI cS rP ([89, 90] ++ sIdx 3 8) ++ wlx cI cS rT [91, 92] ++ wlx cI cS rN [93, 94] ++ [zr cI q 7] : va_W) := by
    unfold oIdx
    rw [wlx_app, wlx_app, wlx_app, wlx_app, wlx_app, wlx_app, wlx_app, wlx_congr (sIdx_clos (by decide)) m0, wlx_congr (sIdx_clos (by decide)) m1, wlx_congr (sIdx_clos (by decide)) m2, wlx_congr clP mP, wlx_congr clT mT, wlx_congr clN mN]
    have e1 : wlx cI cS r [88] = [(h0, .inr (4, [.ref (r0 (8 * 0)), .ref (r1 (8 * 1)), .ref (r2 (8 * 2)), .int 0, .ref (rP 89), .ref (rT 91), .ref (rN 93), .ref q]))] := by
      show [(r 88, cellE r cI cS u0 88)] = _
      rw [cell_obj (c := 4) (k := 88) rfl (by decide)]
      show ([(r 88, .inr (4, [.ref (r 0), .ref (r 8), .ref (r 16), .int 0, .ref (r 89), .ref (r 91), .ref (r 93), .ref (r 95)]))] : va_W) = _
      rw [q0, q1, q2, qP, qT, qN, q5, q8]
    have e2 : wlx cI cS r [95] = [zr cI q 7] := by
      show [(r 95, cellE r cI cS u0 95)] = _
      rw [cz_row (k := 95) rfl rfl rfl, q5]
      rfl
    rw [e1, e2]
  refine kc_ret (r := r) C dcO_init_85 q8 ?_ ?_ hS
  · rw [e]; exact hP
  · rw [e]; exact hD
end CON7

/-! THE CONSTRUCTORS, one by one -/
theorem dcS_init_0 : decode (mB yS_init) 0 = .ok (.aload_n 0, 1) := by decide +kernel
theorem dcS_init_1 : decode (mB yS_init) 1 = .ok (.invokespecial 3, 3) := by decide +kernel
theorem dcS_init_4 : decode (mB yS_init) 4 = .ok (.aload_n 0, 1) := by decide +kernel
theorem dcS_init_5 : decode (mB yS_init) 5 = .ok (.bipush 7, 2) := by decide +kernel
theorem dcS_init_7 : decode (mB yS_init) 7 = .ok (.newarray .int, 2) := by decide +kernel
theorem dcS_init_9 : decode (mB yS_init) 9 = .ok (.putfield 9, 3) := by decide +kernel
theorem dcS_init_12 : decode (mB yS_init) 12 = .ok (.aload_n 0, 1) := by decide +kernel
theorem dcS_init_13 : decode (mB yS_init) 13 = .ok (.bipush 7, 2) := by decide +kernel
theorem dcS_init_15 : decode (mB yS_init) 15 = .ok (.newarray .int, 2) := by decide +kernel
theorem dcS_init_17 : decode (mB yS_init) 17 = .ok (.putfield 15, 3) := by decide +kernel
theorem dcS_init_20 : decode (mB yS_init) 20 = .ok (.aload_n 0, 1) := by decide +kernel
theorem dcS_init_21 : decode (mB yS_init) 21 = .ok (.bipush 7, 2) := by decide +kernel
theorem dcS_init_23 : decode (mB yS_init) 23 = .ok (.newarray .int, 2) := by decide +kernel
theorem dcS_init_25 : decode (mB yS_init) 25 = .ok (.putfield 18, 3) := by decide +kernel
theorem dcS_init_28 : decode (mB yS_init) 28 = .ok (.aload_n 0, 1) := by decide +kernel
theorem dcS_init_29 : decode (mB yS_init) 29 = .ok (.bipush 7, 2) := by decide +kernel
theorem dcS_init_31 : decode (mB yS_init) 31 = .ok (.newarray .int, 2) := by decide +kernel
theorem dcS_init_33 : decode (mB yS_init) 33 = .ok (.putfield 21, 3) := by decide +kernel
theorem dcS_init_36 : decode (mB yS_init) 36 = .ok (.aload_n 0, 1) := by decide +kernel
theorem dcS_init_37 : decode (mB yS_init) 37 = .ok (.bipush 7, 2) := by decide +kernel
theorem dcS_init_39 : decode (mB yS_init) 39 = .ok (.newarray .int, 2) := by decide +kernel
theorem dcS_init_41 : decode (mB yS_init) 41 = .ok (.putfield 24, 3) := by decide +kernel
theorem dcS_init_44 : decode (mB yS_init) 44 = .ok (.aload_n 0, 1) := by decide +kernel
theorem dcS_init_45 : decode (mB yS_init) 45 = .ok (.iconst 3, 1) := by decide +kernel
theorem dcS_init_46 : decode (mB yS_init) 46 = .ok (.newarray .int, 2) := by decide +kernel
theorem dcS_init_48 : decode (mB yS_init) 48 = .ok (.putfield 27, 3) := by decide +kernel
theorem dcS_init_51 : decode (mB yS_init) 51 = .ok (.aload_n 0, 1) := by decide +kernel
theorem dcS_init_52 : decode (mB yS_init) 52 = .ok (.bipush 12, 2) := by decide +kernel
theorem dcS_init_54 : decode (mB yS_init) 54 = .ok (.newarray .int, 2) := by decide +kernel
theorem dcS_init_56 : decode (mB yS_init) 56 = .ok (.putfield 30, 3) := by decide +kernel
theorem dcS_init_59 : decode (mB yS_init) 59 = .ok (.iconst 0, 1) := by decide +kernel
theorem dcS_init_60 : decode (mB yS_init) 60 = .ok (.istore_n 1, 1) := by decide +kernel
theorem dcS_init_61 : decode (mB yS_init) 61 = .ok (.iload_n 1, 1) := by decide +kernel
theorem dcS_init_62 : decode (mB yS_init) 62 = .ok (.iconst 3, 1) := by decide +kernel
theorem dcS_init_63 : decode (mB yS_init) 63 = .ok (.if_icmp .ge 17, 3) := by decide +kernel
theorem dcS_init_66 : decode (mB yS_init) 66 = .ok (.aload_n 0, 1) := by decide +kernel
theorem dcS_init_67 : decode (mB yS_init) 67 = .ok (.getfield 27, 3) := by decide +kernel
theorem dcS_init_70 : decode (mB yS_init) 70 = .ok (.iload_n 1, 1) := by decide +kernel
theorem dcS_init_71 : decode (mB yS_init) 71 = .ok (.bipush 90, 2) := by decide +kernel
theorem dcS_init_73 : decode (mB yS_init) 73 = .ok (.iastore, 1) := by decide +kernel
theorem dcS_init_74 : decode (mB yS_init) 74 = .ok (.iinc 1 1, 3) := by decide +kernel
theorem dcS_init_77 : decode (mB yS_init) 77 = .ok (.goto (-16), 3) := by decide +kernel
theorem dcS_init_80 : decode (mB yS_init) 80 = .ok (.aload_n 0, 1) := by decide +kernel
theorem dcS_init_81 : decode (mB yS_init) 81 = .ok (.iconst 0, 1) := by decide +kernel
theorem dcS_init_82 : decode (mB yS_init) 82 = .ok (.putfield 33, 3) := by decide +kernel
theorem dcS_init_85 : decode (mB yS_init) 85 = .ok (.aload_n 0, 1) := by decide +kernel
theorem dcS_init_86 : decode (mB yS_init) 86 = .ok (.iconst 0, 1) := by decide +kernel
theorem dcS_init_87 : decode (mB yS_init) 87 = .ok (.putfield 37, 3) := by decide +kernel
theorem dcS_init_90 : decode (mB yS_init) 90 = .ok (.aload_n 0, 1) := by decide +kernel
theorem dcS_init_91 : decode (mB yS_init) 91 = .ok (.iconst 0, 1) := by decide +kernel
theorem dcS_init_92 : decode (mB yS_init) 92 = .ok (.putfield 40, 3) := by decide +kernel
theorem dcS_init_95 : decode (mB yS_init) 95 = .ok (.return_, 1) := by decide +kernel
theorem twS_init_0 : TW (.methodLink (RC 2) 3 objectInit) := tw_t 21 (by decide +kernel) (by decide +kernel)
theorem cs_K {s0 i : Nat} (hs : s0 < 11) (hi : i < 8) (h : i ≠ 0) : cK (8 * s0 + i) = 6 := by
  unfold cK
  rw [if_pos (by omega), if_neg (by omega)]
theorem cs_K0 {s0 : Nat} (hs : s0 < 11) : cK (8 * s0) = 2 := by
  unfold cK
  rw [if_pos (by omega), if_pos (by omega)]
theorem cs_n {s0 i n : Nat} (hs : s0 < 11) (hi : i < 8) (hn : [0, 7, 7, 7, 7, 7, 3, 12].getD i 0 = n) : aln (8 * s0 + i) = n := by
  unfold aln
  rw [if_pos (by omega), show (8 * s0 + i) % 8 = i by omega]
  exact hn
theorem cs_u {s0 i : Nat} (hs : s0 < 11) (hi : i < 8) (h : i ≠ 6) : u0 (8 * s0 + i) = fun _ => 0 := by
  funext j
  unfold u0
  rw [if_neg (by omega)]
theorem cs_90 {s0 : Nat} (hs : s0 < 11) : u0 (8 * s0 + 6) = fun _ => 90 := by
  funext j
  unfold u0
  rw [if_pos (by omega)]
theorem cs_obj {cI cS : ClassId} {r : Nat → Nat} {s0 : Nat} (hs : s0 < 11) : cellE r cI cS u0 (8 * s0 + 0) = .inr (2, [.ref (r (8 * s0 + 1)), .ref (r (8 * s0 + 2)), .ref (r (8 * s0 + 3)), .ref (r (8 * s0 + 4)), .ref (r (8 * s0 + 5)), .ref (r (8 * s0 + 6)), .ref (r (8 * s0 + 7)), .int 0, .int 0, .int 0]) := by
  rw [Nat.add_zero, cell_obj (cs_K0 hs) (by decide)]
  have hf : ∀ j, fref (8 * s0) j = 8 * s0 + 1 + j := fun j => by
    unfold fref
    rw [if_pos (by omega)]
  have hu : u0 (8 * s0) = fun _ => 0 := cs_u (i := 0) hs (by decide) (by decide)
  simp only [hf, hu]
  rfl
set_option maxRecDepth 20000 in
theorem con_S_init (l : Launch) (D : va_G) (cI cS : ClassId) (s0 : Nat) (hs : s0 < 11) : CN l D cI cS yS_init 7 50 ((List.range 8).map (8 * s0 + ·)) (8 * s0) := by
  refine kc_met (ix := 3) (by decide) rfl rfl rfl (by decide) (by decide) (by decide) twS_init_0 dcS_init_0 dcS_init_1 ?_
  intro p e s m below meth c A h0 ls C hP hD hls
  have hx := C.1
  have hb := C.2.1
  have hS : va_S A s.heap s.heap [] := va_S.rf
  have hP : va_P D vwCl [(h0, .inr (2, [.null, .null, .null, .null, .null, .null, .null, .int 0, .int 0, .int 0]))] s.heap := hP
  have hD : va_D A [(h0, .inr (2, [.null, .null, .null, .null, .null, .null, .null, .int 0, .int 0, .int 0]))] := hD
  refine kc_newf (i := 9) (k := 0) (N := 7) (n := 7) (w := 2) (ty := .array .int) (pc2 := 7) C (fun H locs cells slots K => lv_bipush hx hb dcS_init_5 (by decide) K) rfl rfl rfl (fun _ => rfl) (fun _ => rfl) (Nat.le_of_ble_eq_true rfl) (by decide) (by decide) (by decide) (by decide) (by decide) rfl hP hD hS dcS_init_4 dcS_init_7 dcS_init_9 (lv_at hls 0 rfl) (fun q0 H locs hP hD hS => ?_)
  have hP : va_P D vwCl [(h0, .inr (2, [.ref q0, .null, .null, .null, .null, .null, .null, .int 0, .int 0, .int 0])), zr cI q0 7] H := hP
  have hD : va_D A [(h0, .inr (2, [.ref q0, .null, .null, .null, .null, .null, .null, .int 0, .int 0, .int 0])), zr cI q0 7] := hD
  refine W.widen (k := 1) (n := 7) (by omega) (by omega) ?_
  refine kc_newf (i := 15) (k := 1) (N := 7) (n := 7) (w := 2) (ty := .array .int) (pc2 := 15) C (fun H locs cells slots K => lv_bipush hx hb dcS_init_13 (by decide) K) rfl rfl rfl (fun _ => rfl) (fun _ => rfl) (Nat.le_of_ble_eq_true rfl) (by decide) (by decide) (by decide) (by decide) (by decide) rfl hP hD hS dcS_init_12 dcS_init_15 dcS_init_17 (lv_at hls 0 rfl) (fun q1 H locs hP hD hS => ?_)
  have hP : va_P D vwCl [(h0, .inr (2, [.ref q0, .ref q1, .null, .null, .null, .null, .null, .int 0, .int 0, .int 0])), zr cI q0 7, zr cI q1 7] H := hP
  have hD : va_D A [(h0, .inr (2, [.ref q0, .ref q1, .null, .null, .null, .null, .null, .int 0, .int 0, .int 0])), zr cI q0 7, zr cI q1 7] := hD
  refine W.widen (k := 2) (n := 14) (by omega) (by omega) ?_
  refine kc_newf (i := 18) (k := 2) (N := 7) (n := 7) (w := 2) (ty := .array .int) (pc2 := 23) C (fun H locs cells slots K => lv_bipush hx hb dcS_init_21 (by decide) K) rfl rfl rfl (fun _ => rfl) (fun _ => rfl) (Nat.le_of_ble_eq_true rfl) (by decide) (by decide) (by decide) (by decide) (by decide) rfl hP hD hS dcS_init_20 dcS_init_23 dcS_init_25 (lv_at hls 0 rfl) (fun q2 H locs hP hD hS => ?_)
  have hP : va_P D vwCl [(h0, .inr (2, [.ref q0, .ref q1, .ref q2, .null, .null, .null, .null, .int 0, .int 0, .int 0])), zr cI q0 7, zr cI q1 7, zr cI q2 7] H := hP
  have hD : va_D A [(h0, .inr (2, [.ref q0, .ref q1, .ref q2, .null, .null, .null, .null, .int 0, .int 0, .int 0])), zr cI q0 7, zr cI q1 7, zr cI q2 7] := hD
  refine W.widen (k := 3) (n := 21) (by omega) (by omega) ?_
  refine kc_newf (i := 21) (k := 3) (N := 7) (n := 7) (w := 2) (ty := .array .int) (pc2 := 31) C (fun H locs cells slots K => lv_bipush hx hb dcS_init_29 (by decide) K) rfl rfl rfl (fun _ => rfl) (fun _ => rfl) (Nat.le_of_ble_eq_true rfl) (by decide) (by decide) (by decide) (by decide) (by decide) rfl hP hD hS dcS_init_28 dcS_init_31 dcS_init_33 (lv_at hls 0 rfl) (fun q3 H locs hP hD hS => ?_)
  have hP : va_P D vwCl [(h0, .inr (2, [.ref q0, .ref q1, .ref q2, .ref q3, .null, .null, .null, .int 0, .int 0, .int 0])), zr cI q0 7, zr cI q1 7, zr cI q2 7, zr cI q3 7] H := hP
  have hD : va_D A [(h0, .inr (2, [.ref q0, .ref q1, .ref q2, .ref q3, .null, .null, .null, .int 0, .int 0, .int 0])), zr cI q0 7, zr cI q1 7, zr cI q2 7, zr cI q3 7] := hD
  refine W.widen (k := 4) (n := 28) (by omega) (by omega) ?_
  refine kc_newf (i := 24) (k := 4) (N := 7) (n := 7) (w := 2) (ty := .array .int) (pc2 := 39) C (fun H locs cells slots K => lv_bipush hx hb dcS_init_37 (by decide) K) rfl rfl rfl (fun _ => rfl) (fun _ => rfl) (Nat.le_of_ble_eq_true rfl) (by decide) (by decide) (by decide) (by decide) (by decide) rfl hP hD hS dcS_init_36 dcS_init_39 dcS_init_41 (lv_at hls 0 rfl) (fun q4 H locs hP hD hS => ?_)
  have hP : va_P D vwCl [(h0, .inr (2, [.ref q0, .ref q1, .ref q2, .ref q3, .ref q4, .null, .null, .int 0, .int 0, .int 0])), zr cI q0 7, zr cI q1 7, zr cI q2 7, zr cI q3 7, zr cI q4 7] H := hP
  have hD : va_D A [(h0, .inr (2, [.ref q0, .ref q1, .ref q2, .ref q3, .ref q4, .null, .null, .int 0, .int 0, .int 0])), zr cI q0 7, zr cI q1 7, zr cI q2 7, zr cI q3 7, zr cI q4 7] := hD
  refine W.widen (k := 5) (n := 35) (by omega) (by omega) ?_
  refine kc_newf (i := 27) (k := 5) (N := 3) (n := 3) (w := 1) (ty := .array .int) (pc2 := 46) C (fun H locs cells slots K => lv_iconst hx hb dcS_init_45 (by decide) K) rfl rfl rfl (fun _ => rfl) (fun _ => rfl) (Nat.le_of_ble_eq_true rfl) (by decide) (by decide) (by decide) (by decide) (by decide) rfl hP hD hS dcS_init_44 dcS_init_46 dcS_init_48 (lv_at hls 0 rfl) (fun q5 H locs hP hD hS => ?_)
  have hP : va_P D vwCl [(h0, .inr (2, [.ref q0, .ref q1, .ref q2, .ref q3, .ref q4, .ref q5, .null, .int 0, .int 0, .int 0])), zr cI q0 7, zr cI q1 7, zr cI q2 7, zr cI q3 7, zr cI q4 7, zr cI q5 3] H := hP
  have hD : va_D A [(h0, .inr (2, [.ref q0, .ref q1, .ref q2, .ref q3, .ref q4, .ref q5, .null, .int 0, .int 0, .int 0])), zr cI q0 7, zr cI q1 7, zr cI q2 7, zr cI q3 7, zr cI q4 7, zr cI q5 3] := hD
  refine W.widen (k := 6) (n := 38) (by omega) (by omega) ?_
  refine kc_newf (i := 30) (k := 6) (N := 12) (n := 12) (w := 2) (ty := .array .int) (pc2 := 54) C (fun H locs cells slots K => lv_bipush hx hb dcS_init_52 (by decide) K) rfl rfl rfl (fun _ => rfl) (fun _ => rfl) (Nat.le_of_ble_eq_true rfl) (by decide) (by decide) (by decide) (by decide) (by decide) rfl hP hD hS dcS_init_51 dcS_init_54 dcS_init_56 (lv_at hls 0 rfl) (fun q6 H locs hP hD hS => ?_)
  have hP : va_P D vwCl [(h0, .inr (2, [.ref q0, .ref q1, .ref q2, .ref q3, .ref q4, .ref q5, .ref q6, .int 0, .int 0, .int 0])), zr cI q0 7, zr cI q1 7, zr cI q2 7, zr cI q3 7, zr cI q4 7, zr cI q5 3, zr cI q6 12] H := hP
  have hD : va_D A [(h0, .inr (2, [.ref q0, .ref q1, .ref q2, .ref q3, .ref q4, .ref q5, .ref q6, .int 0, .int 0, .int 0])), zr cI q0 7, zr cI q1 7, zr cI q2 7, zr cI q3 7, zr cI q4 7, zr cI q5 3, zr cI q6 12] := hD
  refine W.widen (k := 7) (n := 50) (by omega) (by omega) ?_
  refine lv_iconst (v := 0) hx hb dcS_init_59 (by decide) ?_
  refine lv_istore_n hx hb dcS_init_60 rfl hls (by decide) rfl (fun ls hls => ?_)
  have hP : va_P D vwCl [(h0, .inr (2, [.ref q0, .ref q1, .ref q2, .ref q3, .ref q4, .ref q5, .ref q6, .int 0, .int 0, .int 0])), zr cI q0 7, zr cI q1 7, zr cI q2 7, zr cI q3 7, zr cI q4 7, (q5, .inl (cI, 3, .inl (fun _ => 0))), zr cI q6 12] H := hP
  refine kc_seen (i := 27) (k := 5) (t := 6) (q := q5) (x := 0) (f := (fun _ => 0)) C rfl rfl rfl rfl rfl (by decide) (by unfold vp_in; decide) rfl hP hD hS hls dcS_init_61 dcS_init_62 dcS_init_63 dcS_init_66 dcS_init_67 dcS_init_70 dcS_init_71 dcS_init_73 dcS_init_74 dcS_init_77 (fun H locs ls hls hP hD hS => ?_)
  have hP : va_P D vwCl [(h0, .inr (2, [.ref q0, .ref q1, .ref q2, .ref q3, .ref q4, .ref q5, .ref q6, .int 0, .int 0, .int 0])), zr cI q0 7, zr cI q1 7, zr cI q2 7, zr cI q3 7, zr cI q4 7, (q5, .inl (cI, 3, .inl (upd (fun _ => 0) 0 90))), zr cI q6 12] H := hP
  have hD : va_D A [(h0, .inr (2, [.ref q0, .ref q1, .ref q2, .ref q3, .ref q4, .ref q5, .ref q6, .int 0, .int 0, .int 0])), zr cI q0 7, zr cI q1 7, zr cI q2 7, zr cI q3 7, zr cI q4 7, (q5, .inl (cI, 3, .inl (upd (fun _ => 0) 0 90))), zr cI q6 12] := hD
  have hls : lv_has ls (mL yS_init) [(1, .int 1), (0, .ref h0)] := hls
  refine kc_seen (i := 27) (k := 5) (t := 6) (q := q5) (x := 1) (f := (upd (fun _ => 0) 0 90)) C rfl rfl rfl rfl rfl (by decide) (by unfold vp_in; decide) rfl hP hD hS hls dcS_init_61 dcS_init_62 dcS_init_63 dcS_init_66 dcS_init_67 dcS_init_70 dcS_init_71 dcS_init_73 dcS_init_74 dcS_init_77 (fun H locs ls hls hP hD hS => ?_)
  have hP : va_P D vwCl [(h0, .inr (2, [.ref q0, .ref q1, .ref q2, .ref q3, .ref q4, .ref q5, .ref q6, .int 0, .int 0, .int 0])), zr cI q0 7, zr cI q1 7, zr cI q2 7, zr cI q3 7, zr cI q4 7, (q5, .inl (cI, 3, .inl (upd (upd (fun _ => 0) 0 90) 1 90))), zr cI q6 12] H := hP
  have hD : va_D A [(h0, .inr (2, [.ref q0, .ref q1, .ref q2, .ref q3, .ref q4, .ref q5, .ref q6, .int 0, .int 0, .int 0])), zr cI q0 7, zr cI q1 7, zr cI q2 7, zr cI q3 7, zr cI q4 7, (q5, .inl (cI, 3, .inl (upd (upd (fun _ => 0) 0 90) 1 90))), zr cI q6 12] := hD
  have hls : lv_has ls (mL yS_init) [(1, .int 2), (0, .ref h0)] := hls
  refine kc_seen (i := 27) (k := 5) (t := 6) (q := q5) (x := 2) (f := (upd (upd (fun _ => 0) 0 90) 1 90)) C rfl rfl rfl rfl rfl (by decide) (by unfold vp_in; decide) rfl hP hD hS hls dcS_init_61 dcS_init_62 dcS_init_63 dcS_init_66 dcS_init_67 dcS_init_70 dcS_init_71 dcS_init_73 dcS_init_74 dcS_init_77 (fun H locs ls hls hP hD hS => ?_)
  have hP : va_P D vwCl [(h0, .inr (2, [.ref q0, .ref q1, .ref q2, .ref q3, .ref q4, .ref q5, .ref q6, .int 0, .int 0, .int 0])), zr cI q0 7, zr cI q1 7, zr cI q2 7, zr cI q3 7, zr cI q4 7, (q5, .inl (cI, 3, .inl (upd (upd (upd (fun _ => 0) 0 90) 1 90) 2 90))), zr cI q6 12] H := hP
  have hD : va_D A [(h0, .inr (2, [.ref q0, .ref q1, .ref q2, .ref q3, .ref q4, .ref q5, .ref q6, .int 0, .int 0, .int 0])), zr cI q0 7, zr cI q1 7, zr cI q2 7, zr cI q3 7, zr cI q4 7, (q5, .inl (cI, 3, .inl (upd (upd (upd (fun _ => 0) 0 90) 1 90) 2 90))), zr cI q6 12] := hD
  have hls : lv_has ls (mL yS_init) [(1, .int 3), (0, .ref h0)] := hls
  refine lv_iload_n hx hb dcS_init_61 rfl (lv_at hls 0 rfl) ?_
  refine lv_iconst (v := 3) hx hb dcS_init_62 (by decide) ?_
  refine lv_icmp_ge (tgt := 80) hx hb dcS_init_63 (by decide) (fun _ => ?_) (fun h => absurd (by decide) h)
  refine lv_aload_n hx hb dcS_init_80 rfl (lv_at hls 1 rfl) ?_
  refine lv_iconst (v := 0) hx hb dcS_init_81 (by decide) ?_
  refine kc_put (i := 33) (k := 7) (q0 := 0) (ty := .int) C rfl rfl rfl rfl rfl (Nat.le_of_ble_eq_true rfl) hP hD hS dcS_init_82 (fun H locs hP hD hS => ?_)
  have hP : va_P D vwCl [(h0, .inr (2, [.ref q0, .ref q1, .ref q2, .ref q3, .ref q4, .ref q5, .ref q6, .int 0, .int 0, .int 0])), zr cI q0 7, zr cI q1 7, zr cI q2 7, zr cI q3 7, zr cI q4 7, (q5, .inl (cI, 3, .inl (upd (upd (upd (fun _ => 0) 0 90) 1 90) 2 90))), zr cI q6 12] H := hP
  have hD : va_D A [(h0, .inr (2, [.ref q0, .ref q1, .ref q2, .ref q3, .ref q4, .ref q5, .ref q6, .int 0, .int 0, .int 0])), zr cI q0 7, zr cI q1 7, zr cI q2 7, zr cI q3 7, zr cI q4 7, (q5, .inl (cI, 3, .inl (upd (upd (upd (fun _ => 0) 0 90) 1 90) 2 90))), zr cI q6 12] := hD
  refine lv_aload_n hx hb dcS_init_85 rfl (lv_at hls 1 rfl) ?_
  refine lv_iconst (v := 0) hx hb dcS_init_86 (by decide) ?_
  refine kc_put (i := 37) (k := 8) (q0 := 0) (ty := .int) C rfl rfl rfl rfl rfl (Nat.le_of_ble_eq_true rfl) hP hD hS dcS_init_87 (fun H locs hP hD hS => ?_)
  have hP : va_P D vwCl [(h0, .inr (2, [.ref q0, .ref q1, .ref q2, .ref q3, .ref q4, .ref q5, .ref q6, .int 0, .int 0, .int 0])), zr cI q0 7, zr cI q1 7, zr cI q2 7, zr cI q3 7, zr cI q4 7, (q5, .inl (cI, 3, .inl (upd (upd (upd (fun _ => 0) 0 90) 1 90) 2 90))), zr cI q6 12] H := hP
  have hD : va_D A [(h0, .inr (2, [.ref q0, .ref q1, .ref q2, .ref q3, .ref q4, .ref q5, .ref q6, .int 0, .int 0, .int 0])), zr cI q0 7, zr cI q1 7, zr cI q2 7, zr cI q3 7, zr cI q4 7, (q5, .inl (cI, 3, .inl (upd (upd (upd (fun _ => 0) 0 90) 1 90) 2 90))), zr cI q6 12] := hD
  refine lv_aload_n hx hb dcS_init_90 rfl (lv_at hls 1 rfl) ?_
  refine lv_iconst (v := 0) hx hb dcS_init_91 (by decide) ?_
  refine kc_put (i := 40) (k := 9) (q0 := 0) (ty := .int) C rfl rfl rfl rfl rfl (Nat.le_of_ble_eq_true rfl) hP hD hS dcS_init_92 (fun H locs hP hD hS => ?_)
  have hP : va_P D vwCl [(h0, .inr (2, [.ref q0, .ref q1, .ref q2, .ref q3, .ref q4, .ref q5, .ref q6, .int 0, .int 0, .int 0])), zr cI q0 7, zr cI q1 7, zr cI q2 7, zr cI q3 7, zr cI q4 7, (q5, .inl (cI, 3, .inl (upd (upd (upd (fun _ => 0) 0 90) 1 90) 2 90))), zr cI q6 12] H := hP
  have hD : va_D A [(h0, .inr (2, [.ref q0, .ref q1, .ref q2, .ref q3, .ref q4, .ref q5, .ref q6, .int 0, .int 0, .int 0])), zr cI q0 7, zr cI q1 7, zr cI q2 7, zr cI q3 7, zr cI q4 7, (q5, .inl (cI, 3, .inl (upd (upd (upd (fun _ => 0) 0 90) 1 90) 2 90))), zr cI q6 12] := hD
  obtain ⟨r, hr⟩ : ∃ r : Nat → Nat, r = fun k => [h0, q0, q1, q2, q3, q4, q5, q6].getD (k - 8 * s0) 0 := ⟨_, rfl⟩
  have r0 : r (8 * s0 + 0) = h0 := by rw [hr]; simp
  have r1 : r (8 * s0 + 1) = q0 := by rw [hr]; simp
  have r2 : r (8 * s0 + 2) = q1 := by rw [hr]; simp
  have r3 : r (8 * s0 + 3) = q2 := by rw [hr]; simp
  have r4 : r (8 * s0 + 4) = q3 := by rw [hr]; simp
  have r5 : r (8 * s0 + 5) = q4 := by rw [hr]; simp
  have r6 : r (8 * s0 + 6) = q5 := by rw [hr]; simp
  have r7 : r (8 * s0 + 7) = q6 := by rw [hr]; simp
  have e : wlx cI cS r ((List.range 8).map (8 * s0 + ·)) = [(h0, .inr (2, [.ref q0, .ref q1, .ref q2, .ref q3, .ref q4, .ref q5, .ref q6, .int 0, .int 0, .int 0])), zr cI q0 7, zr cI q1 7, zr cI q2 7, zr cI q3 7, zr cI q4 7, (q5, .inl (cI, 3, .inl (upd (upd (upd (fun _ => 0) 0 90) 1 90) 2 90))), zr cI q6 12] := by
    show [(r (8 * s0 + 0), cellE r cI cS u0 (8 * s0 + 0)), (r (8 * s0 + 1), cellE r cI cS u0 (8 * s0 + 1)), (r (8 * s0 + 2), cellE r cI cS u0 (8 * s0 + 2)), (r (8 * s0 + 3), cellE r cI cS u0 (8 * s0 + 3)), (r (8 * s0 + 4), cellE r cI cS u0 (8 * s0 + 4)), (r (8 * s0 + 5), cellE r cI cS u0 (8 * s0 + 5)), (r (8 * s0 + 6), cellE r cI cS u0 (8 * s0 + 6)), (r (8 * s0 + 7), cellE r cI cS u0 (8 * s0 + 7))] = _
    rw [r0, r1, r2, r3, r4, r5, r6, r7]
    rw [cs_obj hs, r1, r2, r3, r4, r5, r6, r7]
    rw [cz_row (cs_K hs (i := 1) (by decide) (by decide)) (cs_n hs (i := 1) (n := 7) (by decide) rfl) (cs_u hs (i := 1) (by decide) (by decide))]
    rw [cz_row (cs_K hs (i := 2) (by decide) (by decide)) (cs_n hs (i := 2) (n := 7) (by decide) rfl) (cs_u hs (i := 2) (by decide) (by decide))]
    rw [cz_row (cs_K hs (i := 3) (by decide) (by decide)) (cs_n hs (i := 3) (n := 7) (by decide) rfl) (cs_u hs (i := 3) (by decide) (by decide))]
    rw [cz_row (cs_K hs (i := 4) (by decide) (by decide)) (cs_n hs (i := 4) (n := 7) (by decide) rfl) (cs_u hs (i := 4) (by decide) (by decide))]
    rw [cz_row (cs_K hs (i := 5) (by decide) (by decide)) (cs_n hs (i := 5) (n := 7) (by decide) rfl) (cs_u hs (i := 5) (by decide) (by decide))]
    rw [cz_seen (cs_K hs (i := 6) (by decide) (by decide)) (cs_n hs (i := 6) (n := 3) (by decide) rfl) (cs_90 hs) rfl]
    rw [cz_row (cs_K hs (i := 7) (by decide) (by decide)) (cs_n hs (i := 7) (n := 12) (by decide) rfl) (cs_u hs (i := 7) (by decide) (by decide))]
    rfl
  refine kc_ret (r := r) C dcS_init_95 (by rw [hr]; simp) ?_ ?_ hS
  · rw [e]; exact hP
  · rw [e]; exact hD
theorem dcM_init_0 : decode (mB yM_init) 0 = .ok (.aload_n 0, 1) := by decide +kernel
theorem dcM_init_1 : decode (mB yM_init) 1 = .ok (.invokespecial 1, 3) := by decide +kernel
theorem dcM_init_4 : decode (mB yM_init) 4 = .ok (.aload_n 0, 1) := by decide +kernel
theorem dcM_init_5 : decode (mB yM_init) 5 = .ok (.bipush 7, 2) := by decide +kernel
theorem dcM_init_7 : decode (mB yM_init) 7 = .ok (.newarray .int, 2) := by decide +kernel
theorem dcM_init_9 : decode (mB yM_init) 9 = .ok (.putfield 7, 3) := by decide +kernel
theorem dcM_init_12 : decode (mB yM_init) 12 = .ok (.aload_n 0, 1) := by decide +kernel
theorem dcM_init_13 : decode (mB yM_init) 13 = .ok (.bipush 7, 2) := by decide +kernel
theorem dcM_init_15 : decode (mB yM_init) 15 = .ok (.newarray .int, 2) := by decide +kernel
theorem dcM_init_17 : decode (mB yM_init) 17 = .ok (.putfield 13, 3) := by decide +kernel
theorem dcM_init_20 : decode (mB yM_init) 20 = .ok (.aload_n 0, 1) := by decide +kernel
theorem dcM_init_21 : decode (mB yM_init) 21 = .ok (.bipush 7, 2) := by decide +kernel
theorem dcM_init_23 : decode (mB yM_init) 23 = .ok (.newarray .int, 2) := by decide +kernel
theorem dcM_init_25 : decode (mB yM_init) 25 = .ok (.putfield 16, 3) := by decide +kernel
theorem dcM_init_28 : decode (mB yM_init) 28 = .ok (.aload_n 0, 1) := by decide +kernel
theorem dcM_init_29 : decode (mB yM_init) 29 = .ok (.bipush 7, 2) := by decide +kernel
theorem dcM_init_31 : decode (mB yM_init) 31 = .ok (.newarray .int, 2) := by decide +kernel
theorem dcM_init_33 : decode (mB yM_init) 33 = .ok (.putfield 19, 3) := by decide +kernel
theorem dcM_init_36 : decode (mB yM_init) 36 = .ok (.aload_n 0, 1) := by decide +kernel
theorem dcM_init_37 : decode (mB yM_init) 37 = .ok (.bipush 7, 2) := by decide +kernel
theorem dcM_init_39 : decode (mB yM_init) 39 = .ok (.newarray .int, 2) := by decide +kernel
theorem dcM_init_41 : decode (mB yM_init) 41 = .ok (.putfield 22, 3) := by decide +kernel
theorem dcM_init_44 : decode (mB yM_init) 44 = .ok (.aload_n 0, 1) := by decide +kernel
theorem dcM_init_45 : decode (mB yM_init) 45 = .ok (.bipush 7, 2) := by decide +kernel
theorem dcM_init_47 : decode (mB yM_init) 47 = .ok (.newarray .int, 2) := by decide +kernel
theorem dcM_init_49 : decode (mB yM_init) 49 = .ok (.putfield 25, 3) := by decide +kernel
theorem dcM_init_52 : decode (mB yM_init) 52 = .ok (.aload_n 0, 1) := by decide +kernel
theorem dcM_init_53 : decode (mB yM_init) 53 = .ok (.iconst 3, 1) := by decide +kernel
theorem dcM_init_54 : decode (mB yM_init) 54 = .ok (.newarray .int, 2) := by decide +kernel
theorem dcM_init_56 : decode (mB yM_init) 56 = .ok (.putfield 28, 3) := by decide +kernel
theorem dcM_init_59 : decode (mB yM_init) 59 = .ok (.aload_n 0, 1) := by decide +kernel
theorem dcM_init_60 : decode (mB yM_init) 60 = .ok (.bipush 12, 2) := by decide +kernel
theorem dcM_init_62 : decode (mB yM_init) 62 = .ok (.newarray .int, 2) := by decide +kernel
theorem dcM_init_64 : decode (mB yM_init) 64 = .ok (.putfield 31, 3) := by decide +kernel
theorem dcM_init_67 : decode (mB yM_init) 67 = .ok (.aload_n 0, 1) := by decide +kernel
theorem dcM_init_68 : decode (mB yM_init) 68 = .ok (.bipush 96, 2) := by decide +kernel
theorem dcM_init_70 : decode (mB yM_init) 70 = .ok (.newarray .int, 2) := by decide +kernel
theorem dcM_init_72 : decode (mB yM_init) 72 = .ok (.putfield 34, 3) := by decide +kernel
theorem dcM_init_75 : decode (mB yM_init) 75 = .ok (.aload_n 0, 1) := by decide +kernel
theorem dcM_init_76 : decode (mB yM_init) 76 = .ok (.bipush 48, 2) := by decide +kernel
theorem dcM_init_78 : decode (mB yM_init) 78 = .ok (.newarray .int, 2) := by decide +kernel
theorem dcM_init_80 : decode (mB yM_init) 80 = .ok (.putfield 37, 3) := by decide +kernel
theorem dcM_init_83 : decode (mB yM_init) 83 = .ok (.aload_n 0, 1) := by decide +kernel
theorem dcM_init_84 : decode (mB yM_init) 84 = .ok (.bipush 48, 2) := by decide +kernel
theorem dcM_init_86 : decode (mB yM_init) 86 = .ok (.newarray .int, 2) := by decide +kernel
theorem dcM_init_88 : decode (mB yM_init) 88 = .ok (.putfield 40, 3) := by decide +kernel
theorem dcM_init_91 : decode (mB yM_init) 91 = .ok (.aload_n 0, 1) := by decide +kernel
theorem dcM_init_92 : decode (mB yM_init) 92 = .ok (.sipush 192, 3) := by decide +kernel
theorem dcM_init_95 : decode (mB yM_init) 95 = .ok (.newarray .int, 2) := by decide +kernel
theorem dcM_init_97 : decode (mB yM_init) 97 = .ok (.putfield 43, 3) := by decide +kernel
theorem dcM_init_100 : decode (mB yM_init) 100 = .ok (.aload_n 0, 1) := by decide +kernel
theorem dcM_init_101 : decode (mB yM_init) 101 = .ok (.sipush 583, 3) := by decide +kernel
theorem dcM_init_104 : decode (mB yM_init) 104 = .ok (.newarray .int, 2) := by decide +kernel
theorem dcM_init_106 : decode (mB yM_init) 106 = .ok (.putfield 46, 3) := by decide +kernel
theorem dcM_init_109 : decode (mB yM_init) 109 = .ok (.aload_n 0, 1) := by decide +kernel
theorem dcM_init_110 : decode (mB yM_init) 110 = .ok (.bipush 12, 2) := by decide +kernel
theorem dcM_init_112 : decode (mB yM_init) 112 = .ok (.newarray .int, 2) := by decide +kernel
theorem dcM_init_114 : decode (mB yM_init) 114 = .ok (.putfield 49, 3) := by decide +kernel
theorem dcM_init_117 : decode (mB yM_init) 117 = .ok (.aload_n 0, 1) := by decide +kernel
theorem dcM_init_118 : decode (mB yM_init) 118 = .ok (.bipush 8, 2) := by decide +kernel
theorem dcM_init_120 : decode (mB yM_init) 120 = .ok (.newarray .int, 2) := by decide +kernel
theorem dcM_init_122 : decode (mB yM_init) 122 = .ok (.putfield 52, 3) := by decide +kernel
theorem dcM_init_125 : decode (mB yM_init) 125 = .ok (.iconst 0, 1) := by decide +kernel
theorem dcM_init_126 : decode (mB yM_init) 126 = .ok (.istore_n 1, 1) := by decide +kernel
theorem dcM_init_127 : decode (mB yM_init) 127 = .ok (.iload_n 1, 1) := by decide +kernel
theorem dcM_init_128 : decode (mB yM_init) 128 = .ok (.iconst 3, 1) := by decide +kernel
theorem dcM_init_129 : decode (mB yM_init) 129 = .ok (.if_icmp .ge 17, 3) := by decide +kernel
theorem dcM_init_132 : decode (mB yM_init) 132 = .ok (.aload_n 0, 1) := by decide +kernel
theorem dcM_init_133 : decode (mB yM_init) 133 = .ok (.getfield 28, 3) := by decide +kernel
theorem dcM_init_136 : decode (mB yM_init) 136 = .ok (.iload_n 1, 1) := by decide +kernel
theorem dcM_init_137 : decode (mB yM_init) 137 = .ok (.bipush 90, 2) := by decide +kernel
theorem dcM_init_139 : decode (mB yM_init) 139 = .ok (.iastore, 1) := by decide +kernel
theorem dcM_init_140 : decode (mB yM_init) 140 = .ok (.iinc 1 1, 3) := by decide +kernel
theorem dcM_init_143 : decode (mB yM_init) 143 = .ok (.goto (-16), 3) := by decide +kernel
theorem dcM_init_146 : decode (mB yM_init) 146 = .ok (.return_, 1) := by decide +kernel
theorem twM_init_0 : TW (.methodLink (RC 5) 1 objectInit) := tw_t 589 (by decide +kernel) (by decide +kernel)
set_option maxRecDepth 20000 in
theorem con_M_init (l : Launch) (D : va_G) (cI cS : ClassId) : CN l D cI cS yM_init 15 1044 [96, 97, 98, 99, 100, 101, 102, 103, 104, 105, 106, 107, 108, 109, 110, 111] 96 := by
  refine kc_met (ix := 1) (by decide) rfl rfl rfl (by decide) (by decide) (by decide) twM_init_0 dcM_init_0 dcM_init_1 ?_
  intro p e s m below meth c A h0 ls C hP hD hls
  have hx := C.1
  have hb := C.2.1
  have hS : va_S A s.heap s.heap [] := va_S.rf
  have hP : va_P D vwCl [(h0, .inr (5, [.null, .null, .null, .null, .null, .null, .null, .null, .int 0, .int 0, .int 0, .null, .null, .null, .null, .int 0, .int 0, .int 0, .null, .int 0, .int 0, .int 0, .int 0, .null, .int 0, .null, .int 0]))] s.heap := hP
  have hD : va_D A [(h0, .inr (5, [.null, .null, .null, .null, .null, .null, .null, .null, .int 0, .int 0, .int 0, .null, .null, .null, .null, .int 0, .int 0, .int 0, .null, .int 0, .int 0, .int 0, .int 0, .null, .int 0, .null, .int 0]))] := hD
  refine kc_newf (i := 7) (k := 0) (N := 7) (n := 7) (w := 2) (ty := .array .int) (pc2 := 7) C (fun H locs cells slots K => lv_bipush hx hb dcM_init_5 (by decide) K) rfl rfl rfl (fun _ => rfl) (fun _ => rfl) (Nat.le_of_ble_eq_true rfl) (by decide) (by decide) (by decide) (by decide) (by decide) rfl hP hD hS dcM_init_4 dcM_init_7 dcM_init_9 (lv_at hls 0 rfl) (fun q0 H locs hP hD hS => ?_)
  have hP : va_P D vwCl [(h0, .inr (5, [.ref q0, .null, .null, .null, .null, .null, .null, .null, .int 0, .int 0, .int 0, .null, .null, .null, .null, .int 0, .int 0, .int 0, .null, .int 0, .int 0, .int 0, .int 0, .null, .int 0, .null, .int 0])), zr cI q0 7] H := hP
  have hD : va_D A [(h0, .inr (5, [.ref q0, .null, .null, .null, .null, .null, .null, .null, .int 0, .int 0, .int 0, .null, .null, .null, .null, .int 0, .int 0, .int 0, .null, .int 0, .int 0, .int 0, .int 0, .null, .int 0, .null, .int 0])), zr cI q0 7] := hD
  refine W.widen (k := 1) (n := 7) (by omega) (by omega) ?_
  refine kc_newf (i := 13) (k := 1) (N := 7) (n := 7) (w := 2) (ty := .array .int) (pc2 := 15) C (fun H locs cells slots K => lv_bipush hx hb dcM_init_13 (by decide) K) rfl rfl rfl (fun _ => rfl) (fun _ => rfl) (Nat.le_of_ble_eq_true rfl) (by decide) (by decide) (by decide) (by decide) (by decide) rfl hP hD hS dcM_init_12 dcM_init_15 dcM_init_17 (lv_at hls 0 rfl) (fun q1 H locs hP hD hS => ?_)
  have hP : va_P D vwCl [(h0, .inr (5, [.ref q0, .ref q1, .null, .null, .null, .null, .null, .null, .int 0, .int 0, .int 0, .null, .null, .null, .null, .int 0, .int 0, .int 0, .null, .int 0, .int 0, .int 0, .int 0, .null, .int 0, .null, .int 0])), zr cI q0 7, zr cI q1 7] H := hP
  have hD : va_D A [(h0, .inr (5, [.ref q0, .ref q1, .null, .null, .null, .null, .null, .null, .int 0, .int 0, .int 0, .null, .null, .null, .null, .int 0, .int 0, .int 0, .null, .int 0, .int 0, .int 0, .int 0, .null, .int 0, .null, .int 0])), zr cI q0 7, zr cI q1 7] := hD
  refine W.widen (k := 2) (n := 14) (by omega) (by omega) ?_
  refine kc_newf (i := 16) (k := 2) (N := 7) (n := 7) (w := 2) (ty := .array .int) (pc2 := 23) C (fun H locs cells slots K => lv_bipush hx hb dcM_init_21 (by decide) K) rfl rfl rfl (fun _ => rfl) (fun _ => rfl) (Nat.le_of_ble_eq_true rfl) (by decide) (by decide) (by decide) (by decide) (by decide) rfl hP hD hS dcM_init_20 dcM_init_23 dcM_init_25 (lv_at hls 0 rfl) (fun q2 H locs hP hD hS => ?_)
  have hP : va_P D vwCl [(h0, .inr (5, [.ref q0, .ref q1, .ref q2, .null, .null, .null, .null, .null, .int 0, .int 0, .int 0, .null, .null, .null, .null, .int 0, .int 0, .int 0, .null, .int 0, .int 0, .int 0, .int 0, .null, .int 0, .null, .int 0])), zr cI q0 7, zr cI q1 7, zr cI q2 7] H := hP
  have hD : va_D A [(h0, .inr (5, [.ref q0, .ref q1, .ref q2, .null, .null, .null, .null, .null, .int 0, .int 0, .int 0, .null, .null, .null, .null, .int 0, .int 0, .int 0, .null, .int 0, .int 0, .int 0, .int 0, .null, .int 0, .null, .int 0])), zr cI q0 7, zr cI q1 7, zr cI q2 7] := hD
  refine W.widen (k := 3) (n := 21) (by omega) (by omega) ?_
  refine kc_newf (i := 19) (k := 3) (N := 7) (n := 7) (w := 2) (ty := .array .int) (pc2 := 31) C (fun H locs cells slots K => lv_bipush hx hb dcM_init_29 (by decide) K) rfl rfl rfl (fun _ => rfl) (fun _ => rfl) (Nat.le_of_ble_eq_true rfl) (by decide) (by decide) (by decide) (by decide) (by decide) rfl hP hD hS dcM_init_28 dcM_init_31 dcM_init_33 (lv_at hls 0 rfl) (fun q3 H locs hP hD hS => ?_)
  have hP : va_P D vwCl [(h0, .inr (5, [.ref q0, .ref q1, .ref q2, .ref q3, .null, .null, .null, .null, .int 0, .int 0, .int 0, .null, .null, .null, .null, .int 0, .int 0, .int 0, .null, .int 0, .int 0, .int 0, .int 0, .null, .int 0, .null, .int 0])), zr cI q0 7, zr cI q1 7, zr cI q2 7, zr cI q3 7] H := hP
  have hD : va_D A [(h0, .inr (5, [.ref q0, .ref q1, .ref q2, .ref q3, .null, .null, .null, .null, .int 0, .int 0, .int 0, .null, .null, .null, .null, .int 0, .int 0, .int 0, .null, .int 0, .int 0, .int 0, .int 0, .null, .int 0, .null, .int 0])), zr cI q0 7, zr cI q1 7, zr cI q2 7, zr cI q3 7] := hD
  refine W.widen (k := 4) (n := 28) (by omega) (by omega) ?_
  refine kc_newf (i := 22) (k := 4) (N := 7) (n := 7) (w := 2) (ty := .array .int) (pc2 := 39) C (fun H locs cells slots K => lv_bipush hx hb dcM_init_37 (by decide) K) rfl rfl rfl (fun _ => rfl) (fun _ => rfl) (Nat.le_of_ble_eq_true rfl) (by decide) (by decide) (by decide) (by decide) (by decide) rfl hP hD hS dcM_init_36 dcM_init_39 dcM_init_41 (lv_at hls 0 rfl) (fun q4 H locs hP hD hS => ?_)
  have hP : va_P D vwCl [(h0, .inr (5, [.ref q0, .ref q1, .ref q2, .ref q3, .ref q4, .null, .null, .null, .int 0, .int 0, .int 0, .null, .null, .null, .null, .int 0, .int 0, .int 0, .null, .int 0, .int 0, .int 0, .int 0, .null, .int 0, .null, .int 0])), zr cI q0 7, zr cI q1 7, zr cI q2 7, zr cI q3 7, zr cI q4 7] H := hP
  have hD : va_D A [(h0, .inr (5, [.ref q0, .ref q1, .ref q2, .ref q3, .ref q4, .null, .null, .null, .int 0, .int 0, .int 0, .null, .null, .null, .null, .int 0, .int 0, .int 0, .null, .int 0, .int 0, .int 0, .int 0, .null, .int 0, .null, .int 0])), zr cI q0 7, zr cI q1 7, zr cI q2 7, zr cI q3 7, zr cI q4 7] := hD
  refine W.widen (k := 5) (n := 35) (by omega) (by omega) ?_
  refine kc_newf (i := 25) (k := 5) (N := 7) (n := 7) (w := 2) (ty := .array .int) (pc2 := 47) C (fun H locs cells slots K => lv_bipush hx hb dcM_init_45 (by decide) K) rfl rfl rfl (fun _ => rfl) (fun _ => rfl) (Nat.le_of_ble_eq_true rfl) (by decide) (by decide) (by decide) (by decide) (by decide) rfl hP hD hS dcM_init_44 dcM_init_47 dcM_init_49 (lv_at hls 0 rfl) (fun q5 H locs hP hD hS => ?_)
  have hP : va_P D vwCl [(h0, .inr (5, [.ref q0, .ref q1, .ref q2, .ref q3, .ref q4, .ref q5, .null, .null, .int 0, .int 0, .int 0, .null, .null, .null, .null, .int 0, .int 0, .int 0, .null, .int 0, .int 0, .int 0, .int 0, .null, .int 0, .null, .int 0])), zr cI q0 7, zr cI q1 7, zr cI q2 7, zr cI q3 7, zr cI q4 7, zr cI q5 7] H := hP
  have hD : va_D A [(h0, .inr (5, [.ref q0, .ref q1, .ref q2, .ref q3, .ref q4, .ref q5, .null, .null, .int 0, .int 0, .int 0, .null, .null, .null, .null, .int 0, .int 0, .int 0, .null, .int 0, .int 0, .int 0, .int 0, .null, .int 0, .null, .int 0])), zr cI q0 7, zr cI q1 7, zr cI q2 7, zr cI q3 7, zr cI q4 7, zr cI q5 7] := hD
  refine W.widen (k := 6) (n := 42) (by omega) (by omega) ?_
  refine kc_newf (i := 28) (k := 6) (N := 3) (n := 3) (w := 1) (ty := .array .int) (pc2 := 54) C (fun H locs cells slots K => lv_iconst hx hb dcM_init_53 (by decide) K) rfl rfl rfl (fun _ => rfl) (fun _ => rfl) (Nat.le_of_ble_eq_true rfl) (by decide) (by decide) (by decide) (by decide) (by decide) rfl hP hD hS dcM_init_52 dcM_init_54 dcM_init_56 (lv_at hls 0 rfl) (fun q6 H locs hP hD hS => ?_)
  have hP : va_P D vwCl [(h0, .inr (5, [.ref q0, .ref q1, .ref q2, .ref q3, .ref q4, .ref q5, .ref q6, .null, .int 0, .int 0, .int 0, .null, .null, .null, .null, .int 0, .int 0, .int 0, .null, .int 0, .int 0, .int 0, .int 0, .null, .int 0, .null, .int 0])), zr cI q0 7, zr cI q1 7, zr cI q2 7, zr cI q3 7, zr cI q4 7, zr cI q5 7, zr cI q6 3] H := hP
  have hD : va_D A [(h0, .inr (5, [.ref q0, .ref q1, .ref q2, .ref q3, .ref q4, .ref q5, .ref q6, .null, .int 0, .int 0, .int 0, .null, .null, .null, .null, .int 0, .int 0, .int 0, .null, .int 0, .int 0, .int 0, .int 0, .null, .int 0, .null, .int 0])), zr cI q0 7, zr cI q1 7, zr cI q2 7, zr cI q3 7, zr cI q4 7, zr cI q5 7, zr cI q6 3] := hD
  refine W.widen (k := 7) (n := 45) (by omega) (by omega) ?_
  refine kc_newf (i := 31) (k := 7) (N := 12) (n := 12) (w := 2) (ty := .array .int) (pc2 := 62) C (fun H locs cells slots K => lv_bipush hx hb dcM_init_60 (by decide) K) rfl rfl rfl (fun _ => rfl) (fun _ => rfl) (Nat.le_of_ble_eq_true rfl) (by decide) (by decide) (by decide) (by decide) (by decide) rfl hP hD hS dcM_init_59 dcM_init_62 dcM_init_64 (lv_at hls 0 rfl) (fun q7 H locs hP hD hS => ?_)
  have hP : va_P D vwCl [(h0, .inr (5, [.ref q0, .ref q1, .ref q2, .ref q3, .ref q4, .ref q5, .ref q6, .ref q7, .int 0, .int 0, .int 0, .null, .null, .null, .null, .int 0, .int 0, .int 0, .null, .int 0, .int 0, .int 0, .int 0, .null, .int 0, .null, .int 0])), zr cI q0 7, zr cI q1 7, zr cI q2 7, zr cI q3 7, zr cI q4 7, zr cI q5 7, zr cI q6 3, zr cI q7 12] H := hP
  have hD : va_D A [(h0, .inr (5, [.ref q0, .ref q1, .ref q2, .ref q3, .ref q4, .ref q5, .ref q6, .ref q7, .int 0, .int 0, .int 0, .null, .null, .null, .null, .int 0, .int 0, .int 0, .null, .int 0, .int 0, .int 0, .int 0, .null, .int 0, .null, .int 0])), zr cI q0 7, zr cI q1 7, zr cI q2 7, zr cI q3 7, zr cI q4 7, zr cI q5 7, zr cI q6 3, zr cI q7 12] := hD
  refine W.widen (k := 8) (n := 57) (by omega) (by omega) ?_
  refine kc_newf (i := 34) (k := 11) (N := 96) (n := 96) (w := 2) (ty := .array .int) (pc2 := 70) C (fun H locs cells slots K => lv_bipush hx hb dcM_init_68 (by decide) K) rfl rfl rfl (fun _ => rfl) (fun _ => rfl) (Nat.le_of_ble_eq_true rfl) (by decide) (by decide) (by decide) (by decide) (by decide) rfl hP hD hS dcM_init_67 dcM_init_70 dcM_init_72 (lv_at hls 0 rfl) (fun q8 H locs hP hD hS => ?_)
  have hP : va_P D vwCl [(h0, .inr (5, [.ref q0, .ref q1, .ref q2, .ref q3, .ref q4, .ref q5, .ref q6, .ref q7, .int 0, .int 0, .int 0, .ref q8, .null, .null, .null, .int 0, .int 0, .int 0, .null, .int 0, .int 0, .int 0, .int 0, .null, .int 0, .null, .int 0])), zr cI q0 7, zr cI q1 7, zr cI q2 7, zr cI q3 7, zr cI q4 7, zr cI q5 7, zr cI q6 3, zr cI q7 12, zr cI q8 96] H := hP
  have hD : va_D A [(h0, .inr (5, [.ref q0, .ref q1, .ref q2, .ref q3, .ref q4, .ref q5, .ref q6, .ref q7, .int 0, .int 0, .int 0, .ref q8, .null, .null, .null, .int 0, .int 0, .int 0, .null, .int 0, .int 0, .int 0, .int 0, .null, .int 0, .null, .int 0])), zr cI q0 7, zr cI q1 7, zr cI q2 7, zr cI q3 7, zr cI q4 7, zr cI q5 7, zr cI q6 3, zr cI q7 12, zr cI q8 96] := hD
  refine W.widen (k := 9) (n := 153) (by omega) (by omega) ?_
  refine kc_newf (i := 37) (k := 12) (N := 48) (n := 48) (w := 2) (ty := .array .int) (pc2 := 78) C (fun H locs cells slots K => lv_bipush hx hb dcM_init_76 (by decide) K) rfl rfl rfl (fun _ => rfl) (fun _ => rfl) (Nat.le_of_ble_eq_true rfl) (by decide) (by decide) (by decide) (by decide) (by decide) rfl hP hD hS dcM_init_75 dcM_init_78 dcM_init_80 (lv_at hls 0 rfl) (fun q9 H locs hP hD hS => ?_)
  have hP : va_P D vwCl [(h0, .inr (5, [.ref q0, .ref q1, .ref q2, .ref q3, .ref q4, .ref q5, .ref q6, .ref q7, .int 0, .int 0, .int 0, .ref q8, .ref q9, .null, .null, .int 0, .int 0, .int 0, .null, .int 0, .int 0, .int 0, .int 0, .null, .int 0, .null, .int 0])), zr cI q0 7, zr cI q1 7, zr cI q2 7, zr cI q3 7, zr cI q4 7, zr cI q5 7, zr cI q6 3, zr cI q7 12, zr cI q8 96, zr cI q9 48] H := hP
  have hD : va_D A [(h0, .inr (5, [.ref q0, .ref q1, .ref q2, .ref q3, .ref q4, .ref q5, .ref q6, .ref q7, .int 0, .int 0, .int 0, .ref q8, .ref q9, .null, .null, .int 0, .int 0, .int 0, .null, .int 0, .int 0, .int 0, .int 0, .null, .int 0, .null, .int 0])), zr cI q0 7, zr cI q1 7, zr cI q2 7, zr cI q3 7, zr cI q4 7, zr cI q5 7, zr cI q6 3, zr cI q7 12, zr cI q8 96, zr cI q9 48] := hD
  refine W.widen (k := 10) (n := 201) (by omega) (by omega) ?_
  refine kc_newf (i := 40) (k := 13) (N := 48) (n := 48) (w := 2) (ty := .array .int) (pc2 := 86) C (fun H locs cells slots K => lv_bipush hx hb dcM_init_84 (by decide) K) rfl rfl rfl (fun _ => rfl) (fun _ => rfl) (Nat.le_of_ble_eq_true rfl) (by decide) (by decide) (by decide) (by decide) (by decide) rfl hP hD hS dcM_init_83 dcM_init_86 dcM_init_88 (lv_at hls 0 rfl) (fun q10 H locs hP hD hS => ?_)
  have hP : va_P D vwCl [(h0, .inr (5, [.ref q0, .ref q1, .ref q2, .ref q3, .ref q4, .ref q5, .ref q6, .ref q7, .int 0, .int 0, .int 0, .ref q8, .ref q9, .ref q10, .null, .int 0, .int 0, .int 0, .null, .int 0, .int 0, .int 0, .int 0, .null, .int 0, .null, .int 0])), zr cI q0 7, zr cI q1 7, zr cI q2 7, zr cI q3 7, zr cI q4 7, zr cI q5 7, zr cI q6 3, zr cI q7 12, zr cI q8 96, zr cI q9 48, zr cI q10 48] H := hP
  have hD : va_D A [(h0, .inr (5, [.ref q0, .ref q1, .ref q2, .ref q3, .ref q4, .ref q5, .ref q6, .ref q7, .int 0, .int 0, .int 0, .ref q8, .ref q9, .ref q10, .null, .int 0, .int 0, .int 0, .null, .int 0, .int 0, .int 0, .int 0, .null, .int 0, .null, .int 0])), zr cI q0 7, zr cI q1 7, zr cI q2 7, zr cI q3 7, zr cI q4 7, zr cI q5 7, zr cI q6 3, zr cI q7 12, zr cI q8 96, zr cI q9 48, zr cI q10 48] := hD
  refine W.widen (k := 11) (n := 249) (by omega) (by omega) ?_
  refine kc_newf (i := 43) (k := 14) (N := 192) (n := 192) (w := 3) (ty := .array .int) (pc2 := 95) C (fun H locs cells slots K => lv_sipush hx hb dcM_init_92 (by decide) K) rfl rfl rfl (fun _ => rfl) (fun _ => rfl) (Nat.le_of_ble_eq_true rfl) (by decide) (by decide) (by decide) (by decide) (by decide) rfl hP hD hS dcM_init_91 dcM_init_95 dcM_init_97 (lv_at hls 0 rfl) (fun q11 H locs hP hD hS => ?_)
  have hP : va_P D vwCl [(h0, .inr (5, [.ref q0, .ref q1, .ref q2, .ref q3, .ref q4, .ref q5, .ref q6, .ref q7, .int 0, .int 0, .int 0, .ref q8, .ref q9, .ref q10, .ref q11, .int 0, .int 0, .int 0, .null, .int 0, .int 0, .int 0, .int 0, .null, .int 0, .null, .int 0])), zr cI q0 7, zr cI q1 7, zr cI q2 7, zr cI q3 7, zr cI q4 7, zr cI q5 7, zr cI q6 3, zr cI q7 12, zr cI q8 96, zr cI q9 48, zr cI q10 48, zr cI q11 192] H := hP
  have hD : va_D A [(h0, .inr (5, [.ref q0, .ref q1, .ref q2, .ref q3, .ref q4, .ref q5, .ref q6, .ref q7, .int 0, .int 0, .int 0, .ref q8, .ref q9, .ref q10, .ref q11, .int 0, .int 0, .int 0, .null, .int 0, .int 0, .int 0, .int 0, .null, .int 0, .null, .int 0])), zr cI q0 7, zr cI q1 7, zr cI q2 7, zr cI q3 7, zr cI q4 7, zr cI q5 7, zr cI q6 3, zr cI q7 12, zr cI q8 96, zr cI q9 48, zr cI q10 48, zr cI q11 192] := hD
  refine W.widen (k := 12) (n := 441) (by omega) (by omega) ?_
  refine kc_newf (i := 46) (k := 18) (N := 583) (n := 583) (w := 3) (ty := .array .int) (pc2 := 104) C (fun H locs cells slots K => lv_sipush hx hb dcM_init_101 (by decide) K) rfl rfl rfl (fun _ => rfl) (fun _ => rfl) (Nat.le_of_ble_eq_true rfl) (by decide) (by decide) (by decide) (by decide) (by decide) rfl hP hD hS dcM_init_100 dcM_init_104 dcM_init_106 (lv_at hls 0 rfl) (fun q12 H locs hP hD hS => ?_)
  have hP : va_P D vwCl [(h0, .inr (5, [.ref q0, .ref q1, .ref q2, .ref q3, .ref q4, .ref q5, .ref q6, .ref q7, .int 0, .int 0, .int 0, .ref q8, .ref q9, .ref q10, .ref q11, .int 0, .int 0, .int 0, .ref q12, .int 0, .int 0, .int 0, .int 0, .null, .int 0, .null, .int 0])), zr cI q0 7, zr cI q1 7, zr cI q2 7, zr cI q3 7, zr cI q4 7, zr cI q5 7, zr cI q6 3, zr cI q7 12, zr cI q8 96, zr cI q9 48, zr cI q10 48, zr cI q11 192, zr cI q12 583] H := hP
  have hD : va_D A [(h0, .inr (5, [.ref q0, .ref q1, .ref q2, .ref q3, .ref q4, .ref q5, .ref q6, .ref q7, .int 0, .int 0, .int 0, .ref q8, .ref q9, .ref q10, .ref q11, .int 0, .int 0, .int 0, .ref q12, .int 0, .int 0, .int 0, .int 0, .null, .int 0, .null, .int 0])), zr cI q0 7, zr cI q1 7, zr cI q2 7, zr cI q3 7, zr cI q4 7, zr cI q5 7, zr cI q6 3, zr cI q7 12, zr cI q8 96, zr cI q9 48, zr cI q10 48, zr cI q11 192, zr cI q12 583] := hD
  refine W.widen (k := 13) (n := 1024) (by omega) (by omega) ?_
  refine kc_newf (i := 49) (k := 23) (N := 12) (n := 12) (w := 2) (ty := .array .int) (pc2 := 112) C (fun H locs cells slots K => lv_bipush hx hb dcM_init_110 (by decide) K) rfl rfl rfl (fun _ => rfl) (fun _ => rfl) (Nat.le_of_ble_eq_true rfl) (by decide) (by decide) (by decide) (by decide) (by decide) rfl hP hD hS dcM_init_109 dcM_init_112 dcM_init_114 (lv_at hls 0 rfl) (fun q13 H locs hP hD hS => ?_)
  have hP : va_P D vwCl [(h0, .inr (5, [.ref q0, .ref q1, .ref q2, .ref q3, .ref q4, .ref q5, .ref q6, .ref q7, .int 0, .int 0, .int 0, .ref q8, .ref q9, .ref q10, .ref q11, .int 0, .int 0, .int 0, .ref q12, .int 0, .int 0, .int 0, .int 0, .ref q13, .int 0, .null, .int 0])), zr cI q0 7, zr cI q1 7, zr cI q2 7, zr cI q3 7, zr cI q4 7, zr cI q5 7, zr cI q6 3, zr cI q7 12, zr cI q8 96, zr cI q9 48, zr cI q10 48, zr cI q11 192, zr cI q12 583, zr cI q13 12] H := hP
  have hD : va_D A [(h0, .inr (5, [.ref q0, .ref q1, .ref q2, .ref q3, .ref q4, .ref q5, .ref q6, .ref q7, .int 0, .int 0, .int 0, .ref q8, .ref q9, .ref q10, .ref q11, .int 0, .int 0, .int 0, .ref q12, .int 0, .int 0, .int 0, .int 0, .ref q13, .int 0, .null, .int 0])), zr cI q0 7, zr cI q1 7, zr cI q2 7, zr cI q3 7, zr cI q4 7, zr cI q5 7, zr cI q6 3, zr cI q7 12, zr cI q8 96, zr cI q9 48, zr cI q10 48, zr cI q11 192, zr cI q12 583, zr cI q13 12] := hD
  refine W.widen (k := 14) (n := 1036) (by omega) (by omega) ?_
  refine kc_newf (i := 52) (k := 25) (N := 8) (n := 8) (w := 2) (ty := .array .int) (pc2 := 120) C (fun H locs cells slots K => lv_bipush hx hb dcM_init_118 (by decide) K) rfl rfl rfl (fun _ => rfl) (fun _ => rfl) (Nat.le_of_ble_eq_true rfl) (by decide) (by decide) (by decide) (by decide) (by decide) rfl hP hD hS dcM_init_117 dcM_init_120 dcM_init_122 (lv_at hls 0 rfl) (fun q14 H locs hP hD hS => ?_)
  have hP : va_P D vwCl [(h0, .inr (5, [.ref q0, .ref q1, .ref q2, .ref q3, .ref q4, .ref q5, .ref q6, .ref q7, .int 0, .int 0, .int 0, .ref q8, .ref q9, .ref q10, .ref q11, .int 0, .int 0, .int 0, .ref q12, .int 0, .int 0, .int 0, .int 0, .ref q13, .int 0, .ref q14, .int 0])), zr cI q0 7, zr cI q1 7, zr cI q2 7, zr cI q3 7, zr cI q4 7, zr cI q5 7, zr cI q6 3, zr cI q7 12, zr cI q8 96, zr cI q9 48, zr cI q10 48, zr cI q11 192, zr cI q12 583, zr cI q13 12, zr cI q14 8] H := hP
  have hD : va_D A [(h0, .inr (5, [.ref q0, .ref q1, .ref q2, .ref q3, .ref q4, .ref q5, .ref q6, .ref q7, .int 0, .int 0, .int 0, .ref q8, .ref q9, .ref q10, .ref q11, .int 0, .int 0, .int 0, .ref q12, .int 0, .int 0, .int 0, .int 0, .ref q13, .int 0, .ref q14, .int 0])), zr cI q0 7, zr cI q1 7, zr cI q2 7, zr cI q3 7, zr cI q4 7, zr cI q5 7, zr cI q6 3, zr cI q7 12, zr cI q8 96, zr cI q9 48, zr cI q10 48, zr cI q11 192, zr cI q12 583, zr cI q13 12, zr cI q14 8] := hD
  refine W.widen (k := 15) (n := 1044) (by omega) (by omega) ?_
  refine lv_iconst (v := 0) hx hb dcM_init_125 (by decide) ?_
  refine lv_istore_n hx hb dcM_init_126 rfl hls (by decide) rfl (fun ls hls => ?_)
  have hP : va_P D vwCl [(h0, .inr (5, [.ref q0, .ref q1, .ref q2, .ref q3, .ref q4, .ref q5, .ref q6, .ref q7, .int 0, .int 0, .int 0, .ref q8, .ref q9, .ref q10, .ref q11, .int 0, .int 0, .int 0, .ref q12, .int 0, .int 0, .int 0, .int 0, .ref q13, .int 0, .ref q14, .int 0])), zr cI q0 7, zr cI q1 7, zr cI q2 7, zr cI q3 7, zr cI q4 7, zr cI q5 7, (q6, .inl (cI, 3, .inl (fun _ => 0))), zr cI q7 12, zr cI q8 96, zr cI q9 48, zr cI q10 48, zr cI q11 192, zr cI q12 583, zr cI q13 12, zr cI q14 8] H := hP
  refine kc_seen (i := 28) (k := 6) (t := 7) (q := q6) (x := 0) (f := (fun _ => 0)) C rfl rfl rfl rfl rfl (by decide) (by unfold vp_in; decide) rfl hP hD hS hls dcM_init_127 dcM_init_128 dcM_init_129 dcM_init_132 dcM_init_133 dcM_init_136 dcM_init_137 dcM_init_139 dcM_init_140 dcM_init_143 (fun H locs ls hls hP hD hS => ?_)
  have hP : va_P D vwCl [(h0, .inr (5, [.ref q0, .ref q1, .ref q2, .ref q3, .ref q4, .ref q5, .ref q6, .ref q7, .int 0, .int 0, .int 0, .ref q8, .ref q9, .ref q10, .ref q11, .int 0, .int 0, .int 0, .ref q12, .int 0, .int 0, .int 0, .int 0, .ref q13, .int 0, .ref q14, .int 0])), zr cI q0 7, zr cI q1 7, zr cI q2 7, zr cI q3 7, zr cI q4 7, zr cI q5 7, (q6, .inl (cI, 3, .inl (upd (fun _ => 0) 0 90))), zr cI q7 12, zr cI q8 96, zr cI q9 48, zr cI q10 48, zr cI q11 192, zr cI q12 583, zr cI q13 12, zr cI q14 8] H := hP
  have hD : va_D A [(h0, .inr (5, [.ref q0, .ref q1, .ref q2, .ref q3, .ref q4, .ref q5, .ref q6, .ref q7, .int 0, .int 0, .int 0, .ref q8, .ref q9, .ref q10, .ref q11, .int 0, .int 0, .int 0, .ref q12, .int 0, .int 0, .int 0, .int 0, .ref q13, .int 0, .ref q14, .int 0])), zr cI q0 7, zr cI q1 7, zr cI q2 7, zr cI q3 7, zr cI q4 7, zr cI q5 7, (q6, .inl (cI, 3, .inl (upd (fun _ => 0) 0 90))), zr cI q7 12, zr cI q8 96, zr cI q9 48, zr cI q10 48, zr cI q11 192, zr cI q12 583, zr cI q13 12, zr cI q14 8] := hD
  have hls : lv_has ls (mL yM_init) [(1, .int 1), (0, .ref h0)] := hls
  refine kc_seen (i := 28) (k := 6) (t := 7) (q := q6) (x := 1) (f := (upd (fun _ => 0) 0 90)) C rfl rfl rfl rfl rfl (by decide) (by unfold vp_in; decide) rfl hP hD hS hls dcM_init_127 dcM_init_128 dcM_init_129 dcM_init_132 dcM_init_133 dcM_init_136 dcM_init_137 dcM_init_139 dcM_init_140 dcM_init_143 (fun H locs ls hls hP hD hS => ?_)
  have hP : va_P D vwCl [(h0, .inr (5, [.ref q0, .ref q1, .ref q2, .ref q3, .ref q4, .ref q5, .ref q6, .ref q7, .int 0, .int 0, .int 0, .ref q8, .ref q9, .ref q10, .ref q11, .int 0, .int 0, .int 0, .ref q12, .int 0, .int 0, .int 0, .int 0, .ref q13, .int 0, .ref q14, .int 0])), zr cI q0 7, zr cI q1 7, zr cI q2 7, zr cI q3 7, zr cI q4 7, zr cI q5 7, (q6, .inl (cI, 3, .inl (upd (upd (fun _ => 0) 0 90) 1 90))), zr cI q7 12, zr cI q8 96, zr cI q9 48, zr cI q10 48, zr cI q11 192, zr cI q12 583, zr cI q13 12, zr cI q14 8] H := hP
  have hD : va_D A [(h0, .inr (5, [.ref q0, .ref q1, .ref q2, .ref q3, .ref q4, .ref q5, .ref q6, .ref q7, .int 0, .int 0, .int 0, .ref q8, .ref q9, .ref q10, .ref q11, .int 0, .int 0, .int 0, .ref q12, .int 0, .int 0, .int 0, .int 0, .ref q13, .int 0, .ref q14, .int 0])), zr cI q0 7, zr cI q1 7, zr cI q2 7, zr cI q3 7, zr cI q4 7, zr cI q5 7, (q6, .inl (cI, 3, .inl (upd (upd (fun _ => 0) 0 90) 1 90))), zr cI q7 12, zr cI q8 96, zr cI q9 48, zr cI q10 48, zr cI q11 192, zr cI q12 583, zr cI q13 12, zr cI q14 8] := hD
  have hls : lv_has ls (mL yM_init) [(1, .int 2), (0, .ref h0)] := hls
  refine kc_seen (i := 28) (k := 6) (t := 7) (q := q6) (x := 2) (f := (upd (upd (fun _ => 0) 0 90) 1 90)) C rfl rfl rfl rfl rfl (by decide) (by unfold vp_in; decide) rfl hP hD hS hls dcM_init_127 dcM_init_128 dcM_init_129 dcM_init_132 dcM_init_133 dcM_init_136 dcM_init_137 dcM_init_139 dcM_init_140 dcM_init_143 (fun H locs ls hls hP hD hS => ?_)
  have hP : va_P D vwCl [(h0, .inr (5, [.ref q0, .ref q1, .ref q2, .ref q3, .ref q4, .ref q5, .ref q6, .ref q7, .int 0, .int 0, .int 0, .ref q8, .ref q9, .ref q10, .ref q11, .int 0, .int 0, .int 0, .ref q12, .int 0, .int 0, .int 0, .int 0, .ref q13, .int 0, .ref q14, .int 0])), zr cI q0 7, zr cI q1 7, zr cI q2 7, zr cI q3 7, zr cI q4 7, zr cI q5 7, (q6, .inl (cI, 3, .inl (upd (upd (upd (fun _ => 0) 0 90) 1 90) 2 90))), zr cI q7 12, zr cI q8 96, zr cI q9 48, zr cI q10 48, zr cI q11 192, zr cI q12 583, zr cI q13 12, zr cI q14 8] H := hP
  have hD : va_D A [(h0, .inr (5, [.ref q0, .ref q1, .ref q2, .ref q3, .ref q4, .ref q5, .ref q6, .ref q7, .int 0, .int 0, .int 0, .ref q8, .ref q9, .ref q10, .ref q11, .int 0, .int 0, .int 0, .ref q12, .int 0, .int 0, .int 0, .int 0, .ref q13, .int 0, .ref q14, .int 0])), zr cI q0 7, zr cI q1 7, zr cI q2 7, zr cI q3 7, zr cI q4 7, zr cI q5 7, (q6, .inl (cI, 3, .inl (upd (upd (upd (fun _ => 0) 0 90) 1 90) 2 90))), zr cI q7 12, zr cI q8 96, zr cI q9 48, zr cI q10 48, zr cI q11 192, zr cI q12 583, zr cI q13 12, zr cI q14 8] := hD
  have hls : lv_has ls (mL yM_init) [(1, .int 3), (0, .ref h0)] := hls
  refine lv_iload_n hx hb dcM_init_127 rfl (lv_at hls 0 rfl) ?_
  refine lv_iconst (v := 3) hx hb dcM_init_128 (by decide) ?_
  refine lv_icmp_ge (tgt := 146) hx hb dcM_init_129 (by decide) (fun _ => ?_) (fun h => absurd (by decide) h)
  obtain ⟨r, hr⟩ : ∃ r : Nat → Nat, r = fun k => [h0, q0, q1, q2, q3, q4, q5, q6, q7, q8, q9, q10, q11, q12, q13, q14].getD (k - 96) 0 := ⟨_, rfl⟩
  have r0 : r 96 = h0 := by rw [hr]; rfl
  have r1 : r 97 = q0 := by rw [hr]; rfl
  have r2 : r 98 = q1 := by rw [hr]; rfl
  have r3 : r 99 = q2 := by rw [hr]; rfl
  have r4 : r 100 = q3 := by rw [hr]; rfl
  have r5 : r 101 = q4 := by rw [hr]; rfl
  have r6 : r 102 = q5 := by rw [hr]; rfl
  have r7 : r 103 = q6 := by rw [hr]; rfl
  have r8 : r 104 = q7 := by rw [hr]; rfl
  have r9 : r 105 = q8 := by rw [hr]; rfl
  have r10 : r 106 = q9 := by rw [hr]; rfl
  have r11 : r 107 = q10 := by rw [hr]; rfl
  have r12 : r 108 = q11 := by rw [hr]; rfl
  have r13 : r 109 = q12 := by rw [hr]; rfl
  have r14 : r 110 = q13 := by rw [hr]; rfl
  have r15 : r 111 = q14 := by rw [hr]; rfl
  have e : wlx cI cS r [96, 97, 98, 99, 100, 101, 102, 103, 104, 105, 106, 107, 108, 109, 110, 111] = [(h0, .inr (5, [.ref q0, .ref q1, .ref q2, .ref q3, .ref q4, .ref q5, .ref q6, .ref q7, .int 0, .int 0, .int 0, .ref q8, .ref q9, .ref q10, .ref q11, .int 0, .int 0, .int 0, .ref q12, .int 0, .int 0, .int 0, .int 0, .ref q13, .int 0, .ref q14, .int 0])), zr cI q0 7, zr cI q1 7, zr cI q2 7, zr cI q3 7, zr cI q4 7, zr cI q5 7, (q6, .inl (cI, 3, .inl (upd (upd (upd (fun _ => 0) 0 90) 1 90) 2 90))), zr cI q7 12, zr cI q8 96, zr cI q9 48, zr cI q10 48, zr cI q11 192, zr cI q12 583, zr cI q13 12, zr cI q14 8] := by
    show [(r 96, cellE r cI cS u0 96), (r 97, cellE r cI cS u0 97), (r 98, cellE r cI cS u0 98), (r 99, cellE r cI cS u0 99), (r 100, cellE r cI cS u0 100), (r 101, cellE r cI cS u0 101), (r 102, cellE r cI cS u0 102), (r 103, cellE r cI cS u0 103), (r 104, cellE r cI cS u0 104), (r 105, cellE r cI cS u0 105), (r 106, cellE r cI cS u0 106), (r 107, cellE r cI cS u0 107), (r 108, cellE r cI cS u0 108), (r 109, cellE r cI cS u0 109), (r 110, cellE r cI cS u0 110), (r 111, cellE r cI cS u0 111)] = _
    rw [cell_obj (c := 5) (k := 96) rfl (by decide)]
    rw [cz_row (k := 97) rfl rfl rfl, cz_row (k := 98) rfl rfl rfl, cz_row (k := 99) rfl rfl rfl, cz_row (k := 100) rfl rfl rfl, cz_row (k := 101) rfl rfl rfl, cz_row (k := 102) rfl rfl rfl, cz_seen (k := 103) rfl rfl rfl rfl, cz_row (k := 104) rfl rfl rfl, cz_row (k := 105) rfl rfl rfl, cz_row (k := 106) rfl rfl rfl, cz_row (k := 107) rfl rfl rfl, cz_row (k := 108) rfl rfl rfl, cz_row (k := 109) rfl rfl rfl, cz_row (k := 110) rfl rfl rfl, cz_row (k := 111) rfl rfl rfl]
    show ([(r 96, .inr (5, [.ref (r 97), .ref (r 98), .ref (r 99), .ref (r 100), .ref (r 101), .ref (r 102), .ref (r 103), .ref (r 104), .int 0, .int 0, .int 0, .ref (r 105), .ref (r 106), .ref (r 107), .ref (r 108), .int 0, .int 0, .int 0, .ref (r 109), .int 0, .int 0, .int 0, .int 0, .ref (r 110), .int 0, .ref (r 111), .int 0])), (r 97, .inl (cI, 7, .inl (fun _ => 0))), (r 98, .inl (cI, 7, .inl (fun _ => 0))), (r 99, .inl (cI, 7, .inl (fun _ => 0))), (r 100, .inl (cI, 7, .inl (fun _ => 0))), (r 101, .inl (cI, 7, .inl (fun _ => 0))), (r 102, .inl (cI, 7, .inl (fun _ => 0))), (r 103, .inl (cI, 3, .inl (upd (upd (upd (fun _ => 0) 0 90) 1 90) 2 90))), (r 104, .inl (cI, 12, .inl (fun _ => 0))), (r 105, .inl (cI, 96, .inl (fun _ => 0))), (r 106, .inl (cI, 48, .inl (fun _ => 0))), (r 107, .inl (cI, 48, .inl (fun _ => 0))), (r 108, .inl (cI, 192, .inl (fun _ => 0))), (r 109, .inl (cI, 583, .inl (fun _ => 0))), (r 110, .inl (cI, 12, .inl (fun _ => 0))), (r 111, .inl (cI, 8, .inl (fun _ => 0)))] : va_W) = _
    rw [r0, r1, r2, r3, r4, r5, r6, r7, r8, r9, r10, r11, r12, r13, r14, r15]
    rfl
  refine kc_ret (r := r) C dcM_init_146 r0 ?_ ?_ hS
  · rw [e]; exact hP
  · rw [e]; exact hD
theorem dcN_init_0 : decode (mB yN_init) 0 = .ok (.aload_n 0, 1) := by decide +kernel
theorem dcN_init_1 : decode (mB yN_init) 1 = .ok (.invokespecial 1, 3) := by decide +kernel
theorem dcN_init_4 : decode (mB yN_init) 4 = .ok (.aload_n 0, 1) := by decide +kernel
theorem dcN_init_5 : decode (mB yN_init) 5 = .ok (.iconst 0, 1) := by decide +kernel
theorem dcN_init_6 : decode (mB yN_init) 6 = .ok (.iload_n 1, 1) := by decide +kernel
theorem dcN_init_7 : decode (mB yN_init) 7 = .ok (.invokestatic 7, 3) := by decide +kernel
theorem dcN_init_10 : decode (mB yN_init) 10 = .ok (.newarray .int, 2) := by decide +kernel
theorem dcN_init_12 : decode (mB yN_init) 12 = .ok (.putfield 13, 3) := by decide +kernel
theorem dcN_init_15 : decode (mB yN_init) 15 = .ok (.aload_n 0, 1) := by decide +kernel
theorem dcN_init_16 : decode (mB yN_init) 16 = .ok (.iconst 0, 1) := by decide +kernel
theorem dcN_init_17 : decode (mB yN_init) 17 = .ok (.putfield 19, 3) := by decide +kernel
theorem dcN_init_20 : decode (mB yN_init) 20 = .ok (.return_, 1) := by decide +kernel
theorem dcT_init_0 : decode (mB yT_init) 0 = .ok (.aload_n 0, 1) := by decide +kernel
theorem dcT_init_1 : decode (mB yT_init) 1 = .ok (.bipush 96, 2) := by decide +kernel
theorem dcT_init_3 : decode (mB yT_init) 3 = .ok (.invokespecial 3, 3) := by decide +kernel
theorem dcT_init_6 : decode (mB yT_init) 6 = .ok (.return_, 1) := by decide +kernel
theorem twN_init_0 : TW (.methodLink (RC 0) 1 objectInit) := tw_t 85 (by decide +kernel) (by decide +kernel)
theorem twN_init_m : TW (.methodLink (RC 0) 7 Lib.Math.max.name) := tw_t 86 (by decide +kernel) (by decide +kernel)
set_option maxRecDepth 20000 in
theorem con_N_init_12 (l : Launch) (D : va_G) (cI cS : ClassId) : CNo l D cI cS yN_init 0 [.int 12] 1 12 [93, 94] 93 := by
  refine kc_meto (o := 0) (vs := [.int 12]) (ix := 1) (by decide) rfl rfl rfl (by decide) (fun _ => Nat.le_of_ble_eq_true rfl) (by decide) twN_init_0 dcN_init_0 dcN_init_1 ?_
  intro p e s m below meth c A h0 ls C hP hD hls
  have hx := C.1
  have hb := C.2.1
  have hS : va_S A s.heap s.heap [] := va_S.rf
  have hls : lv_has ls 2 [(0, .ref h0), (1, .int 12)] := hls
  have hP : va_P D vwCl [(h0, .inr (0, [.null, .int 0]))] s.heap := hP
  have hD : va_D A [(h0, .inr (0, [.null, .int 0]))] := hD
  refine lv_aload_n hx hb dcN_init_4 rfl (lv_at hls 0 rfl) ?_
  refine lv_iconst (v := 0) hx hb dcN_init_5 (by decide) ?_
  refine lv_iload_n hx hb dcN_init_6 rfl (lv_at hls 1 rfl) ?_
  refine va_mmax hx hb (C.2.2.1.trans hls.1.symm) C.2.2.2.1 (C.2.2.2.2.1 _ (twN_init_m.inY yN_init)) (C.2.2.2.2.1 _ (wX0.1.inY yN_init)) (C.2.2.2.2.1 _ (wXi.inY yN_init)) (C.2.2.2.2.1 _ (wX0.2.inY yN_init)) (Nat.le_of_ble_eq_true rfl) (Nat.le_of_ble_eq_true rfl) (Nat.zero_le _) (Nat.zero_le _) dcN_init_7 ?_
  show W p l e (rmC yN_init 1 12) s m _ below meth c s.heap [] 0 0 _ (F0 m 10 ls [.int (if (0 : Int32) < 12 then 12 else 0), .ref h0])
  rw [show (if (0 : Int32) < 12 then (12 : Int32) else 0) = 12 by decide]
  refine kc_newarr (n := 12) (N := 12) C (by decide) (by decide) (by decide) (by decide) (by decide) hP hD hS dcN_init_10 (fun q0 H hP hD hS => ?_)
  have hP : va_P D vwCl [(h0, .inr (0, [.null, .int 0])), zr cI q0 12] H := hP
  have hD : va_D A [(h0, .inr (0, [.null, .int 0])), zr cI q0 12] := hD
  refine kc_puto (o := 0) (i := 13) (k := 0) (q0 := 0) (ty := .array .int) C (by decide) rfl rfl rfl rfl rfl rfl (Nat.le_of_ble_eq_true rfl) hP hD hS dcN_init_12 (fun H locs hP hD hS => ?_)
  have hP : va_P D vwCl [(h0, .inr (0, [.ref q0, .int 0])), zr cI q0 12] H := hP
  have hD : va_D A [(h0, .inr (0, [.ref q0, .int 0])), zr cI q0 12] := hD
  refine W.widen (k := 1) (n := 12) (by omega) (by omega) ?_
  refine lv_aload_n hx hb dcN_init_15 rfl (lv_at hls 0 rfl) ?_
  refine lv_iconst (v := 0) hx hb dcN_init_16 (by decide) ?_
  refine kc_puto (o := 0) (i := 19) (k := 1) (q0 := 0) (ty := .int) C (by decide) rfl rfl rfl rfl rfl rfl (Nat.le_of_ble_eq_true rfl) hP hD hS dcN_init_17 (fun H locs hP hD hS => ?_)
  have hP : va_P D vwCl [(h0, .inr (0, [.ref q0, .int 0])), zr cI q0 12] H := hP
  have hD : va_D A [(h0, .inr (0, [.ref q0, .int 0])), zr cI q0 12] := hD
  obtain ⟨r, hr⟩ : ∃ r : Nat → Nat, r = fun k => [h0, q0].getD (k - 93) 0 := ⟨_, rfl⟩
  have r0 : r 93 = h0 := by rw [hr]; rfl
  have r1 : r 94 = q0 := by rw [hr]; rfl
  have e : wlx cI cS r [93, 94] = [(h0, .inr (0, [.ref q0, .int 0])), zr cI q0 12] := by
    show [(r 93, cellE r cI cS u0 93), (r 94, cellE r cI cS u0 94)] = _
    rw [cell_obj (c := 0) (k := 93) rfl (by decide)]
    rw [cz_row (k := 94) rfl rfl rfl]
    show ([(r 93, .inr (0, [.ref (r 94), .int 0])), (r 94, .inl (cI, 12, .inl (fun _ => 0)))] : va_W) = _
    rw [r0, r1]
    rfl
  refine kc_ret (r := r) C dcN_init_20 r0 ?_ ?_ hS
  · rw [e]; exact hP
  · rw [e]; exact hD
set_option maxRecDepth 20000 in
theorem con_N_init_96 (l : Launch) (D : va_G) (cI cS : ClassId) : CNo l D cI cS yN_init 3 [.int 96] 1 96 [91, 92] 91 := by
  refine kc_meto (o := 3) (vs := [.int 96]) (ix := 1) (by decide) rfl rfl rfl (by decide) (fun _ => Nat.le_of_ble_eq_true rfl) (by decide) twN_init_0 dcN_init_0 dcN_init_1 ?_
  intro p e s m below meth c A h0 ls C hP hD hls
  have hx := C.1
  have hb := C.2.1
  have hS : va_S A s.heap s.heap [] := va_S.rf
  have hls : lv_has ls 2 [(0, .ref h0), (1, .int 96)] := hls
  have hP : va_P D vwCl [(h0, .inr (3, [.null, .int 0]))] s.heap := hP
  have hD : va_D A [(h0, .inr (3, [.null, .int 0]))] := hD
  refine lv_aload_n hx hb dcN_init_4 rfl (lv_at hls 0 rfl) ?_
  refine lv_iconst (v := 0) hx hb dcN_init_5 (by decide) ?_
  refine lv_iload_n hx hb dcN_init_6 rfl (lv_at hls 1 rfl) ?_
  refine va_mmax hx hb (C.2.2.1.trans hls.1.symm) C.2.2.2.1 (C.2.2.2.2.1 _ (twN_init_m.inY yN_init)) (C.2.2.2.2.1 _ (wX0.1.inY yN_init)) (C.2.2.2.2.1 _ (wXi.inY yN_init)) (C.2.2.2.2.1 _ (wX0.2.inY yN_init)) (Nat.le_of_ble_eq_true rfl) (Nat.le_of_ble_eq_true rfl) (Nat.zero_le _) (Nat.zero_le _) dcN_init_7 ?_
  show W p l e (rmC yN_init 1 96) s m _ below meth c s.heap [] 0 0 _ (F0 m 10 ls [.int (if (0 : Int32) < 96 then 96 else 0), .ref h0])
  rw [show (if (0 : Int32) < 96 then (96 : Int32) else 0) = 96 by decide]
  refine kc_newarr (n := 96) (N := 96) C (by decide) (by decide) (by decide) (by decide) (by decide) hP hD hS dcN_init_10 (fun q0 H hP hD hS => ?_)
  have hP : va_P D vwCl [(h0, .inr (3, [.null, .int 0])), zr cI q0 96] H := hP
  have hD : va_D A [(h0, .inr (3, [.null, .int 0])), zr cI q0 96] := hD
  refine kc_puto (o := 3) (i := 13) (k := 0) (q0 := 0) (ty := .array .int) C (by decide) rfl rfl rfl rfl rfl rfl (Nat.le_of_ble_eq_true rfl) hP hD hS dcN_init_12 (fun H locs hP hD hS => ?_)
  have hP : va_P D vwCl [(h0, .inr (3, [.ref q0, .int 0])), zr cI q0 96] H := hP
  have hD : va_D A [(h0, .inr (3, [.ref q0, .int 0])), zr cI q0 96] := hD
  refine W.widen (k := 1) (n := 96) (by omega) (by omega) ?_
  refine lv_aload_n hx hb dcN_init_15 rfl (lv_at hls 0 rfl) ?_
  refine lv_iconst (v := 0) hx hb dcN_init_16 (by decide) ?_
  refine kc_puto (o := 3) (i := 19) (k := 1) (q0 := 0) (ty := .int) C (by decide) rfl rfl rfl rfl rfl rfl (Nat.le_of_ble_eq_true rfl) hP hD hS dcN_init_17 (fun H locs hP hD hS => ?_)
  have hP : va_P D vwCl [(h0, .inr (3, [.ref q0, .int 0])), zr cI q0 96] H := hP
  have hD : va_D A [(h0, .inr (3, [.ref q0, .int 0])), zr cI q0 96] := hD
  obtain ⟨r, hr⟩ : ∃ r : Nat → Nat, r = fun k => [h0, q0].getD (k - 91) 0 := ⟨_, rfl⟩
  have r0 : r 91 = h0 := by rw [hr]; rfl
  have r1 : r 92 = q0 := by rw [hr]; rfl
  have e : wlx cI cS r [91, 92] = [(h0, .inr (3, [.ref q0, .int 0])), zr cI q0 96] := by
    show [(r 91, cellE r cI cS u0 91), (r 92, cellE r cI cS u0 92)] = _
    rw [cell_obj (c := 3) (k := 91) rfl (by decide)]
    rw [cz_row (k := 92) rfl rfl rfl]
    show ([(r 91, .inr (3, [.ref (r 92), .int 0])), (r 92, .inl (cI, 96, .inl (fun _ => 0)))] : va_W) = _
    rw [r0, r1]
    rfl
  refine kc_ret (r := r) C dcN_init_20 r0 ?_ ?_ hS
  · rw [e]; exact hP
  · rw [e]; exact hD
theorem twT_init_0 : TW (.methodLink (RC 3) 3 (mN yN_init)) := tw_t 82 (by decide +kernel) (by decide +kernel)
theorem twT_init_1 : TW (.initialized (RC 0)) := tw_t 4 (by decide +kernel) (by decide +kernel)
theorem twT_init_2 : TW (.instanceMethod (mN yN_init)) := tw_t 83 (by decide +kernel) (by decide +kernel)
theorem twT_init_3 : TW (.code (mN yN_init) (mB yN_init) (mL yN_init) (mR yN_init)) := tw_t 84 (by decide +kernel) (by decide +kernel)
theorem gYN (y : MI) : GoodIn (wsY y) (wsY yN_init) := by
  intro w hw
  rcases List.mem_cons.mp hw with rfl | hw
  · exact ⟨twT_init_3.inY y, good_of_word twT_init_3.2⟩
  · exact ⟨List.mem_cons_of_mem _ hw, good_of_word (List.mem_filter.mp hw).2⟩
set_option maxRecDepth 20000 in
theorem con_T_init (l : Launch) (D : va_G) (cI cS : ClassId) : CN l D cI cS yT_init 1 96 [91, 92] 91 := by
  intro h0 sz
  refine Met.ofW (cc := mB yT_init) (maxL := mL yT_init) (ret := none) (by decide) rfl ?_
  intro p e s m args below meth c s₁ B hml hv
  obtain ⟨rfl, hsz, hP, hK, hD0⟩ := hv
  have hx := B.exec
  have hb := B.bytes
  have hts := atoms_spec (ws := wsY yT_init) B.pre
  have hown : s.vm.findClass (RC 3) = some m.cls := findClass_of_methodNamed B.named
  have hin : meth.name = "<init>" := (name_of_methodNamed B.named B.method).1
  subst hsz
  have C : CC D cI cS (va_A [(h0, .inr (3, bl 3))] s.heap.size) yT_init p s m meth c #[.ref h0] := ⟨hx, hb, hml, hown, hts, hK, hin, fun q h => Or.inr h, by decide, B.notSynchronized, B.returns⟩
  have hl := lv_entry ([.ref h0]) (n := mL yT_init) (Nat.le_of_ble_eq_true rfl)
  rw [lg_entry_eq]
  generalize (lg_sl ([.ref h0]) ++ List.replicate (mL yT_init - (lg_sl ([.ref h0])).length) Slot.unset).toArray = ls at hl ⊢
  have hl : lv_has ls 1 [(0, .ref h0)] := hl
  have hS : va_S (va_A [(h0, .inr (3, bl 3))] s.heap.size) s.heap s.heap [] := va_S.rf
  refine lv_aload_n hx hb dcT_init_0 rfl (lv_at hl 0 rfl) ?_
  refine lv_bipush (v := 96) hx hb dcT_init_1 (by decide) ?_
  have cw := cwI (R := rmC yT_init 1 96) (rm := rmC yN_init 1 96) (own := RC 3) (index := 3) (y := mN yN_init) (bytes := mB yN_init) (maxL := mL yN_init) (mc := 1) (ms := 96) 1 hts (gYN yT_init) rfl rfl rfl (hts _ (twT_init_1.inY yT_init)) (hts _ (twT_init_0.inY yT_init)) (hts _ (twT_init_2.inY yT_init)) rfl (by decide +kernel) ⟨Nat.le_of_ble_eq_true rfl, Nat.le_of_ble_eq_true rfl⟩
  refine va_callv (va_runI (As := [.int 96]) (b := h0) (rest := []) ⟨hx, hb, hml, hown, hts⟩ (con_N_init_96 l D cI cS h0 s.heap.size) cw ⟨fun a U g mk q => by obtain ⟨q0, q1, qP, qK, qD⟩ := q; exact ⟨q0, q1, qP, KK.moved (u := U) (U := U.calling g mk a) (Vm.Alike.refl U.vm) qK, qD⟩, fun U hU hW => ⟨rfl, by rw [hU], by rw [hU]; exact hP, KK.moved hW.alike hK, hD0⟩⟩ rfl rfl hl.1 rfl (lv_room (Nat.le_of_ble_eq_true rfl)) dcT_init_3 ⟨Nat.le_of_ble_eq_true rfl, Nat.le_of_ble_eq_true rfl⟩) hS (fun q _ h => h) (fun q h => h) (fun r t H3 locs3 ht hvm hr hB hz1 hk1 hS => ?_)
  obtain ⟨hP1, hD1⟩ := hB
  rw [ht] at hP1
  exact W.vret hx hb B.returns (fun t ht hW => ⟨⟨r, rfl, hr, by rw [ht]; exact hP1, hD1⟩, hS.F ht⟩) hS.2.2 dcT_init_6

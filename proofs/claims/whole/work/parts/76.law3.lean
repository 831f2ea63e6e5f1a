/-! the law: its cases, its switch, its loop -/
section LAW3
variable {p : Program} {l : Launch} {e : Env} {s : State} {m : MethodId} {below : List Frame} {meth : Method} {c : Code} {H : Heap} {locs : List Loc} {cells slots : Nat} {Q : State → Prop}
variable {D : va_G} {rho : Nat → Nat} {cI cS : ClassId} {b L : Nat} {xs : Nat → Int32} {pc i : Nat} {ls : Array Slot} {rest : List Value} {u : Mem}
theorem dl_18 : decode code 18 = .ok (.iload_n 3, 1) := by decide +kernel
theorem dl_19 : decode code 19 = .ok (.aload_n 0, 1) := by decide +kernel
theorem dl_20 : decode code 20 = .ok (.arraylength, 1) := by decide +kernel
theorem dl_21 : decode code 21 = .ok (.bipush 6, 2) := by decide +kernel
theorem dl_23 : decode code 23 = .ok (.isub, 1) := by decide +kernel
theorem dl_24 : decode code 24 = .ok (.if_icmp .gt 1343, 3) := by decide +kernel
theorem dl_27 : decode code 27 = .ok (.aload_n 0, 1) := by decide +kernel
theorem dl_28 : decode code 28 = .ok (.iload_n 3, 1) := by decide +kernel
theorem dl_29 : decode code 29 = .ok (.iaload, 1) := by decide +kernel
theorem dl_30 : decode code 30 = .ok (.bipush 63, 2) := by decide +kernel
theorem dl_32 : decode code 32 = .ok (.iand, 1) := by decide +kernel
theorem dl_33 : decode code 33 = .ok (.tableswitch 1328 0 42 #[187, 210, 223, 256, 289, 312, 335, 388, 421, 454, 487, 510, 523, 556, 599, 622, 645, 658, 691, 714, 737, 760, 783, 806, 829, 852, 895, 938, 1002, 1025, 1049, 1072, 1095, 1118, 1151, 1174, 1187, 1210, 1223, 1236, 1279, 1292, 1305], 187) := by decide +kernel
theorem dl_1361 : decode code 1361 = .ok (.iinc 3 6, 3) := by decide +kernel
theorem dl_1364 : decode code 1364 = .ok (.goto (-1346), 3) := by decide +kernel
theorem dl_1367 : decode code 1367 = .ok (.iconst 1, 1) := by decide +kernel
theorem dl_1368 : decode code 1368 = .ok (.ireturn, 1) := by decide +kernel
theorem dl_0 : decode code 0 = .ok (.new 7, 3) := by decide +kernel
theorem dl_3 : decode code 3 = .ok (.dup, 1) := by decide +kernel
theorem dl_4 : decode code 4 = .ok (.invokespecial 9, 3) := by decide +kernel
theorem dl_7 : decode code 7 = .ok (.astore_n 1, 1) := by decide +kernel
theorem dl_8 : decode code 8 = .ok (.new 10, 3) := by decide +kernel
theorem dl_11 : decode code 11 = .ok (.dup, 1) := by decide +kernel
theorem dl_12 : decode code 12 = .ok (.invokespecial 12, 3) := by decide +kernel
theorem dl_15 : decode code 15 = .ok (.astore_n 2, 1) := by decide +kernel
theorem dl_16 : decode code 16 = .ok (.iconst 0, 1) := by decide +kernel
theorem dl_17 : decode code 17 = .ok (.istore_n 3, 1) := by decide +kernel
theorem lp_feed : OKp yO_feed yM_feed 1 13 17 := ⟨⟨tw_t 131 (by decide +kernel) (by decide +kernel), okyO_feed, rfl, by decide, rfl, rfl⟩, ⟨tw_t 672 (by decide +kernel) (by decide +kernel), okyM_feed, rfl, by decide, rfl, rfl⟩, by decide⟩
theorem lq_feed : LQ 220 1 13 17 := ⟨by decide +kernel, by decide +kernel, by decide +kernel, by decide +kernel, by decide +kernel, by decide +kernel⟩
theorem lc_feed (X : LX D rho cI cS b L xs p s m c) (hi : i + 6 ≤ L) (hI : IN u) (hP : va_P D vwCl (wl rho cI cS u) H) (hS : va_S (A0 s) s.heap H locs) (hls : lv_has ls 4 [(3, .int (nI i)), (0, .ref b), (1, .ref (rho 88)), (2, .ref (rho 96))]) (K : KE D rho cI cS p l e s m b below meth c Q ls) : W p l e room_1 s m #[Value.ref b] below meth c H locs 600000 7302250 Q (F0 m 220 ls []) := by
  obtain ⟨Qs, Z, rfl, I⟩ := hI
  exact kl_int (k := 1) (i1 := 13) (i2 := 17) (off := 1123) (zo := yO_feed) (zm := yM_feed) X hi lq_feed (by decide +kernel) (by decide) lp_feed (P_feed I _) hP hS hls K
theorem lp_street : OKp yO_street yM_street 0 18 22 := ⟨⟨tw_t 148 (by decide +kernel) (by decide +kernel), okyO_street, rfl, by decide, rfl, rfl⟩, ⟨tw_t 683 (by decide +kernel) (by decide +kernel), okyM_street, rfl, by decide, rfl, rfl⟩, by decide⟩
theorem lq_street : LQ 243 0 18 22 := ⟨by decide +kernel, by decide +kernel, by decide +kernel, by decide +kernel, by decide +kernel, by decide +kernel⟩
theorem lc_street (X : LX D rho cI cS b L xs p s m c) (hi : i + 6 ≤ L) (hI : IN u) (hP : va_P D vwCl (wl rho cI cS u) H) (hS : va_S (A0 s) s.heap H locs) (hls : lv_has ls 4 [(3, .int (nI i)), (0, .ref b), (1, .ref (rho 88)), (2, .ref (rho 96))]) (K : KE D rho cI cS p l e s m b below meth c Q ls) : W p l e room_1 s m #[Value.ref b] below meth c H locs 600000 7302250 Q (F0 m 243 ls []) := by
  obtain ⟨Qs, Z, rfl, I⟩ := hI
  exact kl_int (k := 0) (i1 := 18) (i2 := 22) (off := 1110) (zo := yO_street) (zm := yM_street) X hi lq_street (by decide +kernel) (by decide) lp_street (P_street I) hP hS hls K
theorem lp_widowOf : OKp yO_widowOf yM_widowOf 2 23 27 := ⟨⟨tw_t 245 (by decide +kernel) (by decide +kernel), okyO_widowOf, rfl, by decide, rfl, rfl⟩, ⟨tw_t 784 (by decide +kernel) (by decide +kernel), okyM_widowOf, rfl, by decide, rfl, rfl⟩, by decide⟩
theorem lq_widowOf : LQ 256 2 23 27 := ⟨by decide +kernel, by decide +kernel, by decide +kernel, by decide +kernel, by decide +kernel, by decide +kernel⟩
theorem lc_widowOf (X : LX D rho cI cS b L xs p s m c) (hi : i + 6 ≤ L) (hI : IN u) (hP : va_P D vwCl (wl rho cI cS u) H) (hS : va_S (A0 s) s.heap H locs) (hls : lv_has ls 4 [(3, .int (nI i)), (0, .ref b), (1, .ref (rho 88)), (2, .ref (rho 96))]) (K : KE D rho cI cS p l e s m b below meth c Q ls) : W p l e room_1 s m #[Value.ref b] below meth c H locs 600000 7302250 Q (F0 m 256 ls []) := by
  obtain ⟨Qs, Z, rfl, I⟩ := hI
  exact kl_int (k := 2) (i1 := 23) (i2 := 27) (off := 1077) (zo := yO_widowOf) (zm := yM_widowOf) X hi lq_widowOf (by decide +kernel) (by decide) lp_widowOf (P_widowOf I _ _) hP hS hls K
theorem lp_wears : OKp yO_wears yM_wears 2 28 31 := ⟨⟨tw_t 285 (by decide +kernel) (by decide +kernel), okyO_wears, rfl, by decide, rfl, rfl⟩, ⟨tw_t 792 (by decide +kernel) (by decide +kernel), okyM_wears, rfl, by decide, rfl, rfl⟩, by decide⟩
theorem lq_wears : LQ 289 2 28 31 := ⟨by decide +kernel, by decide +kernel, by decide +kernel, by decide +kernel, by decide +kernel, by decide +kernel⟩
theorem lc_wears (X : LX D rho cI cS b L xs p s m c) (hi : i + 6 ≤ L) (hI : IN u) (hP : va_P D vwCl (wl rho cI cS u) H) (hS : va_S (A0 s) s.heap H locs) (hls : lv_has ls 4 [(3, .int (nI i)), (0, .ref b), (1, .ref (rho 88)), (2, .ref (rho 96))]) (K : KE D rho cI cS p l e s m b below meth c Q ls) : W p l e room_1 s m #[Value.ref b] below meth c H locs 600000 7302250 Q (F0 m 289 ls []) := by
  obtain ⟨Qs, Z, rfl, I⟩ := hI
  exact kl_int (k := 2) (i1 := 28) (i2 := 31) (off := 1044) (zo := yO_wears) (zm := yM_wears) X hi lq_wears (by decide +kernel) (by decide) lp_wears (P_wears I _ _) hP hS hls K
theorem lp_seen : OKp yO_seen yM_seen 1 32 35 := ⟨⟨tw_t 293 (by decide +kernel) (by decide +kernel), okyO_seen, rfl, by decide, rfl, rfl⟩, ⟨tw_t 796 (by decide +kernel) (by decide +kernel), okyM_seen, rfl, by decide, rfl, rfl⟩, by decide⟩
theorem lq_seen : LQ 322 1 32 35 := ⟨by decide +kernel, by decide +kernel, by decide +kernel, by decide +kernel, by decide +kernel, by decide +kernel⟩
theorem lc_seen (X : LX D rho cI cS b L xs p s m c) (hi : i + 6 ≤ L) (hI : IN u) (hP : va_P D vwCl (wl rho cI cS u) H) (hS : va_S (A0 s) s.heap H locs) (hls : lv_has ls 4 [(3, .int (nI i)), (0, .ref b), (1, .ref (rho 88)), (2, .ref (rho 96))]) (K : KE D rho cI cS p l e s m b below meth c Q ls) : W p l e room_1 s m #[Value.ref b] below meth c H locs 600000 7302250 Q (F0 m 322 ls []) := by
  obtain ⟨Qs, Z, rfl, I⟩ := hI
  exact kl_int (k := 1) (i1 := 32) (i2 := 35) (off := 1021) (zo := yO_seen) (zm := yM_seen) X hi lq_seen (by decide +kernel) (by decide) lp_seen (P_seen I _) hP hS hls K
theorem lp_rota : OKp yO_rota yM_rota 1 36 39 := ⟨⟨tw_t 301 (by decide +kernel) (by decide +kernel), okyO_rota, rfl, by decide, rfl, rfl⟩, ⟨tw_t 800 (by decide +kernel) (by decide +kernel), okyM_rota, rfl, by decide, rfl, rfl⟩, by decide⟩
theorem lq_rota : LQ 345 1 36 39 := ⟨by decide +kernel, by decide +kernel, by decide +kernel, by decide +kernel, by decide +kernel, by decide +kernel⟩
theorem lc_rota (X : LX D rho cI cS b L xs p s m c) (hi : i + 6 ≤ L) (hI : IN u) (hP : va_P D vwCl (wl rho cI cS u) H) (hS : va_S (A0 s) s.heap H locs) (hls : lv_has ls 4 [(3, .int (nI i)), (0, .ref b), (1, .ref (rho 88)), (2, .ref (rho 96))]) (K : KE D rho cI cS p l e s m b below meth c Q ls) : W p l e room_1 s m #[Value.ref b] below meth c H locs 600000 7302250 Q (F0 m 345 ls []) := by
  obtain ⟨Qs, Z, rfl, I⟩ := hI
  exact kl_int (k := 1) (i1 := 36) (i2 := 39) (off := 998) (zo := yO_rota) (zm := yM_rota) X hi lq_rota (by decide +kernel) (by decide) lp_rota (P_rota I _) hP hS hls K
theorem lp_widow : OKp yO_widow yM_widow 4 40 44 := ⟨⟨tw_t 306 (by decide +kernel) (by decide +kernel), okyO_widow, rfl, by decide, rfl, rfl⟩, ⟨tw_t 804 (by decide +kernel) (by decide +kernel), okyM_widow, rfl, by decide, rfl, rfl⟩, by decide⟩
theorem lq_widow : LQ 368 4 40 44 := ⟨by decide +kernel, by decide +kernel, by decide +kernel, by decide +kernel, by decide +kernel, by decide +kernel⟩
theorem lc_widow (X : LX D rho cI cS b L xs p s m c) (hi : i + 6 ≤ L) (hI : IN u) (hP : va_P D vwCl (wl rho cI cS u) H) (hS : va_S (A0 s) s.heap H locs) (hls : lv_has ls 4 [(3, .int (nI i)), (0, .ref b), (1, .ref (rho 88)), (2, .ref (rho 96))]) (K : KE D rho cI cS p l e s m b below meth c Q ls) : W p l e room_1 s m #[Value.ref b] below meth c H locs 600000 7302250 Q (F0 m 368 ls []) := by
  obtain ⟨Qs, Z, rfl, I⟩ := hI
  exact kl_int (k := 4) (i1 := 40) (i2 := 44) (off := 945) (zo := yO_widow) (zm := yM_widow) X hi lq_widow (by decide +kernel) (by decide) lp_widow (P_widow I _ _ _ _) hP hS hls K
theorem lp_puts : OKp yO_puts yM_puts 2 45 48 := ⟨⟨tw_t 310 (by decide +kernel) (by decide +kernel), okyO_puts, rfl, by decide, rfl, rfl⟩, ⟨tw_t 808 (by decide +kernel) (by decide +kernel), okyM_puts, rfl, by decide, rfl, rfl⟩, by decide⟩
theorem lq_puts : LQ 421 2 45 48 := ⟨by decide +kernel, by decide +kernel, by decide +kernel, by decide +kernel, by decide +kernel, by decide +kernel⟩
theorem lc_puts (X : LX D rho cI cS b L xs p s m c) (hi : i + 6 ≤ L) (hI : IN u) (hP : va_P D vwCl (wl rho cI cS u) H) (hS : va_S (A0 s) s.heap H locs) (hls : lv_has ls 4 [(3, .int (nI i)), (0, .ref b), (1, .ref (rho 88)), (2, .ref (rho 96))]) (K : KE D rho cI cS p l e s m b below meth c Q ls) : W p l e room_1 s m #[Value.ref b] below meth c H locs 600000 7302250 Q (F0 m 421 ls []) := by
  obtain ⟨Qs, Z, rfl, I⟩ := hI
  exact kl_int (k := 2) (i1 := 45) (i2 := 48) (off := 912) (zo := yO_puts) (zm := yM_puts) X hi lq_puts (by decide +kernel) (by decide) lp_puts (P_puts I _ _) hP hS hls K
theorem lp_mends : OKp yO_mends yM_mends 2 49 52 := ⟨⟨tw_t 325 (by decide +kernel) (by decide +kernel), okyO_mends, rfl, by decide, rfl, rfl⟩, ⟨tw_t 816 (by decide +kernel) (by decide +kernel), okyM_mends, rfl, by decide, rfl, rfl⟩, by decide⟩
theorem lq_mends : LQ 454 2 49 52 := ⟨by decide +kernel, by decide +kernel, by decide +kernel, by decide +kernel, by decide +kernel, by decide +kernel⟩
theorem lc_mends (X : LX D rho cI cS b L xs p s m c) (hi : i + 6 ≤ L) (hI : IN u) (hP : va_P D vwCl (wl rho cI cS u) H) (hS : va_S (A0 s) s.heap H locs) (hls : lv_has ls 4 [(3, .int (nI i)), (0, .ref b), (1, .ref (rho 88)), (2, .ref (rho 96))]) (K : KE D rho cI cS p l e s m b below meth c Q ls) : W p l e room_1 s m #[Value.ref b] below meth c H locs 600000 7302250 Q (F0 m 454 ls []) := by
  obtain ⟨Qs, Z, rfl, I⟩ := hI
  exact kl_int (k := 2) (i1 := 49) (i2 := 52) (off := 879) (zo := yO_mends) (zm := yM_mends) X hi lq_mends (by decide +kernel) (by decide) lp_mends (P_mends I _ _) hP hS hls K
theorem lp_grieves : OKp yO_grieves yM_grieves 2 53 56 := ⟨⟨tw_t 329 (by decide +kernel) (by decide +kernel), okyO_grieves, rfl, by decide, rfl, rfl⟩, ⟨tw_t 820 (by decide +kernel) (by decide +kernel), okyM_grieves, rfl, by decide, rfl, rfl⟩, by decide⟩
theorem lq_grieves : LQ 487 2 53 56 := ⟨by decide +kernel, by decide +kernel, by decide +kernel, by decide +kernel, by decide +kernel, by decide +kernel⟩
theorem lc_grieves (X : LX D rho cI cS b L xs p s m c) (hi : i + 6 ≤ L) (hI : IN u) (hP : va_P D vwCl (wl rho cI cS u) H) (hS : va_S (A0 s) s.heap H locs) (hls : lv_has ls 4 [(3, .int (nI i)), (0, .ref b), (1, .ref (rho 88)), (2, .ref (rho 96))]) (K : KE D rho cI cS p l e s m b below meth c Q ls) : W p l e room_1 s m #[Value.ref b] below meth c H locs 600000 7302250 Q (F0 m 487 ls []) := by
  obtain ⟨Qs, Z, rfl, I⟩ := hI
  exact kl_int (k := 2) (i1 := 53) (i2 := 56) (off := 846) (zo := yO_grieves) (zm := yM_grieves) X hi lq_grieves (by decide +kernel) (by decide) lp_grieves (P_grieves I _ _) hP hS hls K
theorem lp_weeks : OKp yO_weeks yM_weeks 1 57 60 := ⟨⟨tw_t 333 (by decide +kernel) (by decide +kernel), okyO_weeks, rfl, by decide, rfl, rfl⟩, ⟨tw_t 824 (by decide +kernel) (by decide +kernel), okyM_weeks, rfl, by decide, rfl, rfl⟩, by decide⟩
theorem lq_weeks : LQ 520 1 57 60 := ⟨by decide +kernel, by decide +kernel, by decide +kernel, by decide +kernel, by decide +kernel, by decide +kernel⟩
theorem lc_weeks (X : LX D rho cI cS b L xs p s m c) (hi : i + 6 ≤ L) (hI : IN u) (hP : va_P D vwCl (wl rho cI cS u) H) (hS : va_S (A0 s) s.heap H locs) (hls : lv_has ls 4 [(3, .int (nI i)), (0, .ref b), (1, .ref (rho 88)), (2, .ref (rho 96))]) (K : KE D rho cI cS p l e s m b below meth c Q ls) : W p l e room_1 s m #[Value.ref b] below meth c H locs 600000 7302250 Q (F0 m 520 ls []) := by
  obtain ⟨Qs, Z, rfl, I⟩ := hI
  exact kl_int (k := 1) (i1 := 57) (i2 := 60) (off := 823) (zo := yO_weeks) (zm := yM_weeks) X hi lq_weeks (by decide +kernel) (by decide) lp_weeks (P_weeks I _) hP hS hls K
theorem lp_back : OKp yO_back yM_back 0 61 64 := ⟨⟨tw_t 346 (by decide +kernel) (by decide +kernel), okyO_back, rfl, by decide, rfl, rfl⟩, ⟨tw_t 772 (by decide +kernel) (by decide +kernel), okyM_back, rfl, by decide, rfl, rfl⟩, by decide⟩
theorem lq_back : LQ 543 0 61 64 := ⟨by decide +kernel, by decide +kernel, by decide +kernel, by decide +kernel, by decide +kernel, by decide +kernel⟩
theorem lc_back (X : LX D rho cI cS b L xs p s m c) (hi : i + 6 ≤ L) (hI : IN u) (hP : va_P D vwCl (wl rho cI cS u) H) (hS : va_S (A0 s) s.heap H locs) (hls : lv_has ls 4 [(3, .int (nI i)), (0, .ref b), (1, .ref (rho 88)), (2, .ref (rho 96))]) (K : KE D rho cI cS p l e s m b below meth c Q ls) : W p l e room_1 s m #[Value.ref b] below meth c H locs 600000 7302250 Q (F0 m 543 ls []) := by
  obtain ⟨Qs, Z, rfl, I⟩ := hI
  exact kl_int (k := 0) (i1 := 61) (i2 := 64) (off := 810) (zo := yO_back) (zm := yM_back) X hi lq_back (by decide +kernel) (by decide) lp_back (P_back I) hP hS hls K
theorem lp_then : OKp yO_then yM_then 2 65 68 := ⟨⟨tw_t 354 (by decide +kernel) (by decide +kernel), okyO_then, rfl, by decide, rfl, rfl⟩, ⟨tw_t 836 (by decide +kernel) (by decide +kernel), okyM_then, rfl, by decide, rfl, rfl⟩, by decide⟩
theorem lq_then : LQ 556 2 65 68 := ⟨by decide +kernel, by decide +kernel, by decide +kernel, by decide +kernel, by decide +kernel, by decide +kernel⟩
theorem lc_then (X : LX D rho cI cS b L xs p s m c) (hi : i + 6 ≤ L) (hI : IN u) (hP : va_P D vwCl (wl rho cI cS u) H) (hS : va_S (A0 s) s.heap H locs) (hls : lv_has ls 4 [(3, .int (nI i)), (0, .ref b), (1, .ref (rho 88)), (2, .ref (rho 96))]) (K : KE D rho cI cS p l e s m b below meth c Q ls) : W p l e room_1 s m #[Value.ref b] below meth c H locs 600000 7302250 Q (F0 m 556 ls []) := by
  obtain ⟨Qs, Z, rfl, I⟩ := hI
  exact kl_int (k := 2) (i1 := 65) (i2 := 68) (off := 777) (zo := yO_then) (zm := yM_then) X hi lq_then (by decide +kernel) (by decide) lp_then (P_then I _ _) hP hS hls K
theorem lp_widowIn : OKp yO_widowIn yM_widowIn 3 69 73 := ⟨⟨tw_t 363 (by decide +kernel) (by decide +kernel), okyO_widowIn, rfl, by decide, rfl, rfl⟩, ⟨tw_t 851 (by decide +kernel) (by decide +kernel), okyM_widowIn, rfl, by decide, rfl, rfl⟩, by decide⟩
theorem lq_widowIn : LQ 589 3 69 73 := ⟨by decide +kernel, by decide +kernel, by decide +kernel, by decide +kernel, by decide +kernel, by decide +kernel⟩
theorem lc_widowIn (X : LX D rho cI cS b L xs p s m c) (hi : i + 6 ≤ L) (hI : IN u) (hP : va_P D vwCl (wl rho cI cS u) H) (hS : va_S (A0 s) s.heap H locs) (hls : lv_has ls 4 [(3, .int (nI i)), (0, .ref b), (1, .ref (rho 88)), (2, .ref (rho 96))]) (K : KE D rho cI cS p l e s m b below meth c Q ls) : W p l e room_1 s m #[Value.ref b] below meth c H locs 600000 7302250 Q (F0 m 589 ls []) := by
  obtain ⟨Qs, Z, rfl, I⟩ := hI
  exact kl_int (k := 3) (i1 := 69) (i2 := 73) (off := 734) (zo := yO_widowIn) (zm := yM_widowIn) X hi lq_widowIn (by decide +kernel) (by decide) lp_widowIn (P_widowIn I _ _ _) hP hS hls K
theorem lp_gone : OKp yO_gone yM_gone 1 74 77 := ⟨⟨tw_t 367 (by decide +kernel) (by decide +kernel), okyO_gone, rfl, by decide, rfl, rfl⟩, ⟨tw_t 855 (by decide +kernel) (by decide +kernel), okyM_gone, rfl, by decide, rfl, rfl⟩, by decide⟩
theorem lq_gone : LQ 632 1 74 77 := ⟨by decide +kernel, by decide +kernel, by decide +kernel, by decide +kernel, by decide +kernel, by decide +kernel⟩
theorem lc_gone (X : LX D rho cI cS b L xs p s m c) (hi : i + 6 ≤ L) (hI : IN u) (hP : va_P D vwCl (wl rho cI cS u) H) (hS : va_S (A0 s) s.heap H locs) (hls : lv_has ls 4 [(3, .int (nI i)), (0, .ref b), (1, .ref (rho 88)), (2, .ref (rho 96))]) (K : KE D rho cI cS p l e s m b below meth c Q ls) : W p l e room_1 s m #[Value.ref b] below meth c H locs 600000 7302250 Q (F0 m 632 ls []) := by
  obtain ⟨Qs, Z, rfl, I⟩ := hI
  exact kl_int (k := 1) (i1 := 74) (i2 := 77) (off := 711) (zo := yO_gone) (zm := yM_gone) X hi lq_gone (by decide +kernel) (by decide) lp_gone (P_gone I _) hP hS hls K
theorem lp_dayMet : OKp yO_dayMet yM_dayMet 1 78 81 := ⟨⟨tw_t 376 (by decide +kernel) (by decide +kernel), okyO_dayMet, rfl, by decide, rfl, rfl⟩, ⟨tw_t 863 (by decide +kernel) (by decide +kernel), okyM_dayMet, rfl, by decide, rfl, rfl⟩, by decide⟩
theorem lq_dayMet : LQ 655 1 78 81 := ⟨by decide +kernel, by decide +kernel, by decide +kernel, by decide +kernel, by decide +kernel, by decide +kernel⟩
theorem lc_dayMet (X : LX D rho cI cS b L xs p s m c) (hi : i + 6 ≤ L) (hI : IN u) (hP : va_P D vwCl (wl rho cI cS u) H) (hS : va_S (A0 s) s.heap H locs) (hls : lv_has ls 4 [(3, .int (nI i)), (0, .ref b), (1, .ref (rho 88)), (2, .ref (rho 96))]) (K : KE D rho cI cS p l e s m b below meth c Q ls) : W p l e room_1 s m #[Value.ref b] below meth c H locs 600000 7302250 Q (F0 m 655 ls []) := by
  obtain ⟨Qs, Z, rfl, I⟩ := hI
  exact kl_int (k := 1) (i1 := 78) (i2 := 81) (off := 688) (zo := yO_dayMet) (zm := yM_dayMet) X hi lq_dayMet (by decide +kernel) (by decide) lp_dayMet (P_dayMet I _) hP hS hls K
theorem lp_like : OKp yO_like yM_like 0 82 85 := ⟨⟨tw_t 380 (by decide +kernel) (by decide +kernel), okyO_like, rfl, by decide, rfl, rfl⟩, ⟨tw_t 867 (by decide +kernel) (by decide +kernel), okyM_like, rfl, by decide, rfl, rfl⟩, by decide⟩
theorem lq_like : LQ 678 0 82 85 := ⟨by decide +kernel, by decide +kernel, by decide +kernel, by decide +kernel, by decide +kernel, by decide +kernel⟩
theorem lc_like (X : LX D rho cI cS b L xs p s m c) (hi : i + 6 ≤ L) (hI : IN u) (hP : va_P D vwCl (wl rho cI cS u) H) (hS : va_S (A0 s) s.heap H locs) (hls : lv_has ls 4 [(3, .int (nI i)), (0, .ref b), (1, .ref (rho 88)), (2, .ref (rho 96))]) (K : KE D rho cI cS p l e s m b below meth c Q ls) : W p l e room_1 s m #[Value.ref b] below meth c H locs 600000 7302250 Q (F0 m 678 ls []) := by
  obtain ⟨Qs, Z, rfl, I⟩ := hI
  exact kl_int (k := 0) (i1 := 82) (i2 := 85) (off := 675) (zo := yO_like) (zm := yM_like) X hi lq_like (by decide +kernel) (by decide) lp_like (P_like I) hP hS hls K
theorem lp_turn : OKp yO_turn yM_turn 2 86 89 := ⟨⟨tw_t 384 (by decide +kernel) (by decide +kernel), okyO_turn, rfl, by decide, rfl, rfl⟩, ⟨tw_t 875 (by decide +kernel) (by decide +kernel), okyM_turn, rfl, by decide, rfl, rfl⟩, by decide⟩
theorem lq_turn : LQ 691 2 86 89 := ⟨by decide +kernel, by decide +kernel, by decide +kernel, by decide +kernel, by decide +kernel, by decide +kernel⟩
theorem lc_turn (X : LX D rho cI cS b L xs p s m c) (hi : i + 6 ≤ L) (hI : IN u) (hP : va_P D vwCl (wl rho cI cS u) H) (hS : va_S (A0 s) s.heap H locs) (hls : lv_has ls 4 [(3, .int (nI i)), (0, .ref b), (1, .ref (rho 88)), (2, .ref (rho 96))]) (K : KE D rho cI cS p l e s m b below meth c Q ls) : W p l e room_1 s m #[Value.ref b] below meth c H locs 600000 7302250 Q (F0 m 691 ls []) := by
  obtain ⟨Qs, Z, rfl, I⟩ := hI
  exact kl_int (k := 2) (i1 := 86) (i2 := 89) (off := 642) (zo := yO_turn) (zm := yM_turn) X hi lq_turn (by decide +kernel) (by decide) lp_turn (P_turn I _ _) hP hS hls K
theorem lp_swap : OKp yO_swap yM_swap 1 90 93 := ⟨⟨tw_t 392 (by decide +kernel) (by decide +kernel), okyO_swap, rfl, by decide, rfl, rfl⟩, ⟨tw_t 896 (by decide +kernel) (by decide +kernel), okyM_swap, rfl, by decide, rfl, rfl⟩, by decide⟩
theorem lq_swap : LQ 724 1 90 93 := ⟨by decide +kernel, by decide +kernel, by decide +kernel, by decide +kernel, by decide +kernel, by decide +kernel⟩
theorem lc_swap (X : LX D rho cI cS b L xs p s m c) (hi : i + 6 ≤ L) (hI : IN u) (hP : va_P D vwCl (wl rho cI cS u) H) (hS : va_S (A0 s) s.heap H locs) (hls : lv_has ls 4 [(3, .int (nI i)), (0, .ref b), (1, .ref (rho 88)), (2, .ref (rho 96))]) (K : KE D rho cI cS p l e s m b below meth c Q ls) : W p l e room_1 s m #[Value.ref b] below meth c H locs 600000 7302250 Q (F0 m 724 ls []) := by
  obtain ⟨Qs, Z, rfl, I⟩ := hI
  exact kl_int (k := 1) (i1 := 90) (i2 := 93) (off := 619) (zo := yO_swap) (zm := yM_swap) X hi lq_swap (by decide +kernel) (by decide) lp_swap (P_swap I _) hP hS hls K
theorem lp_leave : OKp yO_leave yM_leave 1 94 97 := ⟨⟨tw_t 396 (by decide +kernel) (by decide +kernel), okyO_leave, rfl, by decide, rfl, rfl⟩, ⟨tw_t 904 (by decide +kernel) (by decide +kernel), okyM_leave, rfl, by decide, rfl, rfl⟩, by decide⟩
theorem lq_leave : LQ 747 1 94 97 := ⟨by decide +kernel, by decide +kernel, by decide +kernel, by decide +kernel, by decide +kernel, by decide +kernel⟩
theorem lc_leave (X : LX D rho cI cS b L xs p s m c) (hi : i + 6 ≤ L) (hI : IN u) (hP : va_P D vwCl (wl rho cI cS u) H) (hS : va_S (A0 s) s.heap H locs) (hls : lv_has ls 4 [(3, .int (nI i)), (0, .ref b), (1, .ref (rho 88)), (2, .ref (rho 96))]) (K : KE D rho cI cS p l e s m b below meth c Q ls) : W p l e room_1 s m #[Value.ref b] below meth c H locs 600000 7302250 Q (F0 m 747 ls []) := by
  obtain ⟨Qs, Z, rfl, I⟩ := hI
  exact kl_int (k := 1) (i1 := 94) (i2 := 97) (off := 596) (zo := yO_leave) (zm := yM_leave) X hi lq_leave (by decide +kernel) (by decide) lp_leave (P_leave I _) hP hS hls K
theorem lp_mend : OKp yO_mend yM_mend 1 98 101 := ⟨⟨tw_t 408 (by decide +kernel) (by decide +kernel), okyO_mend, rfl, by decide, rfl, rfl⟩, ⟨tw_t 916 (by decide +kernel) (by decide +kernel), okyM_mend, rfl, by decide, rfl, rfl⟩, by decide⟩
theorem lq_mend : LQ 770 1 98 101 := ⟨by decide +kernel, by decide +kernel, by decide +kernel, by decide +kernel, by decide +kernel, by decide +kernel⟩
theorem lc_mend (X : LX D rho cI cS b L xs p s m c) (hi : i + 6 ≤ L) (hI : IN u) (hP : va_P D vwCl (wl rho cI cS u) H) (hS : va_S (A0 s) s.heap H locs) (hls : lv_has ls 4 [(3, .int (nI i)), (0, .ref b), (1, .ref (rho 88)), (2, .ref (rho 96))]) (K : KE D rho cI cS p l e s m b below meth c Q ls) : W p l e room_1 s m #[Value.ref b] below meth c H locs 600000 7302250 Q (F0 m 770 ls []) := by
  obtain ⟨Qs, Z, rfl, I⟩ := hI
  exact kl_int (k := 1) (i1 := 98) (i2 := 101) (off := 573) (zo := yO_mend) (zm := yM_mend) X hi lq_mend (by decide +kernel) (by decide) lp_mend (P_mend I _) hP hS hls K
theorem lp_lasts : OKp yO_lasts yM_lasts 1 102 105 := ⟨⟨tw_t 412 (by decide +kernel) (by decide +kernel), okyO_lasts, rfl, by decide, rfl, rfl⟩, ⟨tw_t 920 (by decide +kernel) (by decide +kernel), okyM_lasts, rfl, by decide, rfl, rfl⟩, by decide⟩
theorem lq_lasts : LQ 793 1 102 105 := ⟨by decide +kernel, by decide +kernel, by decide +kernel, by decide +kernel, by decide +kernel, by decide +kernel⟩
theorem lc_lasts (X : LX D rho cI cS b L xs p s m c) (hi : i + 6 ≤ L) (hI : IN u) (hP : va_P D vwCl (wl rho cI cS u) H) (hS : va_S (A0 s) s.heap H locs) (hls : lv_has ls 4 [(3, .int (nI i)), (0, .ref b), (1, .ref (rho 88)), (2, .ref (rho 96))]) (K : KE D rho cI cS p l e s m b below meth c Q ls) : W p l e room_1 s m #[Value.ref b] below meth c H locs 600000 7302250 Q (F0 m 793 ls []) := by
  obtain ⟨Qs, Z, rfl, I⟩ := hI
  exact kl_int (k := 1) (i1 := 102) (i2 := 105) (off := 550) (zo := yO_lasts) (zm := yM_lasts) X hi lq_lasts (by decide +kernel) (by decide) lp_lasts (P_lasts I _) hP hS hls K
theorem lp_carry : OKp yO_carry yM_carry 1 106 109 := ⟨⟨tw_t 420 (by decide +kernel) (by decide +kernel), okyO_carry, rfl, by decide, rfl, rfl⟩, ⟨tw_t 928 (by decide +kernel) (by decide +kernel), okyM_carry, rfl, by decide, rfl, rfl⟩, by decide⟩
theorem lq_carry : LQ 816 1 106 109 := ⟨by decide +kernel, by decide +kernel, by decide +kernel, by decide +kernel, by decide +kernel, by decide +kernel⟩
theorem lc_carry (X : LX D rho cI cS b L xs p s m c) (hi : i + 6 ≤ L) (hI : IN u) (hP : va_P D vwCl (wl rho cI cS u) H) (hS : va_S (A0 s) s.heap H locs) (hls : lv_has ls 4 [(3, .int (nI i)), (0, .ref b), (1, .ref (rho 88)), (2, .ref (rho 96))]) (K : KE D rho cI cS p l e s m b below meth c Q ls) : W p l e room_1 s m #[Value.ref b] below meth c H locs 600000 7302250 Q (F0 m 816 ls []) := by
  obtain ⟨Qs, Z, rfl, I⟩ := hI
  exact kl_int (k := 1) (i1 := 106) (i2 := 109) (off := 527) (zo := yO_carry) (zm := yM_carry) X hi lq_carry (by decide +kernel) (by decide) lp_carry (P_carry I _) hP hS hls K
theorem lp_bestRota : OKp yO_bestRota yM_bestRota 1 110 113 := ⟨⟨tw_t 431 (by decide +kernel) (by decide +kernel), okyO_bestRota, rfl, by decide, rfl, rfl⟩, ⟨tw_t 936 (by decide +kernel) (by decide +kernel), okyM_bestRota, rfl, by decide, rfl, rfl⟩, by decide⟩
theorem lq_bestRota : LQ 839 1 110 113 := ⟨by decide +kernel, by decide +kernel, by decide +kernel, by decide +kernel, by decide +kernel, by decide +kernel⟩
theorem lc_bestRota (X : LX D rho cI cS b L xs p s m c) (hi : i + 6 ≤ L) (hI : IN u) (hP : va_P D vwCl (wl rho cI cS u) H) (hS : va_S (A0 s) s.heap H locs) (hls : lv_has ls 4 [(3, .int (nI i)), (0, .ref b), (1, .ref (rho 88)), (2, .ref (rho 96))]) (K : KE D rho cI cS p l e s m b below meth c Q ls) : W p l e room_1 s m #[Value.ref b] below meth c H locs 600000 7302250 Q (F0 m 839 ls []) := by
  obtain ⟨Qs, Z, rfl, I⟩ := hI
  exact kl_int (k := 1) (i1 := 110) (i2 := 113) (off := 504) (zo := yO_bestRota) (zm := yM_bestRota) X hi lq_bestRota (by decide +kernel) (by decide) lp_bestRota (P_bestRota I _) hP hS hls K
theorem lp_whoHad : OKp yO_whoHad yM_whoHad 1 114 117 := ⟨⟨tw_t 439 (by decide +kernel) (by decide +kernel), okyO_whoHad, rfl, by decide, rfl, rfl⟩, ⟨tw_t 944 (by decide +kernel) (by decide +kernel), okyM_whoHad, rfl, by decide, rfl, rfl⟩, by decide⟩
theorem lq_whoHad : LQ 862 1 114 117 := ⟨by decide +kernel, by decide +kernel, by decide +kernel, by decide +kernel, by decide +kernel, by decide +kernel⟩
theorem lc_whoHad (X : LX D rho cI cS b L xs p s m c) (hi : i + 6 ≤ L) (hI : IN u) (hP : va_P D vwCl (wl rho cI cS u) H) (hS : va_S (A0 s) s.heap H locs) (hls : lv_has ls 4 [(3, .int (nI i)), (0, .ref b), (1, .ref (rho 88)), (2, .ref (rho 96))]) (K : KE D rho cI cS p l e s m b below meth c Q ls) : W p l e room_1 s m #[Value.ref b] below meth c H locs 600000 7302250 Q (F0 m 862 ls []) := by
  obtain ⟨Qs, Z, rfl, I⟩ := hI
  exact kl_int (k := 1) (i1 := 114) (i2 := 117) (off := 481) (zo := yO_whoHad) (zm := yM_whoHad) X hi lq_whoHad (by decide +kernel) (by decide) lp_whoHad (P_whoHad I _) hP hS hls K
theorem lp_whatKind : OKp yO_whatKind yM_whatKind 3 118 121 := ⟨⟨tw_t 448 (by decide +kernel) (by decide +kernel), okyO_whatKind, rfl, by decide, rfl, rfl⟩, ⟨tw_t 952 (by decide +kernel) (by decide +kernel), okyM_whatKind, rfl, by decide, rfl, rfl⟩, by decide⟩
theorem lq_whatKind : LQ 885 3 118 121 := ⟨by decide +kernel, by decide +kernel, by decide +kernel, by decide +kernel, by decide +kernel, by decide +kernel⟩
theorem lc_whatKind (X : LX D rho cI cS b L xs p s m c) (hi : i + 6 ≤ L) (hI : IN u) (hP : va_P D vwCl (wl rho cI cS u) H) (hS : va_S (A0 s) s.heap H locs) (hls : lv_has ls 4 [(3, .int (nI i)), (0, .ref b), (1, .ref (rho 88)), (2, .ref (rho 96))]) (K : KE D rho cI cS p l e s m b below meth c Q ls) : W p l e room_1 s m #[Value.ref b] below meth c H locs 600000 7302250 Q (F0 m 885 ls []) := by
  obtain ⟨Qs, Z, rfl, I⟩ := hI
  exact kl_int (k := 3) (i1 := 118) (i2 := 121) (off := 438) (zo := yO_whatKind) (zm := yM_whatKind) X hi lq_whatKind (by decide +kernel) (by decide) lp_whatKind (P_whatKind I _ _ _) hP hS hls K
theorem lp_two : OKp yO_two yM_two 3 122 125 := ⟨⟨tw_t 456 (by decide +kernel) (by decide +kernel), okyO_two, rfl, by decide, rfl, rfl⟩, ⟨tw_t 960 (by decide +kernel) (by decide +kernel), okyM_two, rfl, by decide, rfl, rfl⟩, by decide⟩
theorem lq_two : LQ 928 3 122 125 := ⟨by decide +kernel, by decide +kernel, by decide +kernel, by decide +kernel, by decide +kernel, by decide +kernel⟩
theorem lc_two (X : LX D rho cI cS b L xs p s m c) (hi : i + 6 ≤ L) (hI : IN u) (hP : va_P D vwCl (wl rho cI cS u) H) (hS : va_S (A0 s) s.heap H locs) (hls : lv_has ls 4 [(3, .int (nI i)), (0, .ref b), (1, .ref (rho 88)), (2, .ref (rho 96))]) (K : KE D rho cI cS p l e s m b below meth c Q ls) : W p l e room_1 s m #[Value.ref b] below meth c H locs 600000 7302250 Q (F0 m 928 ls []) := by
  obtain ⟨Qs, Z, rfl, I⟩ := hI
  exact kl_int (k := 3) (i1 := 122) (i2 := 125) (off := 395) (zo := yO_two) (zm := yM_two) X hi lq_two (by decide +kernel) (by decide) lp_two (P_two I _ _ _) hP hS hls K
theorem lp_gales : OKp yO_gales yM_gales 5 126 130 := ⟨⟨tw_t 468 (by decide +kernel) (by decide +kernel), okyO_gales, rfl, by decide, rfl, rfl⟩, ⟨tw_t 968 (by decide +kernel) (by decide +kernel), okyM_gales, rfl, by decide, rfl, rfl⟩, by decide⟩
theorem lq_gales : LQ 971 5 126 130 := ⟨by decide +kernel, by decide +kernel, by decide +kernel, by decide +kernel, by decide +kernel, by decide +kernel⟩
theorem lc_gales (X : LX D rho cI cS b L xs p s m c) (hi : i + 6 ≤ L) (hI : IN u) (hP : va_P D vwCl (wl rho cI cS u) H) (hS : va_S (A0 s) s.heap H locs) (hls : lv_has ls 4 [(3, .int (nI i)), (0, .ref b), (1, .ref (rho 88)), (2, .ref (rho 96))]) (K : KE D rho cI cS p l e s m b below meth c Q ls) : W p l e room_1 s m #[Value.ref b] below meth c H locs 600000 7302250 Q (F0 m 971 ls []) := by
  obtain ⟨Qs, Z, rfl, I⟩ := hI
  exact kl_long (k := 5) (i1 := 126) (i2 := 130) (off := 331) (zo := yO_gales) (zm := yM_gales) X hi lq_gales (by decide +kernel) (by decide +kernel) (by decide) lp_gales (P_gales I _ _ _ _ _) hP hS hls K
theorem lp_worst : OKp yO_worst yM_worst 1 131 134 := ⟨⟨tw_t 483 (by decide +kernel) (by decide +kernel), okyO_worst, rfl, by decide, rfl, rfl⟩, ⟨tw_t 986 (by decide +kernel) (by decide +kernel), okyM_worst, rfl, by decide, rfl, rfl⟩, by decide⟩
theorem lq_worst : LQ 1035 1 131 134 := ⟨by decide +kernel, by decide +kernel, by decide +kernel, by decide +kernel, by decide +kernel, by decide +kernel⟩
theorem lc_worst (X : LX D rho cI cS b L xs p s m c) (hi : i + 6 ≤ L) (hI : IN u) (hP : va_P D vwCl (wl rho cI cS u) H) (hS : va_S (A0 s) s.heap H locs) (hls : lv_has ls 4 [(3, .int (nI i)), (0, .ref b), (1, .ref (rho 88)), (2, .ref (rho 96))]) (K : KE D rho cI cS p l e s m b below meth c Q ls) : W p l e room_1 s m #[Value.ref b] below meth c H locs 600000 7302250 Q (F0 m 1035 ls []) := by
  obtain ⟨Qs, Z, rfl, I⟩ := hI
  exact kl_int (k := 1) (i1 := 131) (i2 := 134) (off := 308) (zo := yO_worst) (zm := yM_worst) X hi lq_worst (by decide +kernel) (by decide) lp_worst (P_worst I _) hP hS hls K
theorem lp_mean : OKp yO_mean yM_mean 1 135 139 := ⟨⟨tw_t 501 (by decide +kernel) (by decide +kernel), okyO_mean, rfl, by decide, rfl, rfl⟩, ⟨tw_t 998 (by decide +kernel) (by decide +kernel), okyM_mean, rfl, by decide, rfl, rfl⟩, by decide⟩
theorem lq_mean : LQ 1058 1 135 139 := ⟨by decide +kernel, by decide +kernel, by decide +kernel, by decide +kernel, by decide +kernel, by decide +kernel⟩
theorem lc_mean (X : LX D rho cI cS b L xs p s m c) (hi : i + 6 ≤ L) (hI : IN u) (hP : va_P D vwCl (wl rho cI cS u) H) (hS : va_S (A0 s) s.heap H locs) (hls : lv_has ls 4 [(3, .int (nI i)), (0, .ref b), (1, .ref (rho 88)), (2, .ref (rho 96))]) (K : KE D rho cI cS p l e s m b below meth c Q ls) : W p l e room_1 s m #[Value.ref b] below meth c H locs 600000 7302250 Q (F0 m 1058 ls []) := by
  obtain ⟨Qs, Z, rfl, I⟩ := hI
  exact kl_long (k := 1) (i1 := 135) (i2 := 139) (off := 284) (zo := yO_mean) (zm := yM_mean) X hi lq_mean (by decide +kernel) (by decide +kernel) (by decide) lp_mean (P_mean I _) hP hS hls K
theorem lp_face : OKp yO_face yM_face 1 140 143 := ⟨⟨tw_t 505 (by decide +kernel) (by decide +kernel), okyO_face, rfl, by decide, rfl, rfl⟩, ⟨tw_t 1002 (by decide +kernel) (by decide +kernel), okyM_face, rfl, by decide, rfl, rfl⟩, by decide⟩
theorem lq_face : LQ 1082 1 140 143 := ⟨by decide +kernel, by decide +kernel, by decide +kernel, by decide +kernel, by decide +kernel, by decide +kernel⟩
theorem lc_face (X : LX D rho cI cS b L xs p s m c) (hi : i + 6 ≤ L) (hI : IN u) (hP : va_P D vwCl (wl rho cI cS u) H) (hS : va_S (A0 s) s.heap H locs) (hls : lv_has ls 4 [(3, .int (nI i)), (0, .ref b), (1, .ref (rho 88)), (2, .ref (rho 96))]) (K : KE D rho cI cS p l e s m b below meth c Q ls) : W p l e room_1 s m #[Value.ref b] below meth c H locs 600000 7302250 Q (F0 m 1082 ls []) := by
  obtain ⟨Qs, Z, rfl, I⟩ := hI
  exact kl_int (k := 1) (i1 := 140) (i2 := 143) (off := 261) (zo := yO_face) (zm := yM_face) X hi lq_face (by decide +kernel) (by decide) lp_face (P_face I _) hP hS hls K
theorem lp_next : OKp yO_next yM_next 1 144 147 := ⟨⟨tw_t 514 (by decide +kernel) (by decide +kernel), okyO_next, rfl, by decide, rfl, rfl⟩, ⟨tw_t 1006 (by decide +kernel) (by decide +kernel), okyM_next, rfl, by decide, rfl, rfl⟩, by decide⟩
theorem lq_next : LQ 1105 1 144 147 := ⟨by decide +kernel, by decide +kernel, by decide +kernel, by decide +kernel, by decide +kernel, by decide +kernel⟩
theorem lc_next (X : LX D rho cI cS b L xs p s m c) (hi : i + 6 ≤ L) (hI : IN u) (hP : va_P D vwCl (wl rho cI cS u) H) (hS : va_S (A0 s) s.heap H locs) (hls : lv_has ls 4 [(3, .int (nI i)), (0, .ref b), (1, .ref (rho 88)), (2, .ref (rho 96))]) (K : KE D rho cI cS p l e s m b below meth c Q ls) : W p l e room_1 s m #[Value.ref b] below meth c H locs 600000 7302250 Q (F0 m 1105 ls []) := by
  obtain ⟨Qs, Z, rfl, I⟩ := hI
  exact kl_int (k := 1) (i1 := 144) (i2 := 147) (off := 238) (zo := yO_next) (zm := yM_next) X hi lq_next (by decide +kernel) (by decide) lp_next (P_next I _) hP hS hls K
theorem lp_gap : OKp yO_gap yM_gap 1 148 151 := ⟨⟨tw_t 518 (by decide +kernel) (by decide +kernel), okyO_gap, rfl, by decide, rfl, rfl⟩, ⟨tw_t 1010 (by decide +kernel) (by decide +kernel), okyM_gap, rfl, by decide, rfl, rfl⟩, by decide⟩
theorem lq_gap : LQ 1128 1 148 151 := ⟨by decide +kernel, by decide +kernel, by decide +kernel, by decide +kernel, by decide +kernel, by decide +kernel⟩
theorem lc_gap (X : LX D rho cI cS b L xs p s m c) (hi : i + 6 ≤ L) (hI : IN u) (hP : va_P D vwCl (wl rho cI cS u) H) (hS : va_S (A0 s) s.heap H locs) (hls : lv_has ls 4 [(3, .int (nI i)), (0, .ref b), (1, .ref (rho 88)), (2, .ref (rho 96))]) (K : KE D rho cI cS p l e s m b below meth c Q ls) : W p l e room_1 s m #[Value.ref b] below meth c H locs 600000 7302250 Q (F0 m 1128 ls []) := by
  obtain ⟨Qs, Z, rfl, I⟩ := hI
  exact kl_int (k := 1) (i1 := 148) (i2 := 151) (off := 215) (zo := yO_gap) (zm := yM_gap) X hi lq_gap (by decide +kernel) (by decide) lp_gap (P_gap I _) hP hS hls K
theorem lp_eased : OKp yO_eased yM_eased 2 152 155 := ⟨⟨tw_t 522 (by decide +kernel) (by decide +kernel), okyO_eased, rfl, by decide, rfl, rfl⟩, ⟨tw_t 1014 (by decide +kernel) (by decide +kernel), okyM_eased, rfl, by decide, rfl, rfl⟩, by decide⟩
theorem lq_eased : LQ 1151 2 152 155 := ⟨by decide +kernel, by decide +kernel, by decide +kernel, by decide +kernel, by decide +kernel, by decide +kernel⟩
theorem lc_eased (X : LX D rho cI cS b L xs p s m c) (hi : i + 6 ≤ L) (hI : IN u) (hP : va_P D vwCl (wl rho cI cS u) H) (hS : va_S (A0 s) s.heap H locs) (hls : lv_has ls 4 [(3, .int (nI i)), (0, .ref b), (1, .ref (rho 88)), (2, .ref (rho 96))]) (K : KE D rho cI cS p l e s m b below meth c Q ls) : W p l e room_1 s m #[Value.ref b] below meth c H locs 600000 7302250 Q (F0 m 1151 ls []) := by
  obtain ⟨Qs, Z, rfl, I⟩ := hI
  exact kl_int (k := 2) (i1 := 152) (i2 := 155) (off := 182) (zo := yO_eased) (zm := yM_eased) X hi lq_eased (by decide +kernel) (by decide) lp_eased (P_eased I _ _) hP hS hls K
theorem lp_sundays : OKp yO_sundays yM_sundays 1 156 159 := ⟨⟨tw_t 527 (by decide +kernel) (by decide +kernel), okyO_sundays, rfl, by decide, rfl, rfl⟩, ⟨tw_t 1027 (by decide +kernel) (by decide +kernel), okyM_sundays, rfl, by decide, rfl, rfl⟩, by decide⟩
theorem lq_sundays : LQ 1184 1 156 159 := ⟨by decide +kernel, by decide +kernel, by decide +kernel, by decide +kernel, by decide +kernel, by decide +kernel⟩
theorem lc_sundays (X : LX D rho cI cS b L xs p s m c) (hi : i + 6 ≤ L) (hI : IN u) (hP : va_P D vwCl (wl rho cI cS u) H) (hS : va_S (A0 s) s.heap H locs) (hls : lv_has ls 4 [(3, .int (nI i)), (0, .ref b), (1, .ref (rho 88)), (2, .ref (rho 96))]) (K : KE D rho cI cS p l e s m b below meth c Q ls) : W p l e room_1 s m #[Value.ref b] below meth c H locs 600000 7302250 Q (F0 m 1184 ls []) := by
  obtain ⟨Qs, Z, rfl, I⟩ := hI
  exact kl_int (k := 1) (i1 := 156) (i2 := 159) (off := 159) (zo := yO_sundays) (zm := yM_sundays) X hi lq_sundays (by decide +kernel) (by decide) lp_sundays (P_sundays I _) hP hS hls K
theorem lp_kept : OKp yO_kept yM_kept 0 160 163 := ⟨⟨tw_t 535 (by decide +kernel) (by decide +kernel), okyO_kept, rfl, by decide, rfl, rfl⟩, ⟨tw_t 1035 (by decide +kernel) (by decide +kernel), okyM_kept, rfl, by decide, rfl, rfl⟩, by decide⟩
theorem lq_kept : LQ 1207 0 160 163 := ⟨by decide +kernel, by decide +kernel, by decide +kernel, by decide +kernel, by decide +kernel, by decide +kernel⟩
theorem lc_kept (X : LX D rho cI cS b L xs p s m c) (hi : i + 6 ≤ L) (hI : IN u) (hP : va_P D vwCl (wl rho cI cS u) H) (hS : va_S (A0 s) s.heap H locs) (hls : lv_has ls 4 [(3, .int (nI i)), (0, .ref b), (1, .ref (rho 88)), (2, .ref (rho 96))]) (K : KE D rho cI cS p l e s m b below meth c Q ls) : W p l e room_1 s m #[Value.ref b] below meth c H locs 600000 7302250 Q (F0 m 1207 ls []) := by
  obtain ⟨Qs, Z, rfl, I⟩ := hI
  exact kl_int (k := 0) (i1 := 160) (i2 := 163) (off := 146) (zo := yO_kept) (zm := yM_kept) X hi lq_kept (by decide +kernel) (by decide) lp_kept (P_kept I) hP hS hls K
theorem lp_row : OKp yO_row yM_row 1 164 167 := ⟨⟨tw_t 539 (by decide +kernel) (by decide +kernel), okyO_row, rfl, by decide, rfl, rfl⟩, ⟨tw_t 1039 (by decide +kernel) (by decide +kernel), okyM_row, rfl, by decide, rfl, rfl⟩, by decide⟩
theorem lq_row : LQ 1220 1 164 167 := ⟨by decide +kernel, by decide +kernel, by decide +kernel, by decide +kernel, by decide +kernel, by decide +kernel⟩
theorem lc_row (X : LX D rho cI cS b L xs p s m c) (hi : i + 6 ≤ L) (hI : IN u) (hP : va_P D vwCl (wl rho cI cS u) H) (hS : va_S (A0 s) s.heap H locs) (hls : lv_has ls 4 [(3, .int (nI i)), (0, .ref b), (1, .ref (rho 88)), (2, .ref (rho 96))]) (K : KE D rho cI cS p l e s m b below meth c Q ls) : W p l e room_1 s m #[Value.ref b] below meth c H locs 600000 7302250 Q (F0 m 1220 ls []) := by
  obtain ⟨Qs, Z, rfl, I⟩ := hI
  exact kl_int (k := 1) (i1 := 164) (i2 := 167) (off := 123) (zo := yO_row) (zm := yM_row) X hi lq_row (by decide +kernel) (by decide) lp_row (P_row I _) hP hS hls K
theorem lp_judge : OKp yO_judge yM_judge 0 168 171 := ⟨⟨tw_t 544 (by decide +kernel) (by decide +kernel), okyO_judge, rfl, by decide, rfl, rfl⟩, ⟨tw_t 1043 (by decide +kernel) (by decide +kernel), okyM_judge, rfl, by decide, rfl, rfl⟩, by decide⟩
theorem lq_judge : LQ 1243 0 168 171 := ⟨by decide +kernel, by decide +kernel, by decide +kernel, by decide +kernel, by decide +kernel, by decide +kernel⟩
theorem lc_judge (X : LX D rho cI cS b L xs p s m c) (hi : i + 6 ≤ L) (hI : IN u) (hP : va_P D vwCl (wl rho cI cS u) H) (hS : va_S (A0 s) s.heap H locs) (hls : lv_has ls 4 [(3, .int (nI i)), (0, .ref b), (1, .ref (rho 88)), (2, .ref (rho 96))]) (K : KE D rho cI cS p l e s m b below meth c Q ls) : W p l e room_1 s m #[Value.ref b] below meth c H locs 600000 7302250 Q (F0 m 1243 ls []) := by
  obtain ⟨Qs, Z, rfl, I⟩ := hI
  exact kl_int (k := 0) (i1 := 168) (i2 := 171) (off := 110) (zo := yO_judge) (zm := yM_judge) X hi lq_judge (by decide +kernel) (by decide) lp_judge (P_judge I) hP hS hls K
theorem lp_clear : OKp yO_clear yM_clear 0 172 175 := ⟨⟨tw_t 548 (by decide +kernel) (by decide +kernel), okyO_clear, rfl, by decide, rfl, rfl⟩, ⟨tw_t 1047 (by decide +kernel) (by decide +kernel), okyM_clear, rfl, by decide, rfl, rfl⟩, by decide⟩
theorem lq_clear : LQ 1256 0 172 175 := ⟨by decide +kernel, by decide +kernel, by decide +kernel, by decide +kernel, by decide +kernel, by decide +kernel⟩
theorem lc_clear (X : LX D rho cI cS b L xs p s m c) (hi : i + 6 ≤ L) (hI : IN u) (hP : va_P D vwCl (wl rho cI cS u) H) (hS : va_S (A0 s) s.heap H locs) (hls : lv_has ls 4 [(3, .int (nI i)), (0, .ref b), (1, .ref (rho 88)), (2, .ref (rho 96))]) (K : KE D rho cI cS p l e s m b below meth c Q ls) : W p l e room_1 s m #[Value.ref b] below meth c H locs 600000 7302250 Q (F0 m 1256 ls []) := by
  obtain ⟨Qs, Z, rfl, I⟩ := hI
  exact kl_int (k := 0) (i1 := 172) (i2 := 175) (off := 97) (zo := yO_clear) (zm := yM_clear) X hi lq_clear (by decide +kernel) (by decide) lp_clear (P_clear I) hP hS hls K
theorem lp_lots : OKp yO_lots yM_lots 3 176 179 := ⟨⟨tw_t 552 (by decide +kernel) (by decide +kernel), okyO_lots, rfl, by decide, rfl, rfl⟩, ⟨tw_t 1051 (by decide +kernel) (by decide +kernel), okyM_lots, rfl, by decide, rfl, rfl⟩, by decide⟩
theorem lq_lots : LQ 1269 3 176 179 := ⟨by decide +kernel, by decide +kernel, by decide +kernel, by decide +kernel, by decide +kernel, by decide +kernel⟩
theorem lc_lots (X : LX D rho cI cS b L xs p s m c) (hi : i + 6 ≤ L) (hI : IN u) (hP : va_P D vwCl (wl rho cI cS u) H) (hS : va_S (A0 s) s.heap H locs) (hls : lv_has ls 4 [(3, .int (nI i)), (0, .ref b), (1, .ref (rho 88)), (2, .ref (rho 96))]) (K : KE D rho cI cS p l e s m b below meth c Q ls) : W p l e room_1 s m #[Value.ref b] below meth c H locs 600000 7302250 Q (F0 m 1269 ls []) := by
  obtain ⟨Qs, Z, rfl, I⟩ := hI
  exact kl_int (k := 3) (i1 := 176) (i2 := 179) (off := 54) (zo := yO_lots) (zm := yM_lots) X hi lq_lots (by decide +kernel) (by decide) lp_lots (P_lots I _ _ _) hP hS hls K
theorem lp_image : OKp yO_image yM_image 0 180 183 := ⟨⟨tw_t 568 (by decide +kernel) (by decide +kernel), okyO_image, rfl, by decide, rfl, rfl⟩, ⟨tw_t 776 (by decide +kernel) (by decide +kernel), okyM_image, rfl, by decide, rfl, rfl⟩, by decide⟩
theorem lq_image : LQ 1312 0 180 183 := ⟨by decide +kernel, by decide +kernel, by decide +kernel, by decide +kernel, by decide +kernel, by decide +kernel⟩
theorem lc_image (X : LX D rho cI cS b L xs p s m c) (hi : i + 6 ≤ L) (hI : IN u) (hP : va_P D vwCl (wl rho cI cS u) H) (hS : va_S (A0 s) s.heap H locs) (hls : lv_has ls 4 [(3, .int (nI i)), (0, .ref b), (1, .ref (rho 88)), (2, .ref (rho 96))]) (K : KE D rho cI cS p l e s m b below meth c Q ls) : W p l e room_1 s m #[Value.ref b] below meth c H locs 600000 7302250 Q (F0 m 1312 ls []) := by
  obtain ⟨Qs, Z, rfl, I⟩ := hI
  exact kl_int (k := 0) (i1 := 180) (i2 := 183) (off := 41) (zo := yO_image) (zm := yM_image) X hi lq_image (by decide +kernel) (by decide) lp_image (P_image I) hP hS hls K
theorem lp_restore : OKp yO_restore yM_restore 0 184 187 := ⟨⟨tw_t 572 (by decide +kernel) (by decide +kernel), okyO_restore, rfl, by decide, rfl, rfl⟩, ⟨tw_t 780 (by decide +kernel) (by decide +kernel), okyM_restore, rfl, by decide, rfl, rfl⟩, by decide⟩
theorem lq_restore : LQ 1325 0 184 187 := ⟨by decide +kernel, by decide +kernel, by decide +kernel, by decide +kernel, by decide +kernel, by decide +kernel⟩
theorem lc_restore (X : LX D rho cI cS b L xs p s m c) (hi : i + 6 ≤ L) (hI : IN u) (hP : va_P D vwCl (wl rho cI cS u) H) (hS : va_S (A0 s) s.heap H locs) (hls : lv_has ls 4 [(3, .int (nI i)), (0, .ref b), (1, .ref (rho 88)), (2, .ref (rho 96))]) (K : KE D rho cI cS p l e s m b below meth c Q ls) : W p l e room_1 s m #[Value.ref b] below meth c H locs 600000 7302250 Q (F0 m 1325 ls []) := by
  obtain ⟨Qs, Z, rfl, I⟩ := hI
  exact kl_int (k := 0) (i1 := 184) (i2 := 187) (off := 28) (zo := yO_restore) (zm := yM_restore) X hi lq_restore (by decide +kernel) (by decide) lp_restore (P_restore I) hP hS hls K
theorem lp_count : OKp yO_count yM_count 1 188 191 := ⟨⟨tw_t 576 (by decide +kernel) (by decide +kernel), okyO_count, rfl, by decide, rfl, rfl⟩, ⟨tw_t 1062 (by decide +kernel) (by decide +kernel), okyM_count, rfl, by decide, rfl, rfl⟩, by decide⟩
theorem lq_count : LQ 1338 1 188 191 := ⟨by decide +kernel, by decide +kernel, by decide +kernel, by decide +kernel, by decide +kernel, by decide +kernel⟩
theorem lc_count (X : LX D rho cI cS b L xs p s m c) (hi : i + 6 ≤ L) (hI : IN u) (hP : va_P D vwCl (wl rho cI cS u) H) (hS : va_S (A0 s) s.heap H locs) (hls : lv_has ls 4 [(3, .int (nI i)), (0, .ref b), (1, .ref (rho 88)), (2, .ref (rho 96))]) (K : KE D rho cI cS p l e s m b below meth c Q ls) : W p l e room_1 s m #[Value.ref b] below meth c H locs 600000 7302250 Q (F0 m 1338 ls []) := by
  obtain ⟨Qs, Z, rfl, I⟩ := hI
  exact kl_int (k := 1) (i1 := 188) (i2 := 191) (off := 5) (zo := yO_count) (zm := yM_count) X hi lq_count (by decide +kernel) (by decide) lp_count (P_count I _) hP hS hls K
theorem x43 {x : Int32} (h : ¬ (x.toInt < 0 ∨ 42 < x.toInt)) : ∃ k, k < 43 ∧ x = nI k := by
  have h0 : ¬ x < 0 := fun z => h (Or.inl (by rw [Int32.lt_iff_toInt_lt] at z; exact z))
  obtain ⟨j, hj, rfl⟩ := nI_of h0
  rw [nI_toInt hj] at h
  exact ⟨j, by omega, rfl⟩
theorem lw_switch {x : Int32} (X : LX D rho cI cS b L xs p s m c) (hi : i + 6 ≤ L) (hI : IN u) (hP : va_P D vwCl (wl rho cI cS u) H) (hS : va_S (A0 s) s.heap H locs) (hls : lv_has ls 4 [(3, .int (nI i)), (0, .ref b), (1, .ref (rho 88)), (2, .ref (rho 96))]) (K : KE D rho cI cS p l e s m b below meth c Q ls) : W p l e room_1 s m #[Value.ref b] below meth c H locs 600000 7302250 Q (F0 m 33 ls [.int x]) := by
  by_cases h : x.toInt < 0 ∨ 42 < x.toInt
  · exact lv_tableOut (tgt := 1361) X.1 X.2.1 dl_33 h (by decide) (K u H locs hI hP hS)
  · obtain ⟨k, hk, rfl⟩ := x43 h
    rcases (show k = 0 ∨ k = 1 ∨ k = 2 ∨ k = 3 ∨ k = 4 ∨ k = 5 ∨ k = 6 ∨ k = 7 ∨ k = 8 ∨ k = 9 ∨ k = 10 ∨ k = 11 ∨ k = 12 ∨ k = 13 ∨ k = 14 ∨ k = 15 ∨ k = 16 ∨ k = 17 ∨ k = 18 ∨ k = 19 ∨ k = 20 ∨ k = 21 ∨ k = 22 ∨ k = 23 ∨ k = 24 ∨ k = 25 ∨ k = 26 ∨ k = 27 ∨ k = 28 ∨ k = 29 ∨ k = 30 ∨ k = 31 ∨ k = 32 ∨ k = 33 ∨ k = 34 ∨ k = 35 ∨ k = 36 ∨ k = 37 ∨ k = 38 ∨ k = 39 ∨ k = 40 ∨ k = 41 ∨ k = 42 by omega) with rfl | rfl | rfl | rfl | rfl | rfl | rfl | rfl | rfl | rfl | rfl | rfl | rfl | rfl | rfl | rfl | rfl | rfl | rfl | rfl | rfl | rfl | rfl | rfl | rfl | rfl | rfl | rfl | rfl | rfl | rfl | rfl | rfl | rfl | rfl | rfl | rfl | rfl | rfl | rfl | rfl | rfl | rfl
    · exact lv_tableIn (off := 187) (tgt := 220) X.1 X.2.1 dl_33 (by decide) (by decide) (by decide) (by decide) (lc_feed X hi hI hP hS hls K)
    · exact lv_tableIn (off := 210) (tgt := 243) X.1 X.2.1 dl_33 (by decide) (by decide) (by decide) (by decide) (lc_street X hi hI hP hS hls K)
    · exact lv_tableIn (off := 223) (tgt := 256) X.1 X.2.1 dl_33 (by decide) (by decide) (by decide) (by decide) (lc_widowOf X hi hI hP hS hls K)
    · exact lv_tableIn (off := 256) (tgt := 289) X.1 X.2.1 dl_33 (by decide) (by decide) (by decide) (by decide) (lc_wears X hi hI hP hS hls K)
    · exact lv_tableIn (off := 289) (tgt := 322) X.1 X.2.1 dl_33 (by decide) (by decide) (by decide) (by decide) (lc_seen X hi hI hP hS hls K)
    · exact lv_tableIn (off := 312) (tgt := 345) X.1 X.2.1 dl_33 (by decide) (by decide) (by decide) (by decide) (lc_rota X hi hI hP hS hls K)
    · exact lv_tableIn (off := 335) (tgt := 368) X.1 X.2.1 dl_33 (by decide) (by decide) (by decide) (by decide) (lc_widow X hi hI hP hS hls K)
    · exact lv_tableIn (off := 388) (tgt := 421) X.1 X.2.1 dl_33 (by decide) (by decide) (by decide) (by decide) (lc_puts X hi hI hP hS hls K)
    · exact lv_tableIn (off := 421) (tgt := 454) X.1 X.2.1 dl_33 (by decide) (by decide) (by decide) (by decide) (lc_mends X hi hI hP hS hls K)
    · exact lv_tableIn (off := 454) (tgt := 487) X.1 X.2.1 dl_33 (by decide) (by decide) (by decide) (by decide) (lc_grieves X hi hI hP hS hls K)
    · exact lv_tableIn (off := 487) (tgt := 520) X.1 X.2.1 dl_33 (by decide) (by decide) (by decide) (by decide) (lc_weeks X hi hI hP hS hls K)
    · exact lv_tableIn (off := 510) (tgt := 543) X.1 X.2.1 dl_33 (by decide) (by decide) (by decide) (by decide) (lc_back X hi hI hP hS hls K)
    · exact lv_tableIn (off := 523) (tgt := 556) X.1 X.2.1 dl_33 (by decide) (by decide) (by decide) (by decide) (lc_then X hi hI hP hS hls K)
    · exact lv_tableIn (off := 556) (tgt := 589) X.1 X.2.1 dl_33 (by decide) (by decide) (by decide) (by decide) (lc_widowIn X hi hI hP hS hls K)
    · exact lv_tableIn (off := 599) (tgt := 632) X.1 X.2.1 dl_33 (by decide) (by decide) (by decide) (by decide) (lc_gone X hi hI hP hS hls K)
    · exact lv_tableIn (off := 622) (tgt := 655) X.1 X.2.1 dl_33 (by decide) (by decide) (by decide) (by decide) (lc_dayMet X hi hI hP hS hls K)
    · exact lv_tableIn (off := 645) (tgt := 678) X.1 X.2.1 dl_33 (by decide) (by decide) (by decide) (by decide) (lc_like X hi hI hP hS hls K)
    · exact lv_tableIn (off := 658) (tgt := 691) X.1 X.2.1 dl_33 (by decide) (by decide) (by decide) (by decide) (lc_turn X hi hI hP hS hls K)
    · exact lv_tableIn (off := 691) (tgt := 724) X.1 X.2.1 dl_33 (by decide) (by decide) (by decide) (by decide) (lc_swap X hi hI hP hS hls K)
    · exact lv_tableIn (off := 714) (tgt := 747) X.1 X.2.1 dl_33 (by decide) (by decide) (by decide) (by decide) (lc_leave X hi hI hP hS hls K)
    · exact lv_tableIn (off := 737) (tgt := 770) X.1 X.2.1 dl_33 (by decide) (by decide) (by decide) (by decide) (lc_mend X hi hI hP hS hls K)
    · exact lv_tableIn (off := 760) (tgt := 793) X.1 X.2.1 dl_33 (by decide) (by decide) (by decide) (by decide) (lc_lasts X hi hI hP hS hls K)
    · exact lv_tableIn (off := 783) (tgt := 816) X.1 X.2.1 dl_33 (by decide) (by decide) (by decide) (by decide) (lc_carry X hi hI hP hS hls K)
    · exact lv_tableIn (off := 806) (tgt := 839) X.1 X.2.1 dl_33 (by decide) (by decide) (by decide) (by decide) (lc_bestRota X hi hI hP hS hls K)
    · exact lv_tableIn (off := 829) (tgt := 862) X.1 X.2.1 dl_33 (by decide) (by decide) (by decide) (by decide) (lc_whoHad X hi hI hP hS hls K)
    · exact lv_tableIn (off := 852) (tgt := 885) X.1 X.2.1 dl_33 (by decide) (by decide) (by decide) (by decide) (lc_whatKind X hi hI hP hS hls K)
    · exact lv_tableIn (off := 895) (tgt := 928) X.1 X.2.1 dl_33 (by decide) (by decide) (by decide) (by decide) (lc_two X hi hI hP hS hls K)
    · exact lv_tableIn (off := 938) (tgt := 971) X.1 X.2.1 dl_33 (by decide) (by decide) (by decide) (by decide) (lc_gales X hi hI hP hS hls K)
    · exact lv_tableIn (off := 1002) (tgt := 1035) X.1 X.2.1 dl_33 (by decide) (by decide) (by decide) (by decide) (lc_worst X hi hI hP hS hls K)
    · exact lv_tableIn (off := 1025) (tgt := 1058) X.1 X.2.1 dl_33 (by decide) (by decide) (by decide) (by decide) (lc_mean X hi hI hP hS hls K)
    · exact lv_tableIn (off := 1049) (tgt := 1082) X.1 X.2.1 dl_33 (by decide) (by decide) (by decide) (by decide) (lc_face X hi hI hP hS hls K)
    · exact lv_tableIn (off := 1072) (tgt := 1105) X.1 X.2.1 dl_33 (by decide) (by decide) (by decide) (by decide) (lc_next X hi hI hP hS hls K)
    · exact lv_tableIn (off := 1095) (tgt := 1128) X.1 X.2.1 dl_33 (by decide) (by decide) (by decide) (by decide) (lc_gap X hi hI hP hS hls K)
    · exact lv_tableIn (off := 1118) (tgt := 1151) X.1 X.2.1 dl_33 (by decide) (by decide) (by decide) (by decide) (lc_eased X hi hI hP hS hls K)
    · exact lv_tableIn (off := 1151) (tgt := 1184) X.1 X.2.1 dl_33 (by decide) (by decide) (by decide) (by decide) (lc_sundays X hi hI hP hS hls K)
    · exact lv_tableIn (off := 1174) (tgt := 1207) X.1 X.2.1 dl_33 (by decide) (by decide) (by decide) (by decide) (lc_kept X hi hI hP hS hls K)
    · exact lv_tableIn (off := 1187) (tgt := 1220) X.1 X.2.1 dl_33 (by decide) (by decide) (by decide) (by decide) (lc_row X hi hI hP hS hls K)
    · exact lv_tableIn (off := 1210) (tgt := 1243) X.1 X.2.1 dl_33 (by decide) (by decide) (by decide) (by decide) (lc_judge X hi hI hP hS hls K)
    · exact lv_tableIn (off := 1223) (tgt := 1256) X.1 X.2.1 dl_33 (by decide) (by decide) (by decide) (by decide) (lc_clear X hi hI hP hS hls K)
    · exact lv_tableIn (off := 1236) (tgt := 1269) X.1 X.2.1 dl_33 (by decide) (by decide) (by decide) (by decide) (lc_lots X hi hI hP hS hls K)
    · exact lv_tableIn (off := 1279) (tgt := 1312) X.1 X.2.1 dl_33 (by decide) (by decide) (by decide) (by decide) (lc_image X hi hI hP hS hls K)
    · exact lv_tableIn (off := 1292) (tgt := 1325) X.1 X.2.1 dl_33 (by decide) (by decide) (by decide) (by decide) (lc_restore X hi hI hP hS hls K)
    · exact lv_tableIn (off := 1305) (tgt := 1338) X.1 X.2.1 dl_33 (by decide) (by decide) (by decide) (by decide) (lc_count X hi hI hP hS hls K)
theorem lw_head {L i : Nat} (hi : i ≤ L) (hL : L ≤ 3072) (h : ¬ nI L - 6 < nI i) : i + 6 ≤ L := by
  by_cases h6 : 6 ≤ L
  · have e : nI L - 6 = nI (L - 6) := by
      have : nI L = nI (L - 6) + nI 6 := by rw [nI_add, Nat.sub_add_cancel h6]
      rw [this, show (6 : Int32) = nI 6 from rfl, Int32.add_sub_cancel]
    rw [e, nI_ltI (by omega) (by omega)] at h
    omega
  · refine absurd ?_ h
    have h0 : (0 : Int32) ≤ nI i := nI_pos' (by omega)
    refine Int32.lt_of_lt_of_le ?_ h0
    rcases (show L = 0 ∨ L = 1 ∨ L = 2 ∨ L = 3 ∨ L = 4 ∨ L = 5 by omega) with rfl | rfl | rfl | rfl | rfl | rfl <;> decide
theorem lw_loop (X : LX D rho cI cS b L xs p s m c) (hr : meth.sig.returnType = ret) (hlocks : meth.locks = false) : ∀ (n i : Nat), i ≤ L → L < i + 6 * n → ∀ (u : Mem) (H : Heap) (locs : List Loc) (ls : Array Slot), IN u → va_P D vwCl (wl rho cI cS u) H → va_S (A0 s) s.heap H locs → lv_has ls 4 [(3, .int (nI i)), (0, .ref b), (1, .ref (rho 88)), (2, .ref (rho 96))] → W p l e room_1 s m #[Value.ref b] below meth c H locs 600000 7302250 (lw_Z below #[Value.ref b] s) (F0 m 18 ls []) := by
  obtain ⟨hx, hb, hml, hown, hts, hK, hN, hi1, hA, hX, hbl, hL⟩ := id X
  have hbA : ¬ A0 s b := Nat.not_le.mpr hbl
  intro n
  induction n with
  | zero =>
    intro i h1 h2
    exact absurd h2 (by omega)
  | succ n ih =>
    intro i h1 h2 u H locs ls hI hP hS hls
    refine lv_iload_n hx hb dl_18 rfl (lv_at hls 0 rfl) ?_
    refine lv_aload_n hx hb dl_19 rfl (lv_at hls 1 rfl) ?_
    refine va_slen hx hb hX hbl hbA hS dl_20 ?_
    refine lv_bipush (v := 6) hx hb dl_21 (by decide) ?_
    refine lv_isub hx hb dl_23 ?_
    refine lv_icmp_gt (tgt := 1367) hx hb dl_24 (by decide) (fun _ => ?_) (fun hg => ?_)
    · refine lv_iconst (v := 1) hx hb dl_1367 (by decide) ?_
      refine va_forget (fun q hq => hS.2.2 q hq) ?_
      exact lw_ret hx hb hr hlocks dl_1368
    · have hi6 : i + 6 ≤ L := lw_head h1 hL hg
      refine lv_aload_n hx hb dl_27 rfl (lv_at hls 1 rfl) ?_
      refine lv_iload_n hx hb dl_28 rfl (lv_at hls 0 rfl) ?_
      refine va_sld hx hb hX hbl hbA hS (vp_in_nI (by omega) (by omega)) dl_29 ?_
      refine lv_bipush (v := 63) hx hb dl_30 (by decide) ?_
      refine lv_iand hx hb dl_32 ?_
      refine lw_switch X hi6 hI hP hS hls (fun u H locs hI hP hS => ?_)
      refine lv_iinc (v := nI (i + 6)) hx hb dl_1361 hls (k := 0) rfl (by rw [← nI_add]; rfl) (by decide) rfl (fun ls hls => ?_)
      refine lv_goto (tgt := 18) hx hb dl_1364 (by decide) ?_
      exact ih (i + 6) hi6 (by omega) u H locs ls hI hP hS hls
end LAW3

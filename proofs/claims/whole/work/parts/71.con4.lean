theorem dcP_init_0 : decode (mB yP_init) 0 = .ok (.aload_n 0, 1) := by decide +kernel
theorem dcP_init_1 : decode (mB yP_init) 1 = .ok (.invokespecial 3, 3) := by decide +kernel
theorem dcP_init_4 : decode (mB yP_init) 4 = .ok (.aload_n 0, 1) := by decide +kernel
theorem dcP_init_5 : decode (mB yP_init) 5 = .ok (.bipush 8, 2) := by decide +kernel
theorem dcP_init_7 : decode (mB yP_init) 7 = .ok (.anewarray 9, 3) := by decide +kernel
theorem dcP_init_10 : decode (mB yP_init) 10 = .ok (.putfield 11, 3) := by decide +kernel
theorem dcP_init_13 : decode (mB yP_init) 13 = .ok (.iconst 0, 1) := by decide +kernel
theorem dcP_init_14 : decode (mB yP_init) 14 = .ok (.istore_n 1, 1) := by decide +kernel
theorem dcP_init_15 : decode (mB yP_init) 15 = .ok (.iload_n 1, 1) := by decide +kernel
theorem dcP_init_16 : decode (mB yP_init) 16 = .ok (.bipush 8, 2) := by decide +kernel
theorem dcP_init_18 : decode (mB yP_init) 18 = .ok (.if_icmp .ge 22, 3) := by decide +kernel
theorem dcP_init_21 : decode (mB yP_init) 21 = .ok (.aload_n 0, 1) := by decide +kernel
theorem dcP_init_22 : decode (mB yP_init) 22 = .ok (.getfield 11, 3) := by decide +kernel
theorem dcP_init_25 : decode (mB yP_init) 25 = .ok (.iload_n 1, 1) := by decide +kernel
theorem dcP_init_26 : decode (mB yP_init) 26 = .ok (.new 9, 3) := by decide +kernel
theorem dcP_init_29 : decode (mB yP_init) 29 = .ok (.dup, 1) := by decide +kernel
theorem dcP_init_30 : decode (mB yP_init) 30 = .ok (.invokespecial 17, 3) := by decide +kernel
theorem dcP_init_33 : decode (mB yP_init) 33 = .ok (.aastore, 1) := by decide +kernel
theorem dcP_init_34 : decode (mB yP_init) 34 = .ok (.iinc 1 1, 3) := by decide +kernel
theorem dcP_init_37 : decode (mB yP_init) 37 = .ok (.goto (-22), 3) := by decide +kernel
theorem dcP_init_40 : decode (mB yP_init) 40 = .ok (.aload_n 0, 1) := by decide +kernel
theorem dcP_init_41 : decode (mB yP_init) 41 = .ok (.iconst 0, 1) := by decide +kernel
theorem dcP_init_42 : decode (mB yP_init) 42 = .ok (.putfield 18, 3) := by decide +kernel
theorem dcP_init_45 : decode (mB yP_init) 45 = .ok (.aload_n 0, 1) := by decide +kernel
theorem dcP_init_46 : decode (mB yP_init) 46 = .ok (.iconst 0, 1) := by decide +kernel
theorem dcP_init_47 : decode (mB yP_init) 47 = .ok (.putfield 22, 3) := by decide +kernel
theorem dcP_init_50 : decode (mB yP_init) 50 = .ok (.return_, 1) := by decide +kernel
theorem dcO_init_0 : decode (mB yO_init) 0 = .ok (.aload_n 0, 1) := by decide +kernel
theorem dcO_init_1 : decode (mB yO_init) 1 = .ok (.invokespecial 1, 3) := by decide +kernel
theorem dcO_init_4 : decode (mB yO_init) 4 = .ok (.aload_n 0, 1) := by decide +kernel
theorem dcO_init_5 : decode (mB yO_init) 5 = .ok (.new 7, 3) := by decide +kernel
theorem dcO_init_8 : decode (mB yO_init) 8 = .ok (.dup, 1) := by decide +kernel
theorem dcO_init_9 : decode (mB yO_init) 9 = .ok (.invokespecial 9, 3) := by decide +kernel
theorem dcO_init_12 : decode (mB yO_init) 12 = .ok (.putfield 10, 3) := by decide +kernel
theorem dcO_init_15 : decode (mB yO_init) 15 = .ok (.aload_n 0, 1) := by decide +kernel
theorem dcO_init_16 : decode (mB yO_init) 16 = .ok (.new 7, 3) := by decide +kernel
theorem dcO_init_19 : decode (mB yO_init) 19 = .ok (.dup, 1) := by decide +kernel
theorem dcO_init_20 : decode (mB yO_init) 20 = .ok (.invokespecial 9, 3) := by decide +kernel
theorem dcO_init_23 : decode (mB yO_init) 23 = .ok (.putfield 16, 3) := by decide +kernel
theorem dcO_init_26 : decode (mB yO_init) 26 = .ok (.aload_n 0, 1) := by decide +kernel
theorem dcO_init_27 : decode (mB yO_init) 27 = .ok (.new 7, 3) := by decide +kernel
theorem dcO_init_30 : decode (mB yO_init) 30 = .ok (.dup, 1) := by decide +kernel
theorem dcO_init_31 : decode (mB yO_init) 31 = .ok (.invokespecial 9, 3) := by decide +kernel
theorem dcO_init_34 : decode (mB yO_init) 34 = .ok (.putfield 19, 3) := by decide +kernel
theorem dcO_init_37 : decode (mB yO_init) 37 = .ok (.aload_n 0, 1) := by decide +kernel
theorem dcO_init_38 : decode (mB yO_init) 38 = .ok (.iconst 0, 1) := by decide +kernel
theorem dcO_init_39 : decode (mB yO_init) 39 = .ok (.putfield 22, 3) := by decide +kernel
theorem dcO_init_42 : decode (mB yO_init) 42 = .ok (.aload_n 0, 1) := by decide +kernel
theorem dcO_init_43 : decode (mB yO_init) 43 = .ok (.new 26, 3) := by decide +kernel
theorem dcO_init_46 : decode (mB yO_init) 46 = .ok (.dup, 1) := by decide +kernel
theorem dcO_init_47 : decode (mB yO_init) 47 = .ok (.invokespecial 28, 3) := by decide +kernel
theorem dcO_init_50 : decode (mB yO_init) 50 = .ok (.putfield 29, 3) := by decide +kernel
theorem dcO_init_53 : decode (mB yO_init) 53 = .ok (.aload_n 0, 1) := by decide +kernel
theorem dcO_init_54 : decode (mB yO_init) 54 = .ok (.new 33, 3) := by decide +kernel
theorem dcO_init_57 : decode (mB yO_init) 57 = .ok (.dup, 1) := by decide +kernel
theorem dcO_init_58 : decode (mB yO_init) 58 = .ok (.invokespecial 35, 3) := by decide +kernel
theorem dcO_init_61 : decode (mB yO_init) 61 = .ok (.putfield 36, 3) := by decide +kernel
theorem dcO_init_64 : decode (mB yO_init) 64 = .ok (.aload_n 0, 1) := by decide +kernel
theorem dcO_init_65 : decode (mB yO_init) 65 = .ok (.new 40, 3) := by decide +kernel
theorem dcO_init_68 : decode (mB yO_init) 68 = .ok (.dup, 1) := by decide +kernel
theorem dcO_init_69 : decode (mB yO_init) 69 = .ok (.bipush 12, 2) := by decide +kernel
theorem dcO_init_71 : decode (mB yO_init) 71 = .ok (.invokespecial 42, 3) := by decide +kernel
theorem dcO_init_74 : decode (mB yO_init) 74 = .ok (.putfield 45, 3) := by decide +kernel
theorem dcO_init_77 : decode (mB yO_init) 77 = .ok (.aload_n 0, 1) := by decide +kernel
theorem dcO_init_78 : decode (mB yO_init) 78 = .ok (.bipush 7, 2) := by decide +kernel
theorem dcO_init_80 : decode (mB yO_init) 80 = .ok (.newarray .int, 2) := by decide +kernel
theorem dcO_init_82 : decode (mB yO_init) 82 = .ok (.putfield 49, 3) := by decide +kernel
theorem dcO_init_85 : decode (mB yO_init) 85 = .ok (.return_, 1) := by decide +kernel
theorem twP_init_0 : TW (.methodLink (RC 1) 3 objectInit) := tw_t 62 (by decide +kernel) (by decide +kernel)
theorem twO_init_0 : TW (.methodLink (RC 4) 1 objectInit) := tw_t 13 (by decide +kernel) (by decide +kernel)
theorem twnS_1 : TW (.instantiable (RC 2) 10) := tw_t 17 (by decide +kernel) (by decide +kernel)
theorem twnS_2 : TW (.initialized (RC 2)) := tw_t 2 (by decide +kernel) (by decide +kernel)
theorem twnS_3 : TW (.instanceMethod (mN yS_init)) := tw_t 19 (by decide +kernel) (by decide +kernel)
theorem twnS_4 : TW (.code (mN yS_init) (mB yS_init) (mL yS_init) (mR yS_init)) := tw_t 20 (by decide +kernel) (by decide +kernel)
theorem twnP_1 : TW (.instantiable (RC 1) 3) := tw_t 58 (by decide +kernel) (by decide +kernel)
theorem twnP_2 : TW (.initialized (RC 1)) := tw_t 3 (by decide +kernel) (by decide +kernel)
theorem twnP_3 : TW (.instanceMethod (mN yP_init)) := tw_t 60 (by decide +kernel) (by decide +kernel)
theorem twnP_4 : TW (.code (mN yP_init) (mB yP_init) (mL yP_init) (mR yP_init)) := tw_t 61 (by decide +kernel) (by decide +kernel)
theorem twnT_1 : TW (.instantiable (RC 3) 2) := tw_t 78 (by decide +kernel) (by decide +kernel)
theorem twnT_2 : TW (.initialized (RC 3)) := tw_t 5 (by decide +kernel) (by decide +kernel)
theorem twnT_3 : TW (.instanceMethod (mN yT_init)) := tw_t 80 (by decide +kernel) (by decide +kernel)
theorem twnT_4 : TW (.code (mN yT_init) (mB yT_init) (mL yT_init) (mR yT_init)) := tw_t 81 (by decide +kernel) (by decide +kernel)
theorem twnN_1 : TW (.instantiable (RC 0) 2) := tw_t 101 (by decide +kernel) (by decide +kernel)
theorem twnN_2 : TW (.initialized (RC 0)) := tw_t 4 (by decide +kernel) (by decide +kernel)
theorem twnN_3 : TW (.instanceMethod (mN yN_init)) := tw_t 83 (by decide +kernel) (by decide +kernel)
theorem twnN_4 : TW (.code (mN yN_init) (mB yN_init) (mL yN_init) (mR yN_init)) := tw_t 84 (by decide +kernel) (by decide +kernel)
theorem twnO_1 : TW (.instantiable (RC 4) 8) := tw_t 9 (by decide +kernel) (by decide +kernel)
theorem twnO_2 : TW (.initialized (RC 4)) := tw_t 1 (by decide +kernel) (by decide +kernel)
theorem twnO_3 : TW (.instanceMethod (mN yO_init)) := tw_t 11 (by decide +kernel) (by decide +kernel)
theorem twnO_4 : TW (.code (mN yO_init) (mB yO_init) (mL yO_init) (mR yO_init)) := tw_t 12 (by decide +kernel) (by decide +kernel)
theorem twnM_1 : TW (.instantiable (RC 5) 27) := tw_t 585 (by decide +kernel) (by decide +kernel)
theorem twnM_2 : TW (.initialized (RC 5)) := tw_t 7 (by decide +kernel) (by decide +kernel)
theorem twnM_3 : TW (.instanceMethod (mN yM_init)) := tw_t 587 (by decide +kernel) (by decide +kernel)
theorem twnM_4 : TW (.code (mN yM_init) (mB yM_init) (mL yM_init) (mR yM_init)) := tw_t 588 (by decide +kernel) (by decide +kernel)
theorem twlPS_1 : TW (.classLink (RC 1) 9 (RC 2)) := tw_t 63 (by decide +kernel) (by decide +kernel)
theorem twlPS_2 : TW (.methodLink (RC 1) 17 (mN yS_init)) := tw_t 65 (by decide +kernel) (by decide +kernel)
theorem twlOS_1 : TW (.classLink (RC 4) 7 (RC 2)) := tw_t 16 (by decide +kernel) (by decide +kernel)
theorem twlOS_2 : TW (.methodLink (RC 4) 9 (mN yS_init)) := tw_t 18 (by decide +kernel) (by decide +kernel)
theorem twlOP_1 : TW (.classLink (RC 4) 26 (RC 1)) := tw_t 57 (by decide +kernel) (by decide +kernel)
theorem twlOP_2 : TW (.methodLink (RC 4) 28 (mN yP_init)) := tw_t 59 (by decide +kernel) (by decide +kernel)
theorem twlOT_1 : TW (.classLink (RC 4) 33 (RC 3)) := tw_t 77 (by decide +kernel) (by decide +kernel)
theorem twlOT_2 : TW (.methodLink (RC 4) 35 (mN yT_init)) := tw_t 79 (by decide +kernel) (by decide +kernel)
theorem twlON_1 : TW (.classLink (RC 4) 40 (RC 0)) := tw_t 100 (by decide +kernel) (by decide +kernel)
theorem twlON_2 : TW (.methodLink (RC 4) 42 (mN yN_init)) := tw_t 102 (by decide +kernel) (by decide +kernel)
/-- the cells of Streets -/
abbrev sIdx (a t : Nat) : List Nat := (List.range (8 * t)).map (8 * a + ·)
theorem sIdx_mem {a t k : Nat} : k ∈ sIdx a t ↔ 8 * a ≤ k ∧ k < 8 * (a + t) := by
  unfold sIdx
  rw [List.mem_map]
  constructor
  · rintro ⟨i, hi, rfl⟩
    have := List.mem_range.mp hi
    omega
  · rintro ⟨h1, h2⟩
    exact ⟨k - 8 * a, List.mem_range.mpr (by omega), by omega⟩
theorem fK_2 : ∀ j, j < 10 → fK 2 j = 2 → j < 7 := by decide
theorem fK_6 : ∀ j, ¬ fK 6 j = 2 := by
  intro j
  unfold fK
  rw [show ([[2, 0], [2, 0, 0], [2, 2, 2, 2, 2, 2, 2, 0, 0, 0], [2, 0], [2, 2, 2, 1, 2, 2, 2, 2], [2, 2, 2, 2, 2, 2, 2, 2, 0, 0, 0, 2, 2, 2, 2, 0, 0, 0, 2, 1, 1, 0, 0, 2, 0, 2, 0]] : List (List Nat)).getD 6 [] = [] from rfl]
  simp
theorem sIdx_clos {a t : Nat} (h : a + t ≤ 11) : clos (sIdx a t) := by
  intro k hk
  have hk := sIdx_mem.mp hk
  have hc : cK k = if k % 8 = 0 then 2 else 6 := by
    unfold cK
    rw [if_pos (by omega)]
  by_cases h8 : k % 8 = 0
  · rw [if_pos h8] at hc
    rw [hc]
    refine ⟨fun j hj hf => ?_, fun h => by omega⟩
    have h7 := fK_2 j hj hf
    refine sIdx_mem.mpr ?_
    unfold fref
    rw [if_pos (by omega)]
    omega
  · rw [if_neg h8] at hc
    rw [hc]
    exact ⟨fun j _ hf => absurd hf (fK_6 j), fun h => by omega⟩
theorem sIdx_succ (a t : Nat) : sIdx a (t + 1) = sIdx a t ++ sIdx (a + t) 1 := by
  unfold sIdx
  rw [show 8 * (t + 1) = 8 * t + 8 by omega, List.range_add, List.map_append, List.map_map]
  refine congrArg _ ?_
  apply List.map_congr_left
  intro i hi
  show 8 * a + (8 * t + i) = 8 * (a + t) + i
  omega
theorem gY (y z : MI) (h : TW (.code (mN z) (mB z) (mL z) (mR z))) : GoodIn (wsY y) (wsY z) := by
  intro w hw
  rcases List.mem_cons.mp hw with rfl | hw
  · exact ⟨h.inY y, good_of_word h.2⟩
  · exact ⟨List.mem_cons_of_mem _ hw, good_of_word (List.mem_filter.mp hw).2⟩
section CON5
variable {p : Program} {l : Launch} {e : Env} {R : Room} {s : State} {m : MethodId} {args : Array Value} {below : List Frame} {meth : Method} {c : Code} {H : Heap} {locs : List Loc} {cells slots : Nat} {Q : State → Prop}
variable {D : va_G} {cI cS : ClassId} {A : Nat → Prop} {y : MI} {pc : Nat} {ls : Array Slot} {rest : List Value} {ws : va_W}
/-- a new object in a constructor -/
theorem kc_newy {z : MI} {n0 k0 kz ix1 ix2 : Nat} {idx : List Nat} (C : CC D cI cS A y p s m meth c args) (hz : mC z < 6) (hM : CN l D cI cS z n0 k0 idx kz) (w1 : TW (.classLink (RC (mC y)) ix1 (RC (mC z)))) (w2 : TW (.instantiable (RC (mC z)) (NFs (mC z)))) (w3 : TW (.initialized (RC (mC z)))) (w4 : TW (.methodLink (RC (mC y)) ix2 (mN z))) (w5 : TW (.instanceMethod (mN z))) (w6 : TW (.code (mN z) (mB z) (mL z) (mR z)))
    (hz0 : mR z = none) (hz1 : (mN z).cls = RC (mC z)) (hz2 : (mN z).name = "<init>") (hz3 : (mN z).cls ≠ "java/lang/invoke/MethodHandle" ∧ (mN z).cls ≠ "java/lang/invoke/VarHandle" ∧ (parseMethodDescriptor (mN z).desc).map (fun d => d.parameters.length) = some 0)
    (hR : mH z + 1 ≤ R.frames ∧ 8 + (mL z + 11) + 34 * mH z ≤ R.locals) (hcells : cells + 1 + n0 ≤ R.cells) (hslots : slots + NFs (mC z) + k0 ≤ R.slots) (hrest : (rest.map fun v => v.category).sum ≤ 6) (hsz : ls.size = mL y)
    (d0 : decode (mB y) pc = .ok (.new ix1, 3)) (d1 : decode (mB y) (pc + 3) = .ok (.dup, 1)) (d2 : decode (mB y) (pc + 4) = .ok (.invokespecial ix2, 3))
    (hP : va_P D vwCl ws H) (hD : va_D A ws) (hS : va_S A s.heap H locs)
    (kk : ∀ (r : Nat → Nat) (H1 : Heap) (locs1 : List Loc), va_P D vwCl (ws ++ wlx cI cS r idx) H1 → va_D A (ws ++ wlx cI cS r idx) → va_S A s.heap H1 locs1 → W p l e R s m args below meth c H1 locs1 (cells + 1 + n0) (slots + NFs (mC z) + k0) Q (F0 m (pc + 7) ls (.ref (r kz) :: rest))) : W p l e R s m args below meth c H locs cells slots Q (F0 m pc ls rest) := by
  obtain ⟨hx, hb, hml, hown, hts, hK, hnm2, hA, h1, -, -⟩ := C
  exact kc_new3 hx hb hml hown hts hK hA hz (u_wsY hz y) (gY y z w6) (hts _ (w1.inY y)) (hts _ (w2.inY y)) (hts _ (w3.inY y)) (hts _ (w4.inY y)) (hts _ (w5.inY y)) hM hz0 hz1 hz2 hz3 hR hcells hslots hrest hsz d0 d1 d2 hP hD hS kk
/-- a new object in a constructor, whose own constructor takes something -/
theorem kc_newyx {z : MI} {vs : List Value} {pcx n0 k0 kz ix1 ix2 : Nat} {idx : List Nat} (C : CC D cI cS A y p s m meth c args) (hz : mC z < 6) (hM : CNo l D cI cS z (mC z) vs n0 k0 idx kz) (w1 : TW (.classLink (RC (mC y)) ix1 (RC (mC z)))) (w2 : TW (.instantiable (RC (mC z)) (NFs (mC z)))) (w3 : TW (.initialized (RC (mC z)))) (w4 : TW (.methodLink (RC (mC y)) ix2 (mN z))) (w5 : TW (.instanceMethod (mN z))) (w6 : TW (.code (mN z) (mB z) (mL z) (mR z)))
    (hz0 : mR z = none) (hz1 : (mN z).cls = RC (mC z)) (hz2 : (mN z).name = "<init>") (hz3 : (mN z).cls ≠ "java/lang/invoke/MethodHandle" ∧ (mN z).cls ≠ "java/lang/invoke/VarHandle" ∧ (parseMethodDescriptor (mN z).desc).map (fun d => d.parameters.length) = some vs.length)
    (hR : mH z + 1 ≤ R.frames ∧ 8 + (mL z + 11) + 34 * mH z ≤ R.locals) (hcells : cells + 1 + n0 ≤ R.cells) (hslots : slots + NFs (mC z) + k0 ≤ R.slots) (hrest : (rest.map fun v => v.category).sum ≤ 6) (hsz : ls.size = mL y)
    (d0 : decode (mB y) pc = .ok (.new ix1, 3)) (d1 : decode (mB y) (pc + 3) = .ok (.dup, 1)) (d2 : decode (mB y) pcx = .ok (.invokespecial ix2, 3))
    (hpush : ∀ (q : Nat) (H : Heap) (locs : List Loc) (cells slots : Nat), W p l e R s m args below meth c H locs cells slots Q (F0 m pcx ls (vs.reverse ++ .ref q :: .ref q :: rest)) → W p l e R s m args below meth c H locs cells slots Q (F0 m (pc + 4) ls (.ref q :: .ref q :: rest)))
    (hP : va_P D vwCl ws H) (hD : va_D A ws) (hS : va_S A s.heap H locs)
    (kk : ∀ (r : Nat → Nat) (H1 : Heap) (locs1 : List Loc), va_P D vwCl (ws ++ wlx cI cS r idx) H1 → va_D A (ws ++ wlx cI cS r idx) → va_S A s.heap H1 locs1 → W p l e R s m args below meth c H1 locs1 (cells + 1 + n0) (slots + NFs (mC z) + k0) Q (F0 m (pcx + 3) ls (.ref (r kz) :: rest))) : W p l e R s m args below meth c H locs cells slots Q (F0 m pc ls rest) := by
  obtain ⟨hx, hb, hml, hown, hts, hK, hnm2, hA, h1, -, -⟩ := C
  exact kc_newx hx hb hml hown hts hK hA hz (u_wsY hz y) (gY y z w6) (hts _ (w1.inY y)) (hts _ (w2.inY y)) (hts _ (w3.inY y)) (hts _ (w4.inY y)) (hts _ (w5.inY y)) hM hz0 hz1 hz2 hz3 hR hcells hslots hrest hsz d0 d1 d2 hpush hP hD hS kk
/-- the ring's cell -/
def rg (cS : ClassId) (q n : Nat) (r : Nat → Nat) : Nat × va_E := (q, .inl (cS, 8, .inr (.inr (.inr (.inr (fun j => if j < n then some (r (24 + 8 * j)) else none))))))
/-- Past, with its ring -/
def pw (h0 q : Nat) : Nat × va_E := (h0, .inr (1, [.ref q, .int 0, .int 0]))
theorem p8_n : ∀ n, n < 8 → (¬ (8 : Int32) ≤ nI n) ∧ (¬ nI n < 0) ∧ (nI n).toNatClampNeg = n ∧ nI n + Int32.ofInt 1 = nI (n + 1) := by decide
theorem wlx_hd {r : Nat → Nat} {a t : Nat} (ha : a < 11) (ht : 0 < t) : ∃ vs, (r (8 * a), (.inr (2, vs) : va_E)) ∈ wlx cI cS r (sIdx a t) := by
  have h := cs_obj (cI := cI) (cS := cS) (r := r) ha
  rw [Nat.add_zero] at h
  exact ⟨_, List.mem_map.mpr ⟨8 * a, sIdx_mem.mpr ⟨by omega, by omega⟩, by rw [h]⟩⟩
theorem con_P_loop {h0 q : Nat} (C : CC D cI cS A yP_init p s m meth c args)
    (K : ∀ (H : Heap) (locs : List Loc) (ls : Array Slot) (r : Nat → Nat), va_P D vwCl ([pw h0 q, rg cS q 8 r] ++ wlx cI cS r (sIdx 3 8)) H → va_D A ([pw h0 q, rg cS q 8 r] ++ wlx cI cS r (sIdx 3 8)) → va_S A s.heap H locs → lv_has ls 2 [(1, .int 8), (0, .ref h0)] → W p l e (rmC yP_init 65 488) s m args below meth c H locs 65 488 Q (F0 m 40 ls [])) :
    ∀ (d n : Nat), n + d = 8 → ∀ (H : Heap) (locs : List Loc) (ls : Array Slot) (r : Nat → Nat), va_P D vwCl ([pw h0 q, rg cS q n r] ++ wlx cI cS r (sIdx 3 n)) H → va_D A ([pw h0 q, rg cS q n r] ++ wlx cI cS r (sIdx 3 n)) → va_S A s.heap H locs → lv_has ls 2 [(1, .int (nI n)), (0, .ref h0)] → W p l e (rmC yP_init 65 488) s m args below meth c H locs (1 + 8 * n) (8 + 60 * n) Q (F0 m 15 ls []) := by
  have hx := C.1
  have hb := C.2.1
  intro d
  induction d with
  | zero =>
    intro n hn H locs ls r hP hD hS hls
    obtain rfl : n = 8 := by omega
    refine lv_iload_n hx hb dcP_init_15 rfl (lv_at hls 0 rfl) ?_
    refine lv_bipush (v := 8) hx hb dcP_init_16 (by decide) ?_
    refine lv_icmp_ge (tgt := 40) hx hb dcP_init_18 (by decide) (fun _ => ?_) (fun h => absurd (by decide) h)
    exact K H locs ls r hP hD hS hls
  | succ d ih =>
    intro n hn H locs ls r hP hD hS hls
    have hn8 : n < 8 := by omega
    obtain ⟨a1, a2, a3, a4⟩ := p8_n n hn8
    refine lv_iload_n hx hb dcP_init_15 rfl (lv_at hls 0 rfl) ?_
    refine lv_bipush (v := 8) hx hb dcP_init_16 (by decide) ?_
    refine lv_icmp_ge (tgt := 40) hx hb dcP_init_18 (by decide) (fun h => absurd h a1) (fun _ => ?_)
    refine lv_aload_n hx hb dcP_init_21 rfl (lv_at hls 1 rfl) ?_
    have h3 := lk_all (P := fun i x => fOK 1 i x) (fun x hx => okFLs 1 (by decide) x hx) (show lk (FLs 1) 11 = some (false, 1, 0) from rfl)
    refine va_get (D := D) (v := .ref q) hx hb C.2.2.2.2.1 (u_wsY (cl := 1) (by decide) yP_init) C.2.2.2.1 C.2.2.2.2.2.1.1 hP 0 rfl (vwCl_at 1 (by decide)) 0 (by decide) (C.2.2.2.2.1 _ (TW.inY h3.2.2.2 yP_init)) (fun x hx => hx) rfl dcP_init_22 ?_
    refine lv_iload_n hx hb dcP_init_25 rfl (lv_at hls 0 rfl) ?_
    refine kc_newy (z := yS_init) (ix1 := 9) (ix2 := 17) (idx := sIdx (3 + n) 1) (kz := 8 * (3 + n)) C (by decide) (con_S_init l D cI cS (3 + n) (by omega)) twlPS_1 twnS_1 twnS_2 twlPS_2 twnS_3 twnS_4 rfl rfl rfl (by decide) (by decide) (by show 1 + 8 * n + 1 + 7 ≤ 65; omega) (by show 8 + 60 * n + 10 + 50 ≤ 488; omega) (by simp [Value.category]) hls.1 dcP_init_26 dcP_init_29 dcP_init_30 hP hD hS (fun r2 H locs hP hD hS => ?_)
    obtain ⟨vs, hv⟩ := wlx_hd (cI := cI) (cS := cS) (r := r2) (a := 3 + n) (t := 1) (by omega) (by decide)
    obtain ⟨qk, hqk⟩ := List.getElem?_of_mem (List.mem_append_right ([pw h0 q, rg cS q n r] ++ wlx cI cS r (sIdx 3 n)) hv)
    refine va_astq hx hb C.2.2.2.2.2.1.1 hP hD hS 1 1 qk 2 (r := (RC 2, TF2, 10)) rfl rfl hqk rfl (fun h => by rcases h with h | h; exact a2 h; rw [a3] at h; omega) dcP_init_33 (fun H locs hP hD hS => ?_)
    refine lv_iinc (v := nI (n + 1)) hx hb dcP_init_34 hls (k := 0) rfl a4 (by decide) rfl (fun ls hls => ?_)
    refine lv_goto (tgt := 15) hx hb dcP_init_37 (by decide) ?_
    obtain ⟨r3, hr3⟩ : ∃ r3 : Nat → Nat, r3 = fun k => if k < 24 + 8 * n then r k else r2 k := ⟨_, rfl⟩
    have e1 : wlx cI cS r3 (sIdx 3 n) = wlx cI cS r (sIdx 3 n) := wlx_congr (sIdx_clos (by omega)) (fun k hk => by
      have := sIdx_mem.mp hk
      rw [hr3]
      exact if_pos (by omega))
    have e2 : wlx cI cS r3 (sIdx (3 + n) 1) = wlx cI cS r2 (sIdx (3 + n) 1) := wlx_congr (sIdx_clos (by omega)) (fun k hk => by
      have := sIdx_mem.mp hk
      rw [hr3]
      exact if_neg (by omega))
    have e3 : wlx cI cS r3 (sIdx 3 (n + 1)) = wlx cI cS r (sIdx 3 n) ++ wlx cI cS r2 (sIdx (3 + n) 1) := by rw [sIdx_succ, wlx_app, e1, e2]
    have e4 : rg cS q (n + 1) r3 = (q, .inl (cS, 8, .inr (.inr (.inr (.inr (va_up (fun j => if j < n then some (r (24 + 8 * j)) else none) (nI n).toNatClampNeg (some (r2 (8 * (3 + n)))))))))) := by
      unfold rg
      rw [a3]
      have : (fun j => if j < n + 1 then some (r3 (24 + 8 * j)) else none) = va_up (fun j => if j < n then some (r (24 + 8 * j)) else none) n (some (r2 (8 * (3 + n)))) := by
        funext j
        unfold va_up
        by_cases hj : j = n
        · subst hj
          rw [if_pos (by omega), if_pos rfl, hr3]
          show some (if 24 + 8 * j < 24 + 8 * j then _ else _) = _
          rw [if_neg (by omega), show 24 + 8 * j = 8 * (3 + j) by omega]
        · rw [if_neg hj]
          show _ = if j < n then some (r (24 + 8 * j)) else none
          by_cases hl : j < n
          · rw [if_pos (by omega), if_pos hl, hr3]
            show some (if 24 + 8 * j < 24 + 8 * n then _ else _) = _
            rw [if_pos (by omega)]
          · rw [if_neg (by omega), if_neg hl]
      rw [this]
    have e5 : [pw h0 q, rg cS q (n + 1) r3] ++ wlx cI cS r3 (sIdx 3 (n + 1)) = (([pw h0 q, rg cS q n r] ++ wlx cI cS r (sIdx 3 n)) ++ wlx cI cS r2 (sIdx (3 + n) 1)).set 1 (q, .inl (cS, 8, .inr (.inr (.inr (.inr (va_up (fun j => if j < n then some (r (24 + 8 * j)) else none) (nI n).toNatClampNeg (some (r2 (8 * (3 + n)))))))))) := by
      rw [e3, e4]
      rfl
    have k1 := ih (n + 1) (by omega) H locs ls r3 (by rw [e5]; exact hP) (by rw [e5]; exact hD) hS hls
    refine W.widen (k := 1 + 8 * (n + 1)) (n := 8 + 60 * (n + 1)) (by show 1 + 8 * n + 1 + 7 ≤ _; omega) (by show 8 + 60 * n + 10 + 50 ≤ _; omega) k1
set_option maxRecDepth 20000 in
theorem con_P_init (l : Launch) (D : va_G) (cI cS : ClassId) : CN l D cI cS yP_init 65 488 ([89, 90] ++ sIdx 3 8) 89 := by
  refine kc_met (ix := 3) (by decide) rfl rfl rfl (by decide) (by decide) (by decide) twP_init_0 dcP_init_0 dcP_init_1 ?_
  intro p e s m below meth c A h0 ls C hP hD hls
  have hx := C.1
  have hb := C.2.1
  have hS : va_S A s.heap s.heap [] := va_S.rf
  have hP : va_P D vwCl [(h0, .inr (1, [.null, .int 0, .int 0]))] s.heap := hP
  have hD : va_D A [(h0, .inr (1, [.null, .int 0, .int 0]))] := hD
  refine lv_aload_n hx hb dcP_init_4 rfl (lv_at hls 0 rfl) ?_
  refine lv_bipush (v := 8) hx hb dcP_init_5 (by decide) ?_
  refine va_newq (own := RC 1) (C := "OnePortrait$Street") (N' := 8) hx hb C.2.2.2.1 (C.2.2.2.2.1 _ (TW.inY twlPS_1 yP_init)) C.2.2.2.2.2.1.2 C.2.2.2.2.2.1.1 hP hD hS C.2.2.2.2.2.2.2.1 (by decide) (by decide) (by decide) (by decide) (by decide) dcP_init_7 (fun q cA H hK1 hP hD hS => ?_)
  have f1 : va_RA s cA (.object "OnePortrait$Street") := (hK1.2 2 (cA, .object "OnePortrait$Street") rfl).2
  have f2 : va_RA s cS (.object "OnePortrait$Street") := (C.2.2.2.2.2.1.1.2 1 (cS, .object "OnePortrait$Street") rfl).2
  obtain ⟨_, _, _, _, _, g1⟩ := f1
  obtain ⟨_, _, _, _, _, g2⟩ := f2
  obtain rfl : cA = cS := Option.some.inj (g1.symm.trans g2)
  refine kc_put (i := 11) (k := 0) (q0 := 0) (fs := [.null, .int 0, .int 0]) (ty := .array (.object "OnePortrait$Street")) C rfl rfl rfl rfl rfl (Nat.le_of_ble_eq_true rfl) hP hD hS dcP_init_10 (fun H locs hP hD hS => ?_)
  refine lv_iconst (v := 0) hx hb dcP_init_13 (by decide) ?_
  refine lv_istore_n hx hb dcP_init_14 rfl hls (by decide) rfl (fun ls hls => ?_)
  have e0 : rg cA q 0 (fun _ => 0) = (q, .inl (cA, 8, .inr (.inr (.inr (.inr (fun _ => none)))))) := by
    unfold rg
    have : (fun j => if j < 0 then some ((fun _ => 0) (24 + 8 * j)) else none) = (fun _ => none : Nat → Option Nat) := by
      funext j
      exact if_neg (by omega)
    rw [this]
  have e1 : ([pw h0 q, rg cA q 0 (fun _ => 0)] ++ wlx cI cA (fun _ => 0) (sIdx 3 0)) = [(h0, .inr (1, [.ref q, .int 0, .int 0])), (q, .inl (cA, 8, .inr (.inr (.inr (.inr (fun _ => none))))))] := by
    rw [e0]
    rfl
  refine con_P_loop (D := D) (cI := cI) (cS := cA) (h0 := h0) (q := q) C ?_ 8 0 rfl H locs ls (fun _ => 0) (by rw [e1]; exact hP) (by rw [e1]; exact hD) hS hls
  intro H locs ls r hP hD hS hls
  refine lv_aload_n hx hb dcP_init_40 rfl (lv_at hls 1 rfl) ?_
  refine lv_iconst (v := 0) hx hb dcP_init_41 (by decide) ?_
  refine kc_put (i := 18) (k := 1) (q0 := 0) (ty := .int) C rfl rfl rfl rfl rfl (Nat.le_of_ble_eq_true rfl) hP hD hS dcP_init_42 (fun H locs hP hD hS => ?_)
  refine lv_aload_n hx hb dcP_init_45 rfl (lv_at hls 1 rfl) ?_
  refine lv_iconst (v := 0) hx hb dcP_init_46 (by decide) ?_
  refine kc_put (i := 22) (k := 2) (q0 := 0) (ty := .int) C rfl rfl rfl rfl rfl (Nat.le_of_ble_eq_true rfl) hP hD hS dcP_init_47 (fun H locs hP hD hS => ?_)
  obtain ⟨r2, hr⟩ : ∃ r2 : Nat → Nat, r2 = fun k => if k = 89 then h0 else if k = 90 then q else r k := ⟨_, rfl⟩
  have n1 : r2 89 = h0 := by rw [hr]; rfl
  have n2 : r2 90 = q := by rw [hr]; rfl
  have n3 : ∀ k, k < 89 → r2 k = r k := fun k hk => by
    rw [hr]
    show (if k = 89 then h0 else if k = 90 then q else r k) = r k
    rw [if_neg (by omega), if_neg (by omega)]
  have e2 : wlx cI cA r2 (sIdx 3 8) = wlx cI cA r (sIdx 3 8) := wlx_congr (sIdx_clos (by omega)) (fun k hk => n3 k (by have := sIdx_mem.mp hk; omega))
  have e3 : wlx cI cA r2 ([89, 90] ++ sIdx 3 8) = [pw h0 q, rg cA q 8 r] ++ wlx cI cA r (sIdx 3 8) := by
    rw [wlx_app, e2]
    refine congrArg (· ++ _) ?_
    show [(r2 89, cellE r2 cI cA u0 89), (r2 90, cellE r2 cI cA u0 90)] = _
    rw [cell_obj (c := 1) (k := 89) rfl (by decide), cell_ring (k := 90) rfl]
    show ([(r2 89, .inr (1, [.ref (r2 90), .int 0, .int 0])), rg cA (r2 90) 8 r2] : va_W) = _
    rw [n1, n2]
    have : rg cA q 8 r2 = rg cA q 8 r := by
      unfold rg
      have : (fun j => if j < 8 then some (r2 (24 + 8 * j)) else none) = fun j => if j < 8 then some (r (24 + 8 * j)) else none := by
        funext j
        split
        · rw [n3 _ (by omega)]
        · rfl
      rw [this]
    rw [this]
    rfl
  refine kc_ret (r := r2) C dcP_init_50 n1 ?_ ?_ hS
  · rw [e3]; exact hP
  · rw [e3]; exact hD
end CON5


/-! one call of each, the class and the model -/
section LAW2
variable {p : Program} {l : Launch} {e : Env} {s : State} {m : MethodId} {below : List Frame} {meth : Method} {c : Code} {H : Heap} {locs : List Loc} {cells slots : Nat} {Q : State → Prop}
variable {D : va_G} {rho : Nat → Nat} {cI cS : ClassId} {b L : Nat} {xs : Nat → Int32} {pc : Nat} {ls : Array Slot} {rest : List Value}
abbrev vsK (xs : Nat → Int32) (i k : Nat) : List Value := (List.range k).map (fun t => Value.int (xat xs i (t + 1)))
/-- the code of a case, to its end's compare -/
abbrev LQ (pc k i1 i2 : Nat) : Prop := decode code pc = .ok (.aload_n 1, 1) ∧ (∀ t, t < k → argc (pc + 1 + 5 * t) (t + 1)) ∧ decode code (pc + 1 + 5 * k) = .ok (.invokevirtual i1, 3) ∧ decode code (pc + 1 + 5 * k + 3) = .ok (.aload_n 2, 1) ∧ (∀ t, t < k → argc (pc + 1 + 5 * k + 3 + 1 + 5 * t) (t + 1)) ∧ decode code (pc + 1 + 5 * k + 3 + 1 + 5 * k) = .ok (.invokevirtual i2, 3)
/-- what the tables say of the pair's methods -/
def OKp (zo zm : MI) (k i1 i2 : Nat) : Prop := (TW (.methodLink R_law i1 (mN zo)) ∧ OKm zo ∧ mS zo = false ∧ mH zo ≤ 9 ∧ mC zo = 4 ∧ mP zo = k) ∧ (TW (.methodLink R_law i2 (mN zm)) ∧ OKm zm ∧ mS zm = false ∧ mH zm ≤ 9 ∧ mC zm = 5 ∧ mP zm = k) ∧ k ≤ 5
theorem vsK_cv (i k : Nat) : (vsK xs i k).map (cv rho) = vsK xs i k := by
  unfold vsK
  rw [List.map_map]
  rfl
theorem kl_pair {zo zm : MI} {k i1 i2 i : Nat} {u u1 u2 : Mem} {v : Value} (X : LX D rho cI cS b L xs p s m c) (hi : i + 6 ≤ L) (hq : LQ pc k i1 i2) (ho : OKp zo zm k i1 i2) (hv : ∀ r, cv r v = v) (hv2 : v.category ≤ 2)
    (hc1 : cal zo (.ref 88 :: vsK xs i k) u = some (some v, u1)) (hc2 : cal zm (.ref 96 :: vsK xs i k) u1 = some (some v, u2)) (hcs : cells ≤ 600000 ∧ slots ≤ 7302250)
    (hP : va_P D vwCl (wl rho cI cS u) H) (hS : va_S (A0 s) s.heap H locs) (hls : lv_has ls 4 [(3, .int (nI i)), (0, .ref b), (1, .ref (rho 88)), (2, .ref (rho 96))])
    (kk : ∀ (H1 : Heap) (locs1 : List Loc), va_P D vwCl (wl rho cI cS u2) H1 → va_S (A0 s) s.heap H1 locs1 → W p l e room_1 s m #[Value.ref b] below meth c H1 locs1 cells slots Q (F0 m (pc + 1 + 5 * k + 3 + 1 + 5 * k + 3) ls [v, v])) : W p l e room_1 s m #[Value.ref b] below meth c H locs cells slots Q (F0 m pc ls []) := by
  obtain ⟨d0, da, d1, d2, db, d3⟩ := hq
  obtain ⟨⟨l1, o1, s1, h1, c1, n1⟩, ⟨l2, o2, s2, h2, c2, n2⟩, hk⟩ := ho
  have hx := X.1
  have hb := X.2.1
  have hlen : (vsK xs i k).length = k := by simp
  refine lv_aload_n hx hb d0 rfl (lv_at hls 2 rfl) ?_
  refine kl_args X hi hS hls k hk (pc + 1) da ?_
  have q1 := kl_call (l := l) (e := e) (below := below) (meth := meth) (Q := Q) (rest := []) X l1 o1 s1 h1 (by rw [c1]; rfl) hc1 (by rw [hlen, n1]) (by simp) d1 hP hS hls.1 (fun H1 locs1 hP hS => ?_) hcs
  · rw [vsK_cv] at q1
    exact q1
  · show W p l e room_1 s m #[Value.ref b] below meth c H1 locs1 cells slots Q (F0 m (pc + 1 + 5 * k + 3) ls [cv rho v])
    rw [hv]
    refine lv_aload_n hx hb d2 rfl (lv_at hls 3 rfl) ?_
    refine kl_args X hi hS hls k hk (pc + 1 + 5 * k + 3 + 1) db ?_
    have q2 := kl_call (l := l) (e := e) (below := below) (meth := meth) (Q := Q) (rest := [v]) X l2 o2 s2 h2 (by rw [c2]; rfl) hc2 (by rw [hlen, n2]) (by simp; omega) d3 hP hS hls.1 (fun H1 locs1 hP hS => ?_) hcs
    · rw [vsK_cv] at q2
      exact q2
    · show W p l e room_1 s m #[Value.ref b] below meth c H1 locs1 cells slots Q (F0 m (pc + 1 + 5 * k + 3 + 1 + 5 * k + 3) ls [cv rho v, v])
      rw [hv]
      exact kk H1 locs1 hP hS
/-- the loop's end, whatever memory -/
def KE (D : va_G) (rho : Nat → Nat) (cI cS : ClassId) (p : Program) (l : Launch) (e : Env) (s : State) (m : MethodId) (b : Nat) (below : List Frame) (meth : Method) (c : Code) (Q : State → Prop) (ls : Array Slot) : Prop :=
  ∀ (u : Mem) (H : Heap) (locs : List Loc), IN u → va_P D vwCl (wl rho cI cS u) H → va_S (A0 s) s.heap H locs → W p l e room_1 s m #[Value.ref b] below meth c H locs 600000 7302250 Q (F0 m 1361 ls [])
theorem kl_int {zo zm : MI} {k i1 i2 i : Nat} {off : Int} {u : Mem} (X : LX D rho cI cS b L xs p s m c) (hi : i + 6 ≤ L) (hq : LQ pc k i1 i2) (hq2 : decode code (pc + 1 + 5 * k + 3 + 1 + 5 * k + 3) = .ok (.if_icmp .eq off, 3)) (ht : ((pc + 1 + 5 * k + 3 + 1 + 5 * k + 3 : Nat) : Int) + off = (1361 : Nat)) (ho : OKp zo zm k i1 i2) (hp : PRi zo zm (vsK xs i k) u)
    (hP : va_P D vwCl (wl rho cI cS u) H) (hS : va_S (A0 s) s.heap H locs) (hls : lv_has ls 4 [(3, .int (nI i)), (0, .ref b), (1, .ref (rho 88)), (2, .ref (rho 96))]) (K : KE D rho cI cS p l e s m b below meth c Q ls) : W p l e room_1 s m #[Value.ref b] below meth c H locs 600000 7302250 Q (F0 m pc ls []) := by
  obtain ⟨v, u1, u2, h1, h2, h3⟩ := hp
  refine kl_pair X hi hq ho (fun _ => rfl) (by simp [Value.category]) h1 h2 ⟨Nat.le_refl _, Nat.le_refl _⟩ hP hS hls (fun H1 locs1 hP hS => ?_)
  exact lv_icmp_eq X.1 X.2.1 hq2 ht (fun _ => K u2 H1 locs1 h3 hP hS) (fun h => absurd rfl h)
theorem kl_long {zo zm : MI} {k i1 i2 i : Nat} {off : Int} {u : Mem} (X : LX D rho cI cS b L xs p s m c) (hi : i + 6 ≤ L) (hq : LQ pc k i1 i2) (hq2 : decode code (pc + 1 + 5 * k + 3 + 1 + 5 * k + 3) = .ok (.lcmp, 1)) (hq3 : decode code (pc + 1 + 5 * k + 3 + 1 + 5 * k + 3 + 1) = .ok (.ifCond .eq off, 3)) (ht : ((pc + 1 + 5 * k + 3 + 1 + 5 * k + 3 + 1 : Nat) : Int) + off = (1361 : Nat)) (ho : OKp zo zm k i1 i2) (hp : PRl zo zm (vsK xs i k) u)
    (hP : va_P D vwCl (wl rho cI cS u) H) (hS : va_S (A0 s) s.heap H locs) (hls : lv_has ls 4 [(3, .int (nI i)), (0, .ref b), (1, .ref (rho 88)), (2, .ref (rho 96))]) (K : KE D rho cI cS p l e s m b below meth c Q ls) : W p l e room_1 s m #[Value.ref b] below meth c H locs 600000 7302250 Q (F0 m pc ls []) := by
  obtain ⟨v, u1, u2, h1, h2, h3⟩ := hp
  refine kl_pair X hi hq ho (fun _ => rfl) (by simp [Value.category]) h1 h2 ⟨Nat.le_refl _, Nat.le_refl _⟩ hP hS hls (fun H1 locs1 hP hS => ?_)
  refine W.lcmp X.1 X.2.1 hq2 ?_
  refine lv_if_eq X.1 X.2.1 hq3 ht (fun _ => K u2 H1 locs1 h3 hP hS) (fun h => absurd ?_ h)
  unfold lg_cmp
  simp
end LAW2

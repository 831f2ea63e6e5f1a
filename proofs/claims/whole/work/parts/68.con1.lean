/-! THE CONSTRUCTORS: what they put on the heap -/
section CON
variable {p : Program} {l : Launch} {e : Env} {R : Room} {s : State} {m : MethodId} {args : Array Value} {below : List Frame} {meth : Method} {c : Code} {H : Heap} {locs : List Loc} {cells slots : Nat} {Q : State → Prop}
variable {D : va_G} {cI cS : ClassId} {A : Nat → Prop}
def KK (D : va_G) (cI cS : ClassId) (U : State) : Prop := va_K D vwCl (tysW cI cS) U ∧ va_AO "OnePortrait$Street" U
theorem KK.moved {u U : State} (hvm : u.vm.Alike U.vm) (h : KK D cI cS u) : KK D cI cS U := ⟨va_K.moved hvm h.1, va_AO.moved hvm h.2⟩
/-- the place's value in the starting memory -/
def u0 : Mem := fun k _ => if (k < 88 ∧ k % 8 = 6) ∨ k = 103 then 90 else 0
/-- some cells of the world, at the start -/
def wlx (cI cS : ClassId) (r : Nat → Nat) (idx : List Nat) : va_W := idx.map (fun k => (r k, cellE r cI cS u0 k))
/-- an object's fields, new made -/
def bl (c : Nat) : List Value := (List.range (NFs c)).map (fun j => if fK c j = 2 then Value.null else .int 0)
theorem bl_ok : ∀ c, c < 6 → ∀ j, j < NFs c → defaultValue (tyFs c j) = vp_V (bl c) j := by
  intro c hc
  rcases (show c = 0 ∨ c = 1 ∨ c = 2 ∨ c = 3 ∨ c = 4 ∨ c = 5 by omega) with rfl | rfl | rfl | rfl | rfl | rfl
  all_goals decide +kernel
def rmC (y : MI) (n k : Nat) : Room := { frames := mH y, cells := n, slots := k, locals := 34 * mH y }
/-- a constructor's contract: from the blank object, of its class or of an heir of it, to its cells -/
def CNo (l : Launch) (D : va_G) (cI cS : ClassId) (y : MI) (o : Nat) (vs : List Value) (n k : Nat) (idx : List Nat) (k0 : Nat) : Prop := ∀ h0 sz, Met l (mN y) (wsY y) (rmC y n k)
  (va_Pc (.ref h0 :: vs) (fun U => U.heap.size = sz ∧ va_P D vwCl [(h0, .inr (o, bl o))] U.heap ∧ KK D cI cS U ∧ va_D (fun _ => True) [(h0, .inr (o, bl o))]))
  (va_Qv (fun r : Nat → Nat => r k0 = h0) (fun r t => va_P D vwCl (wlx cI cS r idx) t.heap ∧ va_D (va_A [(h0, .inr (o, bl o))] sz) (wlx cI cS r idx)) (va_A [(h0, .inr (o, bl o))] sz)) n k (va_A [(h0, .inr (o, bl o))] sz)
abbrev CN (l : Launch) (D : va_G) (cI cS : ClassId) (y : MI) (n k : Nat) (idx : List Nat) (k0 : Nat) : Prop := CNo l D cI cS y (mC y) [] n k idx k0
/-- what holds in a constructor, all along -/
def CC (D : va_G) (cI cS : ClassId) (A : Nat → Prop) (y : MI) (p : Program) (s : State) (m : MethodId) (meth : Method) (c : Code) (args : Array Value) : Prop :=
  p.tables.exec = Jvm.exec ∧ c.code = mB y ∧ c.maxLocals = mL y ∧ s.vm.findClass (RC (mC y)) = some m.cls ∧ (∀ w ∈ wsY y, w.before args s = true) ∧ KK D cI cS s ∧ meth.name = "<init>" ∧ (∀ q, s.heap.size ≤ q → A q) ∧ mC y < 6 ∧ meth.locks = false ∧ meth.sig.returnType = none
theorem join_end {A0 : Nat → Prop} {D : va_G} {cl : List vw_C} {ws w1 : va_W} {x : Nat × va_E} {H H1 : Heap} (hP : va_P D cl (ws ++ [x]) H) (hD : va_D A0 (ws ++ [x])) (hk : ∀ q : Nat, q < H.size → ¬ va_A [x] H.size q → H1[q]? = H[q]?) (hF : ∀ q, va_A [x] H.size q → A0 q) (hP1 : va_P D cl w1 H1) (hD1 : va_D (va_A [x] H.size) w1) : va_P D cl (ws ++ w1) H1 ∧ va_D A0 (ws ++ w1) := by
  have hw : ∀ (k : Nat) (q : Nat × va_E), ws[k]? = some q → (ws ++ [x])[k]? = some q := fun k q h => by
    rw [List.getElem?_append_left ((List.getElem?_eq_some_iff.mp h).1)]
    exact h
  have hx : (ws ++ [x])[ws.length]? = some x := by simp
  have hl : ∀ (k : Nat) (q : Nat × va_E), ws[k]? = some q → k < ws.length := fun k q h => (List.getElem?_eq_some_iff.mp h).1
  have apart : ∀ (k : Nat) (q : Nat × va_E), ws[k]? = some q → q.1 < H.size ∧ ¬ va_A [x] H.size q.1 := by
    intro k q hq
    have h1 := (hP k q (hw k q hq)).lt
    refine ⟨h1, fun h => ?_⟩
    rcases h with ⟨k2, e, h⟩ | h
    · have h2 : k2 = 0 := by
        have := (List.getElem?_eq_some_iff.mp h).1
        simpa using this
      subst h2
      have h3 : x = (q.1, e) := Option.some.inj h
      have h4 := hD.1 k ws.length q x (hw k q hq) hx (by rw [h3])
      have := hl k q hq
      omega
    · omega
  have hsp : ∀ (k : Nat) (q : Nat × va_E), (ws ++ w1)[k]? = some q → ws[k]? = some q ∨ (ws.length ≤ k ∧ w1[k - ws.length]? = some q) := by
    intro k q h
    by_cases hk2 : k < ws.length
    · rw [List.getElem?_append_left hk2] at h
      exact Or.inl h
    · rw [List.getElem?_append_right (by omega)] at h
      exact Or.inr ⟨by omega, h⟩
  refine ⟨fun k q h => ?_, fun i j a b ha hb hab => ?_, fun k q h => ?_⟩
  · rcases hsp k q h with h1 | ⟨-, h1⟩
    · obtain ⟨g1, g2⟩ := apart k q h1
      exact (hP k q (hw k q h1)).kept (hk q.1 g1 g2)
    · exact hP1 _ q h1
  · rcases hsp i a ha with h1 | ⟨g1, h1⟩
    · rcases hsp j b hb with h2 | ⟨g2, h2⟩
      · exact hD.1 i j a b (hw i a h1) (hw j b h2) hab
      · exact absurd (by rw [hab]; exact hD1.2 _ b h2) (apart i a h1).2
    · rcases hsp j b hb with h2 | ⟨g2, h2⟩
      · exact absurd (by rw [← hab]; exact hD1.2 _ a h1) (apart j b h2).2
      · have := hD1.1 _ _ a b h1 h2 hab
        omega
  · rcases hsp k q h with h1 | ⟨-, h1⟩
    · exact hD.2 k q (hw k q h1)
    · exact hF _ (hD1.2 _ q h1)
/-- new; dup; what its constructor takes; invokespecial -/
theorem kc_newx {z : MI} {vs : List Value} {n0 k0 kz pcx : Nat} {idx : List Nat} {ix1 ix2 pc nL : Nat} {cc : ByteArray} {own : String} {Ts : List Cond} {ws : va_W} {ls : Array Slot} {rest : List Value}
    (hx : p.tables.exec = Jvm.exec) (hb : c.code = cc) (hml : c.maxLocals = nL) (hown : s.vm.findClass own = some m.cls) (hts : ∀ w ∈ Ts, w.before args s = true) (hK : KK D cI cS s) (hA : ∀ q, s.heap.size ≤ q → A q) (hz : mC z < 6)
    (hin : ∀ w ∈ u_ws (RC (mC z)) (TFs (mC z)) (NFs (mC z)), w ∈ Ts) (hG : GoodIn Ts (wsY z))
    (w1 : (Cond.classLink own ix1 (RC (mC z))).before args s = true) (w2 : (Cond.instantiable (RC (mC z)) (NFs (mC z))).before args s = true) (w3 : (Cond.initialized (RC (mC z))).before args s = true) (w4 : (Cond.methodLink own ix2 (mN z)).before args s = true) (w5 : (Cond.instanceMethod (mN z)).before args s = true)
    (hM : CNo l D cI cS z (mC z) vs n0 k0 idx kz) (hz0 : mR z = none) (hz1 : (mN z).cls = RC (mC z)) (hz2 : (mN z).name = "<init>") (hz3 : (mN z).cls ≠ "java/lang/invoke/MethodHandle" ∧ (mN z).cls ≠ "java/lang/invoke/VarHandle" ∧ (parseMethodDescriptor (mN z).desc).map (fun d => d.parameters.length) = some vs.length)
    (hR : mH z + 1 ≤ R.frames ∧ 8 + (mL z + 11) + 34 * mH z ≤ R.locals) (hcells : cells + 1 + n0 ≤ R.cells) (hslots : slots + NFs (mC z) + k0 ≤ R.slots) (hrest : (rest.map fun v => v.category).sum ≤ 6) (hsz : ls.size = nL)
    (d0 : decode cc pc = .ok (.new ix1, 3)) (d1 : decode cc (pc + 3) = .ok (.dup, 1)) (d2 : decode cc pcx = .ok (.invokespecial ix2, 3))
    (hpush : ∀ (q : Nat) (H : Heap) (locs : List Loc) (cells slots : Nat), W p l e R s m args below meth c H locs cells slots Q (F0 m pcx ls (vs.reverse ++ .ref q :: .ref q :: rest)) → W p l e R s m args below meth c H locs cells slots Q (F0 m (pc + 4) ls (.ref q :: .ref q :: rest)))
    (hP : va_P D vwCl ws H) (hD : va_D A ws) (hS : va_S A s.heap H locs)
    (kk : ∀ (r : Nat → Nat) (H1 : Heap) (locs1 : List Loc), va_P D vwCl (ws ++ wlx cI cS r idx) H1 → va_D A (ws ++ wlx cI cS r idx) → va_S A s.heap H1 locs1 → W p l e R s m args below meth c H1 locs1 (cells + 1 + n0) (slots + NFs (mC z) + k0) Q (F0 m (pcx + 3) ls (.ref (r kz) :: rest))) : W p l e R s m args below meth c H locs cells slots Q (F0 m pc ls rest) := by
  refine va_new (ci := mC z) (fs := bl (mC z)) (C := RC (mC z)) (T := TFs (mC z)) (N := NFs (mC z)) hx hb hts hin (tyFs (mC z)) (tyFs_ok _ hz) hown w1 w2 w3 hK.1 hP hD hS hA (vwCl_at _ hz) (bl_ok _ hz) (by omega) (by omega) d0 (fun q H2 hP hD hS => ?_)
  refine lv_dup hx hb d1 rfl ?_
  have hPc : va_P D vwCl [(q, .inr (mC z, bl (mC z)))] H2 := hP.sub [ws.length] (by simp)
  have hDc : va_D A [(q, .inr (mC z, bl (mC z)))] := hD.sub [ws.length] (by rfl) (by simp)
  have hFc := va_free (wc := [(q, .inr (mC z, bl (mC z)))]) hD hS hA [ws.length] (by simp)
  have h7 : ((Value.ref q :: rest).map fun v => v.category).sum ≤ 8 := by
    rw [List.map_cons, List.sum_cons]
    show 1 + _ ≤ 8
    omega
  have cw := cwI (R := R) (rm := rmC z n0 k0) (own := own) (index := ix2) (y := mN z) (bytes := mB z) (maxL := mL z) (mc := n0) (ms := k0) vs.length hts hG (by show wsY z = _; unfold wsY; rw [hz0]) rfl rfl (by rw [hz1]; exact w3) w4 w5 hz2 hz3 hR
  refine hpush _ _ _ _ _ ?_
  refine va_callv (va_runI (As := vs) (b := q) (rest := .ref q :: rest) ⟨hx, hb, hml, hown, hts⟩ (hM q H2.size) cw ⟨fun a U g mk q => by obtain ⟨q0, q1, qP, qK, qD⟩ := q; exact ⟨q0, q1, qP, KK.moved (u := U) (U := U.calling g mk a) (Vm.Alike.refl U.vm) qK, qD⟩, fun U hU hW => ⟨rfl, by rw [hU], by rw [hU]; exact hPc, KK.moved hW.alike hK, hDc.weaken (fun _ _ _ _ => trivial)⟩⟩ rfl rfl hsz rfl (lv_room h7) d2 ⟨by omega, by omega⟩) hS (fun q _ h => hFc q h) hFc (fun r t H3 locs3 ht hvm hr hB hz1 hk1 hS => ?_)
  obtain ⟨hP1, hD1⟩ := hB
  rw [ht] at hP1
  obtain ⟨hP, hD⟩ := join_end hP hD hk1 hFc hP1 hD1
  rw [← hr]
  exact kk r H3 locs3 hP hD hS
theorem kc_new3 {z : MI} {n0 k0 kz : Nat} {idx : List Nat} {ix1 ix2 pc nL : Nat} {cc : ByteArray} {own : String} {Ts : List Cond} {ws : va_W} {ls : Array Slot} {rest : List Value}
    (hx : p.tables.exec = Jvm.exec) (hb : c.code = cc) (hml : c.maxLocals = nL) (hown : s.vm.findClass own = some m.cls) (hts : ∀ w ∈ Ts, w.before args s = true) (hK : KK D cI cS s) (hA : ∀ q, s.heap.size ≤ q → A q) (hz : mC z < 6)
    (hin : ∀ w ∈ u_ws (RC (mC z)) (TFs (mC z)) (NFs (mC z)), w ∈ Ts) (hG : GoodIn Ts (wsY z))
    (w1 : (Cond.classLink own ix1 (RC (mC z))).before args s = true) (w2 : (Cond.instantiable (RC (mC z)) (NFs (mC z))).before args s = true) (w3 : (Cond.initialized (RC (mC z))).before args s = true) (w4 : (Cond.methodLink own ix2 (mN z)).before args s = true) (w5 : (Cond.instanceMethod (mN z)).before args s = true)
    (hM : CN l D cI cS z n0 k0 idx kz) (hz0 : mR z = none) (hz1 : (mN z).cls = RC (mC z)) (hz2 : (mN z).name = "<init>") (hz3 : (mN z).cls ≠ "java/lang/invoke/MethodHandle" ∧ (mN z).cls ≠ "java/lang/invoke/VarHandle" ∧ (parseMethodDescriptor (mN z).desc).map (fun d => d.parameters.length) = some 0)
    (hR : mH z + 1 ≤ R.frames ∧ 8 + (mL z + 11) + 34 * mH z ≤ R.locals) (hcells : cells + 1 + n0 ≤ R.cells) (hslots : slots + NFs (mC z) + k0 ≤ R.slots) (hrest : (rest.map fun v => v.category).sum ≤ 6) (hsz : ls.size = nL)
    (d0 : decode cc pc = .ok (.new ix1, 3)) (d1 : decode cc (pc + 3) = .ok (.dup, 1)) (d2 : decode cc (pc + 4) = .ok (.invokespecial ix2, 3))
    (hP : va_P D vwCl ws H) (hD : va_D A ws) (hS : va_S A s.heap H locs)
    (kk : ∀ (r : Nat → Nat) (H1 : Heap) (locs1 : List Loc), va_P D vwCl (ws ++ wlx cI cS r idx) H1 → va_D A (ws ++ wlx cI cS r idx) → va_S A s.heap H1 locs1 → W p l e R s m args below meth c H1 locs1 (cells + 1 + n0) (slots + NFs (mC z) + k0) Q (F0 m (pc + 7) ls (.ref (r kz) :: rest))) : W p l e R s m args below meth c H locs cells slots Q (F0 m pc ls rest) := by
  exact kc_newx (vs := []) (pcx := pc + 4) hx hb hml hown hts hK hA hz hin hG w1 w2 w3 w4 w5 hM hz0 hz1 hz2 hz3 hR hcells hslots hrest hsz d0 d1 d2 (fun _ _ _ _ _ h => h) hP hD hS kk
end CON

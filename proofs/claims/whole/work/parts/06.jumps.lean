/-! a step of the small machine within a method, over the machine -/
section SIM2
variable {p : Program} {l : Launch} {e : Env} {R : Room} {s : State} {m : MethodId} {args : Array Value} {below : List Frame} {meth : Method} {c : Code} {H : Heap} {locs : List Loc} {Q : State → Prop}
variable {D : va_G} {rho : Nat → Nat} {cI cS : ClassId} {A : Nat → Prop}
def KN (D : va_G) (rho : Nat → Nat) (cI cS : ClassId) (A : Nat → Prop) (y : MI) (p : Program) (l : Launch) (e : Env) (R : Room) (s : State) (m : MethodId) (args : Array Value) (below : List Frame) (meth : Method) (c : Code) (Q : State → Prop) (pc : Nat) (L : Lv) (st : List Value) (u : Mem) : Prop :=
  ∀ (H : Heap) (locs : List Loc) (arr : Array Slot), va_P D vwCl (wl rho cI cS u) H → va_S A s.heap H locs → LR rho (mL y) L arr → W p l e R s m args below meth c H locs 0 0 Q (F0 m pc arr (st.map (cv rho)))
theorem sx0_icmp_eq {cc : ByteArray} {a b : Int32} {off : Int} {pc : Nat} {ls : Array Slot} {rest : List Value} {cells slots : Nat} (hexec : p.tables.exec = Jvm.exec) (hb : c.code = cc) (hdg : decode cc pc = .ok (.if_icmp .eq off, 3)) (h : (a = b ∧ ∃ tgt : Nat, (pc : Int) + off = (tgt : Int) ∧ W p l e R s m args below meth c H locs cells slots Q (F0 m tgt ls rest)) ∨ (¬ (a = b) ∧ W p l e R s m args below meth c H locs cells slots Q (F0 m (pc + 3) ls rest))) : W p l e R s m args below meth c H locs cells slots Q (F0 m pc ls (.int b :: .int a :: rest)) := by
  rcases h with ⟨hP, tgt, ht, k⟩ | ⟨hP, k⟩
  · exact lv_icmp_eq (tgt := tgt) hexec hb hdg ht (fun _ => k) (fun z => absurd hP z)
  · intro T hT X
    obtain ⟨t, a1, b1⟩ := k T hT X
    refine ⟨t, ?_, b1⟩
    jvm_step X.here [X.here.top, hexec, hb, hdg, Op.if_icmp.holds, hP]
    exact a1
theorem sx0_if_eq {cc : ByteArray} {a : Int32} {off : Int} {pc : Nat} {ls : Array Slot} {rest : List Value} {cells slots : Nat} (hexec : p.tables.exec = Jvm.exec) (hb : c.code = cc) (hdg : decode cc pc = .ok (.ifCond .eq off, 3)) (h : (a = 0 ∧ ∃ tgt : Nat, (pc : Int) + off = (tgt : Int) ∧ W p l e R s m args below meth c H locs cells slots Q (F0 m tgt ls rest)) ∨ (¬ (a = 0) ∧ W p l e R s m args below meth c H locs cells slots Q (F0 m (pc + 3) ls rest))) : W p l e R s m args below meth c H locs cells slots Q (F0 m pc ls (.int a :: rest)) := by
  rcases h with ⟨hP, tgt, ht, k⟩ | ⟨hP, k⟩
  · exact lv_if_eq (tgt := tgt) hexec hb hdg ht (fun _ => k) (fun z => absurd hP z)
  · intro T hT X
    obtain ⟨t, a1, b1⟩ := k T hT X
    refine ⟨t, ?_, b1⟩
    jvm_step X.here [X.here.top, hexec, hb, hdg, Op.ifCond.holds, hP]
    exact a1
theorem sx0_icmp_ne {cc : ByteArray} {a b : Int32} {off : Int} {pc : Nat} {ls : Array Slot} {rest : List Value} {cells slots : Nat} (hexec : p.tables.exec = Jvm.exec) (hb : c.code = cc) (hdg : decode cc pc = .ok (.if_icmp .ne off, 3)) (h : (¬ a = b ∧ ∃ tgt : Nat, (pc : Int) + off = (tgt : Int) ∧ W p l e R s m args below meth c H locs cells slots Q (F0 m tgt ls rest)) ∨ (¬ (¬ a = b) ∧ W p l e R s m args below meth c H locs cells slots Q (F0 m (pc + 3) ls rest))) : W p l e R s m args below meth c H locs cells slots Q (F0 m pc ls (.int b :: .int a :: rest)) := by
  rcases h with ⟨hP, tgt, ht, k⟩ | ⟨hP, k⟩
  · exact lv_icmp_ne (tgt := tgt) hexec hb hdg ht (fun _ => k) (fun z => absurd z hP)
  · intro T hT X
    obtain ⟨t, a1, b1⟩ := k T hT X
    refine ⟨t, ?_, b1⟩
    have hP := Classical.not_not.mp hP
    jvm_step X.here [X.here.top, hexec, hb, hdg, Op.if_icmp.holds, hP]
    exact a1
theorem sx0_if_ne {cc : ByteArray} {a : Int32} {off : Int} {pc : Nat} {ls : Array Slot} {rest : List Value} {cells slots : Nat} (hexec : p.tables.exec = Jvm.exec) (hb : c.code = cc) (hdg : decode cc pc = .ok (.ifCond .ne off, 3)) (h : (¬ a = 0 ∧ ∃ tgt : Nat, (pc : Int) + off = (tgt : Int) ∧ W p l e R s m args below meth c H locs cells slots Q (F0 m tgt ls rest)) ∨ (¬ (¬ a = 0) ∧ W p l e R s m args below meth c H locs cells slots Q (F0 m (pc + 3) ls rest))) : W p l e R s m args below meth c H locs cells slots Q (F0 m pc ls (.int a :: rest)) := by
  rcases h with ⟨hP, tgt, ht, k⟩ | ⟨hP, k⟩
  · exact lv_if_ne (tgt := tgt) hexec hb hdg ht (fun _ => k) (fun z => absurd z hP)
  · intro T hT X
    obtain ⟨t, a1, b1⟩ := k T hT X
    refine ⟨t, ?_, b1⟩
    have hP := Classical.not_not.mp hP
    jvm_step X.here [X.here.top, hexec, hb, hdg, Op.ifCond.holds, hP]
    exact a1
theorem sx0_icmp_lt {cc : ByteArray} {a b : Int32} {off : Int} {pc : Nat} {ls : Array Slot} {rest : List Value} {cells slots : Nat} (hexec : p.tables.exec = Jvm.exec) (hb : c.code = cc) (hdg : decode cc pc = .ok (.if_icmp .lt off, 3)) (h : (a < b ∧ ∃ tgt : Nat, (pc : Int) + off = (tgt : Int) ∧ W p l e R s m args below meth c H locs cells slots Q (F0 m tgt ls rest)) ∨ (¬ (a < b) ∧ W p l e R s m args below meth c H locs cells slots Q (F0 m (pc + 3) ls rest))) : W p l e R s m args below meth c H locs cells slots Q (F0 m pc ls (.int b :: .int a :: rest)) := by
  rcases h with ⟨hP, tgt, ht, k⟩ | ⟨hP, k⟩
  · exact lv_icmp_lt (tgt := tgt) hexec hb hdg ht (fun _ => k) (fun z => absurd hP z)
  · intro T hT X
    obtain ⟨t, a1, b1⟩ := k T hT X
    refine ⟨t, ?_, b1⟩
    jvm_step X.here [X.here.top, hexec, hb, hdg, Op.if_icmp.holds, hP]
    exact a1
theorem sx0_if_lt {cc : ByteArray} {a : Int32} {off : Int} {pc : Nat} {ls : Array Slot} {rest : List Value} {cells slots : Nat} (hexec : p.tables.exec = Jvm.exec) (hb : c.code = cc) (hdg : decode cc pc = .ok (.ifCond .lt off, 3)) (h : (a < 0 ∧ ∃ tgt : Nat, (pc : Int) + off = (tgt : Int) ∧ W p l e R s m args below meth c H locs cells slots Q (F0 m tgt ls rest)) ∨ (¬ (a < 0) ∧ W p l e R s m args below meth c H locs cells slots Q (F0 m (pc + 3) ls rest))) : W p l e R s m args below meth c H locs cells slots Q (F0 m pc ls (.int a :: rest)) := by
  rcases h with ⟨hP, tgt, ht, k⟩ | ⟨hP, k⟩
  · exact lv_if_lt (tgt := tgt) hexec hb hdg ht (fun _ => k) (fun z => absurd hP z)
  · intro T hT X
    obtain ⟨t, a1, b1⟩ := k T hT X
    refine ⟨t, ?_, b1⟩
    jvm_step X.here [X.here.top, hexec, hb, hdg, Op.ifCond.holds, hP]
    exact a1
theorem sx0_icmp_ge {cc : ByteArray} {a b : Int32} {off : Int} {pc : Nat} {ls : Array Slot} {rest : List Value} {cells slots : Nat} (hexec : p.tables.exec = Jvm.exec) (hb : c.code = cc) (hdg : decode cc pc = .ok (.if_icmp .ge off, 3)) (h : (b ≤ a ∧ ∃ tgt : Nat, (pc : Int) + off = (tgt : Int) ∧ W p l e R s m args below meth c H locs cells slots Q (F0 m tgt ls rest)) ∨ (¬ (b ≤ a) ∧ W p l e R s m args below meth c H locs cells slots Q (F0 m (pc + 3) ls rest))) : W p l e R s m args below meth c H locs cells slots Q (F0 m pc ls (.int b :: .int a :: rest)) := by
  rcases h with ⟨hP, tgt, ht, k⟩ | ⟨hP, k⟩
  · exact lv_icmp_ge (tgt := tgt) hexec hb hdg ht (fun _ => k) (fun z => absurd hP z)
  · intro T hT X
    obtain ⟨t, a1, b1⟩ := k T hT X
    refine ⟨t, ?_, b1⟩
    jvm_step X.here [X.here.top, hexec, hb, hdg, Op.if_icmp.holds, hP]
    exact a1
theorem sx0_if_ge {cc : ByteArray} {a : Int32} {off : Int} {pc : Nat} {ls : Array Slot} {rest : List Value} {cells slots : Nat} (hexec : p.tables.exec = Jvm.exec) (hb : c.code = cc) (hdg : decode cc pc = .ok (.ifCond .ge off, 3)) (h : (0 ≤ a ∧ ∃ tgt : Nat, (pc : Int) + off = (tgt : Int) ∧ W p l e R s m args below meth c H locs cells slots Q (F0 m tgt ls rest)) ∨ (¬ (0 ≤ a) ∧ W p l e R s m args below meth c H locs cells slots Q (F0 m (pc + 3) ls rest))) : W p l e R s m args below meth c H locs cells slots Q (F0 m pc ls (.int a :: rest)) := by
  rcases h with ⟨hP, tgt, ht, k⟩ | ⟨hP, k⟩
  · exact lv_if_ge (tgt := tgt) hexec hb hdg ht (fun _ => k) (fun z => absurd hP z)
  · intro T hT X
    obtain ⟨t, a1, b1⟩ := k T hT X
    refine ⟨t, ?_, b1⟩
    jvm_step X.here [X.here.top, hexec, hb, hdg, Op.ifCond.holds, hP]
    exact a1
theorem sx0_icmp_gt {cc : ByteArray} {a b : Int32} {off : Int} {pc : Nat} {ls : Array Slot} {rest : List Value} {cells slots : Nat} (hexec : p.tables.exec = Jvm.exec) (hb : c.code = cc) (hdg : decode cc pc = .ok (.if_icmp .gt off, 3)) (h : (b < a ∧ ∃ tgt : Nat, (pc : Int) + off = (tgt : Int) ∧ W p l e R s m args below meth c H locs cells slots Q (F0 m tgt ls rest)) ∨ (¬ (b < a) ∧ W p l e R s m args below meth c H locs cells slots Q (F0 m (pc + 3) ls rest))) : W p l e R s m args below meth c H locs cells slots Q (F0 m pc ls (.int b :: .int a :: rest)) := by
  rcases h with ⟨hP, tgt, ht, k⟩ | ⟨hP, k⟩
  · exact lv_icmp_gt (tgt := tgt) hexec hb hdg ht (fun _ => k) (fun z => absurd hP z)
  · intro T hT X
    obtain ⟨t, a1, b1⟩ := k T hT X
    refine ⟨t, ?_, b1⟩
    jvm_step X.here [X.here.top, hexec, hb, hdg, Op.if_icmp.holds, hP]
    exact a1
theorem sx0_if_gt {cc : ByteArray} {a : Int32} {off : Int} {pc : Nat} {ls : Array Slot} {rest : List Value} {cells slots : Nat} (hexec : p.tables.exec = Jvm.exec) (hb : c.code = cc) (hdg : decode cc pc = .ok (.ifCond .gt off, 3)) (h : (0 < a ∧ ∃ tgt : Nat, (pc : Int) + off = (tgt : Int) ∧ W p l e R s m args below meth c H locs cells slots Q (F0 m tgt ls rest)) ∨ (¬ (0 < a) ∧ W p l e R s m args below meth c H locs cells slots Q (F0 m (pc + 3) ls rest))) : W p l e R s m args below meth c H locs cells slots Q (F0 m pc ls (.int a :: rest)) := by
  rcases h with ⟨hP, tgt, ht, k⟩ | ⟨hP, k⟩
  · exact lv_if_gt (tgt := tgt) hexec hb hdg ht (fun _ => k) (fun z => absurd hP z)
  · intro T hT X
    obtain ⟨t, a1, b1⟩ := k T hT X
    refine ⟨t, ?_, b1⟩
    jvm_step X.here [X.here.top, hexec, hb, hdg, Op.ifCond.holds, hP]
    exact a1
theorem sx0_icmp_le {cc : ByteArray} {a b : Int32} {off : Int} {pc : Nat} {ls : Array Slot} {rest : List Value} {cells slots : Nat} (hexec : p.tables.exec = Jvm.exec) (hb : c.code = cc) (hdg : decode cc pc = .ok (.if_icmp .le off, 3)) (h : (a ≤ b ∧ ∃ tgt : Nat, (pc : Int) + off = (tgt : Int) ∧ W p l e R s m args below meth c H locs cells slots Q (F0 m tgt ls rest)) ∨ (¬ (a ≤ b) ∧ W p l e R s m args below meth c H locs cells slots Q (F0 m (pc + 3) ls rest))) : W p l e R s m args below meth c H locs cells slots Q (F0 m pc ls (.int b :: .int a :: rest)) := by
  rcases h with ⟨hP, tgt, ht, k⟩ | ⟨hP, k⟩
  · exact lv_icmp_le (tgt := tgt) hexec hb hdg ht (fun _ => k) (fun z => absurd hP z)
  · intro T hT X
    obtain ⟨t, a1, b1⟩ := k T hT X
    refine ⟨t, ?_, b1⟩
    jvm_step X.here [X.here.top, hexec, hb, hdg, Op.if_icmp.holds, hP]
    exact a1
theorem sx0_if_le {cc : ByteArray} {a : Int32} {off : Int} {pc : Nat} {ls : Array Slot} {rest : List Value} {cells slots : Nat} (hexec : p.tables.exec = Jvm.exec) (hb : c.code = cc) (hdg : decode cc pc = .ok (.ifCond .le off, 3)) (h : (a ≤ 0 ∧ ∃ tgt : Nat, (pc : Int) + off = (tgt : Int) ∧ W p l e R s m args below meth c H locs cells slots Q (F0 m tgt ls rest)) ∨ (¬ (a ≤ 0) ∧ W p l e R s m args below meth c H locs cells slots Q (F0 m (pc + 3) ls rest))) : W p l e R s m args below meth c H locs cells slots Q (F0 m pc ls (.int a :: rest)) := by
  rcases h with ⟨hP, tgt, ht, k⟩ | ⟨hP, k⟩
  · exact lv_if_le (tgt := tgt) hexec hb hdg ht (fun _ => k) (fun z => absurd hP z)
  · intro T hT X
    obtain ⟨t, a1, b1⟩ := k T hT X
    refine ⟨t, ?_, b1⟩
    jvm_step X.here [X.here.top, hexec, hb, hdg, Op.ifCond.holds, hP]
    exact a1
theorem sx_icmp_eq {y : MI} {a b : Int32} {off : Int} {pc : Nat} {L : Lv} {st : List Value} {u : Mem} {q1 : Nat} {q2 : Lv} {q3 : List Value} {q4 : Mem} (hx : p.tables.exec = Jvm.exec) (hb : c.code = mB y) (hdg : decode (mB y) pc = .ok (.if_icmp .eq off, 3)) (h : xcmp .eq a b pc off L st u = some (.inl (q1, q2, q3, q4))) (K : KN D rho cI cS A y p l e R s m args below meth c Q q1 q2 q3 q4) {arr : Array Slot} (hP : va_P D vwCl (wl rho cI cS u) H) (hS : va_S A s.heap H locs) (hL : LR rho (mL y) L arr) : W p l e R s m args below meth c H locs 0 0 Q (F0 m pc arr (.int b :: .int a :: st.map (cv rho))) := by
  unfold xcmp at h
  dsimp only at h
  by_cases hc : a = b
  · rw [if_pos hc] at h
    obtain ⟨ht, hq⟩ := jp_inl h
    cases hq
    exact sx0_icmp_eq hx hb hdg (Or.inl ⟨hc, _, ht, K _ _ _ hP hS hL⟩)
  · rw [if_neg hc] at h
    cases h
    exact sx0_icmp_eq hx hb hdg (Or.inr ⟨hc, K _ _ _ hP hS hL⟩)
theorem sx_if_eq {y : MI} {a : Int32} {off : Int} {pc : Nat} {L : Lv} {st : List Value} {u : Mem} {q1 : Nat} {q2 : Lv} {q3 : List Value} {q4 : Mem} (hx : p.tables.exec = Jvm.exec) (hb : c.code = mB y) (hdg : decode (mB y) pc = .ok (.ifCond .eq off, 3)) (h : xcmp .eq a 0 pc off L st u = some (.inl (q1, q2, q3, q4))) (K : KN D rho cI cS A y p l e R s m args below meth c Q q1 q2 q3 q4) {arr : Array Slot} (hP : va_P D vwCl (wl rho cI cS u) H) (hS : va_S A s.heap H locs) (hL : LR rho (mL y) L arr) : W p l e R s m args below meth c H locs 0 0 Q (F0 m pc arr (.int a :: st.map (cv rho))) := by
  unfold xcmp at h
  dsimp only at h
  by_cases hc : a = 0
  · rw [if_pos hc] at h
    obtain ⟨ht, hq⟩ := jp_inl h
    cases hq
    exact sx0_if_eq hx hb hdg (Or.inl ⟨hc, _, ht, K _ _ _ hP hS hL⟩)
  · rw [if_neg hc] at h
    cases h
    exact sx0_if_eq hx hb hdg (Or.inr ⟨hc, K _ _ _ hP hS hL⟩)
theorem sx_icmp_ne {y : MI} {a b : Int32} {off : Int} {pc : Nat} {L : Lv} {st : List Value} {u : Mem} {q1 : Nat} {q2 : Lv} {q3 : List Value} {q4 : Mem} (hx : p.tables.exec = Jvm.exec) (hb : c.code = mB y) (hdg : decode (mB y) pc = .ok (.if_icmp .ne off, 3)) (h : xcmp .ne a b pc off L st u = some (.inl (q1, q2, q3, q4))) (K : KN D rho cI cS A y p l e R s m args below meth c Q q1 q2 q3 q4) {arr : Array Slot} (hP : va_P D vwCl (wl rho cI cS u) H) (hS : va_S A s.heap H locs) (hL : LR rho (mL y) L arr) : W p l e R s m args below meth c H locs 0 0 Q (F0 m pc arr (.int b :: .int a :: st.map (cv rho))) := by
  unfold xcmp at h
  dsimp only at h
  by_cases hc : a = b
  · rw [if_pos hc] at h
    cases h
    exact sx0_icmp_ne hx hb hdg (Or.inr ⟨(fun z => z hc), K _ _ _ hP hS hL⟩)
  · rw [if_neg hc] at h
    obtain ⟨ht, hq⟩ := jp_inl h
    cases hq
    exact sx0_icmp_ne hx hb hdg (Or.inl ⟨hc, _, ht, K _ _ _ hP hS hL⟩)
theorem sx_if_ne {y : MI} {a : Int32} {off : Int} {pc : Nat} {L : Lv} {st : List Value} {u : Mem} {q1 : Nat} {q2 : Lv} {q3 : List Value} {q4 : Mem} (hx : p.tables.exec = Jvm.exec) (hb : c.code = mB y) (hdg : decode (mB y) pc = .ok (.ifCond .ne off, 3)) (h : xcmp .ne a 0 pc off L st u = some (.inl (q1, q2, q3, q4))) (K : KN D rho cI cS A y p l e R s m args below meth c Q q1 q2 q3 q4) {arr : Array Slot} (hP : va_P D vwCl (wl rho cI cS u) H) (hS : va_S A s.heap H locs) (hL : LR rho (mL y) L arr) : W p l e R s m args below meth c H locs 0 0 Q (F0 m pc arr (.int a :: st.map (cv rho))) := by
  unfold xcmp at h
  dsimp only at h
  by_cases hc : a = 0
  · rw [if_pos hc] at h
    cases h
    exact sx0_if_ne hx hb hdg (Or.inr ⟨(fun z => z hc), K _ _ _ hP hS hL⟩)
  · rw [if_neg hc] at h
    obtain ⟨ht, hq⟩ := jp_inl h
    cases hq
    exact sx0_if_ne hx hb hdg (Or.inl ⟨hc, _, ht, K _ _ _ hP hS hL⟩)
theorem sx_icmp_lt {y : MI} {a b : Int32} {off : Int} {pc : Nat} {L : Lv} {st : List Value} {u : Mem} {q1 : Nat} {q2 : Lv} {q3 : List Value} {q4 : Mem} (hx : p.tables.exec = Jvm.exec) (hb : c.code = mB y) (hdg : decode (mB y) pc = .ok (.if_icmp .lt off, 3)) (h : xcmp .lt a b pc off L st u = some (.inl (q1, q2, q3, q4))) (K : KN D rho cI cS A y p l e R s m args below meth c Q q1 q2 q3 q4) {arr : Array Slot} (hP : va_P D vwCl (wl rho cI cS u) H) (hS : va_S A s.heap H locs) (hL : LR rho (mL y) L arr) : W p l e R s m args below meth c H locs 0 0 Q (F0 m pc arr (.int b :: .int a :: st.map (cv rho))) := by
  unfold xcmp at h
  dsimp only at h
  by_cases hc : a < b
  · rw [if_pos hc] at h
    obtain ⟨ht, hq⟩ := jp_inl h
    cases hq
    exact sx0_icmp_lt hx hb hdg (Or.inl ⟨hc, _, ht, K _ _ _ hP hS hL⟩)
  · rw [if_neg hc] at h
    cases h
    exact sx0_icmp_lt hx hb hdg (Or.inr ⟨hc, K _ _ _ hP hS hL⟩)
theorem sx_if_lt {y : MI} {a : Int32} {off : Int} {pc : Nat} {L : Lv} {st : List Value} {u : Mem} {q1 : Nat} {q2 : Lv} {q3 : List Value} {q4 : Mem} (hx : p.tables.exec = Jvm.exec) (hb : c.code = mB y) (hdg : decode (mB y) pc = .ok (.ifCond .lt off, 3)) (h : xcmp .lt a 0 pc off L st u = some (.inl (q1, q2, q3, q4))) (K : KN D rho cI cS A y p l e R s m args below meth c Q q1 q2 q3 q4) {arr : Array Slot} (hP : va_P D vwCl (wl rho cI cS u) H) (hS : va_S A s.heap H locs) (hL : LR rho (mL y) L arr) : W p l e R s m args below meth c H locs 0 0 Q (F0 m pc arr (.int a :: st.map (cv rho))) := by
  unfold xcmp at h
  dsimp only at h
  by_cases hc : a < 0
  · rw [if_pos hc] at h
    obtain ⟨ht, hq⟩ := jp_inl h
    cases hq
    exact sx0_if_lt hx hb hdg (Or.inl ⟨hc, _, ht, K _ _ _ hP hS hL⟩)
  · rw [if_neg hc] at h
    cases h
    exact sx0_if_lt hx hb hdg (Or.inr ⟨hc, K _ _ _ hP hS hL⟩)
theorem sx_icmp_ge {y : MI} {a b : Int32} {off : Int} {pc : Nat} {L : Lv} {st : List Value} {u : Mem} {q1 : Nat} {q2 : Lv} {q3 : List Value} {q4 : Mem} (hx : p.tables.exec = Jvm.exec) (hb : c.code = mB y) (hdg : decode (mB y) pc = .ok (.if_icmp .ge off, 3)) (h : xcmp .ge a b pc off L st u = some (.inl (q1, q2, q3, q4))) (K : KN D rho cI cS A y p l e R s m args below meth c Q q1 q2 q3 q4) {arr : Array Slot} (hP : va_P D vwCl (wl rho cI cS u) H) (hS : va_S A s.heap H locs) (hL : LR rho (mL y) L arr) : W p l e R s m args below meth c H locs 0 0 Q (F0 m pc arr (.int b :: .int a :: st.map (cv rho))) := by
  unfold xcmp at h
  dsimp only at h
  by_cases hc : a < b
  · rw [if_pos hc] at h
    cases h
    exact sx0_icmp_ge hx hb hdg (Or.inr ⟨(fun z => Int32.not_lt.mpr z hc), K _ _ _ hP hS hL⟩)
  · rw [if_neg hc] at h
    obtain ⟨ht, hq⟩ := jp_inl h
    cases hq
    exact sx0_icmp_ge hx hb hdg (Or.inl ⟨Int32.not_lt.mp hc, _, ht, K _ _ _ hP hS hL⟩)
theorem sx_if_ge {y : MI} {a : Int32} {off : Int} {pc : Nat} {L : Lv} {st : List Value} {u : Mem} {q1 : Nat} {q2 : Lv} {q3 : List Value} {q4 : Mem} (hx : p.tables.exec = Jvm.exec) (hb : c.code = mB y) (hdg : decode (mB y) pc = .ok (.ifCond .ge off, 3)) (h : xcmp .ge a 0 pc off L st u = some (.inl (q1, q2, q3, q4))) (K : KN D rho cI cS A y p l e R s m args below meth c Q q1 q2 q3 q4) {arr : Array Slot} (hP : va_P D vwCl (wl rho cI cS u) H) (hS : va_S A s.heap H locs) (hL : LR rho (mL y) L arr) : W p l e R s m args below meth c H locs 0 0 Q (F0 m pc arr (.int a :: st.map (cv rho))) := by
  unfold xcmp at h
  dsimp only at h
  by_cases hc : a < 0
  · rw [if_pos hc] at h
    cases h
    exact sx0_if_ge hx hb hdg (Or.inr ⟨(fun z => Int32.not_lt.mpr z hc), K _ _ _ hP hS hL⟩)
  · rw [if_neg hc] at h
    obtain ⟨ht, hq⟩ := jp_inl h
    cases hq
    exact sx0_if_ge hx hb hdg (Or.inl ⟨Int32.not_lt.mp hc, _, ht, K _ _ _ hP hS hL⟩)
theorem sx_icmp_gt {y : MI} {a b : Int32} {off : Int} {pc : Nat} {L : Lv} {st : List Value} {u : Mem} {q1 : Nat} {q2 : Lv} {q3 : List Value} {q4 : Mem} (hx : p.tables.exec = Jvm.exec) (hb : c.code = mB y) (hdg : decode (mB y) pc = .ok (.if_icmp .gt off, 3)) (h : xcmp .gt a b pc off L st u = some (.inl (q1, q2, q3, q4))) (K : KN D rho cI cS A y p l e R s m args below meth c Q q1 q2 q3 q4) {arr : Array Slot} (hP : va_P D vwCl (wl rho cI cS u) H) (hS : va_S A s.heap H locs) (hL : LR rho (mL y) L arr) : W p l e R s m args below meth c H locs 0 0 Q (F0 m pc arr (.int b :: .int a :: st.map (cv rho))) := by
  unfold xcmp at h
  dsimp only at h
  by_cases hc : b < a
  · rw [if_pos hc] at h
    obtain ⟨ht, hq⟩ := jp_inl h
    cases hq
    exact sx0_icmp_gt hx hb hdg (Or.inl ⟨hc, _, ht, K _ _ _ hP hS hL⟩)
  · rw [if_neg hc] at h
    cases h
    exact sx0_icmp_gt hx hb hdg (Or.inr ⟨hc, K _ _ _ hP hS hL⟩)
theorem sx_if_gt {y : MI} {a : Int32} {off : Int} {pc : Nat} {L : Lv} {st : List Value} {u : Mem} {q1 : Nat} {q2 : Lv} {q3 : List Value} {q4 : Mem} (hx : p.tables.exec = Jvm.exec) (hb : c.code = mB y) (hdg : decode (mB y) pc = .ok (.ifCond .gt off, 3)) (h : xcmp .gt a 0 pc off L st u = some (.inl (q1, q2, q3, q4))) (K : KN D rho cI cS A y p l e R s m args below meth c Q q1 q2 q3 q4) {arr : Array Slot} (hP : va_P D vwCl (wl rho cI cS u) H) (hS : va_S A s.heap H locs) (hL : LR rho (mL y) L arr) : W p l e R s m args below meth c H locs 0 0 Q (F0 m pc arr (.int a :: st.map (cv rho))) := by
  unfold xcmp at h
  dsimp only at h
  by_cases hc : 0 < a
  · rw [if_pos hc] at h
    obtain ⟨ht, hq⟩ := jp_inl h
    cases hq
    exact sx0_if_gt hx hb hdg (Or.inl ⟨hc, _, ht, K _ _ _ hP hS hL⟩)
  · rw [if_neg hc] at h
    cases h
    exact sx0_if_gt hx hb hdg (Or.inr ⟨hc, K _ _ _ hP hS hL⟩)
theorem sx_icmp_le {y : MI} {a b : Int32} {off : Int} {pc : Nat} {L : Lv} {st : List Value} {u : Mem} {q1 : Nat} {q2 : Lv} {q3 : List Value} {q4 : Mem} (hx : p.tables.exec = Jvm.exec) (hb : c.code = mB y) (hdg : decode (mB y) pc = .ok (.if_icmp .le off, 3)) (h : xcmp .le a b pc off L st u = some (.inl (q1, q2, q3, q4))) (K : KN D rho cI cS A y p l e R s m args below meth c Q q1 q2 q3 q4) {arr : Array Slot} (hP : va_P D vwCl (wl rho cI cS u) H) (hS : va_S A s.heap H locs) (hL : LR rho (mL y) L arr) : W p l e R s m args below meth c H locs 0 0 Q (F0 m pc arr (.int b :: .int a :: st.map (cv rho))) := by
  unfold xcmp at h
  dsimp only at h
  by_cases hc : b < a
  · rw [if_pos hc] at h
    cases h
    exact sx0_icmp_le hx hb hdg (Or.inr ⟨(fun z => Int32.not_lt.mpr z hc), K _ _ _ hP hS hL⟩)
  · rw [if_neg hc] at h
    obtain ⟨ht, hq⟩ := jp_inl h
    cases hq
    exact sx0_icmp_le hx hb hdg (Or.inl ⟨Int32.not_lt.mp hc, _, ht, K _ _ _ hP hS hL⟩)
theorem sx_if_le {y : MI} {a : Int32} {off : Int} {pc : Nat} {L : Lv} {st : List Value} {u : Mem} {q1 : Nat} {q2 : Lv} {q3 : List Value} {q4 : Mem} (hx : p.tables.exec = Jvm.exec) (hb : c.code = mB y) (hdg : decode (mB y) pc = .ok (.ifCond .le off, 3)) (h : xcmp .le a 0 pc off L st u = some (.inl (q1, q2, q3, q4))) (K : KN D rho cI cS A y p l e R s m args below meth c Q q1 q2 q3 q4) {arr : Array Slot} (hP : va_P D vwCl (wl rho cI cS u) H) (hS : va_S A s.heap H locs) (hL : LR rho (mL y) L arr) : W p l e R s m args below meth c H locs 0 0 Q (F0 m pc arr (.int a :: st.map (cv rho))) := by
  unfold xcmp at h
  dsimp only at h
  by_cases hc : 0 < a
  · rw [if_pos hc] at h
    cases h
    exact sx0_if_le hx hb hdg (Or.inr ⟨(fun z => Int32.not_lt.mpr z hc), K _ _ _ hP hS hL⟩)
  · rw [if_neg hc] at h
    obtain ⟨ht, hq⟩ := jp_inl h
    cases hq
    exact sx0_if_le hx hb hdg (Or.inl ⟨Int32.not_lt.mp hc, _, ht, K _ _ _ hP hS hL⟩)
end SIM2

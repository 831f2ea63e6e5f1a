/-! what the small machine comes to, the machine comes to -/
section SIMD
variable {D : va_G} {rho : Nat → Nat} {cI cS : ClassId}
def NWok (U : State) : Prop := ∀ (c i : Nat) (x : Bool × Nat × Nat), c < 6 → lk (FLs c) i = some x → x.1 = true → va_Nw (.fieldLinkNest (RC c) i (RC x.2.1) (TFs x.2.1 x.2.2).2.1 (TFs x.2.1 x.2.2).2.2.1 "OnePortrait") U
theorem NWok.same {u U : State} (h : u.vm = U.vm) (k : NWok u) : NWok U := fun c i x hc h1 h2 => va_Nw.same rfl h (k c i x hc h1 h2)
theorem NWok.warm {s U : State} (h : s.WarmedH U.vm) (k : NWok s) : NWok U := fun c i x hc h1 h2 => va_Nw.warmF h (k c i x hc h1 h2)
theorem NWok.of {s : State} {args : Array Value} (h : ∀ w ∈ lw_tbl, w.before args s = true) : NWok s := by
  intro c i x hc h1 h2
  have h3 := lk_all (P := fun i x => fOK c i x) (fun x hx => okFLs c hc x hx) h1
  obtain ⟨-, -, -, h4⟩ := h3
  obtain ⟨b, ci, k⟩ := x
  dsimp only at h2
  subst h2
  exact va_Nw.of rfl (h _ h4)
def GWs : List Cond := lw_tbl.filter goodWord
def wsY (y : MI) : List Cond := .code (mN y) (mB y) (mL y) (mR y) :: GWs
theorem TW.mem {w : Cond} (h : TW w) : w ∈ GWs := List.mem_filter.mpr h
theorem TW.inY {w : Cond} (h : TW w) (y : MI) : w ∈ wsY y := List.mem_cons_of_mem _ h.mem
def rmY (y : MI) : Room := { frames := mH y, cells := 0, slots := 0, locals := 34 * mH y }
theorem goodY (y z : MI) (hz : OKm z) : GoodIn (wsY y) (wsY z) := by
  intro w hw
  rcases List.mem_cons.mp hw with rfl | h
  · exact ⟨hz.1.inY y, good_of_word hz.1.2⟩
  · exact ⟨List.mem_cons_of_mem _ h, good_of_word (List.mem_filter.mp h).2⟩
abbrev tysW (cI cS : ClassId) : List (ClassId × FieldType) := [(cI, .int), (cS, .object "OnePortrait$Street")]
def WD (D : va_G) (rho : Nat → Nat) (cI cS : ClassId) (u : Mem) (sz : Nat) (U : State) : Prop := U.heap.size = sz ∧ va_P D vwCl (wl rho cI cS u) U.heap ∧ va_K D vwCl (tysW cI cS) U ∧ inj112 rho ∧ NWok U
def QQ (D : va_G) (rho : Nat → Nat) (cI cS : ClassId) (r : Option Value) (u : Mem) (A : Nat → Prop) : Array Value → State → Outcome → State → Prop := fun _ st oc t => (oc = .returned (r.map (cv rho)) ∧ va_P D vwCl (wl rho cI cS u) t.heap) ∧ va_F A st t
def CT (l : Launch) (D : va_G) (rho : Nat → Nat) (cI cS : ClassId) (y : MI) (vs : List Value) (u : Mem) (r : Option Value) (u' : Mem) : Prop :=
  ∀ sz, Met l (mN y) (wsY y) (rmY y) (va_Pc (vs.map (cv rho)) (WD D rho cI cS u sz)) (QQ D rho cI cS r u' (va_A (wl rho cI cS u) sz)) 0 0 (va_A (wl rho cI cS u) sz)
theorem WD_blind {vs : List Value} {u : Mem} {sz : Nat} : FrameBlind (va_Pc (vs.map (cv rho)) (WD D rho cI cS u sz)) := by
  intro a U g mk ⟨h1, h2, h3, h4, h5, h6⟩
  exact ⟨h1, h2, h3, va_K.moved (u := U) (U := U.calling g mk a) (Vm.Alike.refl U.vm) h4, h5, NWok.same rfl h6⟩
end SIMD
section SIM1
variable {p : Program} {l : Launch} {e : Env} {R : Room} {s : State} {m : MethodId} {args : Array Value} {below : List Frame} {meth : Method} {c : Code} {H : Heap} {locs : List Loc} {cells slots : Nat} {Q : State → Prop}
variable {D : va_G} {rho : Nat → Nat} {cI cS : ClassId} {A : Nat → Prop}
/-- behind a call, whatever it answers -/
theorem va_callg {pc : Nat} {ls : Array Slot} {rest st0 : List Value} {a : Array Value} {A0 A1 : Nat → Prop} {H0 : Heap} {free : Addr → Prop} {r : Option Value} {B : State → Prop} (hr : va_Run p l e R s m args below meth c H locs cells slots 0 0 (F0 m pc ls st0) rest (fun st oc t => (oc = .returned r ∧ B t) ∧ va_F A1 st t) free) (hS : va_S A0 H0 H locs) (hA : ∀ q, q < H.size → A1 q → A0 q) (hf : ∀ q, free q → A0 q)
    (kk : ∀ (t : State) (H1 : Heap) (locs1 : List Loc), t.heap = H1 → B t → va_S A0 H0 H1 locs1 → W p l e R s m args below meth c H1 locs1 cells slots Q (F0 m (pc + 3) ls (r.toList ++ rest))) : W p l e R s m args below meth c H locs cells slots Q (F0 m pc ls st0) := by
  intro T hT X
  obtain ⟨v, st₀, t, T', L, h0, X', hL, e1, e2, ⟨⟨hv, hb⟩, hz, hk⟩, st⟩ := hr T hT X
  cases hv
  rw [h0] at hz hk
  obtain ⟨t2, a1, b1⟩ := kk t T'.heap (locs ++ L) e1.symm hb
    ⟨Nat.le_trans hS.1 (by rw [e1]; exact hz), fun q h1 h2 => by rw [e1, hk q (Nat.lt_of_lt_of_le h1 hS.1) (fun z => h2 (hA q (Nat.lt_of_lt_of_le h1 hS.1) z))]; exact hS.2.1 q h1 h2, fun q hq => by
      rcases List.mem_append.mp hq with h | h
      · exact hS.2.2 q h
      · exact hf _ (hL q h)⟩ T' rfl X'
  exact ⟨t2, st t2 a1, b1⟩
/-- what holds in a method, all along -/
def CX (D : va_G) (rho : Nat → Nat) (cI cS : ClassId) (A : Nat → Prop) (y : MI) (p : Program) (s : State) (m : MethodId) (args : Array Value) (meth : Method) (c : Code) : Prop :=
  p.tables.exec = Jvm.exec ∧ c.code = mB y ∧ c.maxLocals = mL y ∧ meth.sig.returnType = mR y ∧ s.vm.findClass (RC (mC y)) = some m.cls ∧ (∀ w ∈ wsY y, w.before args s = true) ∧ meth.locks = false ∧ va_K D vwCl (tysW cI cS) s ∧ NWok s ∧ inj112 rho ∧ (∀ q, s.heap.size ≤ q → A q) ∧ (∀ k, k < 112 → A (rho k)) ∧ mC y < 6
theorem xB_inl {f : Int32 → Int32 → Int32} {L : Lv} {pc : Nat} {st : List Value} {u : Mem} {q} (h : xB f L pc st u = some (.inl q)) : ∃ a b st0, st = .int b :: .int a :: st0 ∧ q = (pc + 1, L, .int (f a b) :: st0, u) := by
  unfold xB at h
  split at h
  · cases h; exact ⟨_, _, _, rfl, rfl⟩
  · cases h
theorem xB0_inl {f : Int32 → Int32 → Int32} {L : Lv} {pc : Nat} {st : List Value} {u : Mem} {q} (h : xB0 f L pc st u = some (.inl q)) : ∃ a b st0, ¬ b = 0 ∧ st = .int b :: .int a :: st0 ∧ q = (pc + 1, L, .int (f a b) :: st0, u) := by
  unfold xB0 at h
  split at h
  · split at h
    · cases h
    · next hn => cases h; exact ⟨_, _, _, hn, rfl, rfl⟩
  · cases h
theorem xBJ_inl {f : Int64 → Int64 → Int64} {L : Lv} {pc : Nat} {st : List Value} {u : Mem} {q} (h : xBJ f L pc st u = some (.inl q)) : ∃ a b st0, st = .long b :: .long a :: st0 ∧ q = (pc + 1, L, .long (f a b) :: st0, u) := by
  unfold xBJ at h
  split at h
  · cases h; exact ⟨_, _, _, rfl, rfl⟩
  · cases h
theorem xBJ0_inl {f : Int64 → Int64 → Int64} {L : Lv} {pc : Nat} {st : List Value} {u : Mem} {q} (h : xBJ0 f L pc st u = some (.inl q)) : ∃ a b st0, ¬ b = 0 ∧ st = .long b :: .long a :: st0 ∧ q = (pc + 1, L, .long (f a b) :: st0, u) := by
  unfold xBJ0 at h
  split at h
  · split at h
    · cases h
    · next hn => cases h; exact ⟨_, _, _, hn, rfl, rfl⟩
  · cases h
theorem xI_inl {i w : Nat} {L : Lv} {pc : Nat} {st : List Value} {u : Mem} {q} (h : xI L i w pc st u = some (.inl q)) : ∃ x, lget L i = some (.int x) ∧ q = (pc + w, L, .int x :: st, u) := by
  unfold xI at h
  split at h
  · next x hx => cases h; exact ⟨_, hx, rfl⟩
  · cases h
theorem xJ_inl {i w : Nat} {L : Lv} {pc : Nat} {st : List Value} {u : Mem} {q} (h : xJ L i w pc st u = some (.inl q)) : ∃ x, lget L i = some (.long x) ∧ q = (pc + w, L, .long x :: st, u) := by
  unfold xJ at h
  split at h
  · next x hx => cases h; exact ⟨_, hx, rfl⟩
  · cases h
theorem xA_inl {i w : Nat} {L : Lv} {pc : Nat} {st : List Value} {u : Mem} {q} (h : xA L i w pc st u = some (.inl q)) : ∃ x, lget L i = some (.ref x) ∧ q = (pc + w, L, .ref x :: st, u) := by
  unfold xA at h
  split at h
  · next x hx => cases h; exact ⟨_, hx, rfl⟩
  · cases h
theorem xIs_inl {i w : Nat} {L : Lv} {pc : Nat} {st : List Value} {u : Mem} {q} (h : xIs L i w pc st u = some (.inl q)) : ∃ x st0, st = .int x :: st0 ∧ i < L.length ∧ q = (pc + w, lst1 L i (.int x), st0, u) := by
  unfold xIs at h
  split at h
  · split at h
    · next hi => cases h; exact ⟨_, _, rfl, hi, rfl⟩
    · cases h
  · cases h
theorem xJs_inl {i w : Nat} {L : Lv} {pc : Nat} {st : List Value} {u : Mem} {q} (h : xJs L i w pc st u = some (.inl q)) : ∃ x st0, st = .long x :: st0 ∧ i + 1 < L.length ∧ q = (pc + w, lst2 L i (.long x), st0, u) := by
  unfold xJs at h
  split at h
  · split at h
    · next hi => cases h; exact ⟨_, _, rfl, hi, rfl⟩
    · cases h
  · cases h
theorem xAs_inl {i w : Nat} {L : Lv} {pc : Nat} {st : List Value} {u : Mem} {q} (h : xAs L i w pc st u = some (.inl q)) : ∃ x st0, st = .ref x :: st0 ∧ i < L.length ∧ q = (pc + w, lst1 L i (.ref x), st0, u) := by
  unfold xAs at h
  split at h
  · split at h
    · next hi => cases h; exact ⟨_, _, rfl, hi, rfl⟩
    · cases h
  · cases h
theorem jp_inl {pc : Nat} {off : Int} {L : Lv} {st : List Value} {u : Mem} {q} (h : jp pc off L st u = some (.inl q)) : (pc : Int) + off = ((tg pc off : Nat) : Int) ∧ q = (tg pc off, L, st, u) := by
  unfold jp at h
  split at h
  · next hn => cases h; exact ⟨(Int.toNat_of_nonneg hn).symm, rfl⟩
  · cases h
theorem xret_inl {r : Option FieldType} {st : List Value} {q} (h : xret r st = some (.inl q)) : False := by
  unfold xret at h
  split at h
  · cases h
  · split at h <;> cases h
  · cases h
theorem xretJ_inl {r : Option FieldType} {st : List Value} {q} (h : xretJ r st = some (.inl q)) : False := by
  unfold xretJ at h
  split at h <;> cases h
theorem xretA_inl {r : Option FieldType} {st : List Value} {q} (h : xretA r st = some (.inl q)) : False := by
  unfold xretA at h
  split at h <;> cases h
theorem xretV_inl {r : Option FieldType} {st : List Value} {q} (h : xretV r st = some (.inl q)) : False := by
  unfold xretV at h
  split at h <;> cases h
theorem xV_inl {y : MI} {i pc : Nat} {st : List Value} {q} (h : xV y i pc st = some (.inl q)) : False := by
  unfold xV at h
  split at h
  · split at h
    · split at h <;> cases h
    · cases h
  · split at h
    · split at h
      · split at h <;> cases h
      · cases h
    · cases h
theorem cats4 {st : List Value} (h : cw st ≤ 8) : ((st.map (cv rho)).map fun v => v.category).sum ≤ 8 := by
  have h2 : ∀ st : List Value, ((st.map (cv rho)).map fun v => v.category).sum = cw st := by
    intro st
    induction st with
    | nil => rfl
    | cons v st ih =>
      simp only [List.map_cons, List.sum_cons, cv_cat, cw]
      omega
  rw [h2]
  exact h
end SIM1

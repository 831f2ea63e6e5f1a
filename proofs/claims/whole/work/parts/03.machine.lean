/-! THE SMALL MACHINE: what the program's instructions do over a memory of ints whose objects and rows stand where the constructors put them.
Cells: 8 * s the Street s (0 now, 1 mind, 2 pictured, 3 .. 10 the ring's), 8 * s + 1 .. + 7 its rows; 88 OnePortrait, 89 Past, 90 the ring, 91 Text, 92 letters, 93 Numbers, 94 values, 95 refusals, 96 OnePortraitModel, 97 .. 111 its rows. -/
abbrev Mem : Type := Nat → Int32 → Int32
abbrev Lv : Type := List (Option Value)
def wrm (u : Mem) (a : Nat) (i v : Int32) : Mem := fun k j => if k = a ∧ j = i then v else u k j
/-- what a cell is: the number of its class; 6 a row of ints, 7 the ring, 8 none -/
def cK (k : Nat) : Nat := if k < 88 then (if k % 8 = 0 then 2 else 6) else [4, 1, 7, 3, 6, 0, 6, 6, 5, 6, 6, 6, 6, 6, 6, 6, 6, 6, 6, 6, 6, 6, 6, 6].getD (k - 88) 8
/-- an object's class is the link's, or its heir: Text (3) has all of Numbers (0) -/
abbrev sb (o ci : Nat) : Prop := o = ci ∨ (o = 3 ∧ ci = 0)
/-- how long a row is -/
def aln (k : Nat) : Nat := if k < 88 then [0, 7, 7, 7, 7, 7, 3, 12].getD (k % 8) 0 else [0, 0, 8, 0, 96, 0, 12, 7, 0, 7, 7, 7, 7, 7, 7, 3, 12, 96, 48, 48, 192, 583, 12, 8].getD (k - 88) 0
/-- what a field is: 0 an int, 1 a boolean, 2 a reference, which no method but a constructor changes -/
def fK (c j : Nat) : Nat := ([[2, 0], [2, 0, 0], [2, 2, 2, 2, 2, 2, 2, 0, 0, 0], [2, 0], [2, 2, 2, 1, 2, 2, 2, 2], [2, 2, 2, 2, 2, 2, 2, 2, 0, 0, 0, 2, 2, 2, 2, 0, 0, 0, 2, 1, 1, 0, 0, 2, 0, 2, 0]].getD c []).getD j 0
/-- where a reference's field leads -/
def fref (k j : Nat) : Nat := if k < 88 then k + 1 + j else match k with
  | 88 => [0, 8, 16, 0, 89, 91, 93, 95].getD j 0
  | 89 => 90
  | 91 => 92
  | 93 => 94
  | _ => [97, 98, 99, 100, 101, 102, 103, 104, 0, 0, 0, 105, 106, 107, 108, 0, 0, 0, 109, 0, 0, 0, 0, 110, 0, 111, 0].getD j 0
/-- a place of a row of ints -/
def aok (k : Nat) (i : Int32) : Bool := (cK k == 6) && (!(decide (i < 0)) && decide (i < nI (aln k)))
def lget (L : Lv) (i : Nat) : Option Value := L.getD i none
/-- a long below the place is no more -/
def lkill (L : Lv) : Nat → Lv
  | 0 => L
  | j + 1 => match lget L j with
    | some (.long _) => L.set j none
    | some (.double _) => L.set j none
    | _ => L
def lst1 (L : Lv) (i : Nat) (v : Value) : Lv := (lkill L i).set i (some v)
def lst2 (L : Lv) (i : Nat) (v : Value) : Lv := ((lkill L i).set (i + 1) none).set i (some v)
/-- how many words a stack has -/
def cw : List Value → Nat
  | [] => 0
  | v :: st => v.category + cw st
abbrev Rs : Type := (Nat × Lv × List Value × Mem) ⊕ ((MI × List Value × Nat × List Value) ⊕ Option Value)
def nx (pc : Nat) (L : Lv) (st : List Value) (u : Mem) : Option Rs := some (.inl (pc, L, st, u))
def tg (pc : Nat) (off : Int) : Nat := ((pc : Int) + off).toNat
/-- a jump, where it leads to a place -/
def jp (pc : Nat) (off : Int) (L : Lv) (st : List Value) (u : Mem) : Option Rs := if 0 ≤ (pc : Int) + off then nx (tg pc off) L st u else none
def xI (L : Lv) (i w pc : Nat) (st : List Value) (u : Mem) : Option Rs := match lget L i with
  | some (.int x) => nx (pc + w) L (.int x :: st) u
  | _ => none
def xJ (L : Lv) (i w pc : Nat) (st : List Value) (u : Mem) : Option Rs := match lget L i with
  | some (.long x) => nx (pc + w) L (.long x :: st) u
  | _ => none
def xA (L : Lv) (i w pc : Nat) (st : List Value) (u : Mem) : Option Rs := match lget L i with
  | some (.ref x) => nx (pc + w) L (.ref x :: st) u
  | _ => none
def xIs (L : Lv) (i w pc : Nat) (st : List Value) (u : Mem) : Option Rs := match st with
  | .int x :: st => if i < L.length then nx (pc + w) (lst1 L i (.int x)) st u else none
  | _ => none
def xJs (L : Lv) (i w pc : Nat) (st : List Value) (u : Mem) : Option Rs := match st with
  | .long x :: st => if i + 1 < L.length then nx (pc + w) (lst2 L i (.long x)) st u else none
  | _ => none
def xAs (L : Lv) (i w pc : Nat) (st : List Value) (u : Mem) : Option Rs := match st with
  | .ref x :: st => if i < L.length then nx (pc + w) (lst1 L i (.ref x)) st u else none
  | _ => none
def xB (f : Int32 → Int32 → Int32) (L : Lv) (pc : Nat) (st : List Value) (u : Mem) : Option Rs := match st with
  | .int b :: .int a :: st => nx (pc + 1) L (.int (f a b) :: st) u
  | _ => none
def xB0 (f : Int32 → Int32 → Int32) (L : Lv) (pc : Nat) (st : List Value) (u : Mem) : Option Rs := match st with
  | .int b :: .int a :: st => if b = 0 then none else nx (pc + 1) L (.int (f a b) :: st) u
  | _ => none
def xBJ (f : Int64 → Int64 → Int64) (L : Lv) (pc : Nat) (st : List Value) (u : Mem) : Option Rs := match st with
  | .long b :: .long a :: st => nx (pc + 1) L (.long (f a b) :: st) u
  | _ => none
def xBJ0 (f : Int64 → Int64 → Int64) (L : Lv) (pc : Nat) (st : List Value) (u : Mem) : Option Rs := match st with
  | .long b :: .long a :: st => if b = 0 then none else nx (pc + 1) L (.long (f a b) :: st) u
  | _ => none
def xcmp (k : Jvm.ClassFile.Cond) (a b : Int32) (pc : Nat) (off : Int) (L : Lv) (st : List Value) (u : Mem) : Option Rs := match k with
  | .eq => if a = b then jp pc off L st u else nx (pc + 3) L st u
  | .ne => if a = b then nx (pc + 3) L st u else jp pc off L st u
  | .lt => if a < b then jp pc off L st u else nx (pc + 3) L st u
  | .ge => if a < b then nx (pc + 3) L st u else jp pc off L st u
  | .gt => if b < a then jp pc off L st u else nx (pc + 3) L st u
  | .le => if b < a then nx (pc + 3) L st u else jp pc off L st u
def xic (k : Jvm.ClassFile.Cond) (pc : Nat) (off : Int) (L : Lv) (st : List Value) (u : Mem) : Option Rs := match st with
  | .int b :: .int a :: st => xcmp k a b pc off L st u
  | _ => none
def xif (k : Jvm.ClassFile.Cond) (pc : Nat) (off : Int) (L : Lv) (st : List Value) (u : Mem) : Option Rs := match st with
  | .int a :: st => xcmp k a 0 pc off L st u
  | _ => none
def xget (c i pc : Nat) (L : Lv) (st : List Value) (u : Mem) : Option Rs := match lk (FLs c) i, st with
  | some (_, ci, k), .ref a :: st => if sb (cK a) ci then (if fK ci k = 2 then nx (pc + 3) L (.ref (fref a k) :: st) u else nx (pc + 3) L (.int (u a (nI k)) :: st) u) else none
  | _, _ => none
def xput (c i pc : Nat) (L : Lv) (st : List Value) (u : Mem) : Option Rs := match lk (FLs c) i, st with
  | some (_, ci, k), .int v :: .ref a :: st => if sb (cK a) ci ∧ (fK ci k = 0 ∨ (fK ci k = 1 ∧ (v = 0 ∨ v = 1))) then nx (pc + 3) L st (wrm u a (nI k) v) else none
  | _, _ => none
def xald (pc : Nat) (L : Lv) (st : List Value) (u : Mem) : Option Rs := match st with
  | .int i :: .ref a :: st => if aok a i = true then nx (pc + 1) L (.int (u a i) :: st) u else none
  | _ => none
def xast (pc : Nat) (L : Lv) (st : List Value) (u : Mem) : Option Rs := match st with
  | .int v :: .int i :: .ref a :: st => if aok a i = true then nx (pc + 1) L st (wrm u a i v) else none
  | _ => none
def xaald (pc : Nat) (L : Lv) (st : List Value) (u : Mem) : Option Rs := match st with
  | .int i :: .ref a :: st => if a = 90 ∧ (¬ i < 0 ∧ i < 8) then nx (pc + 1) L (.ref (24 + 8 * i.toNatClampNeg) :: st) u else none
  | _ => none
def xalen (pc : Nat) (L : Lv) (st : List Value) (u : Mem) : Option Rs := match st with
  | .ref a :: st => if cK a = 6 then nx (pc + 1) L (.int (nI (aln a)) :: st) u else none
  | _ => none
def xV (y : MI) (i pc : Nat) (st : List Value) : Option Rs := match lk (MLs (mC y)) i with
  | some z => match st.drop (mP z) with
    | .ref a :: st' => if mS z = false ∧ mH z < mH y ∧ cK a = mC z ∧ cw st' ≤ 8 then some (.inr (.inl (z, .ref a :: (st.take (mP z)).reverse, pc + 3, st'))) else none
    | _ => none
  | none => match lk (ULs (mC y)) i with
    | some z => match st.drop (mP z) with
      | .ref a :: st' => if mH z < mH y ∧ cK a = 3 ∧ cw st' ≤ 8 then some (.inr (.inl (z, .ref a :: (st.take (mP z)).reverse, pc + 3, st'))) else none
      | _ => none
    | none => none
def xM (k : Nat) (y : MI) (pc : Nat) (L : Lv) (st : List Value) (u : Mem) : Option Rs := match k, st with
  | 0, .int b :: .int a :: st => if 0 < mH y ∧ cw st ≤ 8 then nx (pc + 3) L (.int (if a < b then b else a) :: st) u else none
  | 1, .int b :: .int a :: st => if 0 < mH y ∧ cw st ≤ 8 then nx (pc + 3) L (.int (if b < a then b else a) :: st) u else none
  | 2, .int a :: st => if 0 < mH y ∧ cw st ≤ 8 then nx (pc + 3) L (.int (if 0 ≤ a then a else 0 - a) :: st) u else none
  | _, _ => none
def xS (y : MI) (i pc : Nat) (L : Lv) (st : List Value) (u : Mem) : Option Rs := match lk (MLs (mC y)) i with
  | some z => if mS z = true ∧ mH z < mH y ∧ mP z ≤ st.length ∧ cw (st.drop (mP z)) ≤ 8 then some (.inr (.inl (z, (st.take (mP z)).reverse, pc + 3, st.drop (mP z)))) else none
  | none => match lk (XLs (mC y)) i with
    | some k => xM k y pc L st u
    | none => none
def xret (r : Option FieldType) (st : List Value) : Option Rs := match r, st with
  | some .int, [.int v] => some (.inr (.inr (some (.int v))))
  | some .boolean, [.int v] => if v = 0 ∨ v = 1 then some (.inr (.inr (some (.int v)))) else none
  | _, _ => none
def xretJ (r : Option FieldType) (st : List Value) : Option Rs := match r, st with
  | some .long, [.long v] => some (.inr (.inr (some (.long v))))
  | _, _ => none
def xretA (r : Option FieldType) (st : List Value) : Option Rs := match r, st with
  | some (.object _), [.ref v] => some (.inr (.inr (some (.ref v))))
  | _, _ => none
def xretV (r : Option FieldType) (st : List Value) : Option Rs := match r, st with
  | none, [] => some (.inr (.inr none))
  | _, _ => none
/-- how long an instruction is, switches apart -/
def iln (op : Instr) : Nat := match op with
  | .aload _ => 2 | .astore _ => 2 | .bipush _ => 2 | .iload _ => 2 | .istore _ => 2 | .lload _ => 2 | .lstore _ => 2 | .ldc _ => 2
  | .sipush _ => 3 | .getfield _ => 3 | .putfield _ => 3 | .goto _ => 3 | .if_icmp _ _ => 3 | .ifCond _ _ => 3 | .ifnull _ => 3 | .ifnonnull _ => 3 | .iinc _ _ => 3 | .invokevirtual _ => 3 | .invokestatic _ => 3 | .ldc_w _ => 3 | .ldc2_w _ => 3
  | .tableswitch _ _ _ _ => 0 | .lookupswitch _ _ => 0
  | _ => 1
def exi (op : Instr) (y : MI) (pc : Nat) (L : Lv) (st : List Value) (u : Mem) : Option Rs := match op with
  | .iconst n => nx (pc + 1) L (.int (Int32.ofInt n) :: st) u
  | .bipush n => nx (pc + 2) L (.int (Int8.ofInt n).toInt32 :: st) u
  | .sipush n => nx (pc + 3) L (.int (Int16.ofInt n).toInt32 :: st) u
  | .lconst n => nx (pc + 1) L (.long (Int64.ofNat (n : Nat)) :: st) u
  | .ldc i => match lk (CIs (mC y)) i with | some v => nx (pc + 2) L (.int v :: st) u | none => none
  | .ldc_w i => match lk (CIs (mC y)) i with | some v => nx (pc + 3) L (.int v :: st) u | none => none
  | .ldc2_w i => match lk (CJs (mC y)) i with | some v => nx (pc + 3) L (.long v :: st) u | none => none
  | .iload_n n => xI L n 1 pc st u
  | .iload i => xI L i 2 pc st u
  | .lload_n n => xJ L n 1 pc st u
  | .lload i => xJ L i 2 pc st u
  | .aload_n n => xA L n 1 pc st u
  | .aload i => xA L i 2 pc st u
  | .istore_n n => xIs L n 1 pc st u
  | .istore i => xIs L i 2 pc st u
  | .lstore_n n => xJs L n 1 pc st u
  | .lstore i => xJs L i 2 pc st u
  | .astore_n n => xAs L n 1 pc st u
  | .astore i => xAs L i 2 pc st u
  | .iinc i n => match lget L i with | some (.int x) => if i < L.length then nx (pc + 3) (lst1 L i (.int (x + Int32.ofInt n))) st u else none | _ => none
  | .iadd => xB (fun a b => a + b) L pc st u
  | .isub => xB (fun a b => a - b) L pc st u
  | .imul => xB (fun a b => a * b) L pc st u
  | .iand => xB (fun a b => a &&& b) L pc st u
  | .ior => xB (fun a b => a ||| b) L pc st u
  | .ixor => xB (fun a b => a ^^^ b) L pc st u
  | .ishl => xB (fun a b => a <<< (b &&& 31)) L pc st u
  | .ishr => xB (fun a b => a >>> (b &&& 31)) L pc st u
  | .idiv => xB0 (fun a b => a / b) L pc st u
  | .irem => xB0 (fun a b => a - a / b * b) L pc st u
  | .ineg => match st with | .int a :: st => nx (pc + 1) L (.int (-a) :: st) u | _ => none
  | .ladd => xBJ (fun a b => a + b) L pc st u
  | .lsub => xBJ (fun a b => a - b) L pc st u
  | .lmul => xBJ (fun a b => a * b) L pc st u
  | .ldiv => xBJ0 (fun a b => a / b) L pc st u
  | .lrem => xBJ0 (fun a b => a - a / b * b) L pc st u
  | .lcmp => match st with | .long b :: .long a :: st => nx (pc + 1) L (.int (lg_cmp a b) :: st) u | _ => none
  | .i2l => match st with | .int a :: st => nx (pc + 1) L (.long a.toInt64 :: st) u | _ => none
  | .dup => match st with | .int a :: st => nx (pc + 1) L (.int a :: .int a :: st) u | .ref a :: st => nx (pc + 1) L (.ref a :: .ref a :: st) u | _ => none
  | .dup2 => match st with | .int a :: .ref b :: st => nx (pc + 1) L (.int a :: .ref b :: .int a :: .ref b :: st) u | _ => none
  | .pop => match st with | .int _ :: st => nx (pc + 1) L st u | _ => none
  | .goto off => jp pc off L st u
  | .if_icmp k off => xic k pc off L st u
  | .ifCond k off => xif k pc off L st u
  | .ifnull _ => match st with | .ref _ :: st => nx (pc + 3) L st u | _ => none
  | .ifnonnull off => match st with | .ref _ :: st => jp pc off L st u | _ => none
  | .getfield i => xget (mC y) i pc L st u
  | .putfield i => xput (mC y) i pc L st u
  | .iaload => xald pc L st u
  | .iastore => xast pc L st u
  | .aaload => xaald pc L st u
  | .arraylength => xalen pc L st u
  | .invokevirtual i => xV y i pc st
  | .invokestatic i => xS y i pc L st u
  | .ireturn => xret (mR y) st
  | .lreturn => xretJ (mR y) st
  | .areturn => xretA (mR y) st
  | .return_ => xretV (mR y) st
  | .tableswitch d lo hi offs => match st with
    | .int x :: st => if x.toInt < lo ∨ hi < x.toInt then jp pc d L st u else match offs[(x.toInt - lo).toNat]? with | some off => jp pc off L st u | none => none
    | _ => none
  | .lookupswitch d ps => match st with
    | .int x :: st => if (ps.toList.zip (ps.toList.drop 1)).all (fun (a, next) => a.1 < next.1) = true then jp pc (Op.lookupswitch.offset ps.toList d x.toInt) L st u else none
    | _ => none
  | _ => none
def stp (y : MI) (pc : Nat) (L : Lv) (st : List Value) (u : Mem) : Option Rs := match decode (mB y) pc with
  | .ok (op, len) => if iln op = 0 ∨ len = iln op then exi op y pc L st u else none
  | .error _ => none
def lsl (vs : List Value) : Lv := vs.flatMap fun v => if v.category = 2 then [some v, none] else [some v]
def ent (z : MI) (vs : List Value) : Lv := lsl vs ++ List.replicate (mL z - (lsl vs).length) none
def run : Nat → MI → Nat → Lv → List Value → Mem → Option (Option Value × Mem)
  | 0, _, _, _, _, _ => none
  | n + 1, y, pc, L, st, u => match stp y pc L st u with
    | none => none
    | some (.inl (pc', L', st', u')) => run n y pc' L' st' u'
    | some (.inr (.inl (z, vs, pc', st'))) => if (lsl vs).length ≤ mL z then match run n z 0 (ent z vs) [] u with
        | some (r, u') => run n y pc' L (r.toList ++ st') u'
        | none => none
      else none
    | some (.inr (.inr r)) => some (r, u)
theorem run_mono : ∀ (n : Nat) (y : MI) (pc : Nat) (L : Lv) (st : List Value) (u : Mem) (r : Option Value × Mem), run n y pc L st u = some r → run (n + 1) y pc L st u = some r := by
  intro n
  induction n with
  | zero => intro y pc L st u r h; cases h
  | succ n ih =>
    intro y pc L st u r h
    rw [run] at h ⊢
    cases hs : stp y pc L st u with
    | none => rw [hs] at h; cases h
    | some q =>
      rw [hs] at h
      obtain ⟨pc', L', st', u'⟩ | ⟨z, vs, pc', st'⟩ | v := q
      · exact ih _ _ _ _ _ _ h
      · dsimp only at h ⊢
        split at h
        · next hl =>
          rw [if_pos hl]
          cases hz : run n z 0 (ent z vs) [] u with
          | none => rw [hz] at h; cases h
          | some w =>
            obtain ⟨v, u'⟩ := w
            rw [hz] at h
            rw [ih _ _ _ _ _ _ hz]
            exact ih _ _ _ _ _ _ h
        · cases h
      · exact h
theorem run_le {n k : Nat} (hk : n ≤ k) {y : MI} {pc : Nat} {L : Lv} {st : List Value} {u : Mem} {r : Option Value × Mem} (h : run n y pc L st u = some r) : run k y pc L st u = some r := by
  obtain ⟨d, rfl⟩ := Nat.exists_eq_add_of_le hk
  induction d with
  | zero => exact h
  | succ d ih => exact run_mono _ _ _ _ _ _ _ (ih (Nat.le_add_right _ _))
/-- where it comes to, if it does -/
noncomputable def ev (y : MI) (pc : Nat) (L : Lv) (st : List Value) (u : Mem) : Option (Option Value × Mem) :=
  @dite _ (∃ n r, run n y pc L st u = some r) (Classical.propDecidable _) (fun h => some (Classical.choose (Classical.choose_spec h))) (fun _ => none)
theorem ev_of {n : Nat} {y : MI} {pc : Nat} {L : Lv} {st : List Value} {u : Mem} {r : Option Value × Mem} (h : run n y pc L st u = some r) : ev y pc L st u = some r := by
  have hx : ∃ n r, run n y pc L st u = some r := ⟨n, r, h⟩
  unfold ev
  rw [dif_pos hx]
  have h2 := Classical.choose_spec (Classical.choose_spec hx)
  have h3 := run_le (Nat.le_max_left n (Classical.choose hx)) h
  have h4 := run_le (Nat.le_max_right n (Classical.choose hx)) h2
  rw [← h4, h3]
theorem ev_run {y : MI} {pc : Nat} {L : Lv} {st : List Value} {u : Mem} {r : Option Value × Mem} (h : ev y pc L st u = some r) : ∃ n, run n y pc L st u = some r := by
  unfold ev at h
  split at h
  · next hx =>
    cases h
    exact ⟨_, Classical.choose_spec (Classical.choose_spec hx)⟩
  · cases h
theorem ev_ext {y y' : MI} {pc pc' : Nat} {L L' : Lv} {st st' : List Value} {u u' : Mem} (h : ∀ r, (∃ n, run n y pc L st u = some r) ↔ (∃ n, run n y' pc' L' st' u' = some r)) : ev y pc L st u = ev y' pc' L' st' u' := by
  cases h1 : ev y' pc' L' st' u' with
  | some r =>
    obtain ⟨n, hn⟩ := (h r).mpr (ev_run h1)
    exact ev_of hn
  | none =>
    cases h2 : ev y pc L st u with
    | none => rfl
    | some r =>
      obtain ⟨n, hn⟩ := (h r).mp (ev_run h2)
      rw [ev_of hn] at h1
      cases h1
theorem ev_next {y : MI} {pc pc' : Nat} {L L' : Lv} {st st' : List Value} {u u' : Mem} (h : stp y pc L st u = some (.inl (pc', L', st', u'))) : ev y pc L st u = ev y pc' L' st' u' := by
  refine ev_ext fun r => ⟨fun ⟨n, hn⟩ => ?_, fun ⟨n, hn⟩ => ⟨n + 1, by rw [run, h]; exact hn⟩⟩
  cases n with
  | zero => cases hn
  | succ n => rw [run, h] at hn; exact ⟨n, hn⟩
theorem ev_none {y : MI} {pc : Nat} {L : Lv} {st : List Value} {u : Mem} (h : stp y pc L st u = none) : ev y pc L st u = none := by
  cases h2 : ev y pc L st u with
  | none => rfl
  | some r =>
    obtain ⟨n, hn⟩ := ev_run h2
    cases n with
    | zero => cases hn
    | succ n => rw [run, h] at hn; cases hn
theorem ev_ret {y : MI} {pc : Nat} {L : Lv} {st : List Value} {u : Mem} {v : Option Value} (h : stp y pc L st u = some (.inr (.inr v))) : ev y pc L st u = some (v, u) := ev_of (n := 1) (by rw [run, h])
/-- a method from its start -/
noncomputable def cal (y : MI) (vs : List Value) (u : Mem) : Option (Option Value × Mem) := if (lsl vs).length ≤ mL y then ev y 0 (ent y vs) [] u else none
theorem ev_call {y z : MI} {pc pc' : Nat} {L : Lv} {st st' vs : List Value} {u : Mem} (h : stp y pc L st u = some (.inr (.inl (z, vs, pc', st')))) : ev y pc L st u = (cal z vs u).bind (fun q => ev y pc' L (q.1.toList ++ st') q.2) := by
  by_cases hl : (lsl vs).length ≤ mL z
  · unfold cal
    rw [if_pos hl]
    cases h1 : ev z 0 (ent z vs) [] u with
    | none =>
      rw [Option.bind_none]
      cases h2 : ev y pc L st u with
      | none => rfl
      | some r =>
        obtain ⟨n, hn⟩ := ev_run h2
        cases n with
        | zero => cases hn
        | succ n =>
          rw [run, h] at hn
          dsimp only at hn
          rw [if_pos hl] at hn
          cases h3 : run n z 0 (ent z vs) [] u with
          | none => rw [h3] at hn; cases hn
          | some w => rw [ev_of h3] at h1; cases h1
    | some q =>
      obtain ⟨v, u'⟩ := q
      rw [Option.bind_some]
      obtain ⟨n1, hn1⟩ := ev_run h1
      refine ev_ext fun r => ⟨fun ⟨n, hn⟩ => ?_, fun ⟨n, hn⟩ => ?_⟩
      · cases n with
        | zero => cases hn
        | succ n =>
          rw [run, h] at hn
          dsimp only at hn
          rw [if_pos hl] at hn
          cases h3 : run n z 0 (ent z vs) [] u with
          | none => rw [h3] at hn; cases hn
          | some w =>
            have h4 := ev_of h3
            rw [h1] at h4
            cases h4
            rw [h3] at hn
            exact ⟨n, hn⟩
      · refine ⟨max n1 n + 1, ?_⟩
        rw [run, h]
        dsimp only
        rw [if_pos hl, run_le (Nat.le_max_left n1 n) hn1]
        exact run_le (Nat.le_max_right n1 n) hn
  · unfold cal
    rw [if_neg hl]
    cases h2 : ev y pc L st u with
    | none => rfl
    | some r =>
      obtain ⟨n, hn⟩ := ev_run h2
      cases n with
      | zero => cases hn
      | succ n =>
        rw [run, h] at hn
        dsimp only at hn
        rw [if_neg hl] at hn
        cases hn

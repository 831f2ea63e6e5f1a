/-! the small machine, an instruction a row -/
theorem stp_of {y : MI} {pc len : Nat} {L : Lv} {st : List Value} {u : Mem} {op : Instr} {r : Option Rs} (hd : decode (mB y) pc = .ok (op, len)) (hl : iln op = 0 ∨ len = iln op) (hr : exi op y pc L st u = r) : stp y pc L st u = r := by
  unfold stp
  rw [hd]
  dsimp only
  rw [if_pos hl]
  exact hr
theorem E_nx {y : MI} {pc pc' len : Nat} {L L' : Lv} {st st' : List Value} {u u' : Mem} {op : Instr} (hd : decode (mB y) pc = .ok (op, len)) (hl : iln op = 0 ∨ len = iln op) (hr : exi op y pc L st u = some (.inl (pc', L', st', u'))) : ev y pc L st u = ev y pc' L' st' u' := ev_next (stp_of hd hl hr)
theorem ev_jp {y : MI} {pc t : Nat} {off : Int} {L : Lv} {st0 st : List Value} {u : Mem} (h : stp y pc L st0 u = jp pc off L st u) (ht : (pc : Int) + off = (t : Int)) : ev y pc L st0 u = ev y t L st u := by
  refine ev_next (h.trans ?_)
  unfold jp nx tg
  rw [ht, if_pos (Int.natCast_nonneg t), Int.toNat_natCast]
theorem E_goto {y : MI} {pc t : Nat} {off : Int} {L : Lv} {st : List Value} {u : Mem} (hd : decode (mB y) pc = .ok (.goto off, 3)) (ht : (pc : Int) + off = (t : Int)) : ev y pc L st u = ev y t L st u := ev_jp (stp_of hd (Or.inr rfl) rfl) ht
theorem E_cmp {y : MI} {pc t : Nat} {off : Int} {L : Lv} {st0 st : List Value} {u : Mem} {a b : Int32} (k : Jvm.ClassFile.Cond) (h : stp y pc L st0 u = xcmp k a b pc off L st u) (ht : (pc : Int) + off = (t : Int)) : ev y pc L st0 u = (match k with
    | .eq => if a = b then ev y t L st u else ev y (pc + 3) L st u
    | .ne => if a = b then ev y (pc + 3) L st u else ev y t L st u
    | .lt => if a < b then ev y t L st u else ev y (pc + 3) L st u
    | .ge => if a < b then ev y (pc + 3) L st u else ev y t L st u
    | .gt => if b < a then ev y t L st u else ev y (pc + 3) L st u
    | .le => if b < a then ev y (pc + 3) L st u else ev y t L st u) := by
  unfold xcmp at h
  cases k
  all_goals dsimp only at h ⊢
  all_goals split
  all_goals next hc =>
    simp only [hc, if_true, if_false] at h
    first | exact ev_jp h ht | exact ev_next h
theorem E_ald {y : MI} {pc a : Nat} {L : Lv} {st : List Value} {u : Mem} {i : Int32} (hd : decode (mB y) pc = .ok (.iaload, 1)) : ev y pc L (.int i :: .ref a :: st) u = if cK a = 6 ∧ ¬ i < 0 ∧ i < nI (aln a) then ev y (pc + 1) L (.int (u a i) :: st) u else none := by
  have h := stp_of (L := L) (st := .int i :: .ref a :: st) (u := u) hd (Or.inr rfl) rfl
  have e : (aok a i = true) ↔ (cK a = 6 ∧ ¬ i < 0 ∧ i < nI (aln a)) := by
    unfold aok
    simp only [Bool.and_eq_true, beq_iff_eq, Bool.not_eq_true', decide_eq_false_iff_not, decide_eq_true_eq]
  unfold exi xald at h
  dsimp only at h
  by_cases hc : cK a = 6 ∧ ¬ i < 0 ∧ i < nI (aln a)
  · rw [if_pos (e.mpr hc)] at h
    rw [if_pos hc]
    exact ev_next h
  · rw [if_neg (fun z => hc (e.mp z))] at h
    rw [if_neg hc]
    exact ev_none h
theorem E_ast {y : MI} {pc a : Nat} {L : Lv} {st : List Value} {u : Mem} {i v : Int32} (hd : decode (mB y) pc = .ok (.iastore, 1)) : ev y pc L (.int v :: .int i :: .ref a :: st) u = if cK a = 6 ∧ ¬ i < 0 ∧ i < nI (aln a) then ev y (pc + 1) L st (wrm u a i v) else none := by
  have h := stp_of (L := L) (st := .int v :: .int i :: .ref a :: st) (u := u) hd (Or.inr rfl) rfl
  have e : (aok a i = true) ↔ (cK a = 6 ∧ ¬ i < 0 ∧ i < nI (aln a)) := by
    unfold aok
    simp only [Bool.and_eq_true, beq_iff_eq, Bool.not_eq_true', decide_eq_false_iff_not, decide_eq_true_eq]
  unfold exi xast at h
  dsimp only at h
  by_cases hc : cK a = 6 ∧ ¬ i < 0 ∧ i < nI (aln a)
  · rw [if_pos (e.mpr hc)] at h
    rw [if_pos hc]
    exact ev_next h
  · rw [if_neg (fun z => hc (e.mp z))] at h
    rw [if_neg hc]
    exact ev_none h
theorem E_if {y : MI} {pc : Nat} {L : Lv} {st : List Value} {u : Mem} {P : Prop} [Decidable P] {q1 : Nat} {q2 : Lv} {q3 : List Value} {q4 : Mem} (h : stp y pc L st u = if P then some (.inl (q1, q2, q3, q4)) else none) : ev y pc L st u = if P then ev y q1 q2 q3 q4 else none := by
  by_cases hc : P
  · rw [if_pos hc] at h ⊢; exact ev_next h
  · rw [if_neg hc] at h ⊢; exact ev_none h
theorem E_ifn {y : MI} {pc : Nat} {L : Lv} {st : List Value} {u : Mem} {P : Prop} [Decidable P] {q1 : Nat} {q2 : Lv} {q3 : List Value} {q4 : Mem} (h : stp y pc L st u = if P then none else some (.inl (q1, q2, q3, q4))) : ev y pc L st u = if P then none else ev y q1 q2 q3 q4 := by
  by_cases hc : P
  · rw [if_pos hc] at h ⊢; exact ev_none h
  · rw [if_neg hc] at h ⊢; exact ev_next h
/-- what a method answers is of its kind -/
def rok (r : Option FieldType) (v : Option Value) : Prop := match r, v with
  | none, none => True
  | some .int, some (.int _) => True
  | some .boolean, some (.int _) => True
  | some .long, some (.long _) => True
  | some (.object _), some (.ref _) => True
  | _, _ => False
theorem run_kind : ∀ (n : Nat) (y : MI) (pc : Nat) (L : Lv) (st : List Value) (u : Mem) (r : Option Value) (u' : Mem), run n y pc L st u = some (r, u') → rok (mR y) r := by
  intro n
  induction n with
  | zero => intro y pc L st u r u' h; cases h
  | succ n ih =>
    intro y pc L st u r u' h
    rw [run] at h
    cases hs : stp y pc L st u with
    | none => rw [hs] at h; cases h
    | some q =>
      rw [hs] at h
      obtain ⟨pc', L', st', u1⟩ | ⟨z, vs, pc', st'⟩ | v := q
      · exact ih _ _ _ _ _ _ _ h
      · dsimp only at h
        split at h
        · cases hz : run n z 0 (ent z vs) [] u with
          | none => rw [hz] at h; cases h
          | some w => rw [hz] at h; exact ih _ _ _ _ _ _ _ h
        · cases h
      · cases h
        rcases stp_ret hs with ⟨-, h⟩ | ⟨-, h⟩ | ⟨-, h⟩ | ⟨-, h⟩
        · unfold xret at h
          split at h
          · next hr => cases h; rw [hr]; trivial
          · next hr =>
            split at h
            · cases h; rw [hr]; trivial
            · cases h
          · cases h
        · obtain ⟨x, -, rfl, h1⟩ := xretJ_inr h
          rw [h1]; trivial
        · obtain ⟨x, -, rfl, k, h1⟩ := xretA_inr h
          rw [h1]; trivial
        · obtain ⟨-, rfl, h1⟩ := xretV_inr h
          rw [h1]; trivial
theorem cal_kind {y : MI} {vs : List Value} {u u' : Mem} {r : Option Value} (h : cal y vs u = some (r, u')) : rok (mR y) r := by
  unfold cal at h
  split at h
  · obtain ⟨n, hn⟩ := ev_run h
    exact run_kind _ _ _ _ _ _ _ _ hn
  · cases h
/-- behind a call: of an int, a long, a reference, nothing -/
noncomputable def rI (o : Option (Option Value × Mem)) (y : MI) (pc : Nat) (L : Lv) (st : List Value) : Option (Option Value × Mem) := match o with
  | some (some (.int x), u) => ev y pc L (.int x :: st) u
  | _ => none
noncomputable def rJ (o : Option (Option Value × Mem)) (y : MI) (pc : Nat) (L : Lv) (st : List Value) : Option (Option Value × Mem) := match o with
  | some (some (.long x), u) => ev y pc L (.long x :: st) u
  | _ => none
noncomputable def rA (o : Option (Option Value × Mem)) (y : MI) (pc : Nat) (L : Lv) (st : List Value) : Option (Option Value × Mem) := match o with
  | some (some (.ref x), u) => ev y pc L (.ref x :: st) u
  | _ => none
noncomputable def rV (o : Option (Option Value × Mem)) (y : MI) (pc : Nat) (L : Lv) (st : List Value) : Option (Option Value × Mem) := match o with
  | some (none, u) => ev y pc L st u
  | _ => none
theorem rI_s {x : Int32} {u : Mem} {y : MI} {pc : Nat} {L : Lv} {st : List Value} : rI (some (some (.int x), u)) y pc L st = ev y pc L (.int x :: st) u := rfl
theorem rJ_s {x : Int64} {u : Mem} {y : MI} {pc : Nat} {L : Lv} {st : List Value} : rJ (some (some (.long x), u)) y pc L st = ev y pc L (.long x :: st) u := rfl
theorem rA_s {x : Nat} {u : Mem} {y : MI} {pc : Nat} {L : Lv} {st : List Value} : rA (some (some (.ref x), u)) y pc L st = ev y pc L (.ref x :: st) u := rfl
theorem rV_s {u : Mem} {y : MI} {pc : Nat} {L : Lv} {st : List Value} : rV (some (none, u)) y pc L st = ev y pc L st u := rfl
theorem E_callI {y z : MI} {pc pc' : Nat} {L : Lv} {st st' vs : List Value} {u : Mem} (hz : mR z = some .int ∨ mR z = some .boolean) (h : stp y pc L st u = some (.inr (.inl (z, vs, pc', st')))) : ev y pc L st u = rI (cal z vs u) y pc' L st' := by
  rw [ev_call h]
  cases hc : cal z vs u with
  | none => rfl
  | some q =>
    obtain ⟨r, u'⟩ := q
    have hk := cal_kind hc
    have : ∃ x, r = some (.int x) := by
      rcases hz with hz | hz <;> rw [hz] at hk <;> (match r, hk with | some (.int x), _ => exact ⟨x, rfl⟩)
    obtain ⟨x, rfl⟩ := this
    rfl
theorem E_callJ {y z : MI} {pc pc' : Nat} {L : Lv} {st st' vs : List Value} {u : Mem} (hz : mR z = some .long) (h : stp y pc L st u = some (.inr (.inl (z, vs, pc', st')))) : ev y pc L st u = rJ (cal z vs u) y pc' L st' := by
  rw [ev_call h]
  cases hc : cal z vs u with
  | none => rfl
  | some q =>
    obtain ⟨r, u'⟩ := q
    have hk := cal_kind hc
    have : ∃ x, r = some (.long x) := by
      rw [hz] at hk
      match r, hk with | some (.long x), _ => exact ⟨x, rfl⟩
    obtain ⟨x, rfl⟩ := this
    rfl
theorem E_callA {y z : MI} {n : String} {pc pc' : Nat} {L : Lv} {st st' vs : List Value} {u : Mem} (hz : mR z = some (.object n)) (h : stp y pc L st u = some (.inr (.inl (z, vs, pc', st')))) : ev y pc L st u = rA (cal z vs u) y pc' L st' := by
  rw [ev_call h]
  cases hc : cal z vs u with
  | none => rfl
  | some q =>
    obtain ⟨r, u'⟩ := q
    have hk := cal_kind hc
    have : ∃ x, r = some (.ref x) := by
      rw [hz] at hk
      match r, hk with | some (.ref x), _ => exact ⟨x, rfl⟩
    obtain ⟨x, rfl⟩ := this
    rfl
theorem E_callV {y z : MI} {pc pc' : Nat} {L : Lv} {st st' vs : List Value} {u : Mem} (hz : mR z = none) (h : stp y pc L st u = some (.inr (.inl (z, vs, pc', st')))) : ev y pc L st u = rV (cal z vs u) y pc' L st' := by
  rw [ev_call h]
  cases hc : cal z vs u with
  | none => rfl
  | some q =>
    obtain ⟨r, u'⟩ := q
    have hk := cal_kind hc
    have : r = none := by
      rw [hz] at hk
      match r, hk with | none, _ => rfl
    subst this
    rfl
/-- a call that the stack bears -/
theorem E_cif {y : MI} {pc : Nat} {L : Lv} {st : List Value} {u : Mem} {P : Prop} [Decidable P] {q : Rs} {X : Option (Option Value × Mem)} (h : stp y pc L st u = if P then some q else none) (hX : stp y pc L st u = some q → ev y pc L st u = X) : ev y pc L st u = if P then X else none := by
  by_cases hc : P
  · rw [if_pos hc] at h ⊢; exact hX h
  · rw [if_neg hc] at h ⊢; exact ev_none h
theorem xV_of {y z : MI} {i pc a : Nat} {st st' As : List Value} (hl : lk (MLs (mC y)) i = some z) (hs : mS z = false) (hh : mH z < mH y) (hA : As.length = mP z) (hst : st = As.reverse ++ .ref a :: st') : xV y i pc st = if cK a = mC z ∧ cw st' ≤ 8 then some (.inr (.inl (z, .ref a :: As, pc + 3, st'))) else none := by
  subst hst
  have h1 : As.reverse.length = mP z := by rw [List.length_reverse]; exact hA
  have hd : (As.reverse ++ .ref a :: st').drop (mP z) = .ref a :: st' := by rw [← h1, List.drop_left]
  have ht : (As.reverse ++ .ref a :: st').take (mP z) = As.reverse := by rw [← h1, List.take_left]
  unfold xV
  rw [hl]
  dsimp only
  rw [hd, ht, List.reverse_reverse]
  dsimp only
  by_cases hc : cK a = mC z ∧ cw st' ≤ 8
  · rw [if_pos hc, if_pos ⟨hs, hh, hc.1, hc.2⟩]
  · rw [if_neg hc, if_neg (fun z => hc ⟨z.2.2.1, z.2.2.2⟩)]
theorem xV_ofU {y z : MI} {i pc a : Nat} {st st' As : List Value} (h0 : lk (MLs (mC y)) i = none) (hl : lk (ULs (mC y)) i = some z) (hh : mH z < mH y) (hA : As.length = mP z) (hst : st = As.reverse ++ .ref a :: st') : xV y i pc st = if cK a = 3 ∧ cw st' ≤ 8 then some (.inr (.inl (z, .ref a :: As, pc + 3, st'))) else none := by
  subst hst
  have h1 : As.reverse.length = mP z := by rw [List.length_reverse]; exact hA
  have hd : (As.reverse ++ .ref a :: st').drop (mP z) = .ref a :: st' := by rw [← h1, List.drop_left]
  have ht : (As.reverse ++ .ref a :: st').take (mP z) = As.reverse := by rw [← h1, List.take_left]
  unfold xV
  rw [h0, hl]
  dsimp only
  rw [hd, ht, List.reverse_reverse]
  dsimp only
  by_cases hc : cK a = 3 ∧ cw st' ≤ 8
  · rw [if_pos hc, if_pos ⟨hh, hc.1, hc.2⟩]
  · rw [if_neg hc, if_neg (fun z => hc ⟨z.2.1, z.2.2⟩)]
theorem xS_of {y z : MI} {i pc : Nat} {L : Lv} {st st' As : List Value} {u : Mem} (hl : lk (MLs (mC y)) i = some z) (hs : mS z = true) (hh : mH z < mH y) (hA : As.length = mP z) (hst : st = As.reverse ++ st') : xS y i pc L st u = if cw st' ≤ 8 then some (.inr (.inl (z, As, pc + 3, st'))) else none := by
  subst hst
  have h1 : As.reverse.length = mP z := by rw [List.length_reverse]; exact hA
  have hd : (As.reverse ++ st').drop (mP z) = st' := by rw [← h1, List.drop_left]
  have ht : (As.reverse ++ st').take (mP z) = As.reverse := by rw [← h1, List.take_left]
  have hle : mP z ≤ (As.reverse ++ st').length := by rw [List.length_append]; omega
  unfold xS
  rw [hl]
  dsimp only
  rw [hd, ht, List.reverse_reverse]
  by_cases hc : cw st' ≤ 8
  · rw [if_pos hc, if_pos ⟨hs, hh, hle, hc⟩]
  · rw [if_neg hc, if_neg (fun z => hc z.2.2.2)]
/-- the Street s: its object, its rows -/
def sa (s : Nat) : Nat := 8 * s
def sr (s r : Nat) : Nat := 8 * s + r
theorem cK_sa {s : Nat} (h : s < 11) : cK (sa s) = 2 := by
  unfold cK sa
  rw [if_pos (by omega), if_pos (by omega)]
theorem cK_sr {s r : Nat} (h : s < 11) (h0 : 0 < r) (h8 : r < 8) : cK (sr s r) = 6 := by
  unfold cK sr
  rw [if_pos (by omega), if_neg (by omega)]
theorem aln_sr {s r : Nat} (h : s < 11) (h8 : r < 8) : aln (sr s r) = [0, 7, 7, 7, 7, 7, 3, 12].getD r 0 := by
  unfold aln sr
  rw [if_pos (by omega), show (8 * s + r) % 8 = r by omega]
theorem fref_sa {s k : Nat} (h : s < 11) : fref (sa s) k = sr s (k + 1) := by
  unfold fref sa sr
  rw [if_pos (by omega)]
  omega
theorem xget_saR {c i pc s k : Nat} {nest : Bool} {L : Lv} {st : List Value} {u : Mem} (hs : s < 11) (hl : lk (FLs c) i = some (nest, 2, k)) (hk : fK 2 k = 2) : xget c i pc L (.ref (sa s) :: st) u = some (.inl (pc + 3, L, .ref (sr s (k + 1)) :: st, u)) := by
  unfold xget
  rw [hl]
  dsimp only
  rw [if_pos (Or.inl (cK_sa hs)), if_pos hk, fref_sa hs]
  rfl
theorem xget_saI {c i pc s k : Nat} {nest : Bool} {L : Lv} {st : List Value} {u : Mem} (hs : s < 11) (hl : lk (FLs c) i = some (nest, 2, k)) (hk : ¬ fK 2 k = 2) {jj : Int32} (hj : nI k = jj) : xget c i pc L (.ref (sa s) :: st) u = some (.inl (pc + 3, L, .int (u (sa s) jj) :: st, u)) := by
  subst hj
  unfold xget
  rw [hl]
  dsimp only
  rw [if_pos (Or.inl (cK_sa hs)), if_neg hk]
  rfl
theorem xput_sa {c i pc s k : Nat} {nest : Bool} {L : Lv} {st : List Value} {u : Mem} {v : Int32} (hs : s < 11) (hl : lk (FLs c) i = some (nest, 2, k)) (hk : fK 2 k = 0) {jj : Int32} (hj : nI k = jj) : xput c i pc L (.int v :: .ref (sa s) :: st) u = some (.inl (pc + 3, L, st, wrm u (sa s) jj v)) := by
  subst hj
  unfold xput
  rw [hl]
  dsimp only
  rw [if_pos ⟨Or.inl (cK_sa hs), Or.inl hk⟩]
  rfl
theorem xget_o {c i pc a k ci : Nat} {nest : Bool} {L : Lv} {st : List Value} {u : Mem} (hl : lk (FLs c) i = some (nest, ci, k)) (hc : sb (cK a) ci) (hk : ¬ fK ci k = 2) {jj : Int32} (hj : nI k = jj) : xget c i pc L (.ref a :: st) u = some (.inl (pc + 3, L, .int (u a jj) :: st, u)) := by
  subst hj
  unfold xget
  rw [hl]
  dsimp only
  rw [if_pos hc, if_neg hk]
  rfl
theorem xget_r {c i pc a k ci : Nat} {nest : Bool} {L : Lv} {st : List Value} {u : Mem} (hl : lk (FLs c) i = some (nest, ci, k)) (hc : sb (cK a) ci) (hk : fK ci k = 2) : xget c i pc L (.ref a :: st) u = some (.inl (pc + 3, L, .ref (fref a k) :: st, u)) := by
  unfold xget
  rw [hl]
  dsimp only
  rw [if_pos hc, if_pos hk]
  rfl
theorem xput_o {c i pc a k ci : Nat} {nest : Bool} {L : Lv} {st : List Value} {u : Mem} {v : Int32} (hl : lk (FLs c) i = some (nest, ci, k)) (hc : sb (cK a) ci) (hk : fK ci k = 0) {jj : Int32} (hj : nI k = jj) : xput c i pc L (.int v :: .ref a :: st) u = some (.inl (pc + 3, L, st, wrm u a jj v)) := by
  subst hj
  unfold xput
  rw [hl]
  dsimp only
  rw [if_pos ⟨hc, Or.inl hk⟩]
  rfl
theorem xput_z {c i pc a k ci : Nat} {nest : Bool} {L : Lv} {st : List Value} {u : Mem} {v : Int32} (hl : lk (FLs c) i = some (nest, ci, k)) (hc : sb (cK a) ci) (hk : fK ci k = 1) {jj : Int32} (hj : nI k = jj) : xput c i pc L (.int v :: .ref a :: st) u = if v = 0 ∨ v = 1 then some (.inl (pc + 3, L, st, wrm u a jj v)) else none := by
  subst hj
  unfold xput
  rw [hl]
  dsimp only
  by_cases hv : v = 0 ∨ v = 1
  · rw [if_pos hv, if_pos ⟨hc, Or.inr ⟨hk, hv⟩⟩]
    rfl
  · rw [if_neg hv, if_neg (fun z => z.2.elim (fun z => by omega) (fun z => hv z.2))]
theorem xaald_of {pc : Nat} {L : Lv} {st : List Value} {u : Mem} {i : Int32} : xaald pc L (.int i :: .ref 90 :: st) u = if ¬ i < 0 ∧ i < 8 then some (.inl (pc + 1, L, .ref (sa (3 + i.toNatClampNeg)) :: st, u)) else none := by
  have e : 24 + 8 * i.toNatClampNeg = sa (3 + i.toNatClampNeg) := by unfold sa; omega
  unfold xaald
  dsimp only
  rw [e]
  by_cases hi : ¬ i < 0 ∧ i < 8
  · rw [if_pos hi, if_pos ⟨rfl, hi⟩]
    rfl
  · rw [if_neg hi, if_neg (fun z => hi z.2)]
theorem xS_m0 {y : MI} {i pc : Nat} {L : Lv} {st : List Value} {u : Mem} {a b : Int32} (h1 : lk (MLs (mC y)) i = none) (h2 : lk (XLs (mC y)) i = some 0) (hh : 0 < mH y) (h4 : cw st ≤ 8) : xS y i pc L (.int b :: .int a :: st) u = some (.inl (pc + 3, L, .int (if a < b then b else a) :: st, u)) := by
  unfold xS
  rw [h1, h2]
  show (if 0 < mH y ∧ cw st ≤ 8 then nx (pc + 3) L (Value.int (if a < b then b else a) :: st) u else none) = _
  rw [if_pos ⟨hh, h4⟩]
  rfl
theorem xS_m1 {y : MI} {i pc : Nat} {L : Lv} {st : List Value} {u : Mem} {a b : Int32} (h1 : lk (MLs (mC y)) i = none) (h2 : lk (XLs (mC y)) i = some 1) (hh : 0 < mH y) (h4 : cw st ≤ 8) : xS y i pc L (.int b :: .int a :: st) u = some (.inl (pc + 3, L, .int (if b < a then b else a) :: st, u)) := by
  unfold xS
  rw [h1, h2]
  show (if 0 < mH y ∧ cw st ≤ 8 then nx (pc + 3) L (Value.int (if b < a then b else a) :: st) u else none) = _
  rw [if_pos ⟨hh, h4⟩]
  rfl
theorem xS_m2 {y : MI} {i pc : Nat} {L : Lv} {st : List Value} {u : Mem} {a : Int32} (h1 : lk (MLs (mC y)) i = none) (h2 : lk (XLs (mC y)) i = some 2) (hh : 0 < mH y) (h4 : cw st ≤ 8) : xS y i pc L (.int a :: st) u = some (.inl (pc + 3, L, .int (if 0 ≤ a then a else 0 - a) :: st, u)) := by
  unfold xS
  rw [h1, h2]
  show (if 0 < mH y ∧ cw st ≤ 8 then nx (pc + 3) L (Value.int (if 0 ≤ a then a else 0 - a) :: st) u else none) = _
  rw [if_pos ⟨hh, h4⟩]
  rfl
theorem E_zret {y : MI} {pc : Nat} {L : Lv} {st : List Value} {u : Mem} {v : Int32} (h : stp y pc L st u = if v = 0 ∨ v = 1 then some (.inr (.inr (some (.int v)))) else none) : ev y pc L st u = if v = 0 ∨ v = 1 then some (some (.int v), u) else none := by
  by_cases hc : v = 0 ∨ v = 1
  · rw [if_pos hc] at h ⊢; exact ev_ret h
  · rw [if_neg hc] at h ⊢; exact ev_none h
theorem sw_val {x : Int32} {lo hi : Int} {n : Nat} (h : ¬ (x.toInt < lo ∨ hi < x.toInt)) (hn : hi - lo = n) : ∃ j : Nat, j ≤ n ∧ x.toInt = lo + j := ⟨(x.toInt - lo).toNat, by omega, by omega⟩
theorem stp_get {y : MI} {pc i : Nat} {L : Lv} {st : List Value} {u : Mem} {r : Option Rs} (hd : decode (mB y) pc = .ok (.getfield i, 3)) (h : xget (mC y) i pc L st u = r) : stp y pc L st u = r := stp_of hd (Or.inr rfl) h
theorem stp_put {y : MI} {pc i : Nat} {L : Lv} {st : List Value} {u : Mem} {r : Option Rs} (hd : decode (mB y) pc = .ok (.putfield i, 3)) (h : xput (mC y) i pc L st u = r) : stp y pc L st u = r := stp_of hd (Or.inr rfl) h
theorem stp_virt {y : MI} {pc i : Nat} {L : Lv} {st : List Value} {u : Mem} {r : Option Rs} (hd : decode (mB y) pc = .ok (.invokevirtual i, 3)) (h : xV y i pc st = r) : stp y pc L st u = r := stp_of hd (Or.inr rfl) h
theorem stp_stat {y : MI} {pc i : Nat} {L : Lv} {st : List Value} {u : Mem} {r : Option Rs} (hd : decode (mB y) pc = .ok (.invokestatic i, 3)) (h : xS y i pc L st u = r) : stp y pc L st u = r := stp_of hd (Or.inr rfl) h
theorem stp_aald {y : MI} {pc : Nat} {L : Lv} {st : List Value} {u : Mem} {r : Option Rs} (hd : decode (mB y) pc = .ok (.aaload, 1)) (h : xaald pc L st u = r) : stp y pc L st u = r := stp_of hd (Or.inr rfl) h

/-! ALL OF IT: what the small machine comes to, a contract says of the machine -/
section SIM5
variable {p : Program} {l : Launch} {e : Env} {s : State} {m : MethodId} {args : Array Value} {below : List Frame} {meth : Method} {c : Code} {H : Heap} {locs : List Loc} {Q : State → Prop}
variable {D : va_G} {rho : Nat → Nat} {cI cS : ClassId} {A : Nat → Prop}
theorem sim_ret {y : MI} {pc : Nat} {L : Lv} {st : List Value} {u : Mem} {v : Option Value} (C : CX D rho cI cS A y p s m args meth c) (h : stp y pc L st u = some (.inr (.inr v))) {arr : Array Slot} (hP : va_P D vwCl (wl rho cI cS u) H) (hS : va_S A s.heap H locs) : W p l e (rmY y) s m args below meth c H locs 0 0 (MQ below (QQ D rho cI cS v u A) args s 0 0 A) (F0 m pc arr (st.map (cv rho))) := by
  obtain ⟨hx, hb, hml, hr, hown, hts, hlocks, hK, hN, hi, hA, hAr, hmc⟩ := C
  have hq : ∀ t : State, t.heap = H → s.WarmedH t.vm → QQ D rho cI cS v u A args s (.returned (v.map (cv rho))) t := fun t ht _ => ⟨⟨rfl, by rw [ht]; exact hP⟩, hS.F ht⟩
  rcases stp_ret h with ⟨hd, h⟩ | ⟨hd, h⟩ | ⟨hd, h⟩ | ⟨hd, h⟩
  · obtain ⟨x, rfl, rfl, ty, h1, h2⟩ := xret_inr h
    exact W.zret (v := x) hx hb (by rw [hr]; exact h1) h2 hq hS.2.2 hd
  · obtain ⟨x, rfl, rfl, h1⟩ := xretJ_inr h
    exact W.lret (v := x) hx hb (by rw [hr]; exact h1) hq hS.2.2 hd
  · obtain ⟨x, rfl, rfl, n, h1⟩ := xretA_inr h
    exact W.aret (v := .ref (rho x)) hx hb (by rw [hr]; exact h1) (Or.inl ⟨n, rfl⟩) (Or.inr ⟨_, rfl⟩) hq hS.2.2 hd
  · obtain ⟨rfl, rfl, h1⟩ := xretV_inr h
    exact W.vret hx hb (by rw [hr]; exact h1) hq hS.2.2 hd
theorem xV_inr {y z : MI} {i pc pc' : Nat} {st st' vs : List Value} (h : xV y i pc st = some (.inr (.inl (z, vs, pc', st')))) : ∃ a As, ((lk (MLs (mC y)) i = some z ∧ mS z = false ∧ cK a = mC z) ∨ (lk (ULs (mC y)) i = some z ∧ cK a = 3)) ∧ mH z < mH y ∧ cw st' ≤ 8 ∧ vs = .ref a :: As ∧ As.length = mP z ∧ st = As.reverse ++ .ref a :: st' ∧ pc' = pc + 3 := by
  unfold xV at h
  generalize lk (MLs (mC y)) i = o at h ⊢
  cases o with
  | none =>
    dsimp only at h
    generalize lk (ULs (mC y)) i = o2 at h ⊢
    cases o2 with
    | none => cases h
    | some z0 =>
      dsimp only at h
      generalize hd : st.drop (mP z0) = w at h
      match w, h with
      | .ref a :: st0, h =>
        dsimp only at h
        split at h
        · next hc =>
          cases h
          have hlt : mP z < st.length := by
            have := congrArg List.length hd
            simp at this
            omega
          refine ⟨a, (st.take (mP z)).reverse, Or.inr ⟨rfl, hc.2.1⟩, hc.1, hc.2.2, rfl, by simp; omega, ?_, rfl⟩
          rw [List.reverse_reverse, ← hd, List.take_append_drop]
        · cases h
  | some z0 =>
    dsimp only at h
    generalize hd : st.drop (mP z0) = w at h
    match w, h with
    | .ref a :: st0, h =>
      dsimp only at h
      split at h
      · next hc =>
        cases h
        have hlt : mP z < st.length := by
          have := congrArg List.length hd
          simp at this
          omega
        refine ⟨a, (st.take (mP z)).reverse, Or.inl ⟨rfl, hc.1, hc.2.2.1⟩, hc.2.1, hc.2.2.2, rfl, by simp; omega, ?_, rfl⟩
        rw [List.reverse_reverse, ← hd, List.take_append_drop]
      · cases h
theorem xM_inr {k : Nat} {y z : MI} {pc pc' : Nat} {L : Lv} {st st' vs : List Value} {u : Mem} (h : xM k y pc L st u = some (.inr (.inl (z, vs, pc', st')))) : False := by
  unfold xM at h
  split at h
  · split at h <;> cases h
  · split at h <;> cases h
  · split at h <;> cases h
  · cases h
theorem xS_inr {y z : MI} {i pc pc' : Nat} {L : Lv} {st st' vs : List Value} {u : Mem} (h : xS y i pc L st u = some (.inr (.inl (z, vs, pc', st')))) : lk (MLs (mC y)) i = some z ∧ mS z = true ∧ mH z < mH y ∧ cw st' ≤ 8 ∧ vs.length = mP z ∧ st = vs.reverse ++ st' ∧ pc' = pc + 3 := by
  unfold xS at h
  generalize lk (MLs (mC y)) i = o at h ⊢
  cases o with
  | none =>
    dsimp only at h
    generalize lk (XLs (mC y)) i = o2 at h
    cases o2 with
    | none => cases h
    | some k => exact (xM_inr h).elim
  | some z0 =>
    dsimp only at h
    split at h
    · next hc =>
      cases h
      refine ⟨rfl, hc.1, hc.2.1, hc.2.2.2, by simp; omega, ?_, rfl⟩
      rw [List.reverse_reverse, List.take_append_drop]
    · cases h
theorem okz {y z : MI} {i : Nat} (hmc : mC y < 6) (h : lk (MLs (mC y)) i = some z) : TW (.methodLink (RC (mC y)) i (mN z)) ∧ OKm z := lk_all (P := fun i z => TW (.methodLink (RC (mC y)) i (mN z)) ∧ OKm z) (fun x hx => okMLs (mC y) hmc x hx) h
theorem fits_R {y z : MI} (h : mH z < mH y) (hz : mL z ≤ 15) : (rmY z).frames + 1 ≤ (rmY y).frames ∧ 8 + (mL z + 11) + (rmY z).locals ≤ (rmY y).locals := by
  show mH z + 1 ≤ mH y ∧ 8 + (mL z + 11) + 34 * mH z ≤ 34 * mH y
  omega
theorem goodV {y z : MI} {i : Nat} (hmc : mC y < 6) (hz : TW (.methodLink (RC (mC y)) i (mN z)) ∧ OKm z) (hs : mS z = false) : GoodIn (wsY y) (wsV (RC (mC y)) i (RC (mC z)) (mN z) (wsY z)) := by
  obtain ⟨hl, hz⟩ := hz
  have hk := hz
  obtain ⟨h1, h2, ⟨h3, -⟩, -, h5, -⟩ := hz
  obtain ⟨h6, h7⟩ := h5 hs
  rw [h3] at h7 h2
  intro w hw
  unfold wsV at hw
  rcases List.mem_append.mp hw with hw | hw
  · have key : TW w := by
      simp only [List.mem_cons, List.not_mem_nil, or_false] at hw
      rcases hw with rfl | rfl | rfl | rfl
      · exact hl
      · exact h6
      · exact h7
      · exact h2
    exact ⟨key.inY y, good_of_word key.2⟩
  · exact goodY y z hk w hw
theorem goodS {y z : MI} {i : Nat} (hmc : mC y < 6) (hz : TW (.methodLink (RC (mC y)) i (mN z)) ∧ OKm z) (hs : mS z = true) (hcl : mC z = mC y) : GoodIn (wsY y) (wsS (RC (mC y)) i (mN z) (wsY z)) := by
  obtain ⟨hl, hz⟩ := hz
  have hk := hz
  obtain ⟨h1, h2, ⟨h3, -⟩, h4, -⟩ := hz
  have h6 := h4 hs
  rw [h3, hcl] at h2
  intro w hw
  unfold wsS at hw
  rcases List.mem_append.mp hw with hw | hw
  · have key : TW w := by
      simp only [List.mem_cons, List.not_mem_nil, or_false] at hw
      rcases hw with rfl | rfl | rfl
      · exact hl
      · exact h6
      · exact h2
    exact ⟨key.inY y, good_of_word key.2⟩
  · exact goodY y z hk w hw
theorem goodU {y z : MI} {i : Nat} (hu : uOK (mC y) (i, z)) : GoodIn (wsY y) (va_wsU (RC (mC y)) i (RC 3) (RC 0) (uX z) (mN z) (wsY z)) := by
  obtain ⟨u1, u2, u3, hz, u5, u6⟩ := hu
  have hk := hz
  obtain ⟨h1, h2, ⟨h3, -⟩, -, h5, -⟩ := hz
  obtain ⟨h6, h7⟩ := h5 u6
  intro w hw
  unfold va_wsU at hw
  rcases List.mem_append.mp hw with hw | hw
  · have key : TW w := by
      simp only [List.mem_cons, List.not_mem_nil, or_false] at hw
      rcases hw with rfl | rfl | rfl | rfl | rfl
      · exact u1
      · exact u2
      · exact u3
      · exact h6
      · exact h2
    exact ⟨key.inY y, good_of_word key.2⟩
  · exact goodY y z hk w hw
/-- a static method that is linked is the class's own -/
theorem own_S : ∀ c, c < 6 → ∀ x ∈ MLs c, mS x.2 = true → mC x.2 = c := by
  intro c hc
  rcases (show c = 0 ∨ c = 1 ∨ c = 2 ∨ c = 3 ∨ c = 4 ∨ c = 5 by omega) with rfl | rfl | rfl | rfl | rfl | rfl
  all_goals decide +kernel
theorem sim_call {y z : MI} {pc pc' : Nat} {L : Lv} {st st' vs : List Value} {u u' : Mem} {v : Option Value} (C : CX D rho cI cS A y p s m args meth c) (h : stp y pc L st u = some (.inr (.inl (z, vs, pc', st')))) (hM : OKm z → CT l D rho cI cS z vs u v u') (K : KN D rho cI cS A y p l e (rmY y) s m args below meth c Q pc' L (v.toList ++ st') u') {arr : Array Slot} (hP : va_P D vwCl (wl rho cI cS u) H) (hS : va_S A s.heap H locs) (hL : LR rho (mL y) L arr) : W p l e (rmY y) s m args below meth c H locs 0 0 Q (F0 m pc arr (st.map (cv rho))) := by
  obtain ⟨hx, hb, hml, hr, hown, hts, hlocks, hK, hN, hi, hA, hAr, hmc⟩ := C
  have hsub : ∀ q, va_A (wl rho cI cS u) H.size q → A q := wl_A hAr (fun q hq => hA q (Nat.le_trans hS.1 hq))
  have hgo : ∀ (t : State) (H1 : Heap) (locs1 : List Loc), t.heap = H1 → va_P D vwCl (wl rho cI cS u') t.heap → va_S A s.heap H1 locs1 → W p l e (rmY y) s m args below meth c H1 locs1 0 0 Q (F0 m pc' arr ((v.map (cv rho)).toList ++ st'.map (cv rho))) := by
    intro t H1 locs1 e1 hP1 hS1
    rw [e1] at hP1
    have := K _ _ _ hP1 hS1 hL
    rw [List.map_append] at this
    cases v <;> exact this
  have hwd : ∀ U : State, U.heap = H → s.WarmedH U.vm → WD D rho cI cS u H.size U := fun U hU hW => ⟨by rw [hU], by rw [hU]; exact hP, va_K.moved hW.alike hK, hi, hN.warm hW⟩
  rcases stp_call h with ⟨i, hdg, hc⟩ | ⟨i, hdg, hc⟩
  · obtain ⟨a, As, ⟨hlk2, hs, hka⟩ | ⟨hlk2, hka⟩, hlt, h4, rfl, hAs, rfl, rfl⟩ := xV_inr hc
    · have hz := okz hmc hlk2
      obtain ⟨-, -, ⟨hz1, hz2, hz3, hz4⟩, -, -, hz5, hz6, hz7⟩ := hz.2
      have hcw := cwV (R := rmY y) (mP z) hts (goodV hmc hz hs) rfl rfl rfl ⟨hz1, hz2, hz3, hz4⟩ (fits_R hlt hz5)
      have ha : a < 112 := cK_lt (by omega)
      have hat := wl_at (rho := rho) (cI := cI) (cS := cS) (u := u) ha
      rw [cell_obj hka hz7] at hat
      have hrec := va_recv hK hP (vwCl_at (mC z) hz7) hat
      have hrun := va_runV (e := e) (below := below) (meth := meth) (locs := locs) (cells := 0) (slots := 0) (b := rho a) (As := As.map (cv rho)) (rest := st'.map (cv rho)) (g := F0 m pc arr ((As.reverse ++ .ref a :: st').map (cv rho))) ⟨hx, hb, hml, hown, hts⟩ (hM hz.2 H.size) hcw ⟨WD_blind, hrec, fun U hU hW => ⟨rfl, hwd U hU hW⟩⟩ rfl (by rw [List.length_map]; exact hAs) hL.1 (by simp [cv]) (lv_room (cats4 h4)) hdg ⟨Nat.zero_le _, Nat.zero_le _⟩
      exact va_callg (a := #[]) hrun hS (fun q _ hq => hsub q hq) hsub hgo
    · have hu : uOK (mC y) (i, z) := lk_all (P := fun i z => uOK (mC y) (i, z)) (fun x hx => okULs (mC y) hmc x hx) hlk2
      have hgu := goodU hu
      obtain ⟨-, -, -, hzo, u5, u6⟩ := hu
      obtain ⟨-, -, ⟨hz1, hz2, hz3, hz4⟩, -, -, hz5, hz6, hz7⟩ := id hzo
      have e0 : RC 0 = (mN z).cls := by rw [hz1, u5]
      have hyx : mN z = ⟨RC 0, (uX z).name, (uX z).desc⟩ := by
        rw [e0]
        rfl
      have hcw := va_cwU (R := rmY y) (mP z) hts hgu rfl rfl rfl hyx ⟨by decide, by decide, hz4⟩ (fits_R hlt hz5)
      have ha : a < 112 := cK_lt (by omega)
      have hat := wl_at (rho := rho) (cI := cI) (cS := cS) (u := u) ha
      rw [cell_obj hka (by decide)] at hat
      have hrec := va_recv hK hP (vwCl_at 3 (by decide)) hat
      have hrun := va_runU (e := e) (below := below) (meth := meth) (locs := locs) (cells := 0) (slots := 0) (b := rho a) (As := As.map (cv rho)) (rest := st'.map (cv rho)) (g := F0 m pc arr ((As.reverse ++ .ref a :: st').map (cv rho))) ⟨hx, hb, hml, hown, hts⟩ (hM hzo H.size) hcw ⟨WD_blind, hrec, fun U hU hW => ⟨rfl, hwd U hU hW⟩⟩ rfl (by rw [List.length_map]; exact hAs) hL.1 (by simp [cv]) (lv_room (cats4 h4)) hdg ⟨Nat.zero_le _, Nat.zero_le _⟩
      exact va_callg (a := #[]) hrun hS (fun q _ hq => hsub q hq) hsub hgo
  · obtain ⟨hlk2, hs, hlt, h4, hAs, rfl, rfl⟩ := xS_inr hc
    have hz := okz hmc hlk2
    have hcl : mC z = mC y := lk_all (P := fun _ z => mS z = true → mC z = mC y) (fun x hx => own_S (mC y) hmc x hx) hlk2 hs
    obtain ⟨-, -, ⟨hz1, hz2, hz3, hz4⟩, -, -, hz5, hz6, hz7⟩ := hz.2
    have hcw := cwS (R := rmY y) (mP z) hts (goodS hmc hz hs hcl) rfl rfl rfl ⟨by rw [hz1, hcl], hz2, hz3, hz4⟩ (fits_R hlt hz5)
    have hrun := va_runS (e := e) (below := below) (meth := meth) (locs := locs) (cells := 0) (slots := 0) (As := vs.map (cv rho)) (rest := st'.map (cv rho)) (g := F0 m pc arr ((vs.reverse ++ st').map (cv rho))) ⟨hx, hb, hml, hown, hts⟩ (hM hz.2 H.size) hcw ⟨WD_blind, fun U hU hW => ⟨rfl, hwd U hU hW⟩⟩ rfl (by rw [List.length_map]; exact hAs) hL.1 (by simp) (lv_room (cats4 h4)) hdg ⟨Nat.zero_le _, Nat.zero_le _⟩
    exact va_callg (a := #[]) hrun hS (fun q _ hq => hsub q hq) hsub hgo
/-- within a method -/
theorem sim_run (l : Launch) : ∀ (n : Nat) {y : MI} {p : Program} {e : Env} {s : State} {m : MethodId} {args : Array Value} {below : List Frame} {meth : Method} {c : Code} {A : Nat → Prop}, CX D rho cI cS A y p s m args meth c → ∀ (pc : Nat) (L : Lv) (st : List Value) (u : Mem) (r : Option Value) (u' : Mem), run n y pc L st u = some (r, u') → KN D rho cI cS A y p l e (rmY y) s m args below meth c (MQ below (QQ D rho cI cS r u' A) args s 0 0 A) pc L st u := by
  intro n
  induction n with
  | zero => intro y p e s m args below meth c A C pc L st u r u' h; cases h
  | succ n ih =>
    intro y p e s m args below meth c A C pc L st u r u' h H locs arr hP hS hL
    rw [run] at h
    cases hs : stp y pc L st u with
    | none => rw [hs] at h; cases h
    | some q =>
      rw [hs] at h
      obtain ⟨pc', L', st', u1⟩ | ⟨z, vs, pc', st'⟩ | v := q
      · exact sim_next C rfl hs (ih C _ _ _ _ _ _ h) hP hS hL
      · dsimp only at h
        split at h
        · next hl =>
          cases hz : run n z 0 (ent z vs) [] u with
          | none => rw [hz] at h; cases h
          | some w =>
            obtain ⟨v, u1⟩ := w
            rw [hz] at h
            refine sim_call C hs (v := v) (u' := u1) (fun hok sz => ?_) (ih C _ _ _ _ _ _ h) hP hS hL
            refine Met.ofW (cc := mB z) (maxL := mL z) (ret := mR z) hok.2.2.2.2.2.2.1 rfl ?_
            intro p2 e2 s2 m2 args2 below2 meth2 c2 s₁ B hml hv
            obtain ⟨rfl, hsz, hP2, hK2, hi2, hN2⟩ := hv
            subst hsz
            have hA2 : ∀ q, s2.heap.size ≤ q → va_A (wl rho cI cS u) s2.heap.size q := fun q hq => Or.inr hq
            have hAr2 : ∀ k, k < 112 → va_A (wl rho cI cS u) s2.heap.size (rho k) := fun k hk => wl_A_in hk
            have hown2 : s2.vm.findClass (RC (mC z)) = some m2.cls := by
              rw [← hok.2.2.1.1]
              exact findClass_of_methodNamed B.named
            have C2 : CX D rho cI cS (va_A (wl rho cI cS u) s2.heap.size) z p2 s2 m2 (vs.map (cv rho)).toArray meth2 c2 := ⟨B.exec, B.bytes, hml, B.returns, hown2, atoms_spec (ws := wsY z) B.pre, B.notSynchronized, hK2, hN2, hi2, hA2, hAr2, hok.2.2.2.2.2.2.2⟩
            rw [lg_entry_eq]
            exact ih C2 0 (ent z vs) [] u v u1 hz s2.heap [] _ hP2 va_S.rf (LR.entry hl)
        · cases h
      · cases h
        exact sim_ret C hs hP hS
/-- a method's contract, out of what the small machine comes to -/
theorem ct_of {y : MI} (hok : OKm y) {vs : List Value} {u u' : Mem} {r : Option Value} (h : cal y vs u = some (r, u')) : CT l D rho cI cS y vs u r u' := by
  unfold cal at h
  split at h
  · next hl =>
    obtain ⟨n, hn⟩ := ev_run h
    intro sz
    refine Met.ofW (cc := mB y) (maxL := mL y) (ret := mR y) hok.2.2.2.2.2.2.1 rfl ?_
    intro p2 e2 s2 m2 args2 below2 meth2 c2 s₁ B hml hv
    obtain ⟨rfl, hsz, hP2, hK2, hi2, hN2⟩ := hv
    subst hsz
    have hown2 : s2.vm.findClass (RC (mC y)) = some m2.cls := by
      rw [← hok.2.2.1.1]
      exact findClass_of_methodNamed B.named
    have C2 : CX D rho cI cS (va_A (wl rho cI cS u) s2.heap.size) y p2 s2 m2 (vs.map (cv rho)).toArray meth2 c2 := ⟨B.exec, B.bytes, hml, B.returns, hown2, atoms_spec (ws := wsY y) B.pre, B.notSynchronized, hK2, hN2, hi2, fun q hq => Or.inr hq, fun k hk => wl_A_in hk, hok.2.2.2.2.2.2.2⟩
    rw [lg_entry_eq]
    exact sim_run l n C2 0 (ent y vs) [] u r u' hn s2.heap [] _ hP2 va_S.rf (LR.entry hl)
  · cases h
end SIM5

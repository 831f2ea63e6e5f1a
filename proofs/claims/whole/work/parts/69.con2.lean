/-! the constructors' rows -/
section CON2
variable {p : Program} {l : Launch} {e : Env} {R : Room} {s : State} {m : MethodId} {args : Array Value} {below : List Frame} {meth : Method} {c : Code} {H : Heap} {locs : List Loc} {cells slots : Nat} {Q : State → Prop}
variable {D : va_G} {cI cS : ClassId} {A : Nat → Prop} {y : MI} {pc : Nat} {ls : Array Slot} {rest : List Value} {ws : va_W}
theorem kc_puto {i k a q0 o : Nat} {fs : List Value} {v : Value} {ty : FieldType} (C : CC D cI cS A y p s m meth c args) (ho : sb o (mC y)) (hdecl : (TFs (mC y) k).1 = RC (mC y)) (hl : lk (FLs (mC y)) i = some (false, mC y, k)) (he : ws[q0]? = some (a, .inr (o, fs))) (hd : tyFs o k = ty) (hn : narrow ty v = v) (hfit : fits ty v = true) (hlen : k < fs.length)
    (hP : va_P D vwCl ws H) (hD : va_D A ws) (hS : va_S A s.heap H locs) (hdg : decode (mB y) pc = .ok (.putfield i, 3))
    (kk : ∀ (H1 : Heap) (locs1 : List Loc), va_P D vwCl (ws.set q0 (a, .inr (o, fs.set k v))) H1 → va_D A (ws.set q0 (a, .inr (o, fs.set k v))) → va_S A s.heap H1 locs1 → W p l e R s m args below meth c H1 locs1 cells slots Q (F0 m (pc + 3) ls rest)) : W p l e R s m args below meth c H locs cells slots Q (F0 m pc ls (v :: .ref a :: rest)) := by
  obtain ⟨hx, hb, hml, hown, hts, hK, hnm2, hA, h1, -, -⟩ := C
  have h3 := lk_all (P := fun i x => fOK (mC y) i x) (fun x hx => okFLs (mC y) h1 x hx) hl
  have h2 : k < NFs (mC y) := h3.2.1
  have h4 : TW (.fieldLink (RC (mC y)) i (RC (mC y)) (TFs (mC y) k).2.1 (TFs (mC y) k).2.2.1) := h3.2.2.2
  have hsame := fld_same hts (sb_same ho h1).2.1 (Or.inl hdecl)
  obtain ⟨g1, g2, g3, -⟩ := sb_same ho h1
  rw [← g3] at h2
  rw [← g2] at h4 hdecl
  have hin := u_wsY g1 y
  have hty := tyFs_ok o g1 k h2
  rw [hd] at hty
  have hcl := vwCl_at o g1
  have ht0 := tyFs_ok o g1
  have hnm := nmFs o g1
  cases hfin : (TFs o k).2.2.2 with
  | true => exact va_putF hx hb hts hin (tyFs o) ht0 hnm hown hK.1 hP hD hS q0 he hcl k h2 (hts _ (TW.inY h4 y)) hsame hfin hnm2 hdecl hty hn hfit hlen hdg kk
  | false => exact va_put hx hb hts hin (tyFs o) ht0 hnm hown hK.1 hP hD hS q0 he hcl k h2 (hts _ (TW.inY h4 y)) hsame hfin hty hn hfit hlen hdg kk
theorem kc_put {i k a q0 : Nat} {fs : List Value} {v : Value} {ty : FieldType} (C : CC D cI cS A y p s m meth c args) (hl : lk (FLs (mC y)) i = some (false, mC y, k)) (he : ws[q0]? = some (a, .inr (mC y, fs))) (hd : tyFs (mC y) k = ty) (hn : narrow ty v = v) (hfit : fits ty v = true) (hlen : k < fs.length)
    (hP : va_P D vwCl ws H) (hD : va_D A ws) (hS : va_S A s.heap H locs) (hdg : decode (mB y) pc = .ok (.putfield i, 3))
    (kk : ∀ (H1 : Heap) (locs1 : List Loc), va_P D vwCl (ws.set q0 (a, .inr (mC y, fs.set k v))) H1 → va_D A (ws.set q0 (a, .inr (mC y, fs.set k v))) → va_S A s.heap H1 locs1 → W p l e R s m args below meth c H1 locs1 cells slots Q (F0 m (pc + 3) ls rest)) (hne : mC y ≠ 3 := by decide) : W p l e R s m args below meth c H locs cells slots Q (F0 m pc ls (v :: .ref a :: rest)) := by
  have h1 := C.2.2.2.2.2.2.2.2.1
  have h3 := lk_all (P := fun i x => fOK (mC y) i x) (fun x hx => okFLs (mC y) h1 x hx) hl
  exact kc_puto C (Or.inl rfl) (TFs_own (mC y) h1 hne k h3.2.1) hl he hd hn hfit hlen hP hD hS hdg kk
/-- a new row -/
def zr (cI : ClassId) (q N : Nat) : Nat × va_E := (q, .inl (cI, N, .inl (fun _ => 0)))
theorem tw_int : TW (.arrayClass .int) := tw_t 56 (by decide +kernel) (by decide +kernel)
theorem kc_newarr {n : Int32} {N : Nat} (C : CC D cI cS A y p s m meth c args) (hn : ¬ n < 0) (hN : n.toNatClampNeg = N) (hbytes : N * componentBytes .int ≤ 536870912) (hcells : cells + 1 ≤ R.cells) (hslots : slots + N ≤ R.slots)
    (hP : va_P D vwCl ws H) (hD : va_D A ws) (hS : va_S A s.heap H locs) (hdg : decode (mB y) pc = .ok (.newarray .int, 2))
    (kk : ∀ (q : Nat) (H1 : Heap), va_P D vwCl (ws ++ [zr cI q N]) H1 → va_D A (ws ++ [zr cI q N]) → va_S A s.heap H1 locs → W p l e R s m args below meth c H1 locs (cells + 1) (slots + N) Q (F0 m (pc + 2) ls (.ref q :: rest))) : W p l e R s m args below meth c H locs cells slots Q (F0 m pc ls (.int n :: rest)) := by
  obtain ⟨hx, hb, hml, hown, hts, hK, hnm2, hA, h1, -, -⟩ := C
  refine va_newa (atype := .int) (ty := .int) (N' := N) (a0 := (N, .inl (fun _ => 0))) hx hb (hts (.arrayClass .int) (TW.inY tw_int y)) rfl hK.1 hP hD hS hA (fun cA => rfl) hn hN hbytes hcells hslots hdg (fun q cA H1 hK1 hP hD hS => ?_)
  have e1 : s.vm.findClass ("[" ++ (FieldType.int).toString) = some cA := (hK1.2 2 (cA, .int) rfl).2
  have e2 : s.vm.findClass ("[" ++ (FieldType.int).toString) = some cI := (hK.1.2 0 (cI, .int) rfl).2
  have e3 : cA = cI := Option.some.inj (e1.symm.trans e2)
  subst e3
  exact kk q H1 hP hD hS
/-- aload_0; a length; newarray; putfield -/
theorem kc_newf {a i k N w : Nat} {n : Int32} {fs : List Value} {ty : FieldType} (C : CC D cI cS A y p s m meth c args) (hpush : ∀ (H : Heap) (locs : List Loc) (cells slots : Nat), W p l e R s m args below meth c H locs cells slots Q (F0 m (pc + 1 + w) ls [.int n, .ref a]) → W p l e R s m args below meth c H locs cells slots Q (F0 m (pc + 1) ls [.ref a]))
    (hl : lk (FLs (mC y)) i = some (false, mC y, k)) (he : ws[0]? = some (a, .inr (mC y, fs))) (hd : tyFs (mC y) k = ty) (hn : ∀ q, narrow ty (.ref q) = .ref q) (hfit : ∀ q, fits ty (.ref q) = true) (hlen : k < fs.length)
    (hn0 : ¬ n < 0) (hN : n.toNatClampNeg = N) (hbytes : N * componentBytes .int ≤ 536870912) (hcells : cells + 1 ≤ R.cells) (hslots : slots + N ≤ R.slots) {pc2 : Nat} (hpc : pc2 = pc + 1 + w)
    (hP : va_P D vwCl ws H) (hD : va_D A ws) (hS : va_S A s.heap H locs) (d0 : decode (mB y) pc = .ok (.aload_n 0, 1)) (d1 : decode (mB y) pc2 = .ok (.newarray .int, 2)) (d2 : decode (mB y) (pc2 + 2) = .ok (.putfield i, 3)) (hls : ls[0]? = some (.val (.ref a)))
    (kk : ∀ (q : Nat) (H1 : Heap) (locs1 : List Loc), va_P D vwCl ((ws ++ [zr cI q N]).set 0 (a, .inr (mC y, fs.set k (.ref q)))) H1 → va_D A ((ws ++ [zr cI q N]).set 0 (a, .inr (mC y, fs.set k (.ref q)))) → va_S A s.heap H1 locs1 → W p l e R s m args below meth c H1 locs1 (cells + 1) (slots + N) Q (F0 m (pc2 + 5) ls [])) (hne : mC y ≠ 3 := by decide) : W p l e R s m args below meth c H locs cells slots Q (F0 m pc ls []) := by
  have hx := C.1
  have hb := C.2.1
  subst hpc
  refine lv_aload_n hx hb d0 rfl hls ?_
  refine hpush _ _ _ _ ?_
  refine kc_newarr C hn0 hN hbytes hcells hslots hP hD hS d1 (fun q H1 hP hD hS => ?_)
  refine kc_put (q0 := 0) (fs := fs) C hl ?_ hd (hn q) (hfit q) hlen hP hD hS d2 (fun H1 locs1 hP hD hS => kk q H1 locs1 hP hD hS) hne
  rw [List.getElem?_append_left ((List.getElem?_eq_some_iff.mp he).1)]
  exact he
/-- one of the places that nobody was seen at -/
theorem kc_seen {a i k t q off2 : Nat} {fs : List Value} {f : Nat → Int32} {x : Int32} (C : CC D cI cS A y p s m meth c args) (hmc : mL y = 2) (hl : lk (FLs (mC y)) i = some (false, mC y, k)) (he : ws[0]? = some (a, .inr (mC y, fs))) (hk : fs[k]? = some (.ref q)) (hq : ws[t]? = some (q, .inl (cI, 3, .inl f))) (h0 : ¬ (3 : Int32) ≤ x) (hin : vp_in x 3) (ho : pc + 17 + 2 = off2)
    (hP : va_P D vwCl ws H) (hD : va_D A ws) (hS : va_S A s.heap H locs) (hls : lv_has ls (mL y) [(1, .int x), (0, .ref a)])
    (d0 : decode (mB y) pc = .ok (.iload_n 1, 1)) (d1 : decode (mB y) (pc + 1) = .ok (.iconst 3, 1)) (d2 : decode (mB y) (pc + 2) = .ok (.if_icmp .ge 17, 3)) (d3 : decode (mB y) (pc + 5) = .ok (.aload_n 0, 1)) (d4 : decode (mB y) (pc + 6) = .ok (.getfield i, 3)) (d5 : decode (mB y) (pc + 9) = .ok (.iload_n 1, 1)) (d6 : decode (mB y) (pc + 10) = .ok (.bipush 90, 2)) (d7 : decode (mB y) (pc + 12) = .ok (.iastore, 1)) (d8 : decode (mB y) (pc + 13) = .ok (.iinc 1 1, 3)) (d9 : decode (mB y) (pc + 16) = .ok (.goto (-16), 3))
    (kk : ∀ (H1 : Heap) (locs1 : List Loc) (ls1 : Array Slot), lv_has ls1 (mL y) [(1, .int (x + 1)), (0, .ref a)] → va_P D vwCl (ws.set t (q, .inl (cI, 3, .inl (upd f x.toNatClampNeg 90)))) H1 → va_D A (ws.set t (q, .inl (cI, 3, .inl (upd f x.toNatClampNeg 90)))) → va_S A s.heap H1 locs1 → W p l e R s m args below meth c H1 locs1 cells slots Q (F0 m pc ls1 [])) (hne : mC y ≠ 3 := by decide) : W p l e R s m args below meth c H locs cells slots Q (F0 m pc ls []) := by
  obtain ⟨hx, hb, hml, hown, hts, hK, hnm2, hA, h1, -, -⟩ := C
  have h3 := lk_all (P := fun i x => fOK (mC y) i x) (fun x hx => okFLs (mC y) h1 x hx) hl
  have h2 : k < NFs (mC y) := h3.2.1
  have h4 : TW (.fieldLink (RC (mC y)) i (RC (mC y)) (TFs (mC y) k).2.1 (TFs (mC y) k).2.2.1) := h3.2.2.2
  have hdecl := TFs_own (mC y) h1 hne k h2
  have hsame : ∀ x, s.fieldFound? (TFs (mC y) k).1 (TFs (mC y) k).2.1 (TFs (mC y) k).2.2.1 = some x → s.fieldFound? (RC (mC y)) (TFs (mC y) k).2.1 (TFs (mC y) k).2.2.1 = some x := fun x hx => by rw [hdecl] at hx; exact hx
  refine lv_iload_n hx hb d0 rfl (lv_at hls 0 rfl) ?_
  refine lv_iconst (v := 3) hx hb d1 (by decide) ?_
  refine lv_icmp_ge (tgt := off2) hx hb d2 (by omega) (fun h => absurd h h0) (fun _ => ?_)
  refine lv_aload_n hx hb d3 rfl (lv_at hls 1 rfl) ?_
  refine va_get (D := D) (v := .ref q) hx hb hts (u_wsY h1 y) hown hK.1 hP 0 he (vwCl_at _ h1) k h2 (hts _ (TW.inY h4 y)) hsame hk d4 ?_
  refine lv_iload_n hx hb d5 rfl (lv_at hls 0 rfl) ?_
  refine lv_bipush (v := 90) hx hb d6 (by decide) ?_
  refine va_iast hx hb hK.1 hP hD hS t 0 hq rfl hin d7 (fun H1 locs1 hP hD hS => ?_)
  refine lv_iinc (v := x + 1) hx hb d8 hls (k := 0) rfl rfl (by rw [hmc]; decide) rfl (fun ls1 hls1 => ?_)
  refine lv_goto (tgt := pc) hx hb d9 (by omega) ?_
  exact kk H1 locs1 ls1 hls1 hP hD hS
theorem kc_ret {h0 k0 : Nat} {idx : List Nat} {r : Nat → Nat} (C : CC D cI cS A y p s m meth c args) (hd : decode (mB y) pc = .ok (.return_, 1)) (hr : r k0 = h0) (hP : va_P D vwCl (wlx cI cS r idx) H) (hD : va_D A (wlx cI cS r idx)) (hS : va_S A s.heap H locs) :
    W p l e R s m args below meth c H locs cells slots (MQ below (va_Qv (fun r : Nat → Nat => r k0 = h0) (fun r t => va_P D vwCl (wlx cI cS r idx) t.heap ∧ va_D A (wlx cI cS r idx)) A) args s cells slots A) (F0 m pc ls []) := by
  obtain ⟨hx, hb, hml, hown, hts, hK, hnm2, hA, h1, hlocks, hret⟩ := C
  exact W.vret hx hb hret (fun t ht hW => ⟨⟨r, rfl, hr, by rw [ht]; exact hP, hD⟩, hS.F ht⟩) hS.2.2 hd
theorem tw_o1 : TW (.instanceMethod objectInit) := tw_t 14 (by decide +kernel) (by decide +kernel)
theorem tw_o2 : TW (.code objectInit ⟨#[0xb1]⟩ 1 none) := tw_t 15 (by decide +kernel) (by decide +kernel)
/-- a constructor's contract out of its walk behind Object's -/
theorem kc_meto {y : MI} {o : Nat} {vs : List Value} {n k ix k0 : Nat} {idx : List Nat} (h6 : mC y < 6) (hz0 : mR y = none) (hz1 : (mN y).cls = RC (mC y)) (hz2 : (mN y).name = "<init>") (hpl : plainName (mN y).cls = true) (hL : ∀ h0 : Nat, (lg_sl (.ref h0 :: vs)).length ≤ mL y) (hH : 1 ≤ mH y) (w1 : TW (.methodLink (RC (mC y)) ix objectInit)) (d0 : decode (mB y) 0 = .ok (.aload_n 0, 1)) (d1 : decode (mB y) 1 = .ok (.invokespecial ix, 3))
    (hw : ∀ (p : Program) (e : Env) (s : State) (m : MethodId) (below : List Frame) (meth : Method) (c : Code) (A : Nat → Prop) (h0 : Nat) (ls : Array Slot), CC D cI cS A y p s m meth c (Value.ref h0 :: vs).toArray → va_P D vwCl [(h0, .inr (o, bl o))] s.heap → va_D A [(h0, .inr (o, bl o))] → lv_has ls (mL y) (lv_args 0 (.ref h0 :: vs)) →
      W p l e (rmC y n k) s m (Value.ref h0 :: vs).toArray below meth c s.heap [] 0 0 (MQ below (va_Qv (fun r : Nat → Nat => r k0 = h0) (fun r t => va_P D vwCl (wlx cI cS r idx) t.heap ∧ va_D A (wlx cI cS r idx)) A) (Value.ref h0 :: vs).toArray s n k A) (F0 m 4 ls [])) : CNo l D cI cS y o vs n k idx k0 := by
  intro h0 sz
  refine Met.ofW (cc := mB y) (maxL := mL y) (ret := none) hpl (by unfold wsY; rw [hz0]) ?_
  intro p e s m args below meth c s₁ B hml hv
  obtain ⟨rfl, hsz, hP, hK, hD0⟩ := hv
  have hx := B.exec
  have hb := B.bytes
  have hts := atoms_spec (ws := wsY y) B.pre
  have hown : s.vm.findClass (RC (mC y)) = some m.cls := by rw [← hz1]; exact findClass_of_methodNamed B.named
  have hin : meth.name = "<init>" := by rw [← hz2]; exact (name_of_methodNamed B.named B.method).1
  subst hsz
  have C : CC D cI cS (va_A [(h0, .inr (o, bl o))] s.heap.size) y p s m meth c (Value.ref h0 :: vs).toArray := ⟨hx, hb, hml, hown, hts, hK, hin, fun q h => Or.inr h, h6, B.notSynchronized, B.returns⟩
  have hl := lv_entry (Value.ref h0 :: vs) (n := mL y) (hL h0)
  rw [lg_entry_eq]
  generalize (lg_sl (Value.ref h0 :: vs) ++ List.replicate (mL y - (lg_sl (Value.ref h0 :: vs)).length) Slot.unset).toArray = ls at hl ⊢
  have hl : lv_has ls (mL y) (lv_args 0 (.ref h0 :: vs)) := hl
  refine lv_aload_n hx hb d0 rfl (lv_at hl 0 rfl) ?_
  refine W.objInit hx hb hown (hts _ (TW.inY w1 y)) (hts _ (TW.inY tw_o1 y)) (hts _ (TW.inY tw_o2 y)) rfl (by rw [hml]; exact hl.1) rfl d1 hH (by show _ ≤ 34 * mH y; simp; omega) ?_
  exact hw p e s m below meth c _ h0 ls C hP hD0.self hl
theorem kc_met {y : MI} {n k ix k0 : Nat} {idx : List Nat} (h6 : mC y < 6) (hz0 : mR y = none) (hz1 : (mN y).cls = RC (mC y)) (hz2 : (mN y).name = "<init>") (hpl : plainName (mN y).cls = true) (hL : 1 ≤ mL y) (hH : 1 ≤ mH y) (w1 : TW (.methodLink (RC (mC y)) ix objectInit)) (d0 : decode (mB y) 0 = .ok (.aload_n 0, 1)) (d1 : decode (mB y) 1 = .ok (.invokespecial ix, 3))
    (hw : ∀ (p : Program) (e : Env) (s : State) (m : MethodId) (below : List Frame) (meth : Method) (c : Code) (A : Nat → Prop) (h0 : Nat) (ls : Array Slot), CC D cI cS A y p s m meth c #[.ref h0] → va_P D vwCl [(h0, .inr (mC y, bl (mC y)))] s.heap → va_D A [(h0, .inr (mC y, bl (mC y)))] → lv_has ls (mL y) [(0, .ref h0)] →
      W p l e (rmC y n k) s m #[.ref h0] below meth c s.heap [] 0 0 (MQ below (va_Qv (fun r : Nat → Nat => r k0 = h0) (fun r t => va_P D vwCl (wlx cI cS r idx) t.heap ∧ va_D A (wlx cI cS r idx)) A) #[.ref h0] s n k A) (F0 m 4 ls [])) : CN l D cI cS y n k idx k0 := kc_meto (vs := []) h6 hz0 hz1 hz2 hpl (fun _ => hL) hH w1 d0 d1 hw
end CON2
/-! cells at the start -/
section CON3
variable {cI cS : ClassId} {r : Nat → Nat}
theorem cz_row {k n : Nat} (h : cK k = 6) (hn : aln k = n) (hu : u0 k = fun _ => 0) : cellE r cI cS u0 k = .inl (cI, n, .inl (fun _ => 0)) := by
  rw [cell_int h, hu, hn]
  have e : (fun j => if j < n then (0 : Int32) else 0) = fun _ => 0 := by
    funext j
    split <;> rfl
  rw [e]
theorem cz_seen {k : Nat} {f : Nat → Int32} (h : cK k = 6) (hn : aln k = 3) (hu : u0 k = fun _ => 90) (hf : f = upd (upd (upd (fun _ => 0) 0 90) 1 90) 2 90) : cellE r cI cS u0 k = .inl (cI, 3, .inl f) := by
  rw [cell_int h, hu, hn, hf]
  have e : (fun j => if j < 3 then (90 : Int32) else 0) = upd (upd (upd (fun _ => 0) 0 90) 1 90) 2 90 := by
    funext j
    unfold upd
    by_cases h0 : j = 0
    · subst h0; rfl
    · by_cases h1 : j = 1
      · subst h1; rfl
      · by_cases h2 : j = 2
        · subst h2; rfl
        · simp [h0, h1, h2]
          omega
  rw [e]
theorem wlx_app (a b : List Nat) : wlx cI cS r (a ++ b) = wlx cI cS r a ++ wlx cI cS r b := by
  unfold wlx
  rw [List.map_append]
/-- cells that lead only to cells of the list -/
def clos (idx : List Nat) : Prop := ∀ k ∈ idx, (∀ j, j < NFs (cK k) → fK (cK k) j = 2 → fref k j ∈ idx) ∧ (cK k = 7 → ∀ j, j < 8 → 24 + 8 * j ∈ idx)
theorem wlx_congr {r2 : Nat → Nat} {idx : List Nat} (hc : clos idx) (h : ∀ k ∈ idx, r2 k = r k) : wlx cI cS r2 idx = wlx cI cS r idx := by
  unfold wlx
  apply List.map_congr_left
  intro k hk
  obtain ⟨h1, h2⟩ := hc k hk
  rw [h k hk]
  refine congrArg _ ?_
  unfold cellE
  split
  · rfl
  · split
    · next h7 =>
      have e : (fun j => if j < 8 then some (r2 (24 + 8 * j)) else none) = fun j => if j < 8 then some (r (24 + 8 * j)) else none := by
        funext j
        split
        · next hj => rw [h _ (h2 h7 j hj)]
        · rfl
      rw [e]
    · refine congrArg _ (congrArg _ ?_)
      apply List.map_congr_left
      intro j hj
      split
      · next hf => rw [h _ (h1 j (List.mem_range.mp hj) hf)]
      · rfl
end CON3

/-! a step that goes on within the method; a return; a call; then all of it -/
section SIM4
variable {p : Program} {l : Launch} {e : Env} {R : Room} {s : State} {m : MethodId} {args : Array Value} {below : List Frame} {meth : Method} {c : Code} {H : Heap} {locs : List Loc} {Q : State → Prop}
variable {D : va_G} {rho : Nat → Nat} {cI cS : ClassId} {A : Nat → Prop}
set_option maxHeartbeats 4000000 in
theorem sim_next {y : MI} {pc : Nat} {L : Lv} {st : List Value} {u : Mem} {q1 : Nat} {q2 : Lv} {q3 : List Value} {q4 : Mem} (C : CX D rho cI cS A y p s m args meth c) (hR : R = rmY y) (h : stp y pc L st u = some (.inl (q1, q2, q3, q4))) (K : KN D rho cI cS A y p l e R s m args below meth c Q q1 q2 q3 q4) {arr : Array Slot} (hP : va_P D vwCl (wl rho cI cS u) H) (hS : va_S A s.heap H locs) (hL : LR rho (mL y) L arr) : W p l e R s m args below meth c H locs 0 0 Q (F0 m pc arr (st.map (cv rho))) := by
  have C0 := C
  obtain ⟨hx, hb, hml, hr, hown, hts, hlk, hK, hN, hi, hA, hAr, hmc⟩ := C
  have hlen0 := hL.2.2.1
  unfold stp at h
  split at h
  · next op len hdg =>
    split at h
    · next hlen =>
      cases op
      case iconst n =>
        obtain rfl : len = 1 := by simpa [iln] using hlen
        cases h
        exact lv_iconst hx hb hdg rfl (K _ _ _ hP hS hL)
      case bipush n =>
        obtain rfl : len = 2 := by simpa [iln] using hlen
        cases h
        exact lv_bipush hx hb hdg rfl (K _ _ _ hP hS hL)
      case sipush n =>
        obtain rfl : len = 3 := by simpa [iln] using hlen
        cases h
        exact lv_sipush hx hb hdg rfl (K _ _ _ hP hS hL)
      case lconst n =>
        obtain rfl : len = 1 := by simpa [iln] using hlen
        cases h
        exact lv_lconst hx hb hdg rfl (K _ _ _ hP hS hL)
      case ldc i =>
        obtain rfl : len = 2 := by simpa [iln] using hlen
        simp only [exi] at h
        split at h
        · next v hv =>
          cases h
          exact lv_ldc hx hb hown (hts _ ((lk_all (P := fun i x => TW (.constant (RC (mC y)) i x)) (fun x hx => okCIs (mC y) hmc x hx) hv).inY y)) hdg (K _ _ _ hP hS hL)
        · cases h
      case ldc_w i =>
        obtain rfl : len = 3 := by simpa [iln] using hlen
        simp only [exi] at h
        split at h
        · next v hv =>
          cases h
          exact lv_ldcw hx hb hown (hts _ ((lk_all (P := fun i x => TW (.constant (RC (mC y)) i x)) (fun x hx => okCIs (mC y) hmc x hx) hv).inY y)) hdg (K _ _ _ hP hS hL)
        · cases h
      case ldc2_w i =>
        obtain rfl : len = 3 := by simpa [iln] using hlen
        simp only [exi] at h
        split at h
        · next v hv =>
          cases h
          exact lv_ldc2 hx hb hown (hts _ ((lk_all (P := fun i x => TW (.constantLong (RC (mC y)) i x)) (fun x hx => okCJs (mC y) hmc x hx) hv).inY y)) hdg (K _ _ _ hP hS hL)
        · cases h
      case iload_n n =>
        obtain rfl : len = 1 := by simpa [iln] using hlen
        obtain ⟨x, hg, hq⟩ := xI_inl h
        cases hq
        exact lv_iload_n hx hb hdg rfl (hL.2.2.2 _ _ hg) (K _ _ _ hP hS hL)
      case iload n =>
        obtain rfl : len = 2 := by simpa [iln] using hlen
        obtain ⟨x, hg, hq⟩ := xI_inl h
        cases hq
        exact lv_iload hx hb hdg (hL.2.2.2 _ _ hg) (K _ _ _ hP hS hL)
      case lload_n n =>
        obtain rfl : len = 1 := by simpa [iln] using hlen
        obtain ⟨x, hg, hq⟩ := xJ_inl h
        cases hq
        exact lv_lload_n hx hb hdg rfl (hL.2.2.2 _ _ hg) (K _ _ _ hP hS hL)
      case lload n =>
        obtain rfl : len = 2 := by simpa [iln] using hlen
        obtain ⟨x, hg, hq⟩ := xJ_inl h
        cases hq
        exact lv_lload hx hb hdg (hL.2.2.2 _ _ hg) (K _ _ _ hP hS hL)
      case aload_n n =>
        obtain rfl : len = 1 := by simpa [iln] using hlen
        obtain ⟨x, hg, hq⟩ := xA_inl h
        cases hq
        exact lv_aload_n hx hb hdg rfl (hL.2.2.2 _ _ hg) (K _ _ _ hP hS hL)
      case aload n =>
        obtain rfl : len = 2 := by simpa [iln] using hlen
        obtain ⟨x, hg, hq⟩ := xA_inl h
        cases hq
        exact lv_aload hx hb hdg (hL.2.2.2 _ _ hg) (K _ _ _ hP hS hL)
      case istore_n n =>
        obtain rfl : len = 1 := by simpa [iln] using hlen
        obtain ⟨x, st0, rfl, hg, hq⟩ := xIs_inl h
        cases hq
        exact lv_istore_n hx hb hdg rfl (lvo_has hL) (by rw [← hlen0]; exact hg) rfl (fun ls hl => K _ _ _ hP hS (hL.st1 (v := .int x) (by rw [← hlen0]; exact hg) hl))
      case istore n =>
        obtain rfl : len = 2 := by simpa [iln] using hlen
        obtain ⟨x, st0, rfl, hg, hq⟩ := xIs_inl h
        cases hq
        exact lv_istore hx hb hdg (lvo_has hL) (by rw [← hlen0]; exact hg) rfl (fun ls hl => K _ _ _ hP hS (hL.st1 (v := .int x) (by rw [← hlen0]; exact hg) hl))
      case lstore_n n =>
        obtain rfl : len = 1 := by simpa [iln] using hlen
        obtain ⟨x, st0, rfl, hg, hq⟩ := xJs_inl h
        cases hq
        exact lv_lstore_n hx hb hdg rfl (lvo_has hL) (by rw [← hlen0]; exact hg) rfl (fun ls hl => K _ _ _ hP hS (hL.st2 (v := .long x) (by rw [← hlen0]; exact hg) hl))
      case lstore n =>
        obtain rfl : len = 2 := by simpa [iln] using hlen
        obtain ⟨x, st0, rfl, hg, hq⟩ := xJs_inl h
        cases hq
        exact lv_lstore hx hb hdg (lvo_has hL) (by rw [← hlen0]; exact hg) rfl (fun ls hl => K _ _ _ hP hS (hL.st2 (v := .long x) (by rw [← hlen0]; exact hg) hl))
      case astore_n n =>
        obtain rfl : len = 1 := by simpa [iln] using hlen
        obtain ⟨x, st0, rfl, hg, hq⟩ := xAs_inl h
        cases hq
        exact lv_astore_n hx hb hdg rfl (lvo_has hL) (by rw [← hlen0]; exact hg) rfl (fun ls hl => K _ _ _ hP hS (hL.st1 (v := .ref x) (by rw [← hlen0]; exact hg) hl))
      case astore n =>
        obtain rfl : len = 2 := by simpa [iln] using hlen
        obtain ⟨x, st0, rfl, hg, hq⟩ := xAs_inl h
        cases hq
        exact lv_astore hx hb hdg (lvo_has hL) (by rw [← hlen0]; exact hg) rfl (fun ls hl => K _ _ _ hP hS (hL.st1 (v := .ref x) (by rw [← hlen0]; exact hg) hl))
      case iinc i n =>
        obtain rfl : len = 3 := by simpa [iln] using hlen
        simp only [exi] at h
        split at h
        · next x hg =>
          split at h
          · next hi2 =>
            cases h
            obtain ⟨k, hk⟩ := List.getElem?_of_mem (lvo_mem (rho := rho) hg)
            exact lv_iinc hx hb hdg (lvo_has hL) hk rfl (by rw [← hlen0]; exact hi2) rfl (fun ls hl => K _ _ _ hP hS (hL.st1 (v := .int (x + Int32.ofInt n)) (by rw [← hlen0]; exact hi2) hl))
          · cases h
        · cases h
      case iadd =>
        obtain rfl : len = 1 := by simpa [iln] using hlen
        obtain ⟨a, b, st0, rfl, hq⟩ := xB_inl h
        cases hq
        exact lv_iadd hx hb hdg (K _ _ _ hP hS hL)
      case isub =>
        obtain rfl : len = 1 := by simpa [iln] using hlen
        obtain ⟨a, b, st0, rfl, hq⟩ := xB_inl h
        cases hq
        exact lv_isub hx hb hdg (K _ _ _ hP hS hL)
      case imul =>
        obtain rfl : len = 1 := by simpa [iln] using hlen
        obtain ⟨a, b, st0, rfl, hq⟩ := xB_inl h
        cases hq
        exact lv_imul hx hb hdg (K _ _ _ hP hS hL)
      case iand =>
        obtain rfl : len = 1 := by simpa [iln] using hlen
        obtain ⟨a, b, st0, rfl, hq⟩ := xB_inl h
        cases hq
        exact lv_iand hx hb hdg (K _ _ _ hP hS hL)
      case ior =>
        obtain rfl : len = 1 := by simpa [iln] using hlen
        obtain ⟨a, b, st0, rfl, hq⟩ := xB_inl h
        cases hq
        exact lv_ior hx hb hdg (K _ _ _ hP hS hL)
      case ixor =>
        obtain rfl : len = 1 := by simpa [iln] using hlen
        obtain ⟨a, b, st0, rfl, hq⟩ := xB_inl h
        cases hq
        exact lv_ixor hx hb hdg (K _ _ _ hP hS hL)
      case ishl =>
        obtain rfl : len = 1 := by simpa [iln] using hlen
        obtain ⟨a, b, st0, rfl, hq⟩ := xB_inl h
        cases hq
        exact lv_ishl hx hb hdg (K _ _ _ hP hS hL)
      case ishr =>
        obtain rfl : len = 1 := by simpa [iln] using hlen
        obtain ⟨a, b, st0, rfl, hq⟩ := xB_inl h
        cases hq
        exact lv_ishr hx hb hdg (K _ _ _ hP hS hL)
      case idiv =>
        obtain rfl : len = 1 := by simpa [iln] using hlen
        obtain ⟨a, b, st0, hn, rfl, hq⟩ := xB0_inl h
        cases hq
        exact lv_idiv hx hb hdg hn (K _ _ _ hP hS hL)
      case irem =>
        obtain rfl : len = 1 := by simpa [iln] using hlen
        obtain ⟨a, b, st0, hn, rfl, hq⟩ := xB0_inl h
        cases hq
        exact lv_irem hx hb hdg hn (K _ _ _ hP hS hL)
      case ladd =>
        obtain rfl : len = 1 := by simpa [iln] using hlen
        obtain ⟨a, b, st0, rfl, hq⟩ := xBJ_inl h
        cases hq
        exact lv_ladd hx hb hdg (K _ _ _ hP hS hL)
      case lsub =>
        obtain rfl : len = 1 := by simpa [iln] using hlen
        obtain ⟨a, b, st0, rfl, hq⟩ := xBJ_inl h
        cases hq
        exact lv_lsub hx hb hdg (K _ _ _ hP hS hL)
      case lmul =>
        obtain rfl : len = 1 := by simpa [iln] using hlen
        obtain ⟨a, b, st0, rfl, hq⟩ := xBJ_inl h
        cases hq
        exact lv_lmul hx hb hdg (K _ _ _ hP hS hL)
      case ldiv =>
        obtain rfl : len = 1 := by simpa [iln] using hlen
        obtain ⟨a, b, st0, hn, rfl, hq⟩ := xBJ0_inl h
        cases hq
        exact lv_ldiv hx hb hdg hn (K _ _ _ hP hS hL)
      case lrem =>
        obtain rfl : len = 1 := by simpa [iln] using hlen
        obtain ⟨a, b, st0, hn, rfl, hq⟩ := xBJ0_inl h
        cases hq
        exact lv_lrem hx hb hdg hn (K _ _ _ hP hS hL)
      case ineg =>
        obtain rfl : len = 1 := by simpa [iln] using hlen
        simp only [exi] at h
        split at h
        · cases h; exact lv_ineg hx hb hdg (K _ _ _ hP hS hL)
        · cases h
      case lcmp =>
        obtain rfl : len = 1 := by simpa [iln] using hlen
        simp only [exi] at h
        split at h
        · cases h; exact W.lcmp hx hb hdg (K _ _ _ hP hS hL)
        · cases h
      case i2l =>
        obtain rfl : len = 1 := by simpa [iln] using hlen
        simp only [exi] at h
        split at h
        · cases h; exact lv_i2l hx hb hdg rfl (K _ _ _ hP hS hL)
        · cases h
      case dup =>
        obtain rfl : len = 1 := by simpa [iln] using hlen
        simp only [exi] at h
        split at h
        · cases h; exact lv_dup hx hb hdg rfl (K _ _ _ hP hS hL)
        · cases h; exact lv_dup hx hb hdg rfl (K _ _ _ hP hS hL)
        · cases h
      case dup2 =>
        obtain rfl : len = 1 := by simpa [iln] using hlen
        simp only [exi] at h
        split at h
        · cases h; exact lv_dup2_11 hx hb hdg rfl rfl (K _ _ _ hP hS hL)
        · cases h
      case pop =>
        obtain rfl : len = 1 := by simpa [iln] using hlen
        simp only [exi] at h
        split at h
        · cases h; exact lv_pop hx hb hdg rfl (K _ _ _ hP hS hL)
        · cases h
      case goto off =>
        obtain rfl : len = 3 := by simpa [iln] using hlen
        obtain ⟨ht, hq⟩ := jp_inl h
        cases hq
        exact lv_goto hx hb hdg ht (K _ _ _ hP hS hL)
      case if_icmp k off =>
        obtain rfl : len = 3 := by simpa [iln] using hlen
        simp only [exi, xic] at h
        split at h
        · cases k
          · exact sx_icmp_eq hx hb hdg h K hP hS hL
          · exact sx_icmp_ne hx hb hdg h K hP hS hL
          · exact sx_icmp_lt hx hb hdg h K hP hS hL
          · exact sx_icmp_ge hx hb hdg h K hP hS hL
          · exact sx_icmp_gt hx hb hdg h K hP hS hL
          · exact sx_icmp_le hx hb hdg h K hP hS hL
        · cases h
      case ifCond k off =>
        obtain rfl : len = 3 := by simpa [iln] using hlen
        simp only [exi, xif] at h
        split at h
        · cases k
          · exact sx_if_eq hx hb hdg h K hP hS hL
          · exact sx_if_ne hx hb hdg h K hP hS hL
          · exact sx_if_lt hx hb hdg h K hP hS hL
          · exact sx_if_ge hx hb hdg h K hP hS hL
          · exact sx_if_gt hx hb hdg h K hP hS hL
          · exact sx_if_le hx hb hdg h K hP hS hL
        · cases h
      case ifnull off =>
        obtain rfl : len = 3 := by simpa [iln] using hlen
        simp only [exi] at h
        split at h
        · cases h; exact lv_ifnull hx hb hdg (K _ _ _ hP hS hL)
        · cases h
      case ifnonnull off =>
        obtain rfl : len = 3 := by simpa [iln] using hlen
        simp only [exi] at h
        split at h
        · obtain ⟨ht, hq⟩ := jp_inl h; cases hq; exact lv_ifnonnull hx hb hdg ht (K _ _ _ hP hS hL)
        · cases h
      case getfield i =>
        obtain rfl : len = 3 := by simpa [iln] using hlen
        exact sx_get C0 hdg h K hP hS hL
      case putfield i =>
        obtain rfl : len = 3 := by simpa [iln] using hlen
        exact sx_put C0 hdg h K hP hS hL
      case iaload =>
        obtain rfl : len = 1 := by simpa [iln] using hlen
        simp only [exi, xald] at h
        split at h
        · next i a st0 =>
          split at h
          · next hk =>
            cases h
            obtain ⟨h1, j, hj, rfl⟩ := aok_sp hk
            have ha : a < 112 := cK_lt (by omega)
            have hat := wl_at (rho := rho) (cI := cI) (cS := cS) (u := u) ha
            rw [cell_int h1] at hat
            have hl6 := aln_lt a
            have hK2 := K _ _ _ hP hS hL
            refine va_iald hx hb hK hP a 0 hat rfl (vp_in_nI hj (by omega)) hdg ?_
            rw [nI_clamp (by omega), if_pos hj]
            exact hK2
          · cases h
        · cases h
      case iastore =>
        obtain rfl : len = 1 := by simpa [iln] using hlen
        simp only [exi, xast] at h
        split at h
        · next v i a st0 =>
          split at h
          · next hk =>
            cases h
            obtain ⟨h1, j, hj, rfl⟩ := aok_sp hk
            have ha : a < 112 := cK_lt (by omega)
            have hat := wl_at (rho := rho) (cI := cI) (cS := cS) (u := u) ha
            rw [cell_int h1] at hat
            have hl6 := aln_lt a
            have hD := wl_D (rho := rho) (cI := cI) (cS := cS) (u := u) hi hAr
            refine va_iast hx hb hK hP hD hS a 0 hat rfl (vp_in_nI hj (by omega)) hdg (fun H1 locs1 g1 _ g3 => ?_)
            rw [nI_clamp (by omega), ← cell_put h1 hj, wl_set (fun j hj => wrm_ne hj)] at g1
            exact K _ _ _ g1 g3 hL
          · cases h
        · cases h
      case aaload =>
        obtain rfl : len = 1 := by simpa [iln] using hlen
        simp only [exi, xaald] at h
        split at h
        · next i a st0 =>
          split at h
          · next hk =>
            cases h
            obtain ⟨rfl, h1, h2⟩ := hk
            obtain ⟨j, hj, rfl⟩ := nI_of h1
            have hj8 : j < 8 := (nI_ltI hj (by decide)).mp h2
            have hat := wl_at (rho := rho) (cI := cI) (cS := cS) (u := u) (k := 90) (by decide)
            rw [cell_ring (by decide)] at hat
            have hK2 := K _ _ _ hP hS hL
            refine va_aldq hx hb hK hP 90 1 hat rfl (vp_in_nI hj8 (by decide)) hdg ?_
            rw [nI_clamp hj, if_pos hj8]
            rw [nI_clamp hj] at hK2
            exact hK2
          · cases h
        · cases h
      case arraylength =>
        obtain rfl : len = 1 := by simpa [iln] using hlen
        simp only [exi, xalen] at h
        split at h
        · next a st0 =>
          split at h
          · next hk =>
            cases h
            have ha : a < 112 := cK_lt (by omega)
            have hat := wl_at (rho := rho) (cI := cI) (cS := cS) (u := u) ha
            rw [cell_int hk] at hat
            exact va_alen hx hb hK hP a 0 hat rfl rfl hdg (K _ _ _ hP hS hL)
          · cases h
        · cases h
      case invokevirtual i =>
        obtain rfl : len = 3 := by simpa [iln] using hlen
        exact (xV_inl h).elim
      case invokestatic i =>
        obtain rfl : len = 3 := by simpa [iln] using hlen
        simp only [exi, xS] at h
        split at h
        · split at h <;> cases h
        · split at h
          · next k hk =>
            have hw := (lk_all (P := fun i x => TW (.methodLink (RC (mC y)) i (xN x))) (fun x hx => okXLs (mC y) hmc x hx) hk).inY y
            have hml2 : c.maxLocals = arr.size := by rw [hml, hL.1]
            unfold xM at h
            split at h
            · split at h
              · next hc =>
                cases h
                have h4 := cats4 (rho := rho) hc.2
                exact va_mmax hx hb hml2 hown (hts _ hw) (hts _ (wX0.1.inY y)) (hts _ (wXi.inY y)) (hts _ (wX0.2.inY y)) (by rw [hR]; exact hc.1) (by rw [hR]; show _ ≤ 34 * mH y; omega) (Nat.zero_le _) (Nat.zero_le _) hdg (K _ _ _ hP hS hL)
              · cases h
            · split at h
              · next hc =>
                cases h
                have h4 := cats4 (rho := rho) hc.2
                exact va_mmin hx hb hml2 hown (hts _ hw) (hts _ (wX1.1.inY y)) (hts _ (wXi.inY y)) (hts _ (wX1.2.inY y)) (by rw [hR]; exact hc.1) (by rw [hR]; show _ ≤ 34 * mH y; omega) (Nat.zero_le _) (Nat.zero_le _) hdg (K _ _ _ hP hS hL)
              · cases h
            · split at h
              · next hc =>
                cases h
                have h4 := cats4 (rho := rho) hc.2
                exact va_mabs hx hb hml2 hown (hts _ hw) (hts _ (wX2.1.inY y)) (hts _ (wXi.inY y)) (hts _ (wX2.2.inY y)) (by rw [hR]; exact hc.1) (by rw [hR]; show _ ≤ 34 * mH y; omega) (Nat.zero_le _) (Nat.zero_le _) hdg (K _ _ _ hP hS hL)
              · cases h
            · cases h
          · cases h
      case ireturn =>
        obtain rfl : len = 1 := by simpa [iln] using hlen
        exact (xret_inl h).elim
      case lreturn =>
        obtain rfl : len = 1 := by simpa [iln] using hlen
        exact (xretJ_inl h).elim
      case areturn =>
        obtain rfl : len = 1 := by simpa [iln] using hlen
        exact (xretA_inl h).elim
      case return_ =>
        obtain rfl : len = 1 := by simpa [iln] using hlen
        exact (xretV_inl h).elim
      case tableswitch d lo hi2 offs =>
        simp only [exi] at h
        split at h
        · split at h
          · next hc =>
            obtain ⟨ht, hq⟩ := jp_inl h
            cases hq
            exact lv_tableOut hx hb hdg hc ht (K _ _ _ hP hS hL)
          · next hc =>
            split at h
            · next off ho =>
              obtain ⟨ht, hq⟩ := jp_inl h
              cases hq
              exact lv_tableIn hx hb hdg (fun z => hc (Or.inl z)) (fun z => hc (Or.inr z)) ho ht (K _ _ _ hP hS hL)
            · cases h
        · cases h
      case lookupswitch d ps =>
        simp only [exi] at h
        split at h
        · split at h
          · next hc =>
            obtain ⟨ht, hq⟩ := jp_inl h
            cases hq
            exact lv_lookup hx hb hdg hc rfl ht (K _ _ _ hP hS hL)
          · cases h
        · cases h
      all_goals exact absurd h (by simp [exi])
    · cases h
  · cases h
theorem xret_inr {r : Option FieldType} {st : List Value} {v} (h : xret r st = some (.inr (.inr v))) : ∃ x, st = [.int x] ∧ v = some (.int x) ∧ ∃ ty, r = some ty ∧ narrow ty (.int x) = .int x := by
  unfold xret at h
  split at h
  · cases h; exact ⟨_, rfl, rfl, _, rfl, rfl⟩
  · split at h
    · next hv => cases h; exact ⟨_, rfl, rfl, _, rfl, narZ hv⟩
    · cases h
  · cases h
theorem xretJ_inr {r : Option FieldType} {st : List Value} {v} (h : xretJ r st = some (.inr (.inr v))) : ∃ x, st = [.long x] ∧ v = some (.long x) ∧ r = some .long := by
  unfold xretJ at h
  split at h
  · cases h; exact ⟨_, rfl, rfl, rfl⟩
  · cases h
theorem xretA_inr {r : Option FieldType} {st : List Value} {v} (h : xretA r st = some (.inr (.inr v))) : ∃ x, st = [.ref x] ∧ v = some (.ref x) ∧ ∃ n, r = some (.object n) := by
  unfold xretA at h
  split at h
  · cases h; exact ⟨_, rfl, rfl, _, rfl⟩
  · cases h
theorem xretV_inr {r : Option FieldType} {st : List Value} {v} (h : xretV r st = some (.inr (.inr v))) : st = [] ∧ v = none ∧ r = none := by
  unfold xretV at h
  split at h
  · cases h; exact ⟨rfl, rfl, rfl⟩
  · cases h
set_option maxHeartbeats 4000000 in
/-- which instructions end a method, which call one -/
theorem stp_ret {y : MI} {pc : Nat} {L : Lv} {st : List Value} {u : Mem} {v : Option Value} (h : stp y pc L st u = some (.inr (.inr v))) : (decode (mB y) pc = .ok (.ireturn, 1) ∧ xret (mR y) st = some (.inr (.inr v))) ∨ (decode (mB y) pc = .ok (.lreturn, 1) ∧ xretJ (mR y) st = some (.inr (.inr v))) ∨ (decode (mB y) pc = .ok (.areturn, 1) ∧ xretA (mR y) st = some (.inr (.inr v))) ∨ (decode (mB y) pc = .ok (.return_, 1) ∧ xretV (mR y) st = some (.inr (.inr v))) := by
  unfold stp at h
  split at h
  · next op len hdg =>
    split at h
    · next hlen =>
      cases op
      case ireturn => obtain rfl : len = 1 := by simpa [iln] using hlen
                      exact Or.inl ⟨hdg, h⟩
      case lreturn => obtain rfl : len = 1 := by simpa [iln] using hlen
                      exact Or.inr (Or.inl ⟨hdg, h⟩)
      case areturn => obtain rfl : len = 1 := by simpa [iln] using hlen
                      exact Or.inr (Or.inr (Or.inl ⟨hdg, h⟩))
      case return_ => obtain rfl : len = 1 := by simpa [iln] using hlen
                      exact Or.inr (Or.inr (Or.inr ⟨hdg, h⟩))
      all_goals exfalso
      all_goals unfold exi at h
      all_goals dsimp only [xI, xJ, xA, xIs, xJs, xAs, xB, xB0, xBJ, xBJ0, xic, xif, xcmp, xget, xput, xald, xast, xaald, xalen, xV, xS, xM, jp, nx] at h
      all_goals repeat' (first | (cases h; done) | split at h)
    · cases h
  · cases h
theorem stp_call {y z : MI} {pc pc' : Nat} {L : Lv} {st st' vs : List Value} {u : Mem} (h : stp y pc L st u = some (.inr (.inl (z, vs, pc', st')))) : (∃ i, decode (mB y) pc = .ok (.invokevirtual i, 3) ∧ xV y i pc st = some (.inr (.inl (z, vs, pc', st')))) ∨ (∃ i, decode (mB y) pc = .ok (.invokestatic i, 3) ∧ xS y i pc L st u = some (.inr (.inl (z, vs, pc', st')))) := by
  unfold stp at h
  split at h
  · next op len hdg =>
    split at h
    · next hlen =>
      cases op
      case invokevirtual i => obtain rfl : len = 3 := by simpa [iln] using hlen
                              exact Or.inl ⟨i, hdg, h⟩
      case invokestatic i => obtain rfl : len = 3 := by simpa [iln] using hlen
                             exact Or.inr ⟨i, hdg, h⟩
      all_goals exfalso
      all_goals unfold exi at h
      all_goals dsimp only [xI, xJ, xA, xIs, xJs, xAs, xB, xB0, xBJ, xBJ0, xic, xif, xcmp, xget, xput, xald, xast, xaald, xalen, xret, xretJ, xretA, xretV, jp, nx] at h
      all_goals repeat' (first | (cases h; done) | split at h)
    · cases h
  · cases h
end SIM4

/-! names of the classes, their fields, methods, links: printed by wip/whole/gen_names.py -/
def RC (c : Nat) : String := match c with
  | 0 => "OnePortrait$Numbers"
  | 1 => "OnePortrait$Past"
  | 2 => "OnePortrait$Street"
  | 3 => "OnePortrait$Text"
  | 4 => "OnePortrait"
  | _ => "OnePortraitModel"
def TF0 : u_T := fun k => match k with
  | 0 => ("OnePortrait$Numbers", "values", "[I", true)
  | _ => ("OnePortrait$Numbers", "length", "I", false)
def tyF0 : Nat → FieldType := fun k => match k with
  | 0 => (.array .int)
  | _ => .int
theorem nmF0 : ∀ a, a < 2 → ∀ b, b < 2 → a ≠ b → (TF0 a).2.1 ≠ (TF0 b).2.1 := by decide +kernel
theorem tyF0_ok : ∀ k, k < 2 → parseFieldDescriptor (TF0 k).2.2.1 = some (tyF0 k) := by decide +kernel
def TF1 : u_T := fun k => match k with
  | 0 => ("OnePortrait$Past", "ring", "[LOnePortrait$Street;", true)
  | 1 => ("OnePortrait$Past", "free", "I", false)
  | _ => ("OnePortrait$Past", "held", "I", false)
def tyF1 : Nat → FieldType := fun k => match k with
  | 0 => (.array (.object "OnePortrait$Street"))
  | 1 => .int
  | _ => .int
theorem nmF1 : ∀ a, a < 3 → ∀ b, b < 3 → a ≠ b → (TF1 a).2.1 ≠ (TF1 b).2.1 := by decide +kernel
theorem tyF1_ok : ∀ k, k < 3 → parseFieldDescriptor (TF1 k).2.2.1 = some (tyF1 k) := by decide +kernel
def TF2 : u_T := fun k => match k with
  | 0 => ("OnePortrait$Street", "kind", "[I", true)
  | 1 => ("OnePortrait$Street", "figure", "[I", true)
  | 2 => ("OnePortrait$Street", "grief", "[I", true)
  | 3 => ("OnePortrait$Street", "day", "[I", true)
  | 4 => ("OnePortrait$Street", "met", "[I", true)
  | 5 => ("OnePortrait$Street", "sight", "[I", true)
  | 6 => ("OnePortrait$Street", "hosts", "[I", true)
  | 7 => ("OnePortrait$Street", "widows", "I", false)
  | 8 => ("OnePortrait$Street", "places", "I", false)
  | _ => ("OnePortrait$Street", "week", "I", false)
def tyF2 : Nat → FieldType := fun k => match k with
  | 0 => (.array .int)
  | 1 => (.array .int)
  | 2 => (.array .int)
  | 3 => (.array .int)
  | 4 => (.array .int)
  | 5 => (.array .int)
  | 6 => (.array .int)
  | 7 => .int
  | 8 => .int
  | _ => .int
theorem nmF2 : ∀ a, a < 10 → ∀ b, b < 10 → a ≠ b → (TF2 a).2.1 ≠ (TF2 b).2.1 := by decide +kernel
theorem tyF2_ok : ∀ k, k < 10 → parseFieldDescriptor (TF2 k).2.2.1 = some (tyF2 k) := by decide +kernel
def TF3 : u_T := fun k => match k with
  | 0 => ("OnePortrait$Numbers", "values", "[I", true)
  | _ => ("OnePortrait$Numbers", "length", "I", false)
def tyF3 : Nat → FieldType := fun k => match k with
  | 0 => (.array .int)
  | _ => .int
theorem nmF3 : ∀ a, a < 2 → ∀ b, b < 2 → a ≠ b → (TF3 a).2.1 ≠ (TF3 b).2.1 := by decide +kernel
theorem tyF3_ok : ∀ k, k < 2 → parseFieldDescriptor (TF3 k).2.2.1 = some (tyF3 k) := by decide +kernel
def TF4 : u_T := fun k => match k with
  | 0 => ("OnePortrait", "now", "LOnePortrait$Street;", true)
  | 1 => ("OnePortrait", "mind", "LOnePortrait$Street;", true)
  | 2 => ("OnePortrait", "pictured", "LOnePortrait$Street;", true)
  | 3 => ("OnePortrait", "hasPicture", "Z", false)
  | 4 => ("OnePortrait", "past", "LOnePortrait$Past;", true)
  | 5 => ("OnePortrait", "text", "LOnePortrait$Text;", true)
  | 6 => ("OnePortrait", "numbers", "LOnePortrait$Numbers;", true)
  | _ => ("OnePortrait", "refusals", "[I", true)
def tyF4 : Nat → FieldType := fun k => match k with
  | 0 => (.object "OnePortrait$Street")
  | 1 => (.object "OnePortrait$Street")
  | 2 => (.object "OnePortrait$Street")
  | 3 => .boolean
  | 4 => (.object "OnePortrait$Past")
  | 5 => (.object "OnePortrait$Text")
  | 6 => (.object "OnePortrait$Numbers")
  | _ => (.array .int)
theorem nmF4 : ∀ a, a < 8 → ∀ b, b < 8 → a ≠ b → (TF4 a).2.1 ≠ (TF4 b).2.1 := by decide +kernel
theorem tyF4_ok : ∀ k, k < 8 → parseFieldDescriptor (TF4 k).2.2.1 = some (tyF4 k) := by decide +kernel
def TF5 : u_T := fun k => match k with
  | 0 => ("OnePortraitModel", "refused", "[I", true)
  | 1 => ("OnePortraitModel", "kind", "[I", true)
  | 2 => ("OnePortraitModel", "figure", "[I", true)
  | 3 => ("OnePortraitModel", "grief", "[I", true)
  | 4 => ("OnePortraitModel", "date", "[I", true)
  | 5 => ("OnePortraitModel", "met", "[I", true)
  | 6 => ("OnePortraitModel", "seen", "[I", true)
  | 7 => ("OnePortraitModel", "rota", "[I", true)
  | 8 => ("OnePortraitModel", "widows", "I", false)
  | 9 => ("OnePortraitModel", "places", "I", false)
  | 10 => ("OnePortraitModel", "week", "I", false)
  | 11 => ("OnePortraitModel", "tape", "[I", true)
  | 12 => ("OnePortraitModel", "letter", "[I", true)
  | 13 => ("OnePortraitModel", "letterAt", "[I", true)
  | 14 => ("OnePortraitModel", "told", "[I", true)
  | 15 => ("OnePortraitModel", "taped", "I", false)
  | 16 => ("OnePortraitModel", "reading", "I", false)
  | 17 => ("OnePortraitModel", "statements", "I", false)
  | 18 => ("OnePortraitModel", "kept", "[I", true)
  | 19 => ("OnePortraitModel", "hasImage", "Z", false)
  | 20 => ("OnePortraitModel", "isKeeping", "Z", false)
  | 21 => ("OnePortraitModel", "cursor", "I", false)
  | 22 => ("OnePortraitModel", "backs", "I", false)
  | 23 => ("OnePortraitModel", "row", "[I", true)
  | 24 => ("OnePortraitModel", "rowMany", "I", false)
  | 25 => ("OnePortraitModel", "costs", "[I", true)
  | _ => ("OnePortraitModel", "lots", "I", false)
def tyF5 : Nat → FieldType := fun k => match k with
  | 0 => (.array .int)
  | 1 => (.array .int)
  | 2 => (.array .int)
  | 3 => (.array .int)
  | 4 => (.array .int)
  | 5 => (.array .int)
  | 6 => (.array .int)
  | 7 => (.array .int)
  | 8 => .int
  | 9 => .int
  | 10 => .int
  | 11 => (.array .int)
  | 12 => (.array .int)
  | 13 => (.array .int)
  | 14 => (.array .int)
  | 15 => .int
  | 16 => .int
  | 17 => .int
  | 18 => (.array .int)
  | 19 => .boolean
  | 20 => .boolean
  | 21 => .int
  | 22 => .int
  | 23 => (.array .int)
  | 24 => .int
  | 25 => (.array .int)
  | _ => .int
theorem nmF5 : ∀ a, a < 27 → ∀ b, b < 27 → a ≠ b → (TF5 a).2.1 ≠ (TF5 b).2.1 := by decide +kernel
theorem tyF5_ok : ∀ k, k < 27 → parseFieldDescriptor (TF5 k).2.2.1 = some (tyF5 k) := by decide +kernel
def TFs (c : Nat) : u_T := match c with
  | 0 => TF0
  | 1 => TF1
  | 2 => TF2
  | 3 => TF3
  | 4 => TF4
  | _ => TF5
def tyFs (c : Nat) : Nat → FieldType := match c with
  | 0 => tyF0
  | 1 => tyF1
  | 2 => tyF2
  | 3 => tyF3
  | 4 => tyF4
  | _ => tyF5
def NFs (c : Nat) : Nat := match c with
  | 0 => 2
  | 1 => 3
  | 2 => 10
  | 3 => 2
  | 4 => 8
  | _ => 27
abbrev vwCl : List vw_C := [(RC 0, TF0, 2), (RC 1, TF1, 3), (RC 2, TF2, 10), (RC 3, TF3, 2), (RC 4, TF4, 8), (RC 5, TF5, 27)]
theorem vwCl_at : ∀ c, c < 6 → vwCl[c]? = some (RC c, TFs c, NFs c) := by
  intro c hc
  rcases (show c = 0 ∨ c = 1 ∨ c = 2 ∨ c = 3 ∨ c = 4 ∨ c = 5 by omega) with rfl | rfl | rfl | rfl | rfl | rfl <;> rfl
theorem nmFs : ∀ c, c < 6 → ∀ a, a < NFs c → ∀ b, b < NFs c → a ≠ b → (TFs c a).2.1 ≠ (TFs c b).2.1 := by
  intro c hc
  rcases (show c = 0 ∨ c = 1 ∨ c = 2 ∨ c = 3 ∨ c = 4 ∨ c = 5 by omega) with rfl | rfl | rfl | rfl | rfl | rfl
  · exact nmF0
  · exact nmF1
  · exact nmF2
  · exact nmF3
  · exact nmF4
  · exact nmF5
theorem tyFs_ok : ∀ c, c < 6 → ∀ k, k < NFs c → parseFieldDescriptor (TFs c k).2.2.1 = some (tyFs c k) := by
  intro c hc
  rcases (show c = 0 ∨ c = 1 ∨ c = 2 ∨ c = 3 ∨ c = 4 ∨ c = 5 by omega) with rfl | rfl | rfl | rfl | rfl | rfl
  · exact tyF0_ok
  · exact tyF1_ok
  · exact tyF2_ok
  · exact tyF3_ok
  · exact tyF4_ok
  · exact tyF5_ok
/-- a word of the tables that any callee may be given -/
def TW (w : Cond) : Prop := w ∈ lw_tbl ∧ goodWord w = true
theorem tw_t {w : Cond} (i : Nat) (h : tables_1[i]? = some w) (g : goodWord w = true) : TW w := ⟨List.mem_append_right _ (List.mem_of_getElem? h), g⟩
theorem tw_s {w : Cond} (i : Nat) (h : (k2_sels lw_privs)[i]? = some w) (g : goodWord w = true) : TW w := ⟨List.mem_append_left _ (List.mem_of_getElem? h), g⟩
theorem wf0_0 : TW (u_lay (RC 0) TF0 0) := tw_t 103 (by decide +kernel) (by decide +kernel)
theorem wf0_1 : TW (u_lay (RC 0) TF0 1) := tw_t 104 (by decide +kernel) (by decide +kernel)
theorem wfs0 : ∀ k, k < 2 → TW (u_lay (RC 0) TF0 k) := by
  intro k hk
  rcases (show k = 0 ∨ k = 1 by omega) with rfl | rfl
  · exact wf0_0
  · exact wf0_1
theorem wf1_0 : TW (u_lay (RC 1) TF1 0) := tw_t 70 (by decide +kernel) (by decide +kernel)
theorem wf1_1 : TW (u_lay (RC 1) TF1 1) := tw_t 72 (by decide +kernel) (by decide +kernel)
theorem wf1_2 : TW (u_lay (RC 1) TF1 2) := tw_t 74 (by decide +kernel) (by decide +kernel)
theorem wfs1 : ∀ k, k < 3 → TW (u_lay (RC 1) TF1 k) := by
  intro k hk
  rcases (show k = 0 ∨ k = 1 ∨ k = 2 by omega) with rfl | rfl | rfl
  · exact wf1_0
  · exact wf1_1
  · exact wf1_2
theorem wf2_0 : TW (u_lay (RC 2) TF2 0) := tw_t 35 (by decide +kernel) (by decide +kernel)
theorem wf2_1 : TW (u_lay (RC 2) TF2 1) := tw_t 37 (by decide +kernel) (by decide +kernel)
theorem wf2_2 : TW (u_lay (RC 2) TF2 2) := tw_t 39 (by decide +kernel) (by decide +kernel)
theorem wf2_3 : TW (u_lay (RC 2) TF2 3) := tw_t 41 (by decide +kernel) (by decide +kernel)
theorem wf2_4 : TW (u_lay (RC 2) TF2 4) := tw_t 43 (by decide +kernel) (by decide +kernel)
theorem wf2_5 : TW (u_lay (RC 2) TF2 5) := tw_t 45 (by decide +kernel) (by decide +kernel)
theorem wf2_6 : TW (u_lay (RC 2) TF2 6) := tw_t 47 (by decide +kernel) (by decide +kernel)
theorem wf2_7 : TW (u_lay (RC 2) TF2 7) := tw_t 49 (by decide +kernel) (by decide +kernel)
theorem wf2_8 : TW (u_lay (RC 2) TF2 8) := tw_t 51 (by decide +kernel) (by decide +kernel)
theorem wf2_9 : TW (u_lay (RC 2) TF2 9) := tw_t 53 (by decide +kernel) (by decide +kernel)
theorem wfs2 : ∀ k, k < 10 → TW (u_lay (RC 2) TF2 k) := by
  intro k hk
  rcases (show k = 0 ∨ k = 1 ∨ k = 2 ∨ k = 3 ∨ k = 4 ∨ k = 5 ∨ k = 6 ∨ k = 7 ∨ k = 8 ∨ k = 9 by omega) with rfl | rfl | rfl | rfl | rfl | rfl | rfl | rfl | rfl | rfl
  · exact wf2_0
  · exact wf2_1
  · exact wf2_2
  · exact wf2_3
  · exact wf2_4
  · exact wf2_5
  · exact wf2_6
  · exact wf2_7
  · exact wf2_8
  · exact wf2_9
theorem wf3_0 : TW (u_lay (RC 3) TF3 0) := tw_t 95 (by decide +kernel) (by decide +kernel)
theorem wf3_1 : TW (u_lay (RC 3) TF3 1) := tw_t 97 (by decide +kernel) (by decide +kernel)
theorem wfs3 : ∀ k, k < 2 → TW (u_lay (RC 3) TF3 k) := by
  intro k hk
  rcases (show k = 0 ∨ k = 1 by omega) with rfl | rfl
  · exact wf3_0
  · exact wf3_1
theorem wf4_0 : TW (u_lay (RC 4) TF4 0) := tw_t 114 (by decide +kernel) (by decide +kernel)
theorem wf4_1 : TW (u_lay (RC 4) TF4 1) := tw_t 116 (by decide +kernel) (by decide +kernel)
theorem wf4_2 : TW (u_lay (RC 4) TF4 2) := tw_t 118 (by decide +kernel) (by decide +kernel)
theorem wf4_3 : TW (u_lay (RC 4) TF4 3) := tw_t 120 (by decide +kernel) (by decide +kernel)
theorem wf4_4 : TW (u_lay (RC 4) TF4 4) := tw_t 122 (by decide +kernel) (by decide +kernel)
theorem wf4_5 : TW (u_lay (RC 4) TF4 5) := tw_t 124 (by decide +kernel) (by decide +kernel)
theorem wf4_6 : TW (u_lay (RC 4) TF4 6) := tw_t 126 (by decide +kernel) (by decide +kernel)
theorem wf4_7 : TW (u_lay (RC 4) TF4 7) := tw_t 128 (by decide +kernel) (by decide +kernel)
theorem wfs4 : ∀ k, k < 8 → TW (u_lay (RC 4) TF4 k) := by
  intro k hk
  rcases (show k = 0 ∨ k = 1 ∨ k = 2 ∨ k = 3 ∨ k = 4 ∨ k = 5 ∨ k = 6 ∨ k = 7 by omega) with rfl | rfl | rfl | rfl | rfl | rfl | rfl | rfl
  · exact wf4_0
  · exact wf4_1
  · exact wf4_2
  · exact wf4_3
  · exact wf4_4
  · exact wf4_5
  · exact wf4_6
  · exact wf4_7
theorem wf5_0 : TW (u_lay (RC 5) TF5 0) := tw_t 617 (by decide +kernel) (by decide +kernel)
theorem wf5_1 : TW (u_lay (RC 5) TF5 1) := tw_t 619 (by decide +kernel) (by decide +kernel)
theorem wf5_2 : TW (u_lay (RC 5) TF5 2) := tw_t 621 (by decide +kernel) (by decide +kernel)
theorem wf5_3 : TW (u_lay (RC 5) TF5 3) := tw_t 623 (by decide +kernel) (by decide +kernel)
theorem wf5_4 : TW (u_lay (RC 5) TF5 4) := tw_t 625 (by decide +kernel) (by decide +kernel)
theorem wf5_5 : TW (u_lay (RC 5) TF5 5) := tw_t 627 (by decide +kernel) (by decide +kernel)
theorem wf5_6 : TW (u_lay (RC 5) TF5 6) := tw_t 629 (by decide +kernel) (by decide +kernel)
theorem wf5_7 : TW (u_lay (RC 5) TF5 7) := tw_t 631 (by decide +kernel) (by decide +kernel)
theorem wf5_8 : TW (u_lay (RC 5) TF5 8) := tw_t 633 (by decide +kernel) (by decide +kernel)
theorem wf5_9 : TW (u_lay (RC 5) TF5 9) := tw_t 635 (by decide +kernel) (by decide +kernel)
theorem wf5_10 : TW (u_lay (RC 5) TF5 10) := tw_t 637 (by decide +kernel) (by decide +kernel)
theorem wf5_11 : TW (u_lay (RC 5) TF5 11) := tw_t 639 (by decide +kernel) (by decide +kernel)
theorem wf5_12 : TW (u_lay (RC 5) TF5 12) := tw_t 641 (by decide +kernel) (by decide +kernel)
theorem wf5_13 : TW (u_lay (RC 5) TF5 13) := tw_t 643 (by decide +kernel) (by decide +kernel)
theorem wf5_14 : TW (u_lay (RC 5) TF5 14) := tw_t 645 (by decide +kernel) (by decide +kernel)
theorem wf5_15 : TW (u_lay (RC 5) TF5 15) := tw_t 647 (by decide +kernel) (by decide +kernel)
theorem wf5_16 : TW (u_lay (RC 5) TF5 16) := tw_t 649 (by decide +kernel) (by decide +kernel)
theorem wf5_17 : TW (u_lay (RC 5) TF5 17) := tw_t 651 (by decide +kernel) (by decide +kernel)
theorem wf5_18 : TW (u_lay (RC 5) TF5 18) := tw_t 653 (by decide +kernel) (by decide +kernel)
theorem wf5_19 : TW (u_lay (RC 5) TF5 19) := tw_t 655 (by decide +kernel) (by decide +kernel)
theorem wf5_20 : TW (u_lay (RC 5) TF5 20) := tw_t 657 (by decide +kernel) (by decide +kernel)
theorem wf5_21 : TW (u_lay (RC 5) TF5 21) := tw_t 659 (by decide +kernel) (by decide +kernel)
theorem wf5_22 : TW (u_lay (RC 5) TF5 22) := tw_t 661 (by decide +kernel) (by decide +kernel)
theorem wf5_23 : TW (u_lay (RC 5) TF5 23) := tw_t 663 (by decide +kernel) (by decide +kernel)
theorem wf5_24 : TW (u_lay (RC 5) TF5 24) := tw_t 665 (by decide +kernel) (by decide +kernel)
theorem wf5_25 : TW (u_lay (RC 5) TF5 25) := tw_t 667 (by decide +kernel) (by decide +kernel)
theorem wf5_26 : TW (u_lay (RC 5) TF5 26) := tw_t 669 (by decide +kernel) (by decide +kernel)
theorem wfs5 : ∀ k, k < 27 → TW (u_lay (RC 5) TF5 k) := by
  intro k hk
  rcases (show k = 0 ∨ k = 1 ∨ k = 2 ∨ k = 3 ∨ k = 4 ∨ k = 5 ∨ k = 6 ∨ k = 7 ∨ k = 8 ∨ k = 9 ∨ k = 10 ∨ k = 11 ∨ k = 12 ∨ k = 13 ∨ k = 14 ∨ k = 15 ∨ k = 16 ∨ k = 17 ∨ k = 18 ∨ k = 19 ∨ k = 20 ∨ k = 21 ∨ k = 22 ∨ k = 23 ∨ k = 24 ∨ k = 25 ∨ k = 26 by omega) with rfl | rfl | rfl | rfl | rfl | rfl | rfl | rfl | rfl | rfl | rfl | rfl | rfl | rfl | rfl | rfl | rfl | rfl | rfl | rfl | rfl | rfl | rfl | rfl | rfl | rfl | rfl
  · exact wf5_0
  · exact wf5_1
  · exact wf5_2
  · exact wf5_3
  · exact wf5_4
  · exact wf5_5
  · exact wf5_6
  · exact wf5_7
  · exact wf5_8
  · exact wf5_9
  · exact wf5_10
  · exact wf5_11
  · exact wf5_12
  · exact wf5_13
  · exact wf5_14
  · exact wf5_15
  · exact wf5_16
  · exact wf5_17
  · exact wf5_18
  · exact wf5_19
  · exact wf5_20
  · exact wf5_21
  · exact wf5_22
  · exact wf5_23
  · exact wf5_24
  · exact wf5_25
  · exact wf5_26
theorem wfs : ∀ c, c < 6 → ∀ k, k < NFs c → TW (u_lay (RC c) (TFs c) k) := by
  intro c hc
  rcases (show c = 0 ∨ c = 1 ∨ c = 2 ∨ c = 3 ∨ c = 4 ∨ c = 5 by omega) with rfl | rfl | rfl | rfl | rfl | rfl
  · exact wfs0
  · exact wfs1
  · exact wfs2
  · exact wfs3
  · exact wfs4
  · exact wfs5
/-- a method: name, bytes, locals, what it answers, its height over the leaves, its parameters, static, its class -/
abbrev MI : Type := MethodName × ByteArray × Nat × Option FieldType × Nat × Nat × Bool × Nat
abbrev mN (y : MI) : MethodName := y.1
abbrev mB (y : MI) : ByteArray := y.2.1
abbrev mL (y : MI) : Nat := y.2.2.1
abbrev mR (y : MI) : Option FieldType := y.2.2.2.1
abbrev mH (y : MI) : Nat := y.2.2.2.2.1
abbrev mP (y : MI) : Nat := y.2.2.2.2.2.1
abbrev mS (y : MI) : Bool := y.2.2.2.2.2.2.1
abbrev mC (y : MI) : Nat := y.2.2.2.2.2.2.2
def yN_add : MI := (⟨RC 0, "add", "(I)I"⟩, prog_2_method_2_code, 2, (some .int), 0, 1, false, 0)
def yN_at : MI := (⟨RC 0, "at", "(I)I"⟩, prog_2_method_3_code, 2, (some .int), 0, 1, false, 0)
def yN_init : MI := (⟨RC 0, "<init>", "(I)V"⟩, prog_2_method_1_code, 2, none, 1, 1, false, 0)
def yP_forget : MI := (⟨RC 1, "forget", "()V"⟩, prog_3_method_4_code, 1, none, 0, 0, false, 1)
def yP_giveBack : MI := (⟨RC 1, "giveBack", "(LOnePortrait$Street;)Z"⟩, prog_3_method_3_code, 4, (some .boolean), 1, 1, false, 1)
def yP_init : MI := (⟨RC 1, "<init>", "()V"⟩, prog_3_method_1_code, 2, none, 2, 0, false, 1)
def yP_keep : MI := (⟨RC 1, "keep", "(LOnePortrait$Street;)V"⟩, prog_3_method_2_code, 3, none, 1, 1, false, 1)
def yP_slotAt : MI := (⟨RC 1, "slotAt", "(I)LOnePortrait$Street;"⟩, prog_3_method_5_code, 2, (some (.object "OnePortrait$Street")), 0, 1, false, 1)
def yS_addWidow : MI := (⟨RC 2, "addWidow", "(IIII)Z"⟩, prog_4_method_13_code, 7, (some .boolean), 0, 4, false, 2)
def yS_allGrief : MI := (⟨RC 2, "allGrief", "()I"⟩, prog_4_method_27_code, 3, (some .int), 2, 0, false, 2)
def yS_allMet : MI := (⟨RC 2, "allMet", "()I"⟩, prog_4_method_28_code, 3, (some .int), 2, 0, false, 2)
def yS_allSeen : MI := (⟨RC 2, "allSeen", "()I"⟩, prog_4_method_29_code, 1, (some .int), 0, 0, false, 2)
def yS_become : MI := (⟨RC 2, "become", "(LOnePortrait$Street;)V"⟩, prog_4_method_2_code, 3, none, 0, 1, false, 2)
def yS_canHang : MI := (⟨RC 2, "canHang", "(I)Z"⟩, prog_4_method_4_code, 2, (some .boolean), 1, 1, false, 2)
def yS_clearestPart : MI := (⟨RC 2, "clearestPart", "()I"⟩, prog_4_method_31_code, 3, (some .int), 1, 0, false, 2)
def yS_comfortOf : MI := (⟨RC 2, "comfortOf", "(I)I"⟩, prog_4_method_22_code, 4, (some .int), 1, 1, false, 2)
def yS_dayOf : MI := (⟨RC 2, "dayOf", "(I)I"⟩, prog_4_method_8_code, 2, (some .int), 1, 1, false, 2)
def yS_daysShared : MI := (⟨RC 2, "daysShared", "()I"⟩, prog_4_method_35_code, 4, (some .int), 2, 0, false, 2)
def yS_drawRota : MI := (⟨RC 2, "drawRota", "(I)I"⟩, prog_4_method_20_code, 4, (some .int), 0, 1, false, 2)
def yS_figureOf : MI := (⟨RC 2, "figureOf", "(I)I"⟩, prog_4_method_6_code, 2, (some .int), 1, 1, false, 2)
def yS_griefOf : MI := (⟨RC 2, "griefOf", "(I)I"⟩, prog_4_method_7_code, 2, (some .int), 1, 1, false, 2)
def yS_hangWith : MI := (⟨RC 2, "hangWith", "(I)V"⟩, prog_4_method_26_code, 3, none, 2, 1, false, 2)
def yS_hasWidow : MI := (⟨RC 2, "hasWidow", "(I)Z"⟩, prog_4_method_3_code, 2, (some .boolean), 0, 1, false, 2)
def yS_hostIn : MI := (⟨RC 2, "hostIn", "(I)I"⟩, prog_4_method_12_code, 2, (some .int), 1, 1, false, 2)
def yS_init : MI := (⟨RC 2, "<init>", "()V"⟩, prog_4_method_1_code, 2, none, 1, 0, false, 2)
def yS_kindOf : MI := (⟨RC 2, "kindOf", "(I)I"⟩, prog_4_method_5_code, 2, (some .int), 1, 1, false, 2)
def yS_leastSeen : MI := (⟨RC 2, "leastSeen", "()I"⟩, prog_4_method_30_code, 1, (some .int), 1, 0, false, 2)
def yS_leaveOut : MI := (⟨RC 2, "leaveOut", "(I)V"⟩, prog_4_method_16_code, 3, none, 0, 1, false, 2)
def yS_letPass : MI := (⟨RC 2, "letPass", "(I)Z"⟩, prog_4_method_23_code, 3, (some .boolean), 4, 1, false, 2)
def yS_metOf : MI := (⟨RC 2, "metOf", "(I)I"⟩, prog_4_method_9_code, 2, (some .int), 1, 1, false, 2)
def yS_mostGrieved : MI := (⟨RC 2, "mostGrieved", "()I"⟩, prog_4_method_33_code, 4, (some .int), 2, 0, false, 2)
def yS_passWeek : MI := (⟨RC 2, "passWeek", "(Z)V"⟩, prog_4_method_25_code, 4, none, 3, 1, false, 2)
def yS_passWeeks : MI := (⟨RC 2, "passWeeks", "(I)V"⟩, prog_4_method_24_code, 3, none, 4, 1, false, 2)
def yS_pretend : MI := (⟨RC 2, "pretend", "(III)V"⟩, prog_4_method_19_code, 4, none, 1, 3, false, 2)
def yS_putIn : MI := (⟨RC 2, "putIn", "(II)V"⟩, prog_4_method_15_code, 4, none, 0, 2, false, 2)
def yS_seenOf : MI := (⟨RC 2, "seenOf", "(I)I"⟩, prog_4_method_10_code, 2, (some .int), 0, 1, false, 2)
def yS_setGrief : MI := (⟨RC 2, "setGrief", "(II)Z"⟩, prog_4_method_18_code, 3, (some .boolean), 1, 2, false, 2)
def yS_setPlace : MI := (⟨RC 2, "setPlace", "(II)Z"⟩, prog_4_method_14_code, 3, (some .boolean), 2, 2, false, 2)
def yS_setSeen : MI := (⟨RC 2, "setSeen", "(II)Z"⟩, prog_4_method_17_code, 3, (some .boolean), 0, 2, false, 2)
def yS_turnsOf : MI := (⟨RC 2, "turnsOf", "(I)I"⟩, prog_4_method_32_code, 4, (some .int), 1, 1, false, 2)
def yS_wearOf : MI := (⟨RC 2, "wearOf", "(II)I"⟩, prog_4_method_21_code, 3, (some .int), 1, 2, false, 2)
def yS_whoseIs : MI := (⟨RC 2, "whoseIs", "(I)I"⟩, prog_4_method_11_code, 2, (some .int), 0, 1, false, 2)
def yS_withoutTurn : MI := (⟨RC 2, "withoutTurn", "()I"⟩, prog_4_method_34_code, 3, (some .int), 2, 0, false, 2)
def yT_digitsAt : MI := (⟨RC 3, "digitsAt", "(I)I"⟩, prog_5_method_2_code, 2, (some .int), 1, 1, false, 3)
def yT_firstBadPlace : MI := (⟨RC 3, "firstBadPlace", "()I"⟩, prog_5_method_4_code, 4, (some .int), 2, 0, false, 3)
def yT_init : MI := (⟨RC 3, "<init>", "()V"⟩, prog_5_method_1_code, 1, none, 2, 0, false, 3)
def yT_number : MI := (⟨RC 3, "number", "(II)I"⟩, prog_5_method_3_code, 5, (some .int), 1, 2, false, 3)
def yO_back : MI := (⟨RC 4, "back", "()I"⟩, prog_1_method_15_code, 1, (some .int), 2, 0, false, 4)
def yO_bestOn : MI := (⟨RC 4, "bestOn", "(I)I"⟩, prog_1_method_30_code, 5, (some .int), 2, 1, false, 4)
def yO_bestRota : MI := (⟨RC 4, "bestRota", "(I)I"⟩, prog_1_method_29_code, 5, (some .int), 3, 1, false, 4)
def yO_burden : MI := (⟨RC 4, "burden", "(IIIII)I"⟩, prog_1_method_36_code, 6, (some .int), 5, 5, false, 4)
def yO_calmWeight : MI := (⟨RC 4, "calmWeight", "(IIII)J"⟩, prog_1_method_38_code, 13, (some .long), 4, 4, false, 4)
def yO_carry : MI := (⟨RC 4, "carry", "(I)I"⟩, prog_1_method_27_code, 7, (some .int), 3, 1, false, 4)
def yO_clear : MI := (⟨RC 4, "clear", "()I"⟩, prog_1_method_50_code, 2, (some .int), 0, 0, false, 4)
def yO_commonDivisor : MI := (⟨RC 4, "commonDivisor", "(JJ)J"⟩, prog_1_method_64_code, 11, (some .long), 0, 2, true, 4)
def yO_count : MI := (⟨RC 4, "count", "(I)I"⟩, prog_1_method_54_code, 2, (some .int), 3, 1, false, 4)
def yO_dayMet : MI := (⟨RC 4, "dayMet", "(I)I"⟩, prog_1_method_20_code, 4, (some .int), 4, 1, false, 4)
def yO_eased : MI := (⟨RC 4, "eased", "(II)I"⟩, prog_1_method_44_code, 4, (some .int), 6, 2, false, 4)
def yO_either : MI := (⟨RC 4, "either", "(II)I"⟩, prog_1_method_62_code, 2, (some .int), 0, 2, true, 4)
def yO_face : MI := (⟨RC 4, "face", "(I)I"⟩, prog_1_method_41_code, 3, (some .int), 2, 1, false, 4)
def yO_feed : MI := (⟨RC 4, "feed", "(I)I"⟩, prog_1_method_2_code, 3, (some .int), 1, 1, false, 4)
def yO_firstGone : MI := (⟨RC 4, "firstGone", "()I"⟩, prog_1_method_19_code, 3, (some .int), 4, 0, false, 4)
def yO_gales : MI := (⟨RC 4, "gales", "(IIIII)J"⟩, prog_1_method_37_code, 10, (some .long), 5, 5, false, 4)
def yO_gap : MI := (⟨RC 4, "gap", "(I)I"⟩, prog_1_method_43_code, 6, (some .int), 2, 1, false, 4)
def yO_gone : MI := (⟨RC 4, "gone", "(I)I"⟩, prog_1_method_18_code, 4, (some .int), 5, 1, false, 4)
def yO_grieves : MI := (⟨RC 4, "grieves", "(II)I"⟩, prog_1_method_13_code, 5, (some .int), 2, 2, false, 4)
def yO_houseIn : MI := (⟨RC 4, "houseIn", "(I)I"⟩, prog_1_method_28_code, 3, (some .int), 2, 1, false, 4)
def yO_image : MI := (⟨RC 4, "image", "()I"⟩, prog_1_method_52_code, 1, (some .int), 1, 0, false, 4)
def yO_inLowestTerms : MI := (⟨RC 4, "inLowestTerms", "(JJI)J"⟩, prog_1_method_63_code, 7, (some .long), 1, 3, true, 4)
def yO_init : MI := (⟨RC 4, "<init>", "()V"⟩, prog_1_method_1_code, 1, none, 3, 0, false, 4)
def yO_isContent : MI := (⟨RC 4, "isContent", "(IIIII)Z"⟩, prog_1_method_35_code, 6, (some .boolean), 6, 5, false, 4)
def yO_judge : MI := (⟨RC 4, "judge", "()I"⟩, prog_1_method_49_code, 3, (some .int), 2, 0, false, 4)
def yO_kept : MI := (⟨RC 4, "kept", "()I"⟩, prog_1_method_46_code, 5, (some .int), 3, 0, false, 4)
def yO_lasts : MI := (⟨RC 4, "lasts", "(I)I"⟩, prog_1_method_26_code, 4, (some .int), 4, 1, false, 4)
def yO_leave : MI := (⟨RC 4, "leave", "(I)I"⟩, prog_1_method_24_code, 7, (some .int), 6, 1, false, 4)
def yO_like : MI := (⟨RC 4, "like", "()I"⟩, prog_1_method_21_code, 5, (some .int), 2, 0, false, 4)
def yO_lots : MI := (⟨RC 4, "lots", "(III)I"⟩, prog_1_method_51_code, 8, (some .int), 5, 3, false, 4)
def yO_mean : MI := (⟨RC 4, "mean", "(I)J"⟩, prog_1_method_40_code, 3, (some .long), 3, 1, false, 4)
def yO_mend : MI := (⟨RC 4, "mend", "(I)I"⟩, prog_1_method_25_code, 7, (some .int), 6, 1, false, 4)
def yO_mends : MI := (⟨RC 4, "mends", "(II)I"⟩, prog_1_method_12_code, 5, (some .int), 2, 2, false, 4)
def yO_mindWearsLikeRow : MI := (⟨RC 4, "mindWearsLikeRow", "(I)Z"⟩, prog_1_method_33_code, 3, (some .boolean), 4, 1, false, 4)
def yO_next : MI := (⟨RC 4, "next", "(I)I"⟩, prog_1_method_42_code, 4, (some .int), 2, 1, false, 4)
def yO_partFault : MI := (⟨RC 4, "partFault", "(I)I"⟩, prog_1_method_59_code, 1, (some .int), 0, 1, true, 4)
def yO_puts : MI := (⟨RC 4, "puts", "(II)I"⟩, prog_1_method_11_code, 4, (some .int), 3, 2, false, 4)
def yO_rangeFault : MI := (⟨RC 4, "rangeFault", "(III)I"⟩, prog_1_method_61_code, 3, (some .int), 0, 3, true, 4)
def yO_readText : MI := (⟨RC 4, "readText", "()I"⟩, prog_1_method_4_code, 4, (some .int), 6, 0, false, 4)
def yO_refusalsOf : MI := (⟨RC 4, "refusalsOf", "(I)I"⟩, prog_1_method_57_code, 3, (some .int), 0, 1, false, 4)
def yO_refuse : MI := (⟨RC 4, "refuse", "(I)I"⟩, prog_1_method_56_code, 3, (some .int), 0, 1, false, 4)
def yO_restore : MI := (⟨RC 4, "restore", "()I"⟩, prog_1_method_53_code, 1, (some .int), 1, 0, false, 4)
def yO_rota : MI := (⟨RC 4, "rota", "(I)I"⟩, prog_1_method_9_code, 2, (some .int), 1, 1, false, 4)
def yO_row : MI := (⟨RC 4, "row", "(I)I"⟩, prog_1_method_48_code, 3, (some .int), 1, 1, false, 4)
def yO_seen : MI := (⟨RC 4, "seen", "(I)I"⟩, prog_1_method_8_code, 3, (some .int), 1, 1, false, 4)
def yO_stands : MI := (⟨RC 4, "stands", "(I)Z"⟩, prog_1_method_5_code, 2, (some .boolean), 5, 1, false, 4)
def yO_street : MI := (⟨RC 4, "street", "()I"⟩, prog_1_method_3_code, 2, (some .int), 7, 0, false, 4)
def yO_sundays : MI := (⟨RC 4, "sundays", "(I)I"⟩, prog_1_method_45_code, 3, (some .int), 3, 1, false, 4)
def yO_swap : MI := (⟨RC 4, "swap", "(I)I"⟩, prog_1_method_23_code, 8, (some .int), 6, 1, false, 4)
def yO_then : MI := (⟨RC 4, "then", "(II)I"⟩, prog_1_method_16_code, 4, (some .int), 6, 2, false, 4)
def yO_thinkAhead : MI := (⟨RC 4, "thinkAhead", "(I)V"⟩, prog_1_method_55_code, 2, none, 5, 1, false, 4)
def yO_turn : MI := (⟨RC 4, "turn", "(II)I"⟩, prog_1_method_22_code, 8, (some .int), 5, 2, false, 4)
def yO_two : MI := (⟨RC 4, "two", "(III)I"⟩, prog_1_method_34_code, 7, (some .int), 7, 3, false, 4)
def yO_wears : MI := (⟨RC 4, "wears", "(II)I"⟩, prog_1_method_7_code, 4, (some .int), 2, 2, false, 4)
def yO_weeks : MI := (⟨RC 4, "weeks", "(I)I"⟩, prog_1_method_14_code, 3, (some .int), 5, 1, false, 4)
def yO_weeksWith : MI := (⟨RC 4, "weeksWith", "(II)I"⟩, prog_1_method_47_code, 5, (some .int), 2, 2, false, 4)
def yO_whatFault : MI := (⟨RC 4, "whatFault", "(II)I"⟩, prog_1_method_60_code, 2, (some .int), 0, 2, true, 4)
def yO_whatKind : MI := (⟨RC 4, "whatKind", "(III)I"⟩, prog_1_method_32_code, 8, (some .int), 5, 3, false, 4)
def yO_whoHad : MI := (⟨RC 4, "whoHad", "(I)I"⟩, prog_1_method_31_code, 5, (some .int), 5, 1, false, 4)
def yO_widow : MI := (⟨RC 4, "widow", "(IIII)I"⟩, prog_1_method_10_code, 5, (some .int), 1, 4, false, 4)
def yO_widowFault : MI := (⟨RC 4, "widowFault", "(I)I"⟩, prog_1_method_58_code, 2, (some .int), 1, 1, false, 4)
def yO_widowIn : MI := (⟨RC 4, "widowIn", "(III)I"⟩, prog_1_method_17_code, 5, (some .int), 6, 3, false, 4)
def yO_widowOf : MI := (⟨RC 4, "widowOf", "(II)I"⟩, prog_1_method_6_code, 4, (some .int), 2, 2, false, 4)
def yO_worst : MI := (⟨RC 4, "worst", "(I)I"⟩, prog_1_method_39_code, 3, (some .int), 3, 1, false, 4)
def yM_adds : MI := (⟨RC 5, "adds", "(IIII)V"⟩, prog_7_method_33_code, 5, none, 0, 4, false, 5)
def yM_allGrief : MI := (⟨RC 5, "allGrief", "()I"⟩, prog_7_method_40_code, 1, (some .int), 1, 0, false, 5)
def yM_allOf : MI := (⟨RC 5, "allOf", "([II)I"⟩, prog_7_method_39_code, 5, (some .int), 0, 2, false, 5)
def yM_back : MI := (⟨RC 5, "back", "()I"⟩, prog_7_method_30_code, 1, (some .int), 2, 0, false, 5)
def yM_bestOn : MI := (⟨RC 5, "bestOn", "(I)I"⟩, prog_7_method_73_code, 4, (some .int), 0, 1, false, 5)
def yM_bestRota : MI := (⟨RC 5, "bestRota", "(I)I"⟩, prog_7_method_74_code, 5, (some .int), 1, 1, false, 5)
def yM_bitsFor : MI := (⟨RC 5, "bitsFor", "([IIII)I"⟩, prog_7_method_77_code, 8, (some .int), 4, 4, false, 5)
def yM_bound : MI := (⟨RC 5, "bound", "(III)I"⟩, prog_7_method_6_code, 3, (some .int), 0, 3, true, 5)
def yM_carry : MI := (⟨RC 5, "carry", "(I)I"⟩, prog_7_method_72_code, 6, (some .int), 2, 1, false, 5)
def yM_changes : MI := (⟨RC 5, "changes", "()V"⟩, prog_7_method_27_code, 1, none, 2, 0, false, 5)
def yM_changesBack : MI := (⟨RC 5, "changesBack", "()V"⟩, prog_7_method_28_code, 1, none, 2, 0, false, 5)
def yM_clear : MI := (⟨RC 5, "clear", "()I"⟩, prog_7_method_97_code, 2, (some .int), 0, 0, false, 5)
def yM_comesPlace : MI := (⟨RC 5, "comesPlace", "(I)Z"⟩, prog_7_method_18_code, 2, (some .boolean), 2, 1, false, 5)
def yM_comesTold : MI := (⟨RC 5, "comesTold", "(I)Z"⟩, prog_7_method_20_code, 3, (some .boolean), 4, 1, false, 5)
def yM_comesWeeks : MI := (⟨RC 5, "comesWeeks", "(I)Z"⟩, prog_7_method_19_code, 2, (some .boolean), 3, 1, false, 5)
def yM_comesWidow : MI := (⟨RC 5, "comesWidow", "(I)Z"⟩, prog_7_method_17_code, 2, (some .boolean), 1, 1, false, 5)
def yM_comfortOf : MI := (⟨RC 5, "comfortOf", "(I)I"⟩, prog_7_method_35_code, 4, (some .int), 0, 1, false, 5)
def yM_count : MI := (⟨RC 5, "count", "(I)I"⟩, prog_7_method_100_code, 2, (some .int), 2, 1, false, 5)
def yM_dayMet : MI := (⟨RC 5, "dayMet", "(I)I"⟩, prog_7_method_58_code, 5, (some .int), 3, 1, false, 5)
def yM_divisor : MI := (⟨RC 5, "divisor", "(JJ)J"⟩, prog_7_method_81_code, 10, (some .long), 0, 2, true, 5)
def yM_draw : MI := (⟨RC 5, "draw", "(I)I"⟩, prog_7_method_98_code, 2, (some .int), 0, 1, false, 5)
def yM_eased : MI := (⟨RC 5, "eased", "(II)I"⟩, prog_7_method_91_code, 4, (some .int), 4, 2, false, 5)
def yM_face : MI := (⟨RC 5, "face", "(I)I"⟩, prog_7_method_88_code, 4, (some .int), 1, 1, false, 5)
def yM_feed : MI := (⟨RC 5, "feed", "(I)I"⟩, prog_7_method_12_code, 3, (some .int), 1, 1, false, 5)
def yM_findCosts : MI := (⟨RC 5, "findCosts", "(III)V"⟩, prog_7_method_79_code, 5, none, 3, 3, false, 5)
def yM_forgets : MI := (⟨RC 5, "forgets", "()V"⟩, prog_7_method_26_code, 1, none, 2, 0, false, 5)
def yM_gales : MI := (⟨RC 5, "gales", "(IIIII)J"⟩, prog_7_method_83_code, 15, (some .long), 3, 5, false, 5)
def yM_gap : MI := (⟨RC 5, "gap", "(I)I"⟩, prog_7_method_90_code, 5, (some .int), 1, 1, false, 5)
def yM_goes : MI := (⟨RC 5, "goes", "(I)V"⟩, prog_7_method_38_code, 3, none, 2, 1, false, 5)
def yM_goesWeek : MI := (⟨RC 5, "goesWeek", "(Z)V"⟩, prog_7_method_37_code, 4, none, 1, 1, false, 5)
def yM_gone : MI := (⟨RC 5, "gone", "(I)I"⟩, prog_7_method_57_code, 5, (some .int), 4, 1, false, 5)
def yM_goneWhen : MI := (⟨RC 5, "goneWhen", "(I)I"⟩, prog_7_method_56_code, 4, (some .int), 3, 1, false, 5)
def yM_griefIn : MI := (⟨RC 5, "griefIn", "(I)I"⟩, prog_7_method_52_code, 3, (some .int), 3, 1, false, 5)
def yM_griefOfIn : MI := (⟨RC 5, "griefOfIn", "(II)I"⟩, prog_7_method_53_code, 4, (some .int), 3, 2, false, 5)
def yM_griefPutting : MI := (⟨RC 5, "griefPutting", "(III)I"⟩, prog_7_method_61_code, 5, (some .int), 4, 3, false, 5)
def yM_grieves : MI := (⟨RC 5, "grieves", "(II)I"⟩, prog_7_method_49_code, 5, (some .int), 3, 2, false, 5)
def yM_has : MI := (⟨RC 5, "has", "(II)Z"⟩, prog_7_method_8_code, 2, (some .boolean), 0, 2, true, 5)
def yM_holderIn : MI := (⟨RC 5, "holderIn", "(I)I"⟩, prog_7_method_36_code, 2, (some .int), 0, 1, false, 5)
def yM_houseIn : MI := (⟨RC 5, "houseIn", "(I)I"⟩, prog_7_method_71_code, 2, (some .int), 1, 1, false, 5)
def yM_image : MI := (⟨RC 5, "image", "()I"⟩, prog_7_method_31_code, 1, (some .int), 2, 0, false, 5)
def yM_init : MI := (⟨RC 5, "<init>", "()V"⟩, prog_7_method_1_code, 2, none, 1, 0, false, 5)
def yM_isHolder : MI := (⟨RC 5, "isHolder", "(I)Z"⟩, prog_7_method_11_code, 2, (some .boolean), 1, 1, false, 5)
def yM_isIn : MI := (⟨RC 5, "isIn", "(III)Z"⟩, prog_7_method_5_code, 3, (some .boolean), 0, 3, true, 5)
def yM_isPart : MI := (⟨RC 5, "isPart", "(I)Z"⟩, prog_7_method_10_code, 1, (some .boolean), 0, 1, true, 5)
def yM_isSeen : MI := (⟨RC 5, "isSeen", "(I)Z"⟩, prog_7_method_69_code, 3, (some .boolean), 0, 1, false, 5)
def yM_isSo : MI := (⟨RC 5, "isSo", "(I)Z"⟩, prog_7_method_75_code, 4, (some .boolean), 3, 1, false, 5)
def yM_isWidow : MI := (⟨RC 5, "isWidow", "(I)Z"⟩, prog_7_method_9_code, 2, (some .boolean), 0, 1, false, 5)
def yM_judge : MI := (⟨RC 5, "judge", "()I"⟩, prog_7_method_96_code, 3, (some .int), 0, 0, false, 5)
def yM_keepsBack : MI := (⟨RC 5, "keepsBack", "()V"⟩, prog_7_method_29_code, 2, none, 2, 0, false, 5)
def yM_kept : MI := (⟨RC 5, "kept", "()I"⟩, prog_7_method_94_code, 5, (some .int), 2, 0, false, 5)
def yM_lasts : MI := (⟨RC 5, "lasts", "(I)I"⟩, prog_7_method_70_code, 4, (some .int), 3, 1, false, 5)
def yM_leave : MI := (⟨RC 5, "leave", "(I)I"⟩, prog_7_method_67_code, 7, (some .int), 4, 1, false, 5)
def yM_leavesOut : MI := (⟨RC 5, "leavesOut", "(I)V"⟩, prog_7_method_65_code, 3, none, 0, 1, false, 5)
def yM_letterNow : MI := (⟨RC 5, "letterNow", "()I"⟩, prog_7_method_13_code, 1, (some .int), 0, 0, false, 5)
def yM_like : MI := (⟨RC 5, "like", "()I"⟩, prog_7_method_60_code, 3, (some .int), 1, 0, false, 5)
def yM_likeness : MI := (⟨RC 5, "likeness", "(I)I"⟩, prog_7_method_59_code, 2, (some .int), 0, 1, false, 5)
def yM_lots : MI := (⟨RC 5, "lots", "(III)I"⟩, prog_7_method_99_code, 9, (some .int), 3, 3, false, 5)
def yM_lower : MI := (⟨RC 5, "lower", "(I)I"⟩, prog_7_method_3_code, 2, (some .int), 0, 1, false, 5)
def yM_lowestOf : MI := (⟨RC 5, "lowestOf", "(I)J"⟩, prog_7_method_4_code, 2, (some .long), 0, 1, false, 5)
def yM_manyWith : MI := (⟨RC 5, "manyWith", "(II)I"⟩, prog_7_method_92_code, 5, (some .int), 1, 2, false, 5)
def yM_mean : MI := (⟨RC 5, "mean", "(I)J"⟩, prog_7_method_87_code, 2, (some .long), 2, 1, false, 5)
def yM_mend : MI := (⟨RC 5, "mend", "(I)I"⟩, prog_7_method_68_code, 8, (some .int), 4, 1, false, 5)
def yM_mends : MI := (⟨RC 5, "mends", "(II)I"⟩, prog_7_method_48_code, 5, (some .int), 3, 2, false, 5)
def yM_neverOnes : MI := (⟨RC 5, "neverOnes", "()I"⟩, prog_7_method_84_code, 3, (some .int), 1, 0, false, 5)
def yM_next : MI := (⟨RC 5, "next", "(I)I"⟩, prog_7_method_89_code, 3, (some .int), 1, 1, false, 5)
def yM_no : MI := (⟨RC 5, "no", "(I)I"⟩, prog_7_method_2_code, 2, (some .int), 0, 1, false, 5)
def yM_notWeeks : MI := (⟨RC 5, "notWeeks", "(I)I"⟩, prog_7_method_51_code, 1, (some .int), 1, 1, true, 5)
def yM_partOf : MI := (⟨RC 5, "partOf", "(JJI)J"⟩, prog_7_method_82_code, 5, (some .long), 1, 3, true, 5)
def yM_passOne : MI := (⟨RC 5, "passOne", "(I)I"⟩, prog_7_method_23_code, 3, (some .int), 0, 1, false, 5)
def yM_passes : MI := (⟨RC 5, "passes", "([I)V"⟩, prog_7_method_22_code, 3, none, 0, 1, false, 5)
def yM_passesAll : MI := (⟨RC 5, "passesAll", "(IZ)V"⟩, prog_7_method_24_code, 3, none, 1, 2, false, 5)
def yM_puts : MI := (⟨RC 5, "puts", "(II)I"⟩, prog_7_method_47_code, 5, (some .int), 3, 2, false, 5)
def yM_readsAll : MI := (⟨RC 5, "readsAll", "(II)Z"⟩, prog_7_method_15_code, 3, (some .boolean), 2, 2, false, 5)
def yM_readsDigits : MI := (⟨RC 5, "readsDigits", "(II)Z"⟩, prog_7_method_14_code, 5, (some .boolean), 1, 2, false, 5)
def yM_restore : MI := (⟨RC 5, "restore", "()I"⟩, prog_7_method_32_code, 1, (some .int), 2, 0, false, 5)
def yM_rota : MI := (⟨RC 5, "rota", "(I)I"⟩, prog_7_method_45_code, 2, (some .int), 1, 1, false, 5)
def yM_row : MI := (⟨RC 5, "row", "(I)I"⟩, prog_7_method_95_code, 3, (some .int), 1, 1, false, 5)
def yM_sameDays : MI := (⟨RC 5, "sameDays", "()I"⟩, prog_7_method_85_code, 4, (some .int), 0, 0, false, 5)
def yM_seen : MI := (⟨RC 5, "seen", "(I)I"⟩, prog_7_method_44_code, 2, (some .int), 1, 1, false, 5)
def yM_seenLeaving : MI := (⟨RC 5, "seenLeaving", "(II)I"⟩, prog_7_method_66_code, 4, (some .int), 3, 2, false, 5)
def yM_statement : MI := (⟨RC 5, "statement", "()Z"⟩, prog_7_method_16_code, 2, (some .boolean), 3, 0, false, 5)
def yM_street : MI := (⟨RC 5, "street", "()I"⟩, prog_7_method_21_code, 3, (some .int), 5, 0, false, 5)
def yM_sundays : MI := (⟨RC 5, "sundays", "(I)I"⟩, prog_7_method_93_code, 3, (some .int), 2, 1, false, 5)
def yM_swap : MI := (⟨RC 5, "swap", "(I)I"⟩, prog_7_method_64_code, 8, (some .int), 4, 1, false, 5)
def yM_swapsPlaces : MI := (⟨RC 5, "swapsPlaces", "(II)V"⟩, prog_7_method_63_code, 4, none, 0, 2, false, 5)
def yM_then : MI := (⟨RC 5, "then", "(II)I"⟩, prog_7_method_54_code, 5, (some .int), 3, 2, false, 5)
def yM_thinks : MI := (⟨RC 5, "thinks", "()V"⟩, prog_7_method_25_code, 1, none, 2, 0, false, 5)
def yM_turn : MI := (⟨RC 5, "turn", "(II)I"⟩, prog_7_method_62_code, 8, (some .int), 5, 2, false, 5)
def yM_turnsOf : MI := (⟨RC 5, "turnsOf", "(I)I"⟩, prog_7_method_41_code, 4, (some .int), 0, 1, false, 5)
def yM_two : MI := (⟨RC 5, "two", "(III)I"⟩, prog_7_method_80_code, 6, (some .int), 4, 3, false, 5)
def yM_wears : MI := (⟨RC 5, "wears", "(II)I"⟩, prog_7_method_43_code, 4, (some .int), 1, 2, false, 5)
def yM_wearsOf : MI := (⟨RC 5, "wearsOf", "(II)I"⟩, prog_7_method_34_code, 5, (some .int), 0, 2, false, 5)
def yM_weeks : MI := (⟨RC 5, "weeks", "(I)I"⟩, prog_7_method_50_code, 3, (some .int), 3, 1, false, 5)
def yM_whatKind : MI := (⟨RC 5, "whatKind", "(III)I"⟩, prog_7_method_78_code, 5, (some .int), 5, 3, false, 5)
def yM_whoHad : MI := (⟨RC 5, "whoHad", "(I)I"⟩, prog_7_method_76_code, 4, (some .int), 4, 1, false, 5)
def yM_widow : MI := (⟨RC 5, "widow", "(IIII)I"⟩, prog_7_method_46_code, 6, (some .int), 1, 4, false, 5)
def yM_widowIn : MI := (⟨RC 5, "widowIn", "(III)I"⟩, prog_7_method_55_code, 6, (some .int), 3, 3, false, 5)
def yM_widowOf : MI := (⟨RC 5, "widowOf", "(II)I"⟩, prog_7_method_42_code, 3, (some .int), 1, 2, false, 5)
def yM_within : MI := (⟨RC 5, "within", "(I)I"⟩, prog_7_method_7_code, 1, (some .int), 0, 1, true, 5)
def yM_worst : MI := (⟨RC 5, "worst", "(I)I"⟩, prog_7_method_86_code, 4, (some .int), 2, 1, false, 5)
/-- what the tables say of a method that is no constructor -/
def OKm (y : MI) : Prop := TW (.code (mN y) (mB y) (mL y) (mR y)) ∧ TW (.initialized (mN y).cls) ∧ ((mN y).cls = RC (mC y) ∧ (mN y).cls ≠ "java/lang/invoke/MethodHandle" ∧ (mN y).cls ≠ "java/lang/invoke/VarHandle" ∧ (parseMethodDescriptor (mN y).desc).map (fun d => d.parameters.length) = some (mP y)) ∧ (mS y = true → TW (.static (mN y))) ∧ (mS y = false → TW (.instanceMethod (mN y)) ∧ TW (.selects (mN y).cls (mN y) (mN y))) ∧ mL y ≤ 15 ∧ plainName (mN y).cls = true ∧ mC y < 6
theorem okyN_add : OKm yN_add := ⟨tw_t 147 (by decide +kernel) (by decide +kernel), tw_t 4 (by decide +kernel) (by decide +kernel), by decide +kernel, (fun h => nomatch h), fun _ => ⟨tw_t 146 (by decide +kernel) (by decide +kernel), tw_t 1070 (by decide +kernel) (by decide +kernel)⟩, by decide +kernel, by decide +kernel, by decide +kernel⟩
theorem okyN_at : OKm yN_at := ⟨tw_t 165 (by decide +kernel) (by decide +kernel), tw_t 4 (by decide +kernel) (by decide +kernel), by decide +kernel, (fun h => nomatch h), fun _ => ⟨tw_t 164 (by decide +kernel) (by decide +kernel), tw_t 1067 (by decide +kernel) (by decide +kernel)⟩, by decide +kernel, by decide +kernel, by decide +kernel⟩
theorem okyP_forget : OKm yP_forget := ⟨tw_t 244 (by decide +kernel) (by decide +kernel), tw_t 3 (by decide +kernel) (by decide +kernel), by decide +kernel, (fun h => nomatch h), fun _ => ⟨tw_t 242 (by decide +kernel) (by decide +kernel), tw_t 243 (by decide +kernel) (by decide +kernel)⟩, by decide +kernel, by decide +kernel, by decide +kernel⟩
theorem okyP_giveBack : OKm yP_giveBack := ⟨tw_t 353 (by decide +kernel) (by decide +kernel), tw_t 3 (by decide +kernel) (by decide +kernel), by decide +kernel, (fun h => nomatch h), fun _ => ⟨tw_t 351 (by decide +kernel) (by decide +kernel), tw_t 352 (by decide +kernel) (by decide +kernel)⟩, by decide +kernel, by decide +kernel, by decide +kernel⟩
theorem okyP_keep : OKm yP_keep := ⟨tw_t 318 (by decide +kernel) (by decide +kernel), tw_t 3 (by decide +kernel) (by decide +kernel), by decide +kernel, (fun h => nomatch h), fun _ => ⟨tw_t 316 (by decide +kernel) (by decide +kernel), tw_t 317 (by decide +kernel) (by decide +kernel)⟩, by decide +kernel, by decide +kernel, by decide +kernel⟩
theorem okyP_slotAt : OKm yP_slotAt := ⟨tw_t 322 (by decide +kernel) (by decide +kernel), tw_t 3 (by decide +kernel) (by decide +kernel), by decide +kernel, (fun h => nomatch h), fun _ => ⟨tw_t 321 (by decide +kernel) (by decide +kernel), tw_s 5 (by decide +kernel) (by decide +kernel)⟩, by decide +kernel, by decide +kernel, by decide +kernel⟩
theorem okyS_addWidow : OKm yS_addWidow := ⟨tw_t 186 (by decide +kernel) (by decide +kernel), tw_t 2 (by decide +kernel) (by decide +kernel), by decide +kernel, (fun h => nomatch h), fun _ => ⟨tw_t 184 (by decide +kernel) (by decide +kernel), tw_t 185 (by decide +kernel) (by decide +kernel)⟩, by decide +kernel, by decide +kernel, by decide +kernel⟩
theorem okyS_allGrief : OKm yS_allGrief := ⟨tw_t 344 (by decide +kernel) (by decide +kernel), tw_t 2 (by decide +kernel) (by decide +kernel), by decide +kernel, (fun h => nomatch h), fun _ => ⟨tw_t 342 (by decide +kernel) (by decide +kernel), tw_t 343 (by decide +kernel) (by decide +kernel)⟩, by decide +kernel, by decide +kernel, by decide +kernel⟩
theorem okyS_allMet : OKm yS_allMet := ⟨tw_t 566 (by decide +kernel) (by decide +kernel), tw_t 2 (by decide +kernel) (by decide +kernel), by decide +kernel, (fun h => nomatch h), fun _ => ⟨tw_t 564 (by decide +kernel) (by decide +kernel), tw_t 565 (by decide +kernel) (by decide +kernel)⟩, by decide +kernel, by decide +kernel, by decide +kernel⟩
theorem okyS_allSeen : OKm yS_allSeen := ⟨tw_t 403 (by decide +kernel) (by decide +kernel), tw_t 2 (by decide +kernel) (by decide +kernel), by decide +kernel, (fun h => nomatch h), fun _ => ⟨tw_t 401 (by decide +kernel) (by decide +kernel), tw_t 402 (by decide +kernel) (by decide +kernel)⟩, by decide +kernel, by decide +kernel, by decide +kernel⟩
theorem okyS_become : OKm yS_become := ⟨tw_t 173 (by decide +kernel) (by decide +kernel), tw_t 2 (by decide +kernel) (by decide +kernel), by decide +kernel, (fun h => nomatch h), fun _ => ⟨tw_t 171 (by decide +kernel) (by decide +kernel), tw_t 172 (by decide +kernel) (by decide +kernel)⟩, by decide +kernel, by decide +kernel, by decide +kernel⟩
theorem okyS_canHang : OKm yS_canHang := ⟨tw_t 194 (by decide +kernel) (by decide +kernel), tw_t 2 (by decide +kernel) (by decide +kernel), by decide +kernel, (fun h => nomatch h), fun _ => ⟨tw_t 192 (by decide +kernel) (by decide +kernel), tw_t 193 (by decide +kernel) (by decide +kernel)⟩, by decide +kernel, by decide +kernel, by decide +kernel⟩
theorem okyS_clearestPart : OKm yS_clearestPart := ⟨tw_t 512 (by decide +kernel) (by decide +kernel), tw_t 2 (by decide +kernel) (by decide +kernel), by decide +kernel, (fun h => nomatch h), fun _ => ⟨tw_t 510 (by decide +kernel) (by decide +kernel), tw_t 511 (by decide +kernel) (by decide +kernel)⟩, by decide +kernel, by decide +kernel, by decide +kernel⟩
theorem okyS_comfortOf : OKm yS_comfortOf := ⟨tw_t 230 (by decide +kernel) (by decide +kernel), tw_t 2 (by decide +kernel) (by decide +kernel), by decide +kernel, (fun h => nomatch h), fun _ => ⟨tw_t 228 (by decide +kernel) (by decide +kernel), tw_t 229 (by decide +kernel) (by decide +kernel)⟩, by decide +kernel, by decide +kernel, by decide +kernel⟩
theorem okyS_dayOf : OKm yS_dayOf := ⟨tw_t 275 (by decide +kernel) (by decide +kernel), tw_t 2 (by decide +kernel) (by decide +kernel), by decide +kernel, (fun h => nomatch h), fun _ => ⟨tw_t 273 (by decide +kernel) (by decide +kernel), tw_t 274 (by decide +kernel) (by decide +kernel)⟩, by decide +kernel, by decide +kernel, by decide +kernel⟩
theorem okyS_daysShared : OKm yS_daysShared := ⟨tw_t 499 (by decide +kernel) (by decide +kernel), tw_t 2 (by decide +kernel) (by decide +kernel), by decide +kernel, (fun h => nomatch h), fun _ => ⟨tw_t 497 (by decide +kernel) (by decide +kernel), tw_t 498 (by decide +kernel) (by decide +kernel)⟩, by decide +kernel, by decide +kernel, by decide +kernel⟩
theorem okyS_drawRota : OKm yS_drawRota := ⟨tw_t 559 (by decide +kernel) (by decide +kernel), tw_t 2 (by decide +kernel) (by decide +kernel), by decide +kernel, (fun h => nomatch h), fun _ => ⟨tw_t 557 (by decide +kernel) (by decide +kernel), tw_t 558 (by decide +kernel) (by decide +kernel)⟩, by decide +kernel, by decide +kernel, by decide +kernel⟩
theorem okyS_figureOf : OKm yS_figureOf := ⟨tw_t 267 (by decide +kernel) (by decide +kernel), tw_t 2 (by decide +kernel) (by decide +kernel), by decide +kernel, (fun h => nomatch h), fun _ => ⟨tw_t 265 (by decide +kernel) (by decide +kernel), tw_t 266 (by decide +kernel) (by decide +kernel)⟩, by decide +kernel, by decide +kernel, by decide +kernel⟩
theorem okyS_griefOf : OKm yS_griefOf := ⟨tw_t 271 (by decide +kernel) (by decide +kernel), tw_t 2 (by decide +kernel) (by decide +kernel), by decide +kernel, (fun h => nomatch h), fun _ => ⟨tw_t 269 (by decide +kernel) (by decide +kernel), tw_t 270 (by decide +kernel) (by decide +kernel)⟩, by decide +kernel, by decide +kernel, by decide +kernel⟩
theorem okyS_hangWith : OKm yS_hangWith := ⟨tw_t 226 (by decide +kernel) (by decide +kernel), tw_t 2 (by decide +kernel) (by decide +kernel), by decide +kernel, (fun h => nomatch h), fun _ => ⟨tw_t 225 (by decide +kernel) (by decide +kernel), tw_s 3 (by decide +kernel) (by decide +kernel)⟩, by decide +kernel, by decide +kernel, by decide +kernel⟩
theorem okyS_hasWidow : OKm yS_hasWidow := ⟨tw_t 198 (by decide +kernel) (by decide +kernel), tw_t 2 (by decide +kernel) (by decide +kernel), by decide +kernel, (fun h => nomatch h), fun _ => ⟨tw_t 196 (by decide +kernel) (by decide +kernel), tw_t 197 (by decide +kernel) (by decide +kernel)⟩, by decide +kernel, by decide +kernel, by decide +kernel⟩
theorem okyS_hostIn : OKm yS_hostIn := ⟨tw_t 218 (by decide +kernel) (by decide +kernel), tw_t 2 (by decide +kernel) (by decide +kernel), by decide +kernel, (fun h => nomatch h), fun _ => ⟨tw_t 216 (by decide +kernel) (by decide +kernel), tw_t 217 (by decide +kernel) (by decide +kernel)⟩, by decide +kernel, by decide +kernel, by decide +kernel⟩
theorem okyS_kindOf : OKm yS_kindOf := ⟨tw_t 263 (by decide +kernel) (by decide +kernel), tw_t 2 (by decide +kernel) (by decide +kernel), by decide +kernel, (fun h => nomatch h), fun _ => ⟨tw_t 261 (by decide +kernel) (by decide +kernel), tw_t 262 (by decide +kernel) (by decide +kernel)⟩, by decide +kernel, by decide +kernel, by decide +kernel⟩
theorem okyS_leastSeen : OKm yS_leastSeen := ⟨tw_t 419 (by decide +kernel) (by decide +kernel), tw_t 2 (by decide +kernel) (by decide +kernel), by decide +kernel, (fun h => nomatch h), fun _ => ⟨tw_t 417 (by decide +kernel) (by decide +kernel), tw_t 418 (by decide +kernel) (by decide +kernel)⟩, by decide +kernel, by decide +kernel, by decide +kernel⟩
theorem okyS_leaveOut : OKm yS_leaveOut := ⟨tw_t 407 (by decide +kernel) (by decide +kernel), tw_t 2 (by decide +kernel) (by decide +kernel), by decide +kernel, (fun h => nomatch h), fun _ => ⟨tw_t 405 (by decide +kernel) (by decide +kernel), tw_t 406 (by decide +kernel) (by decide +kernel)⟩, by decide +kernel, by decide +kernel, by decide +kernel⟩
theorem okyS_letPass : OKm yS_letPass := ⟨tw_t 210 (by decide +kernel) (by decide +kernel), tw_t 2 (by decide +kernel) (by decide +kernel), by decide +kernel, (fun h => nomatch h), fun _ => ⟨tw_t 208 (by decide +kernel) (by decide +kernel), tw_t 209 (by decide +kernel) (by decide +kernel)⟩, by decide +kernel, by decide +kernel, by decide +kernel⟩
theorem okyS_metOf : OKm yS_metOf := ⟨tw_t 279 (by decide +kernel) (by decide +kernel), tw_t 2 (by decide +kernel) (by decide +kernel), by decide +kernel, (fun h => nomatch h), fun _ => ⟨tw_t 277 (by decide +kernel) (by decide +kernel), tw_t 278 (by decide +kernel) (by decide +kernel)⟩, by decide +kernel, by decide +kernel, by decide +kernel⟩
theorem okyS_mostGrieved : OKm yS_mostGrieved := ⟨tw_t 490 (by decide +kernel) (by decide +kernel), tw_t 2 (by decide +kernel) (by decide +kernel), by decide +kernel, (fun h => nomatch h), fun _ => ⟨tw_t 488 (by decide +kernel) (by decide +kernel), tw_t 489 (by decide +kernel) (by decide +kernel)⟩, by decide +kernel, by decide +kernel, by decide +kernel⟩
theorem okyS_passWeek : OKm yS_passWeek := ⟨tw_t 214 (by decide +kernel) (by decide +kernel), tw_t 2 (by decide +kernel) (by decide +kernel), by decide +kernel, (fun h => nomatch h), fun _ => ⟨tw_t 212 (by decide +kernel) (by decide +kernel), tw_t 213 (by decide +kernel) (by decide +kernel)⟩, by decide +kernel, by decide +kernel, by decide +kernel⟩
theorem okyS_passWeeks : OKm yS_passWeeks := ⟨tw_t 340 (by decide +kernel) (by decide +kernel), tw_t 2 (by decide +kernel) (by decide +kernel), by decide +kernel, (fun h => nomatch h), fun _ => ⟨tw_t 338 (by decide +kernel) (by decide +kernel), tw_t 339 (by decide +kernel) (by decide +kernel)⟩, by decide +kernel, by decide +kernel, by decide +kernel⟩
theorem okyS_pretend : OKm yS_pretend := ⟨tw_t 455 (by decide +kernel) (by decide +kernel), tw_t 2 (by decide +kernel) (by decide +kernel), by decide +kernel, (fun h => nomatch h), fun _ => ⟨tw_t 453 (by decide +kernel) (by decide +kernel), tw_t 454 (by decide +kernel) (by decide +kernel)⟩, by decide +kernel, by decide +kernel, by decide +kernel⟩
theorem okyS_putIn : OKm yS_putIn := ⟨tw_t 391 (by decide +kernel) (by decide +kernel), tw_t 2 (by decide +kernel) (by decide +kernel), by decide +kernel, (fun h => nomatch h), fun _ => ⟨tw_t 389 (by decide +kernel) (by decide +kernel), tw_t 390 (by decide +kernel) (by decide +kernel)⟩, by decide +kernel, by decide +kernel, by decide +kernel⟩
theorem okyS_seenOf : OKm yS_seenOf := ⟨tw_t 300 (by decide +kernel) (by decide +kernel), tw_t 2 (by decide +kernel) (by decide +kernel), by decide +kernel, (fun h => nomatch h), fun _ => ⟨tw_t 298 (by decide +kernel) (by decide +kernel), tw_t 299 (by decide +kernel) (by decide +kernel)⟩, by decide +kernel, by decide +kernel, by decide +kernel⟩
theorem okyS_setGrief : OKm yS_setGrief := ⟨tw_t 206 (by decide +kernel) (by decide +kernel), tw_t 2 (by decide +kernel) (by decide +kernel), by decide +kernel, (fun h => nomatch h), fun _ => ⟨tw_t 204 (by decide +kernel) (by decide +kernel), tw_t 205 (by decide +kernel) (by decide +kernel)⟩, by decide +kernel, by decide +kernel, by decide +kernel⟩
theorem okyS_setPlace : OKm yS_setPlace := ⟨tw_t 190 (by decide +kernel) (by decide +kernel), tw_t 2 (by decide +kernel) (by decide +kernel), by decide +kernel, (fun h => nomatch h), fun _ => ⟨tw_t 188 (by decide +kernel) (by decide +kernel), tw_t 189 (by decide +kernel) (by decide +kernel)⟩, by decide +kernel, by decide +kernel, by decide +kernel⟩
theorem okyS_setSeen : OKm yS_setSeen := ⟨tw_t 202 (by decide +kernel) (by decide +kernel), tw_t 2 (by decide +kernel) (by decide +kernel), by decide +kernel, (fun h => nomatch h), fun _ => ⟨tw_t 200 (by decide +kernel) (by decide +kernel), tw_t 201 (by decide +kernel) (by decide +kernel)⟩, by decide +kernel, by decide +kernel, by decide +kernel⟩
theorem okyS_turnsOf : OKm yS_turnsOf := ⟨tw_t 284 (by decide +kernel) (by decide +kernel), tw_t 2 (by decide +kernel) (by decide +kernel), by decide +kernel, (fun h => nomatch h), fun _ => ⟨tw_t 282 (by decide +kernel) (by decide +kernel), tw_t 283 (by decide +kernel) (by decide +kernel)⟩, by decide +kernel, by decide +kernel, by decide +kernel⟩
theorem okyS_wearOf : OKm yS_wearOf := ⟨tw_t 235 (by decide +kernel) (by decide +kernel), tw_t 2 (by decide +kernel) (by decide +kernel), by decide +kernel, (fun h => nomatch h), fun _ => ⟨tw_t 233 (by decide +kernel) (by decide +kernel), tw_t 234 (by decide +kernel) (by decide +kernel)⟩, by decide +kernel, by decide +kernel, by decide +kernel⟩
theorem okyS_whoseIs : OKm yS_whoseIs := ⟨tw_t 222 (by decide +kernel) (by decide +kernel), tw_t 2 (by decide +kernel) (by decide +kernel), by decide +kernel, (fun h => nomatch h), fun _ => ⟨tw_t 220 (by decide +kernel) (by decide +kernel), tw_t 221 (by decide +kernel) (by decide +kernel)⟩, by decide +kernel, by decide +kernel, by decide +kernel⟩
theorem okyS_withoutTurn : OKm yS_withoutTurn := ⟨tw_t 494 (by decide +kernel) (by decide +kernel), tw_t 2 (by decide +kernel) (by decide +kernel), by decide +kernel, (fun h => nomatch h), fun _ => ⟨tw_t 492 (by decide +kernel) (by decide +kernel), tw_t 493 (by decide +kernel) (by decide +kernel)⟩, by decide +kernel, by decide +kernel, by decide +kernel⟩
theorem okyT_digitsAt : OKm yT_digitsAt := ⟨tw_t 169 (by decide +kernel) (by decide +kernel), tw_t 5 (by decide +kernel) (by decide +kernel), by decide +kernel, (fun h => nomatch h), fun _ => ⟨tw_t 167 (by decide +kernel) (by decide +kernel), tw_t 168 (by decide +kernel) (by decide +kernel)⟩, by decide +kernel, by decide +kernel, by decide +kernel⟩
theorem okyT_firstBadPlace : OKm yT_firstBadPlace := ⟨tw_t 159 (by decide +kernel) (by decide +kernel), tw_t 5 (by decide +kernel) (by decide +kernel), by decide +kernel, (fun h => nomatch h), fun _ => ⟨tw_t 157 (by decide +kernel) (by decide +kernel), tw_t 158 (by decide +kernel) (by decide +kernel)⟩, by decide +kernel, by decide +kernel, by decide +kernel⟩
theorem okyT_number : OKm yT_number := ⟨tw_t 182 (by decide +kernel) (by decide +kernel), tw_t 5 (by decide +kernel) (by decide +kernel), by decide +kernel, (fun h => nomatch h), fun _ => ⟨tw_t 180 (by decide +kernel) (by decide +kernel), tw_t 181 (by decide +kernel) (by decide +kernel)⟩, by decide +kernel, by decide +kernel, by decide +kernel⟩
theorem okyO_back : OKm yO_back := ⟨tw_t 349 (by decide +kernel) (by decide +kernel), tw_t 1 (by decide +kernel) (by decide +kernel), by decide +kernel, (fun h => nomatch h), fun _ => ⟨tw_t 347 (by decide +kernel) (by decide +kernel), tw_t 348 (by decide +kernel) (by decide +kernel)⟩, by decide +kernel, by decide +kernel, by decide +kernel⟩
theorem okyO_bestOn : OKm yO_bestOn := ⟨tw_t 438 (by decide +kernel) (by decide +kernel), tw_t 1 (by decide +kernel) (by decide +kernel), by decide +kernel, (fun h => nomatch h), fun _ => ⟨tw_t 437 (by decide +kernel) (by decide +kernel), tw_s 9 (by decide +kernel) (by decide +kernel)⟩, by decide +kernel, by decide +kernel, by decide +kernel⟩
theorem okyO_bestRota : OKm yO_bestRota := ⟨tw_t 434 (by decide +kernel) (by decide +kernel), tw_t 1 (by decide +kernel) (by decide +kernel), by decide +kernel, (fun h => nomatch h), fun _ => ⟨tw_t 432 (by decide +kernel) (by decide +kernel), tw_t 433 (by decide +kernel) (by decide +kernel)⟩, by decide +kernel, by decide +kernel, by decide +kernel⟩
theorem okyO_burden : OKm yO_burden := ⟨tw_t 467 (by decide +kernel) (by decide +kernel), tw_t 1 (by decide +kernel) (by decide +kernel), by decide +kernel, (fun h => nomatch h), fun _ => ⟨tw_t 466 (by decide +kernel) (by decide +kernel), tw_s 12 (by decide +kernel) (by decide +kernel)⟩, by decide +kernel, by decide +kernel, by decide +kernel⟩
theorem okyO_calmWeight : OKm yO_calmWeight := ⟨tw_t 476 (by decide +kernel) (by decide +kernel), tw_t 1 (by decide +kernel) (by decide +kernel), by decide +kernel, (fun h => nomatch h), fun _ => ⟨tw_t 475 (by decide +kernel) (by decide +kernel), tw_s 13 (by decide +kernel) (by decide +kernel)⟩, by decide +kernel, by decide +kernel, by decide +kernel⟩
theorem okyO_carry : OKm yO_carry := ⟨tw_t 423 (by decide +kernel) (by decide +kernel), tw_t 1 (by decide +kernel) (by decide +kernel), by decide +kernel, (fun h => nomatch h), fun _ => ⟨tw_t 421 (by decide +kernel) (by decide +kernel), tw_t 422 (by decide +kernel) (by decide +kernel)⟩, by decide +kernel, by decide +kernel, by decide +kernel⟩
theorem okyO_clear : OKm yO_clear := ⟨tw_t 551 (by decide +kernel) (by decide +kernel), tw_t 1 (by decide +kernel) (by decide +kernel), by decide +kernel, (fun h => nomatch h), fun _ => ⟨tw_t 549 (by decide +kernel) (by decide +kernel), tw_t 550 (by decide +kernel) (by decide +kernel)⟩, by decide +kernel, by decide +kernel, by decide +kernel⟩
theorem okyO_commonDivisor : OKm yO_commonDivisor := ⟨tw_t 482 (by decide +kernel) (by decide +kernel), tw_t 1 (by decide +kernel) (by decide +kernel), by decide +kernel, fun _ => tw_t 481 (by decide +kernel) (by decide +kernel), (fun h => nomatch h), by decide +kernel, by decide +kernel, by decide +kernel⟩
theorem okyO_count : OKm yO_count := ⟨tw_t 579 (by decide +kernel) (by decide +kernel), tw_t 1 (by decide +kernel) (by decide +kernel), by decide +kernel, (fun h => nomatch h), fun _ => ⟨tw_t 577 (by decide +kernel) (by decide +kernel), tw_t 578 (by decide +kernel) (by decide +kernel)⟩, by decide +kernel, by decide +kernel, by decide +kernel⟩
theorem okyO_dayMet : OKm yO_dayMet := ⟨tw_t 379 (by decide +kernel) (by decide +kernel), tw_t 1 (by decide +kernel) (by decide +kernel), by decide +kernel, (fun h => nomatch h), fun _ => ⟨tw_t 377 (by decide +kernel) (by decide +kernel), tw_t 378 (by decide +kernel) (by decide +kernel)⟩, by decide +kernel, by decide +kernel, by decide +kernel⟩
theorem okyO_eased : OKm yO_eased := ⟨tw_t 525 (by decide +kernel) (by decide +kernel), tw_t 1 (by decide +kernel) (by decide +kernel), by decide +kernel, (fun h => nomatch h), fun _ => ⟨tw_t 523 (by decide +kernel) (by decide +kernel), tw_t 524 (by decide +kernel) (by decide +kernel)⟩, by decide +kernel, by decide +kernel, by decide +kernel⟩
theorem okyO_either : OKm yO_either := ⟨tw_t 259 (by decide +kernel) (by decide +kernel), tw_t 1 (by decide +kernel) (by decide +kernel), by decide +kernel, fun _ => tw_t 258 (by decide +kernel) (by decide +kernel), (fun h => nomatch h), by decide +kernel, by decide +kernel, by decide +kernel⟩
theorem okyO_face : OKm yO_face := ⟨tw_t 508 (by decide +kernel) (by decide +kernel), tw_t 1 (by decide +kernel) (by decide +kernel), by decide +kernel, (fun h => nomatch h), fun _ => ⟨tw_t 506 (by decide +kernel) (by decide +kernel), tw_t 507 (by decide +kernel) (by decide +kernel)⟩, by decide +kernel, by decide +kernel, by decide +kernel⟩
theorem okyO_feed : OKm yO_feed := ⟨tw_t 134 (by decide +kernel) (by decide +kernel), tw_t 1 (by decide +kernel) (by decide +kernel), by decide +kernel, (fun h => nomatch h), fun _ => ⟨tw_t 132 (by decide +kernel) (by decide +kernel), tw_t 133 (by decide +kernel) (by decide +kernel)⟩, by decide +kernel, by decide +kernel, by decide +kernel⟩
theorem okyO_firstGone : OKm yO_firstGone := ⟨tw_t 374 (by decide +kernel) (by decide +kernel), tw_t 1 (by decide +kernel) (by decide +kernel), by decide +kernel, (fun h => nomatch h), fun _ => ⟨tw_t 373 (by decide +kernel) (by decide +kernel), tw_s 7 (by decide +kernel) (by decide +kernel)⟩, by decide +kernel, by decide +kernel, by decide +kernel⟩
theorem okyO_gales : OKm yO_gales := ⟨tw_t 471 (by decide +kernel) (by decide +kernel), tw_t 1 (by decide +kernel) (by decide +kernel), by decide +kernel, (fun h => nomatch h), fun _ => ⟨tw_t 469 (by decide +kernel) (by decide +kernel), tw_t 470 (by decide +kernel) (by decide +kernel)⟩, by decide +kernel, by decide +kernel, by decide +kernel⟩
theorem okyO_gap : OKm yO_gap := ⟨tw_t 521 (by decide +kernel) (by decide +kernel), tw_t 1 (by decide +kernel) (by decide +kernel), by decide +kernel, (fun h => nomatch h), fun _ => ⟨tw_t 519 (by decide +kernel) (by decide +kernel), tw_t 520 (by decide +kernel) (by decide +kernel)⟩, by decide +kernel, by decide +kernel, by decide +kernel⟩
theorem okyO_gone : OKm yO_gone := ⟨tw_t 370 (by decide +kernel) (by decide +kernel), tw_t 1 (by decide +kernel) (by decide +kernel), by decide +kernel, (fun h => nomatch h), fun _ => ⟨tw_t 368 (by decide +kernel) (by decide +kernel), tw_t 369 (by decide +kernel) (by decide +kernel)⟩, by decide +kernel, by decide +kernel, by decide +kernel⟩
theorem okyO_grieves : OKm yO_grieves := ⟨tw_t 332 (by decide +kernel) (by decide +kernel), tw_t 1 (by decide +kernel) (by decide +kernel), by decide +kernel, (fun h => nomatch h), fun _ => ⟨tw_t 330 (by decide +kernel) (by decide +kernel), tw_t 331 (by decide +kernel) (by decide +kernel)⟩, by decide +kernel, by decide +kernel, by decide +kernel⟩
theorem okyO_houseIn : OKm yO_houseIn := ⟨tw_t 427 (by decide +kernel) (by decide +kernel), tw_t 1 (by decide +kernel) (by decide +kernel), by decide +kernel, (fun h => nomatch h), fun _ => ⟨tw_t 426 (by decide +kernel) (by decide +kernel), tw_s 8 (by decide +kernel) (by decide +kernel)⟩, by decide +kernel, by decide +kernel, by decide +kernel⟩
theorem okyO_image : OKm yO_image := ⟨tw_t 571 (by decide +kernel) (by decide +kernel), tw_t 1 (by decide +kernel) (by decide +kernel), by decide +kernel, (fun h => nomatch h), fun _ => ⟨tw_t 569 (by decide +kernel) (by decide +kernel), tw_t 570 (by decide +kernel) (by decide +kernel)⟩, by decide +kernel, by decide +kernel, by decide +kernel⟩
theorem okyO_inLowestTerms : OKm yO_inLowestTerms := ⟨tw_t 479 (by decide +kernel) (by decide +kernel), tw_t 1 (by decide +kernel) (by decide +kernel), by decide +kernel, fun _ => tw_t 478 (by decide +kernel) (by decide +kernel), (fun h => nomatch h), by decide +kernel, by decide +kernel, by decide +kernel⟩
theorem okyO_isContent : OKm yO_isContent := ⟨tw_t 463 (by decide +kernel) (by decide +kernel), tw_t 1 (by decide +kernel) (by decide +kernel), by decide +kernel, (fun h => nomatch h), fun _ => ⟨tw_t 462 (by decide +kernel) (by decide +kernel), tw_s 11 (by decide +kernel) (by decide +kernel)⟩, by decide +kernel, by decide +kernel, by decide +kernel⟩
theorem okyO_judge : OKm yO_judge := ⟨tw_t 547 (by decide +kernel) (by decide +kernel), tw_t 1 (by decide +kernel) (by decide +kernel), by decide +kernel, (fun h => nomatch h), fun _ => ⟨tw_t 545 (by decide +kernel) (by decide +kernel), tw_t 546 (by decide +kernel) (by decide +kernel)⟩, by decide +kernel, by decide +kernel, by decide +kernel⟩
theorem okyO_kept : OKm yO_kept := ⟨tw_t 538 (by decide +kernel) (by decide +kernel), tw_t 1 (by decide +kernel) (by decide +kernel), by decide +kernel, (fun h => nomatch h), fun _ => ⟨tw_t 536 (by decide +kernel) (by decide +kernel), tw_t 537 (by decide +kernel) (by decide +kernel)⟩, by decide +kernel, by decide +kernel, by decide +kernel⟩
theorem okyO_lasts : OKm yO_lasts := ⟨tw_t 415 (by decide +kernel) (by decide +kernel), tw_t 1 (by decide +kernel) (by decide +kernel), by decide +kernel, (fun h => nomatch h), fun _ => ⟨tw_t 413 (by decide +kernel) (by decide +kernel), tw_t 414 (by decide +kernel) (by decide +kernel)⟩, by decide +kernel, by decide +kernel, by decide +kernel⟩
theorem okyO_leave : OKm yO_leave := ⟨tw_t 399 (by decide +kernel) (by decide +kernel), tw_t 1 (by decide +kernel) (by decide +kernel), by decide +kernel, (fun h => nomatch h), fun _ => ⟨tw_t 397 (by decide +kernel) (by decide +kernel), tw_t 398 (by decide +kernel) (by decide +kernel)⟩, by decide +kernel, by decide +kernel, by decide +kernel⟩
theorem okyO_like : OKm yO_like := ⟨tw_t 383 (by decide +kernel) (by decide +kernel), tw_t 1 (by decide +kernel) (by decide +kernel), by decide +kernel, (fun h => nomatch h), fun _ => ⟨tw_t 381 (by decide +kernel) (by decide +kernel), tw_t 382 (by decide +kernel) (by decide +kernel)⟩, by decide +kernel, by decide +kernel, by decide +kernel⟩
theorem okyO_lots : OKm yO_lots := ⟨tw_t 555 (by decide +kernel) (by decide +kernel), tw_t 1 (by decide +kernel) (by decide +kernel), by decide +kernel, (fun h => nomatch h), fun _ => ⟨tw_t 553 (by decide +kernel) (by decide +kernel), tw_t 554 (by decide +kernel) (by decide +kernel)⟩, by decide +kernel, by decide +kernel, by decide +kernel⟩
theorem okyO_mean : OKm yO_mean := ⟨tw_t 504 (by decide +kernel) (by decide +kernel), tw_t 1 (by decide +kernel) (by decide +kernel), by decide +kernel, (fun h => nomatch h), fun _ => ⟨tw_t 502 (by decide +kernel) (by decide +kernel), tw_t 503 (by decide +kernel) (by decide +kernel)⟩, by decide +kernel, by decide +kernel, by decide +kernel⟩
theorem okyO_mend : OKm yO_mend := ⟨tw_t 411 (by decide +kernel) (by decide +kernel), tw_t 1 (by decide +kernel) (by decide +kernel), by decide +kernel, (fun h => nomatch h), fun _ => ⟨tw_t 409 (by decide +kernel) (by decide +kernel), tw_t 410 (by decide +kernel) (by decide +kernel)⟩, by decide +kernel, by decide +kernel, by decide +kernel⟩
theorem okyO_mends : OKm yO_mends := ⟨tw_t 328 (by decide +kernel) (by decide +kernel), tw_t 1 (by decide +kernel) (by decide +kernel), by decide +kernel, (fun h => nomatch h), fun _ => ⟨tw_t 326 (by decide +kernel) (by decide +kernel), tw_t 327 (by decide +kernel) (by decide +kernel)⟩, by decide +kernel, by decide +kernel, by decide +kernel⟩
theorem okyO_mindWearsLikeRow : OKm yO_mindWearsLikeRow := ⟨tw_t 446 (by decide +kernel) (by decide +kernel), tw_t 1 (by decide +kernel) (by decide +kernel), by decide +kernel, (fun h => nomatch h), fun _ => ⟨tw_t 445 (by decide +kernel) (by decide +kernel), tw_s 10 (by decide +kernel) (by decide +kernel)⟩, by decide +kernel, by decide +kernel, by decide +kernel⟩
theorem okyO_next : OKm yO_next := ⟨tw_t 517 (by decide +kernel) (by decide +kernel), tw_t 1 (by decide +kernel) (by decide +kernel), by decide +kernel, (fun h => nomatch h), fun _ => ⟨tw_t 515 (by decide +kernel) (by decide +kernel), tw_t 516 (by decide +kernel) (by decide +kernel)⟩, by decide +kernel, by decide +kernel, by decide +kernel⟩
theorem okyO_partFault : OKm yO_partFault := ⟨tw_t 291 (by decide +kernel) (by decide +kernel), tw_t 1 (by decide +kernel) (by decide +kernel), by decide +kernel, fun _ => tw_t 290 (by decide +kernel) (by decide +kernel), (fun h => nomatch h), by decide +kernel, by decide +kernel, by decide +kernel⟩
theorem okyO_puts : OKm yO_puts := ⟨tw_t 313 (by decide +kernel) (by decide +kernel), tw_t 1 (by decide +kernel) (by decide +kernel), by decide +kernel, (fun h => nomatch h), fun _ => ⟨tw_t 311 (by decide +kernel) (by decide +kernel), tw_t 312 (by decide +kernel) (by decide +kernel)⟩, by decide +kernel, by decide +kernel, by decide +kernel⟩
theorem okyO_rangeFault : OKm yO_rangeFault := ⟨tw_t 137 (by decide +kernel) (by decide +kernel), tw_t 1 (by decide +kernel) (by decide +kernel), by decide +kernel, fun _ => tw_t 136 (by decide +kernel) (by decide +kernel), (fun h => nomatch h), by decide +kernel, by decide +kernel, by decide +kernel⟩
theorem okyO_readText : OKm yO_readText := ⟨tw_t 155 (by decide +kernel) (by decide +kernel), tw_t 1 (by decide +kernel) (by decide +kernel), by decide +kernel, (fun h => nomatch h), fun _ => ⟨tw_t 154 (by decide +kernel) (by decide +kernel), tw_s 1 (by decide +kernel) (by decide +kernel)⟩, by decide +kernel, by decide +kernel, by decide +kernel⟩
theorem okyO_refusalsOf : OKm yO_refusalsOf := ⟨tw_t 583 (by decide +kernel) (by decide +kernel), tw_t 1 (by decide +kernel) (by decide +kernel), by decide +kernel, (fun h => nomatch h), fun _ => ⟨tw_t 582 (by decide +kernel) (by decide +kernel), tw_s 15 (by decide +kernel) (by decide +kernel)⟩, by decide +kernel, by decide +kernel, by decide +kernel⟩
theorem okyO_refuse : OKm yO_refuse := ⟨tw_t 141 (by decide +kernel) (by decide +kernel), tw_t 1 (by decide +kernel) (by decide +kernel), by decide +kernel, (fun h => nomatch h), fun _ => ⟨tw_t 140 (by decide +kernel) (by decide +kernel), tw_s 0 (by decide +kernel) (by decide +kernel)⟩, by decide +kernel, by decide +kernel, by decide +kernel⟩
theorem okyO_restore : OKm yO_restore := ⟨tw_t 575 (by decide +kernel) (by decide +kernel), tw_t 1 (by decide +kernel) (by decide +kernel), by decide +kernel, (fun h => nomatch h), fun _ => ⟨tw_t 573 (by decide +kernel) (by decide +kernel), tw_t 574 (by decide +kernel) (by decide +kernel)⟩, by decide +kernel, by decide +kernel, by decide +kernel⟩
theorem okyO_rota : OKm yO_rota := ⟨tw_t 304 (by decide +kernel) (by decide +kernel), tw_t 1 (by decide +kernel) (by decide +kernel), by decide +kernel, (fun h => nomatch h), fun _ => ⟨tw_t 302 (by decide +kernel) (by decide +kernel), tw_t 303 (by decide +kernel) (by decide +kernel)⟩, by decide +kernel, by decide +kernel, by decide +kernel⟩
theorem okyO_row : OKm yO_row := ⟨tw_t 542 (by decide +kernel) (by decide +kernel), tw_t 1 (by decide +kernel) (by decide +kernel), by decide +kernel, (fun h => nomatch h), fun _ => ⟨tw_t 540 (by decide +kernel) (by decide +kernel), tw_t 541 (by decide +kernel) (by decide +kernel)⟩, by decide +kernel, by decide +kernel, by decide +kernel⟩
theorem okyO_seen : OKm yO_seen := ⟨tw_t 296 (by decide +kernel) (by decide +kernel), tw_t 1 (by decide +kernel) (by decide +kernel), by decide +kernel, (fun h => nomatch h), fun _ => ⟨tw_t 294 (by decide +kernel) (by decide +kernel), tw_t 295 (by decide +kernel) (by decide +kernel)⟩, by decide +kernel, by decide +kernel, by decide +kernel⟩
theorem okyO_stands : OKm yO_stands := ⟨tw_t 177 (by decide +kernel) (by decide +kernel), tw_t 1 (by decide +kernel) (by decide +kernel), by decide +kernel, (fun h => nomatch h), fun _ => ⟨tw_t 176 (by decide +kernel) (by decide +kernel), tw_s 2 (by decide +kernel) (by decide +kernel)⟩, by decide +kernel, by decide +kernel, by decide +kernel⟩
theorem okyO_street : OKm yO_street := ⟨tw_t 151 (by decide +kernel) (by decide +kernel), tw_t 1 (by decide +kernel) (by decide +kernel), by decide +kernel, (fun h => nomatch h), fun _ => ⟨tw_t 149 (by decide +kernel) (by decide +kernel), tw_t 150 (by decide +kernel) (by decide +kernel)⟩, by decide +kernel, by decide +kernel, by decide +kernel⟩
theorem okyO_sundays : OKm yO_sundays := ⟨tw_t 530 (by decide +kernel) (by decide +kernel), tw_t 1 (by decide +kernel) (by decide +kernel), by decide +kernel, (fun h => nomatch h), fun _ => ⟨tw_t 528 (by decide +kernel) (by decide +kernel), tw_t 529 (by decide +kernel) (by decide +kernel)⟩, by decide +kernel, by decide +kernel, by decide +kernel⟩
theorem okyO_swap : OKm yO_swap := ⟨tw_t 395 (by decide +kernel) (by decide +kernel), tw_t 1 (by decide +kernel) (by decide +kernel), by decide +kernel, (fun h => nomatch h), fun _ => ⟨tw_t 393 (by decide +kernel) (by decide +kernel), tw_t 394 (by decide +kernel) (by decide +kernel)⟩, by decide +kernel, by decide +kernel, by decide +kernel⟩
theorem okyO_then : OKm yO_then := ⟨tw_t 357 (by decide +kernel) (by decide +kernel), tw_t 1 (by decide +kernel) (by decide +kernel), by decide +kernel, (fun h => nomatch h), fun _ => ⟨tw_t 355 (by decide +kernel) (by decide +kernel), tw_t 356 (by decide +kernel) (by decide +kernel)⟩, by decide +kernel, by decide +kernel, by decide +kernel⟩
theorem okyO_thinkAhead : OKm yO_thinkAhead := ⟨tw_t 361 (by decide +kernel) (by decide +kernel), tw_t 1 (by decide +kernel) (by decide +kernel), by decide +kernel, (fun h => nomatch h), fun _ => ⟨tw_t 360 (by decide +kernel) (by decide +kernel), tw_s 6 (by decide +kernel) (by decide +kernel)⟩, by decide +kernel, by decide +kernel, by decide +kernel⟩
theorem okyO_turn : OKm yO_turn := ⟨tw_t 387 (by decide +kernel) (by decide +kernel), tw_t 1 (by decide +kernel) (by decide +kernel), by decide +kernel, (fun h => nomatch h), fun _ => ⟨tw_t 385 (by decide +kernel) (by decide +kernel), tw_t 386 (by decide +kernel) (by decide +kernel)⟩, by decide +kernel, by decide +kernel, by decide +kernel⟩
theorem okyO_two : OKm yO_two := ⟨tw_t 459 (by decide +kernel) (by decide +kernel), tw_t 1 (by decide +kernel) (by decide +kernel), by decide +kernel, (fun h => nomatch h), fun _ => ⟨tw_t 457 (by decide +kernel) (by decide +kernel), tw_t 458 (by decide +kernel) (by decide +kernel)⟩, by decide +kernel, by decide +kernel, by decide +kernel⟩
theorem okyO_wears : OKm yO_wears := ⟨tw_t 288 (by decide +kernel) (by decide +kernel), tw_t 1 (by decide +kernel) (by decide +kernel), by decide +kernel, (fun h => nomatch h), fun _ => ⟨tw_t 286 (by decide +kernel) (by decide +kernel), tw_t 287 (by decide +kernel) (by decide +kernel)⟩, by decide +kernel, by decide +kernel, by decide +kernel⟩
theorem okyO_weeks : OKm yO_weeks := ⟨tw_t 336 (by decide +kernel) (by decide +kernel), tw_t 1 (by decide +kernel) (by decide +kernel), by decide +kernel, (fun h => nomatch h), fun _ => ⟨tw_t 334 (by decide +kernel) (by decide +kernel), tw_t 335 (by decide +kernel) (by decide +kernel)⟩, by decide +kernel, by decide +kernel, by decide +kernel⟩
theorem okyO_weeksWith : OKm yO_weeksWith := ⟨tw_t 534 (by decide +kernel) (by decide +kernel), tw_t 1 (by decide +kernel) (by decide +kernel), by decide +kernel, (fun h => nomatch h), fun _ => ⟨tw_t 533 (by decide +kernel) (by decide +kernel), tw_s 14 (by decide +kernel) (by decide +kernel)⟩, by decide +kernel, by decide +kernel, by decide +kernel⟩
theorem okyO_whatFault : OKm yO_whatFault := ⟨tw_t 256 (by decide +kernel) (by decide +kernel), tw_t 1 (by decide +kernel) (by decide +kernel), by decide +kernel, fun _ => tw_t 255 (by decide +kernel) (by decide +kernel), (fun h => nomatch h), by decide +kernel, by decide +kernel, by decide +kernel⟩
theorem okyO_whatKind : OKm yO_whatKind := ⟨tw_t 451 (by decide +kernel) (by decide +kernel), tw_t 1 (by decide +kernel) (by decide +kernel), by decide +kernel, (fun h => nomatch h), fun _ => ⟨tw_t 449 (by decide +kernel) (by decide +kernel), tw_t 450 (by decide +kernel) (by decide +kernel)⟩, by decide +kernel, by decide +kernel, by decide +kernel⟩
theorem okyO_whoHad : OKm yO_whoHad := ⟨tw_t 442 (by decide +kernel) (by decide +kernel), tw_t 1 (by decide +kernel) (by decide +kernel), by decide +kernel, (fun h => nomatch h), fun _ => ⟨tw_t 440 (by decide +kernel) (by decide +kernel), tw_t 441 (by decide +kernel) (by decide +kernel)⟩, by decide +kernel, by decide +kernel, by decide +kernel⟩
theorem okyO_widow : OKm yO_widow := ⟨tw_t 309 (by decide +kernel) (by decide +kernel), tw_t 1 (by decide +kernel) (by decide +kernel), by decide +kernel, (fun h => nomatch h), fun _ => ⟨tw_t 307 (by decide +kernel) (by decide +kernel), tw_t 308 (by decide +kernel) (by decide +kernel)⟩, by decide +kernel, by decide +kernel, by decide +kernel⟩
theorem okyO_widowFault : OKm yO_widowFault := ⟨tw_t 252 (by decide +kernel) (by decide +kernel), tw_t 1 (by decide +kernel) (by decide +kernel), by decide +kernel, (fun h => nomatch h), fun _ => ⟨tw_t 251 (by decide +kernel) (by decide +kernel), tw_s 4 (by decide +kernel) (by decide +kernel)⟩, by decide +kernel, by decide +kernel, by decide +kernel⟩
theorem okyO_widowIn : OKm yO_widowIn := ⟨tw_t 366 (by decide +kernel) (by decide +kernel), tw_t 1 (by decide +kernel) (by decide +kernel), by decide +kernel, (fun h => nomatch h), fun _ => ⟨tw_t 364 (by decide +kernel) (by decide +kernel), tw_t 365 (by decide +kernel) (by decide +kernel)⟩, by decide +kernel, by decide +kernel, by decide +kernel⟩
theorem okyO_widowOf : OKm yO_widowOf := ⟨tw_t 248 (by decide +kernel) (by decide +kernel), tw_t 1 (by decide +kernel) (by decide +kernel), by decide +kernel, (fun h => nomatch h), fun _ => ⟨tw_t 246 (by decide +kernel) (by decide +kernel), tw_t 247 (by decide +kernel) (by decide +kernel)⟩, by decide +kernel, by decide +kernel, by decide +kernel⟩
theorem okyO_worst : OKm yO_worst := ⟨tw_t 486 (by decide +kernel) (by decide +kernel), tw_t 1 (by decide +kernel) (by decide +kernel), by decide +kernel, (fun h => nomatch h), fun _ => ⟨tw_t 484 (by decide +kernel) (by decide +kernel), tw_t 485 (by decide +kernel) (by decide +kernel)⟩, by decide +kernel, by decide +kernel, by decide +kernel⟩
theorem okyM_adds : OKm yM_adds := ⟨tw_t 729 (by decide +kernel) (by decide +kernel), tw_t 7 (by decide +kernel) (by decide +kernel), by decide +kernel, (fun h => nomatch h), fun _ => ⟨tw_t 728 (by decide +kernel) (by decide +kernel), tw_s 26 (by decide +kernel) (by decide +kernel)⟩, by decide +kernel, by decide +kernel, by decide +kernel⟩
theorem okyM_allGrief : OKm yM_allGrief := ⟨tw_t 831 (by decide +kernel) (by decide +kernel), tw_t 7 (by decide +kernel) (by decide +kernel), by decide +kernel, (fun h => nomatch h), fun _ => ⟨tw_t 830 (by decide +kernel) (by decide +kernel), tw_s 38 (by decide +kernel) (by decide +kernel)⟩, by decide +kernel, by decide +kernel, by decide +kernel⟩
theorem okyM_allOf : OKm yM_allOf := ⟨tw_t 835 (by decide +kernel) (by decide +kernel), tw_t 7 (by decide +kernel) (by decide +kernel), by decide +kernel, (fun h => nomatch h), fun _ => ⟨tw_t 834 (by decide +kernel) (by decide +kernel), tw_s 39 (by decide +kernel) (by decide +kernel)⟩, by decide +kernel, by decide +kernel, by decide +kernel⟩
theorem okyM_back : OKm yM_back := ⟨tw_t 775 (by decide +kernel) (by decide +kernel), tw_t 7 (by decide +kernel) (by decide +kernel), by decide +kernel, (fun h => nomatch h), fun _ => ⟨tw_t 773 (by decide +kernel) (by decide +kernel), tw_t 774 (by decide +kernel) (by decide +kernel)⟩, by decide +kernel, by decide +kernel, by decide +kernel⟩
theorem okyM_bestOn : OKm yM_bestOn := ⟨tw_t 943 (by decide +kernel) (by decide +kernel), tw_t 7 (by decide +kernel) (by decide +kernel), by decide +kernel, (fun h => nomatch h), fun _ => ⟨tw_t 942 (by decide +kernel) (by decide +kernel), tw_s 53 (by decide +kernel) (by decide +kernel)⟩, by decide +kernel, by decide +kernel, by decide +kernel⟩
theorem okyM_bestRota : OKm yM_bestRota := ⟨tw_t 939 (by decide +kernel) (by decide +kernel), tw_t 7 (by decide +kernel) (by decide +kernel), by decide +kernel, (fun h => nomatch h), fun _ => ⟨tw_t 937 (by decide +kernel) (by decide +kernel), tw_t 938 (by decide +kernel) (by decide +kernel)⟩, by decide +kernel, by decide +kernel, by decide +kernel⟩
theorem okyM_bitsFor : OKm yM_bitsFor := ⟨tw_t 959 (by decide +kernel) (by decide +kernel), tw_t 7 (by decide +kernel) (by decide +kernel), by decide +kernel, (fun h => nomatch h), fun _ => ⟨tw_t 958 (by decide +kernel) (by decide +kernel), tw_s 55 (by decide +kernel) (by decide +kernel)⟩, by decide +kernel, by decide +kernel, by decide +kernel⟩
theorem okyM_bound : OKm yM_bound := ⟨tw_t 678 (by decide +kernel) (by decide +kernel), tw_t 7 (by decide +kernel) (by decide +kernel), by decide +kernel, fun _ => tw_t 677 (by decide +kernel) (by decide +kernel), (fun h => nomatch h), by decide +kernel, by decide +kernel, by decide +kernel⟩
theorem okyM_carry : OKm yM_carry := ⟨tw_t 931 (by decide +kernel) (by decide +kernel), tw_t 7 (by decide +kernel) (by decide +kernel), by decide +kernel, (fun h => nomatch h), fun _ => ⟨tw_t 929 (by decide +kernel) (by decide +kernel), tw_t 930 (by decide +kernel) (by decide +kernel)⟩, by decide +kernel, by decide +kernel, by decide +kernel⟩
theorem okyM_changes : OKm yM_changes := ⟨tw_t 887 (by decide +kernel) (by decide +kernel), tw_t 7 (by decide +kernel) (by decide +kernel), by decide +kernel, (fun h => nomatch h), fun _ => ⟨tw_t 886 (by decide +kernel) (by decide +kernel), tw_s 45 (by decide +kernel) (by decide +kernel)⟩, by decide +kernel, by decide +kernel, by decide +kernel⟩
theorem okyM_changesBack : OKm yM_changesBack := ⟨tw_t 895 (by decide +kernel) (by decide +kernel), tw_t 7 (by decide +kernel) (by decide +kernel), by decide +kernel, (fun h => nomatch h), fun _ => ⟨tw_t 894 (by decide +kernel) (by decide +kernel), tw_s 47 (by decide +kernel) (by decide +kernel)⟩, by decide +kernel, by decide +kernel, by decide +kernel⟩
theorem okyM_clear : OKm yM_clear := ⟨tw_t 1050 (by decide +kernel) (by decide +kernel), tw_t 7 (by decide +kernel) (by decide +kernel), by decide +kernel, (fun h => nomatch h), fun _ => ⟨tw_t 1048 (by decide +kernel) (by decide +kernel), tw_t 1049 (by decide +kernel) (by decide +kernel)⟩, by decide +kernel, by decide +kernel, by decide +kernel⟩
theorem okyM_comesPlace : OKm yM_comesPlace := ⟨tw_t 733 (by decide +kernel) (by decide +kernel), tw_t 7 (by decide +kernel) (by decide +kernel), by decide +kernel, (fun h => nomatch h), fun _ => ⟨tw_t 732 (by decide +kernel) (by decide +kernel), tw_s 27 (by decide +kernel) (by decide +kernel)⟩, by decide +kernel, by decide +kernel, by decide +kernel⟩
theorem okyM_comesTold : OKm yM_comesTold := ⟨tw_t 721 (by decide +kernel) (by decide +kernel), tw_t 7 (by decide +kernel) (by decide +kernel), by decide +kernel, (fun h => nomatch h), fun _ => ⟨tw_t 720 (by decide +kernel) (by decide +kernel), tw_s 24 (by decide +kernel) (by decide +kernel)⟩, by decide +kernel, by decide +kernel, by decide +kernel⟩
theorem okyM_comesWeeks : OKm yM_comesWeeks := ⟨tw_t 748 (by decide +kernel) (by decide +kernel), tw_t 7 (by decide +kernel) (by decide +kernel), by decide +kernel, (fun h => nomatch h), fun _ => ⟨tw_t 747 (by decide +kernel) (by decide +kernel), tw_s 30 (by decide +kernel) (by decide +kernel)⟩, by decide +kernel, by decide +kernel, by decide +kernel⟩
theorem okyM_comesWidow : OKm yM_comesWidow := ⟨tw_t 725 (by decide +kernel) (by decide +kernel), tw_t 7 (by decide +kernel) (by decide +kernel), by decide +kernel, (fun h => nomatch h), fun _ => ⟨tw_t 724 (by decide +kernel) (by decide +kernel), tw_s 25 (by decide +kernel) (by decide +kernel)⟩, by decide +kernel, by decide +kernel, by decide +kernel⟩
theorem okyM_comfortOf : OKm yM_comfortOf := ⟨tw_t 764 (by decide +kernel) (by decide +kernel), tw_t 7 (by decide +kernel) (by decide +kernel), by decide +kernel, (fun h => nomatch h), fun _ => ⟨tw_t 763 (by decide +kernel) (by decide +kernel), tw_s 34 (by decide +kernel) (by decide +kernel)⟩, by decide +kernel, by decide +kernel, by decide +kernel⟩
theorem okyM_count : OKm yM_count := ⟨tw_t 1065 (by decide +kernel) (by decide +kernel), tw_t 7 (by decide +kernel) (by decide +kernel), by decide +kernel, (fun h => nomatch h), fun _ => ⟨tw_t 1063 (by decide +kernel) (by decide +kernel), tw_t 1064 (by decide +kernel) (by decide +kernel)⟩, by decide +kernel, by decide +kernel, by decide +kernel⟩
theorem okyM_dayMet : OKm yM_dayMet := ⟨tw_t 866 (by decide +kernel) (by decide +kernel), tw_t 7 (by decide +kernel) (by decide +kernel), by decide +kernel, (fun h => nomatch h), fun _ => ⟨tw_t 864 (by decide +kernel) (by decide +kernel), tw_t 865 (by decide +kernel) (by decide +kernel)⟩, by decide +kernel, by decide +kernel, by decide +kernel⟩
theorem okyM_divisor : OKm yM_divisor := ⟨tw_t 985 (by decide +kernel) (by decide +kernel), tw_t 7 (by decide +kernel) (by decide +kernel), by decide +kernel, fun _ => tw_t 984 (by decide +kernel) (by decide +kernel), (fun h => nomatch h), by decide +kernel, by decide +kernel, by decide +kernel⟩
theorem okyM_draw : OKm yM_draw := ⟨tw_t 1058 (by decide +kernel) (by decide +kernel), tw_t 7 (by decide +kernel) (by decide +kernel), by decide +kernel, (fun h => nomatch h), fun _ => ⟨tw_t 1057 (by decide +kernel) (by decide +kernel), tw_s 63 (by decide +kernel) (by decide +kernel)⟩, by decide +kernel, by decide +kernel, by decide +kernel⟩
theorem okyM_eased : OKm yM_eased := ⟨tw_t 1017 (by decide +kernel) (by decide +kernel), tw_t 7 (by decide +kernel) (by decide +kernel), by decide +kernel, (fun h => nomatch h), fun _ => ⟨tw_t 1015 (by decide +kernel) (by decide +kernel), tw_t 1016 (by decide +kernel) (by decide +kernel)⟩, by decide +kernel, by decide +kernel, by decide +kernel⟩
theorem okyM_face : OKm yM_face := ⟨tw_t 1005 (by decide +kernel) (by decide +kernel), tw_t 7 (by decide +kernel) (by decide +kernel), by decide +kernel, (fun h => nomatch h), fun _ => ⟨tw_t 1003 (by decide +kernel) (by decide +kernel), tw_t 1004 (by decide +kernel) (by decide +kernel)⟩, by decide +kernel, by decide +kernel, by decide +kernel⟩
theorem okyM_feed : OKm yM_feed := ⟨tw_t 675 (by decide +kernel) (by decide +kernel), tw_t 7 (by decide +kernel) (by decide +kernel), by decide +kernel, (fun h => nomatch h), fun _ => ⟨tw_t 673 (by decide +kernel) (by decide +kernel), tw_t 674 (by decide +kernel) (by decide +kernel)⟩, by decide +kernel, by decide +kernel, by decide +kernel⟩
theorem okyM_findCosts : OKm yM_findCosts := ⟨tw_t 967 (by decide +kernel) (by decide +kernel), tw_t 7 (by decide +kernel) (by decide +kernel), by decide +kernel, (fun h => nomatch h), fun _ => ⟨tw_t 966 (by decide +kernel) (by decide +kernel), tw_s 56 (by decide +kernel) (by decide +kernel)⟩, by decide +kernel, by decide +kernel, by decide +kernel⟩
theorem okyM_forgets : OKm yM_forgets := ⟨tw_t 850 (by decide +kernel) (by decide +kernel), tw_t 7 (by decide +kernel) (by decide +kernel), by decide +kernel, (fun h => nomatch h), fun _ => ⟨tw_t 849 (by decide +kernel) (by decide +kernel), tw_s 41 (by decide +kernel) (by decide +kernel)⟩, by decide +kernel, by decide +kernel, by decide +kernel⟩
theorem okyM_gales : OKm yM_gales := ⟨tw_t 971 (by decide +kernel) (by decide +kernel), tw_t 7 (by decide +kernel) (by decide +kernel), by decide +kernel, (fun h => nomatch h), fun _ => ⟨tw_t 969 (by decide +kernel) (by decide +kernel), tw_t 970 (by decide +kernel) (by decide +kernel)⟩, by decide +kernel, by decide +kernel, by decide +kernel⟩
theorem okyM_gap : OKm yM_gap := ⟨tw_t 1013 (by decide +kernel) (by decide +kernel), tw_t 7 (by decide +kernel) (by decide +kernel), by decide +kernel, (fun h => nomatch h), fun _ => ⟨tw_t 1011 (by decide +kernel) (by decide +kernel), tw_t 1012 (by decide +kernel) (by decide +kernel)⟩, by decide +kernel, by decide +kernel, by decide +kernel⟩
theorem okyM_goes : OKm yM_goes := ⟨tw_t 752 (by decide +kernel) (by decide +kernel), tw_t 7 (by decide +kernel) (by decide +kernel), by decide +kernel, (fun h => nomatch h), fun _ => ⟨tw_t 751 (by decide +kernel) (by decide +kernel), tw_s 31 (by decide +kernel) (by decide +kernel)⟩, by decide +kernel, by decide +kernel, by decide +kernel⟩
theorem okyM_goesWeek : OKm yM_goesWeek := ⟨tw_t 756 (by decide +kernel) (by decide +kernel), tw_t 7 (by decide +kernel) (by decide +kernel), by decide +kernel, (fun h => nomatch h), fun _ => ⟨tw_t 755 (by decide +kernel) (by decide +kernel), tw_s 32 (by decide +kernel) (by decide +kernel)⟩, by decide +kernel, by decide +kernel, by decide +kernel⟩
theorem okyM_gone : OKm yM_gone := ⟨tw_t 858 (by decide +kernel) (by decide +kernel), tw_t 7 (by decide +kernel) (by decide +kernel), by decide +kernel, (fun h => nomatch h), fun _ => ⟨tw_t 856 (by decide +kernel) (by decide +kernel), tw_t 857 (by decide +kernel) (by decide +kernel)⟩, by decide +kernel, by decide +kernel, by decide +kernel⟩
theorem okyM_goneWhen : OKm yM_goneWhen := ⟨tw_t 862 (by decide +kernel) (by decide +kernel), tw_t 7 (by decide +kernel) (by decide +kernel), by decide +kernel, (fun h => nomatch h), fun _ => ⟨tw_t 861 (by decide +kernel) (by decide +kernel), tw_s 42 (by decide +kernel) (by decide +kernel)⟩, by decide +kernel, by decide +kernel, by decide +kernel⟩
theorem okyM_griefIn : OKm yM_griefIn := ⟨tw_t 891 (by decide +kernel) (by decide +kernel), tw_t 7 (by decide +kernel) (by decide +kernel), by decide +kernel, (fun h => nomatch h), fun _ => ⟨tw_t 890 (by decide +kernel) (by decide +kernel), tw_s 46 (by decide +kernel) (by decide +kernel)⟩, by decide +kernel, by decide +kernel, by decide +kernel⟩
theorem okyM_griefOfIn : OKm yM_griefOfIn := ⟨tw_t 1026 (by decide +kernel) (by decide +kernel), tw_t 7 (by decide +kernel) (by decide +kernel), by decide +kernel, (fun h => nomatch h), fun _ => ⟨tw_t 1025 (by decide +kernel) (by decide +kernel), tw_s 61 (by decide +kernel) (by decide +kernel)⟩, by decide +kernel, by decide +kernel, by decide +kernel⟩
theorem okyM_griefPutting : OKm yM_griefPutting := ⟨tw_t 883 (by decide +kernel) (by decide +kernel), tw_t 7 (by decide +kernel) (by decide +kernel), by decide +kernel, (fun h => nomatch h), fun _ => ⟨tw_t 882 (by decide +kernel) (by decide +kernel), tw_s 44 (by decide +kernel) (by decide +kernel)⟩, by decide +kernel, by decide +kernel, by decide +kernel⟩
theorem okyM_grieves : OKm yM_grieves := ⟨tw_t 823 (by decide +kernel) (by decide +kernel), tw_t 7 (by decide +kernel) (by decide +kernel), by decide +kernel, (fun h => nomatch h), fun _ => ⟨tw_t 821 (by decide +kernel) (by decide +kernel), tw_t 822 (by decide +kernel) (by decide +kernel)⟩, by decide +kernel, by decide +kernel, by decide +kernel⟩
theorem okyM_has : OKm yM_has := ⟨tw_t 979 (by decide +kernel) (by decide +kernel), tw_t 7 (by decide +kernel) (by decide +kernel), by decide +kernel, fun _ => tw_t 978 (by decide +kernel) (by decide +kernel), (fun h => nomatch h), by decide +kernel, by decide +kernel, by decide +kernel⟩
theorem okyM_holderIn : OKm yM_holderIn := ⟨tw_t 760 (by decide +kernel) (by decide +kernel), tw_t 7 (by decide +kernel) (by decide +kernel), by decide +kernel, (fun h => nomatch h), fun _ => ⟨tw_t 759 (by decide +kernel) (by decide +kernel), tw_s 33 (by decide +kernel) (by decide +kernel)⟩, by decide +kernel, by decide +kernel, by decide +kernel⟩
theorem okyM_houseIn : OKm yM_houseIn := ⟨tw_t 935 (by decide +kernel) (by decide +kernel), tw_t 7 (by decide +kernel) (by decide +kernel), by decide +kernel, (fun h => nomatch h), fun _ => ⟨tw_t 934 (by decide +kernel) (by decide +kernel), tw_s 52 (by decide +kernel) (by decide +kernel)⟩, by decide +kernel, by decide +kernel, by decide +kernel⟩
theorem okyM_image : OKm yM_image := ⟨tw_t 779 (by decide +kernel) (by decide +kernel), tw_t 7 (by decide +kernel) (by decide +kernel), by decide +kernel, (fun h => nomatch h), fun _ => ⟨tw_t 777 (by decide +kernel) (by decide +kernel), tw_t 778 (by decide +kernel) (by decide +kernel)⟩, by decide +kernel, by decide +kernel, by decide +kernel⟩
theorem okyM_isHolder : OKm yM_isHolder := ⟨tw_t 737 (by decide +kernel) (by decide +kernel), tw_t 7 (by decide +kernel) (by decide +kernel), by decide +kernel, (fun h => nomatch h), fun _ => ⟨tw_t 736 (by decide +kernel) (by decide +kernel), tw_s 28 (by decide +kernel) (by decide +kernel)⟩, by decide +kernel, by decide +kernel, by decide +kernel⟩
theorem okyM_isIn : OKm yM_isIn := ⟨tw_t 705 (by decide +kernel) (by decide +kernel), tw_t 7 (by decide +kernel) (by decide +kernel), by decide +kernel, fun _ => tw_t 704 (by decide +kernel) (by decide +kernel), (fun h => nomatch h), by decide +kernel, by decide +kernel, by decide +kernel⟩
theorem okyM_isPart : OKm yM_isPart := ⟨tw_t 744 (by decide +kernel) (by decide +kernel), tw_t 7 (by decide +kernel) (by decide +kernel), by decide +kernel, fun _ => tw_t 743 (by decide +kernel) (by decide +kernel), (fun h => nomatch h), by decide +kernel, by decide +kernel, by decide +kernel⟩
theorem okyM_isSeen : OKm yM_isSeen := ⟨tw_t 927 (by decide +kernel) (by decide +kernel), tw_t 7 (by decide +kernel) (by decide +kernel), by decide +kernel, (fun h => nomatch h), fun _ => ⟨tw_t 926 (by decide +kernel) (by decide +kernel), tw_s 51 (by decide +kernel) (by decide +kernel)⟩, by decide +kernel, by decide +kernel, by decide +kernel⟩
theorem okyM_isSo : OKm yM_isSo := ⟨tw_t 951 (by decide +kernel) (by decide +kernel), tw_t 7 (by decide +kernel) (by decide +kernel), by decide +kernel, (fun h => nomatch h), fun _ => ⟨tw_t 950 (by decide +kernel) (by decide +kernel), tw_s 54 (by decide +kernel) (by decide +kernel)⟩, by decide +kernel, by decide +kernel, by decide +kernel⟩
theorem okyM_isWidow : OKm yM_isWidow := ⟨tw_t 741 (by decide +kernel) (by decide +kernel), tw_t 7 (by decide +kernel) (by decide +kernel), by decide +kernel, (fun h => nomatch h), fun _ => ⟨tw_t 740 (by decide +kernel) (by decide +kernel), tw_s 29 (by decide +kernel) (by decide +kernel)⟩, by decide +kernel, by decide +kernel, by decide +kernel⟩
theorem okyM_judge : OKm yM_judge := ⟨tw_t 1046 (by decide +kernel) (by decide +kernel), tw_t 7 (by decide +kernel) (by decide +kernel), by decide +kernel, (fun h => nomatch h), fun _ => ⟨tw_t 1044 (by decide +kernel) (by decide +kernel), tw_t 1045 (by decide +kernel) (by decide +kernel)⟩, by decide +kernel, by decide +kernel, by decide +kernel⟩
theorem okyM_keepsBack : OKm yM_keepsBack := ⟨tw_t 815 (by decide +kernel) (by decide +kernel), tw_t 7 (by decide +kernel) (by decide +kernel), by decide +kernel, (fun h => nomatch h), fun _ => ⟨tw_t 814 (by decide +kernel) (by decide +kernel), tw_s 37 (by decide +kernel) (by decide +kernel)⟩, by decide +kernel, by decide +kernel, by decide +kernel⟩
theorem okyM_kept : OKm yM_kept := ⟨tw_t 1038 (by decide +kernel) (by decide +kernel), tw_t 7 (by decide +kernel) (by decide +kernel), by decide +kernel, (fun h => nomatch h), fun _ => ⟨tw_t 1036 (by decide +kernel) (by decide +kernel), tw_t 1037 (by decide +kernel) (by decide +kernel)⟩, by decide +kernel, by decide +kernel, by decide +kernel⟩
theorem okyM_lasts : OKm yM_lasts := ⟨tw_t 923 (by decide +kernel) (by decide +kernel), tw_t 7 (by decide +kernel) (by decide +kernel), by decide +kernel, (fun h => nomatch h), fun _ => ⟨tw_t 921 (by decide +kernel) (by decide +kernel), tw_t 922 (by decide +kernel) (by decide +kernel)⟩, by decide +kernel, by decide +kernel, by decide +kernel⟩
theorem okyM_leave : OKm yM_leave := ⟨tw_t 907 (by decide +kernel) (by decide +kernel), tw_t 7 (by decide +kernel) (by decide +kernel), by decide +kernel, (fun h => nomatch h), fun _ => ⟨tw_t 905 (by decide +kernel) (by decide +kernel), tw_t 906 (by decide +kernel) (by decide +kernel)⟩, by decide +kernel, by decide +kernel, by decide +kernel⟩
theorem okyM_leavesOut : OKm yM_leavesOut := ⟨tw_t 915 (by decide +kernel) (by decide +kernel), tw_t 7 (by decide +kernel) (by decide +kernel), by decide +kernel, (fun h => nomatch h), fun _ => ⟨tw_t 914 (by decide +kernel) (by decide +kernel), tw_s 50 (by decide +kernel) (by decide +kernel)⟩, by decide +kernel, by decide +kernel, by decide +kernel⟩
theorem okyM_letterNow : OKm yM_letterNow := ⟨tw_t 694 (by decide +kernel) (by decide +kernel), tw_t 7 (by decide +kernel) (by decide +kernel), by decide +kernel, (fun h => nomatch h), fun _ => ⟨tw_t 693 (by decide +kernel) (by decide +kernel), tw_s 18 (by decide +kernel) (by decide +kernel)⟩, by decide +kernel, by decide +kernel, by decide +kernel⟩
theorem okyM_like : OKm yM_like := ⟨tw_t 870 (by decide +kernel) (by decide +kernel), tw_t 7 (by decide +kernel) (by decide +kernel), by decide +kernel, (fun h => nomatch h), fun _ => ⟨tw_t 868 (by decide +kernel) (by decide +kernel), tw_t 869 (by decide +kernel) (by decide +kernel)⟩, by decide +kernel, by decide +kernel, by decide +kernel⟩
theorem okyM_likeness : OKm yM_likeness := ⟨tw_t 874 (by decide +kernel) (by decide +kernel), tw_t 7 (by decide +kernel) (by decide +kernel), by decide +kernel, (fun h => nomatch h), fun _ => ⟨tw_t 873 (by decide +kernel) (by decide +kernel), tw_s 43 (by decide +kernel) (by decide +kernel)⟩, by decide +kernel, by decide +kernel, by decide +kernel⟩
theorem okyM_lots : OKm yM_lots := ⟨tw_t 1054 (by decide +kernel) (by decide +kernel), tw_t 7 (by decide +kernel) (by decide +kernel), by decide +kernel, (fun h => nomatch h), fun _ => ⟨tw_t 1052 (by decide +kernel) (by decide +kernel), tw_t 1053 (by decide +kernel) (by decide +kernel)⟩, by decide +kernel, by decide +kernel, by decide +kernel⟩
theorem okyM_lower : OKm yM_lower := ⟨tw_t 1021 (by decide +kernel) (by decide +kernel), tw_t 7 (by decide +kernel) (by decide +kernel), by decide +kernel, (fun h => nomatch h), fun _ => ⟨tw_t 1020 (by decide +kernel) (by decide +kernel), tw_s 60 (by decide +kernel) (by decide +kernel)⟩, by decide +kernel, by decide +kernel, by decide +kernel⟩
theorem okyM_lowestOf : OKm yM_lowestOf := ⟨tw_t 975 (by decide +kernel) (by decide +kernel), tw_t 7 (by decide +kernel) (by decide +kernel), by decide +kernel, (fun h => nomatch h), fun _ => ⟨tw_t 974 (by decide +kernel) (by decide +kernel), tw_s 57 (by decide +kernel) (by decide +kernel)⟩, by decide +kernel, by decide +kernel, by decide +kernel⟩
theorem okyM_manyWith : OKm yM_manyWith := ⟨tw_t 1034 (by decide +kernel) (by decide +kernel), tw_t 7 (by decide +kernel) (by decide +kernel), by decide +kernel, (fun h => nomatch h), fun _ => ⟨tw_t 1033 (by decide +kernel) (by decide +kernel), tw_s 62 (by decide +kernel) (by decide +kernel)⟩, by decide +kernel, by decide +kernel, by decide +kernel⟩
theorem okyM_mean : OKm yM_mean := ⟨tw_t 1001 (by decide +kernel) (by decide +kernel), tw_t 7 (by decide +kernel) (by decide +kernel), by decide +kernel, (fun h => nomatch h), fun _ => ⟨tw_t 999 (by decide +kernel) (by decide +kernel), tw_t 1000 (by decide +kernel) (by decide +kernel)⟩, by decide +kernel, by decide +kernel, by decide +kernel⟩
theorem okyM_mend : OKm yM_mend := ⟨tw_t 919 (by decide +kernel) (by decide +kernel), tw_t 7 (by decide +kernel) (by decide +kernel), by decide +kernel, (fun h => nomatch h), fun _ => ⟨tw_t 917 (by decide +kernel) (by decide +kernel), tw_t 918 (by decide +kernel) (by decide +kernel)⟩, by decide +kernel, by decide +kernel, by decide +kernel⟩
theorem okyM_mends : OKm yM_mends := ⟨tw_t 819 (by decide +kernel) (by decide +kernel), tw_t 7 (by decide +kernel) (by decide +kernel), by decide +kernel, (fun h => nomatch h), fun _ => ⟨tw_t 817 (by decide +kernel) (by decide +kernel), tw_t 818 (by decide +kernel) (by decide +kernel)⟩, by decide +kernel, by decide +kernel, by decide +kernel⟩
theorem okyM_neverOnes : OKm yM_neverOnes := ⟨tw_t 993 (by decide +kernel) (by decide +kernel), tw_t 7 (by decide +kernel) (by decide +kernel), by decide +kernel, (fun h => nomatch h), fun _ => ⟨tw_t 992 (by decide +kernel) (by decide +kernel), tw_s 58 (by decide +kernel) (by decide +kernel)⟩, by decide +kernel, by decide +kernel, by decide +kernel⟩
theorem okyM_next : OKm yM_next := ⟨tw_t 1009 (by decide +kernel) (by decide +kernel), tw_t 7 (by decide +kernel) (by decide +kernel), by decide +kernel, (fun h => nomatch h), fun _ => ⟨tw_t 1007 (by decide +kernel) (by decide +kernel), tw_t 1008 (by decide +kernel) (by decide +kernel)⟩, by decide +kernel, by decide +kernel, by decide +kernel⟩
theorem okyM_no : OKm yM_no := ⟨tw_t 682 (by decide +kernel) (by decide +kernel), tw_t 7 (by decide +kernel) (by decide +kernel), by decide +kernel, (fun h => nomatch h), fun _ => ⟨tw_t 681 (by decide +kernel) (by decide +kernel), tw_s 16 (by decide +kernel) (by decide +kernel)⟩, by decide +kernel, by decide +kernel, by decide +kernel⟩
theorem okyM_notWeeks : OKm yM_notWeeks := ⟨tw_t 842 (by decide +kernel) (by decide +kernel), tw_t 7 (by decide +kernel) (by decide +kernel), by decide +kernel, fun _ => tw_t 841 (by decide +kernel) (by decide +kernel), (fun h => nomatch h), by decide +kernel, by decide +kernel, by decide +kernel⟩
theorem okyM_partOf : OKm yM_partOf := ⟨tw_t 982 (by decide +kernel) (by decide +kernel), tw_t 7 (by decide +kernel) (by decide +kernel), by decide +kernel, fun _ => tw_t 981 (by decide +kernel) (by decide +kernel), (fun h => nomatch h), by decide +kernel, by decide +kernel, by decide +kernel⟩
theorem okyM_passOne : OKm yM_passOne := ⟨tw_t 717 (by decide +kernel) (by decide +kernel), tw_t 7 (by decide +kernel) (by decide +kernel), by decide +kernel, (fun h => nomatch h), fun _ => ⟨tw_t 716 (by decide +kernel) (by decide +kernel), tw_s 23 (by decide +kernel) (by decide +kernel)⟩, by decide +kernel, by decide +kernel, by decide +kernel⟩
theorem okyM_passes : OKm yM_passes := ⟨tw_t 713 (by decide +kernel) (by decide +kernel), tw_t 7 (by decide +kernel) (by decide +kernel), by decide +kernel, (fun h => nomatch h), fun _ => ⟨tw_t 712 (by decide +kernel) (by decide +kernel), tw_s 22 (by decide +kernel) (by decide +kernel)⟩, by decide +kernel, by decide +kernel, by decide +kernel⟩
theorem okyM_passesAll : OKm yM_passesAll := ⟨tw_t 709 (by decide +kernel) (by decide +kernel), tw_t 7 (by decide +kernel) (by decide +kernel), by decide +kernel, (fun h => nomatch h), fun _ => ⟨tw_t 708 (by decide +kernel) (by decide +kernel), tw_s 21 (by decide +kernel) (by decide +kernel)⟩, by decide +kernel, by decide +kernel, by decide +kernel⟩
theorem okyM_puts : OKm yM_puts := ⟨tw_t 811 (by decide +kernel) (by decide +kernel), tw_t 7 (by decide +kernel) (by decide +kernel), by decide +kernel, (fun h => nomatch h), fun _ => ⟨tw_t 809 (by decide +kernel) (by decide +kernel), tw_t 810 (by decide +kernel) (by decide +kernel)⟩, by decide +kernel, by decide +kernel, by decide +kernel⟩
theorem okyM_readsAll : OKm yM_readsAll := ⟨tw_t 698 (by decide +kernel) (by decide +kernel), tw_t 7 (by decide +kernel) (by decide +kernel), by decide +kernel, (fun h => nomatch h), fun _ => ⟨tw_t 697 (by decide +kernel) (by decide +kernel), tw_s 19 (by decide +kernel) (by decide +kernel)⟩, by decide +kernel, by decide +kernel, by decide +kernel⟩
theorem okyM_readsDigits : OKm yM_readsDigits := ⟨tw_t 702 (by decide +kernel) (by decide +kernel), tw_t 7 (by decide +kernel) (by decide +kernel), by decide +kernel, (fun h => nomatch h), fun _ => ⟨tw_t 701 (by decide +kernel) (by decide +kernel), tw_s 20 (by decide +kernel) (by decide +kernel)⟩, by decide +kernel, by decide +kernel, by decide +kernel⟩
theorem okyM_restore : OKm yM_restore := ⟨tw_t 783 (by decide +kernel) (by decide +kernel), tw_t 7 (by decide +kernel) (by decide +kernel), by decide +kernel, (fun h => nomatch h), fun _ => ⟨tw_t 781 (by decide +kernel) (by decide +kernel), tw_t 782 (by decide +kernel) (by decide +kernel)⟩, by decide +kernel, by decide +kernel, by decide +kernel⟩
theorem okyM_rota : OKm yM_rota := ⟨tw_t 803 (by decide +kernel) (by decide +kernel), tw_t 7 (by decide +kernel) (by decide +kernel), by decide +kernel, (fun h => nomatch h), fun _ => ⟨tw_t 801 (by decide +kernel) (by decide +kernel), tw_t 802 (by decide +kernel) (by decide +kernel)⟩, by decide +kernel, by decide +kernel, by decide +kernel⟩
theorem okyM_row : OKm yM_row := ⟨tw_t 1042 (by decide +kernel) (by decide +kernel), tw_t 7 (by decide +kernel) (by decide +kernel), by decide +kernel, (fun h => nomatch h), fun _ => ⟨tw_t 1040 (by decide +kernel) (by decide +kernel), tw_t 1041 (by decide +kernel) (by decide +kernel)⟩, by decide +kernel, by decide +kernel, by decide +kernel⟩
theorem okyM_sameDays : OKm yM_sameDays := ⟨tw_t 997 (by decide +kernel) (by decide +kernel), tw_t 7 (by decide +kernel) (by decide +kernel), by decide +kernel, (fun h => nomatch h), fun _ => ⟨tw_t 996 (by decide +kernel) (by decide +kernel), tw_s 59 (by decide +kernel) (by decide +kernel)⟩, by decide +kernel, by decide +kernel, by decide +kernel⟩
theorem okyM_seen : OKm yM_seen := ⟨tw_t 799 (by decide +kernel) (by decide +kernel), tw_t 7 (by decide +kernel) (by decide +kernel), by decide +kernel, (fun h => nomatch h), fun _ => ⟨tw_t 797 (by decide +kernel) (by decide +kernel), tw_t 798 (by decide +kernel) (by decide +kernel)⟩, by decide +kernel, by decide +kernel, by decide +kernel⟩
theorem okyM_seenLeaving : OKm yM_seenLeaving := ⟨tw_t 911 (by decide +kernel) (by decide +kernel), tw_t 7 (by decide +kernel) (by decide +kernel), by decide +kernel, (fun h => nomatch h), fun _ => ⟨tw_t 910 (by decide +kernel) (by decide +kernel), tw_s 49 (by decide +kernel) (by decide +kernel)⟩, by decide +kernel, by decide +kernel, by decide +kernel⟩
theorem okyM_statement : OKm yM_statement := ⟨tw_t 690 (by decide +kernel) (by decide +kernel), tw_t 7 (by decide +kernel) (by decide +kernel), by decide +kernel, (fun h => nomatch h), fun _ => ⟨tw_t 689 (by decide +kernel) (by decide +kernel), tw_s 17 (by decide +kernel) (by decide +kernel)⟩, by decide +kernel, by decide +kernel, by decide +kernel⟩
theorem okyM_street : OKm yM_street := ⟨tw_t 686 (by decide +kernel) (by decide +kernel), tw_t 7 (by decide +kernel) (by decide +kernel), by decide +kernel, (fun h => nomatch h), fun _ => ⟨tw_t 684 (by decide +kernel) (by decide +kernel), tw_t 685 (by decide +kernel) (by decide +kernel)⟩, by decide +kernel, by decide +kernel, by decide +kernel⟩
theorem okyM_sundays : OKm yM_sundays := ⟨tw_t 1030 (by decide +kernel) (by decide +kernel), tw_t 7 (by decide +kernel) (by decide +kernel), by decide +kernel, (fun h => nomatch h), fun _ => ⟨tw_t 1028 (by decide +kernel) (by decide +kernel), tw_t 1029 (by decide +kernel) (by decide +kernel)⟩, by decide +kernel, by decide +kernel, by decide +kernel⟩
theorem okyM_swap : OKm yM_swap := ⟨tw_t 899 (by decide +kernel) (by decide +kernel), tw_t 7 (by decide +kernel) (by decide +kernel), by decide +kernel, (fun h => nomatch h), fun _ => ⟨tw_t 897 (by decide +kernel) (by decide +kernel), tw_t 898 (by decide +kernel) (by decide +kernel)⟩, by decide +kernel, by decide +kernel, by decide +kernel⟩
theorem okyM_swapsPlaces : OKm yM_swapsPlaces := ⟨tw_t 903 (by decide +kernel) (by decide +kernel), tw_t 7 (by decide +kernel) (by decide +kernel), by decide +kernel, (fun h => nomatch h), fun _ => ⟨tw_t 902 (by decide +kernel) (by decide +kernel), tw_s 48 (by decide +kernel) (by decide +kernel)⟩, by decide +kernel, by decide +kernel, by decide +kernel⟩
theorem okyM_then : OKm yM_then := ⟨tw_t 839 (by decide +kernel) (by decide +kernel), tw_t 7 (by decide +kernel) (by decide +kernel), by decide +kernel, (fun h => nomatch h), fun _ => ⟨tw_t 837 (by decide +kernel) (by decide +kernel), tw_t 838 (by decide +kernel) (by decide +kernel)⟩, by decide +kernel, by decide +kernel, by decide +kernel⟩
theorem okyM_thinks : OKm yM_thinks := ⟨tw_t 846 (by decide +kernel) (by decide +kernel), tw_t 7 (by decide +kernel) (by decide +kernel), by decide +kernel, (fun h => nomatch h), fun _ => ⟨tw_t 845 (by decide +kernel) (by decide +kernel), tw_s 40 (by decide +kernel) (by decide +kernel)⟩, by decide +kernel, by decide +kernel, by decide +kernel⟩
theorem okyM_turn : OKm yM_turn := ⟨tw_t 878 (by decide +kernel) (by decide +kernel), tw_t 7 (by decide +kernel) (by decide +kernel), by decide +kernel, (fun h => nomatch h), fun _ => ⟨tw_t 876 (by decide +kernel) (by decide +kernel), tw_t 877 (by decide +kernel) (by decide +kernel)⟩, by decide +kernel, by decide +kernel, by decide +kernel⟩
theorem okyM_turnsOf : OKm yM_turnsOf := ⟨tw_t 791 (by decide +kernel) (by decide +kernel), tw_t 7 (by decide +kernel) (by decide +kernel), by decide +kernel, (fun h => nomatch h), fun _ => ⟨tw_t 790 (by decide +kernel) (by decide +kernel), tw_s 36 (by decide +kernel) (by decide +kernel)⟩, by decide +kernel, by decide +kernel, by decide +kernel⟩
theorem okyM_two : OKm yM_two := ⟨tw_t 963 (by decide +kernel) (by decide +kernel), tw_t 7 (by decide +kernel) (by decide +kernel), by decide +kernel, (fun h => nomatch h), fun _ => ⟨tw_t 961 (by decide +kernel) (by decide +kernel), tw_t 962 (by decide +kernel) (by decide +kernel)⟩, by decide +kernel, by decide +kernel, by decide +kernel⟩
theorem okyM_wears : OKm yM_wears := ⟨tw_t 795 (by decide +kernel) (by decide +kernel), tw_t 7 (by decide +kernel) (by decide +kernel), by decide +kernel, (fun h => nomatch h), fun _ => ⟨tw_t 793 (by decide +kernel) (by decide +kernel), tw_t 794 (by decide +kernel) (by decide +kernel)⟩, by decide +kernel, by decide +kernel, by decide +kernel⟩
theorem okyM_wearsOf : OKm yM_wearsOf := ⟨tw_t 771 (by decide +kernel) (by decide +kernel), tw_t 7 (by decide +kernel) (by decide +kernel), by decide +kernel, (fun h => nomatch h), fun _ => ⟨tw_t 770 (by decide +kernel) (by decide +kernel), tw_s 35 (by decide +kernel) (by decide +kernel)⟩, by decide +kernel, by decide +kernel, by decide +kernel⟩
theorem okyM_weeks : OKm yM_weeks := ⟨tw_t 827 (by decide +kernel) (by decide +kernel), tw_t 7 (by decide +kernel) (by decide +kernel), by decide +kernel, (fun h => nomatch h), fun _ => ⟨tw_t 825 (by decide +kernel) (by decide +kernel), tw_t 826 (by decide +kernel) (by decide +kernel)⟩, by decide +kernel, by decide +kernel, by decide +kernel⟩
theorem okyM_whatKind : OKm yM_whatKind := ⟨tw_t 955 (by decide +kernel) (by decide +kernel), tw_t 7 (by decide +kernel) (by decide +kernel), by decide +kernel, (fun h => nomatch h), fun _ => ⟨tw_t 953 (by decide +kernel) (by decide +kernel), tw_t 954 (by decide +kernel) (by decide +kernel)⟩, by decide +kernel, by decide +kernel, by decide +kernel⟩
theorem okyM_whoHad : OKm yM_whoHad := ⟨tw_t 947 (by decide +kernel) (by decide +kernel), tw_t 7 (by decide +kernel) (by decide +kernel), by decide +kernel, (fun h => nomatch h), fun _ => ⟨tw_t 945 (by decide +kernel) (by decide +kernel), tw_t 946 (by decide +kernel) (by decide +kernel)⟩, by decide +kernel, by decide +kernel, by decide +kernel⟩
theorem okyM_widow : OKm yM_widow := ⟨tw_t 807 (by decide +kernel) (by decide +kernel), tw_t 7 (by decide +kernel) (by decide +kernel), by decide +kernel, (fun h => nomatch h), fun _ => ⟨tw_t 805 (by decide +kernel) (by decide +kernel), tw_t 806 (by decide +kernel) (by decide +kernel)⟩, by decide +kernel, by decide +kernel, by decide +kernel⟩
theorem okyM_widowIn : OKm yM_widowIn := ⟨tw_t 854 (by decide +kernel) (by decide +kernel), tw_t 7 (by decide +kernel) (by decide +kernel), by decide +kernel, (fun h => nomatch h), fun _ => ⟨tw_t 852 (by decide +kernel) (by decide +kernel), tw_t 853 (by decide +kernel) (by decide +kernel)⟩, by decide +kernel, by decide +kernel, by decide +kernel⟩
theorem okyM_widowOf : OKm yM_widowOf := ⟨tw_t 787 (by decide +kernel) (by decide +kernel), tw_t 7 (by decide +kernel) (by decide +kernel), by decide +kernel, (fun h => nomatch h), fun _ => ⟨tw_t 785 (by decide +kernel) (by decide +kernel), tw_t 786 (by decide +kernel) (by decide +kernel)⟩, by decide +kernel, by decide +kernel, by decide +kernel⟩
theorem okyM_within : OKm yM_within := ⟨tw_t 767 (by decide +kernel) (by decide +kernel), tw_t 7 (by decide +kernel) (by decide +kernel), by decide +kernel, fun _ => tw_t 766 (by decide +kernel) (by decide +kernel), (fun h => nomatch h), by decide +kernel, by decide +kernel, by decide +kernel⟩
theorem okyM_worst : OKm yM_worst := ⟨tw_t 989 (by decide +kernel) (by decide +kernel), tw_t 7 (by decide +kernel) (by decide +kernel), by decide +kernel, (fun h => nomatch h), fun _ => ⟨tw_t 987 (by decide +kernel) (by decide +kernel), tw_t 988 (by decide +kernel) (by decide +kernel)⟩, by decide +kernel, by decide +kernel, by decide +kernel⟩
def lk {α : Type} : List (Nat × α) → Nat → Option α
  | [], _ => none
  | (j, a) :: t, i => if j = i then some a else lk t i
theorem lk_all {α : Type} {P : Nat → α → Prop} : ∀ {l : List (Nat × α)}, (∀ x ∈ l, P x.1 x.2) → ∀ {i : Nat} {a : α}, lk l i = some a → P i a
  | [], _, i, a, h => by cases h
  | (j, b) :: t, hp, i, a, h => by
    unfold lk at h
    split at h
    · next hj => subst hj; cases h; exact hp _ List.mem_cons_self
    · exact lk_all (fun x hx => hp x (List.mem_cons_of_mem _ hx)) h
/-- the three of java.lang.Math: 0 max, 1 min, 2 abs -/
def xN (k : Nat) : MethodName := match k with | 0 => Lib.Math.max.name | 1 => Lib.Math.min.name | _ => Lib.Math.abs.name
/-- what the tables say of a field's link: the class that asks, the place, (of a nest mate, its class, the field) -/
def fOK (c i : Nat) (x : Bool × Nat × Nat) : Prop := x.2.1 < 6 ∧ x.2.2 < NFs x.2.1 ∧ ((TFs x.2.1 x.2.2).1 = RC x.2.1 ∨ TW (.sameField (RC x.2.1) (TFs x.2.1 x.2.2).1 (TFs x.2.1 x.2.2).2.1 (TFs x.2.1 x.2.2).2.2.1)) ∧ match x.1 with | true => Cond.fieldLinkNest (RC c) i (RC x.2.1) (TFs x.2.1 x.2.2).2.1 (TFs x.2.1 x.2.2).2.2.1 "OnePortrait" ∈ lw_tbl | false => TW (.fieldLink (RC c) i (RC x.2.1) (TFs x.2.1 x.2.2).2.1 (TFs x.2.1 x.2.2).2.2.1)
/-- of an inherited method under its heir's name: Text (3) has it of Numbers (0) -/
def uX (z : MI) : MethodName := ⟨RC 3, (mN z).name, (mN z).desc⟩
def uOK (c : Nat) (x : Nat × MI) : Prop := TW (.methodLink (RC c) x.1 (uX x.2)) ∧ TW (.sameMethod (RC 3) (RC 0) (mN x.2).name (mN x.2).desc) ∧ TW (.selects (RC 3) (uX x.2) (mN x.2)) ∧ OKm x.2 ∧ mC x.2 = 0 ∧ mS x.2 = false
def ML0 : List (Nat × MI) := []
theorem okML0 : ∀ x ∈ ML0, TW (.methodLink (RC 0) x.1 (mN x.2)) ∧ OKm x.2 := fun _ h => absurd h List.not_mem_nil
def UL0 : List (Nat × MI) := []
theorem okUL0 : ∀ x ∈ UL0, uOK 0 x := fun _ h => absurd h List.not_mem_nil
def XL0 : List (Nat × Nat) := [(7, 0)]
def FL0 : List (Nat × (Bool × Nat × Nat)) := [(13, (false, 0, 0)), (19, (false, 0, 1))]
theorem wx0_7 : TW (.methodLink (RC 0) 7 (xN 0)) := tw_t 86 (by decide +kernel) (by decide +kernel)
theorem okXL0 : ∀ x ∈ XL0, TW (.methodLink (RC 0) x.1 (xN x.2)) := List.forall_mem_cons.mpr ⟨wx0_7, fun _ h => absurd h List.not_mem_nil⟩
theorem wl0_13 : fOK 0 13 (false, 0, 0) := ⟨by decide, by decide, Or.inl (by decide +kernel), tw_t 89 (by decide +kernel) (by decide +kernel)⟩
theorem wl0_19 : fOK 0 19 (false, 0, 1) := ⟨by decide, by decide, Or.inl (by decide +kernel), tw_t 90 (by decide +kernel) (by decide +kernel)⟩
theorem okFL0 : ∀ x ∈ FL0, fOK 0 x.1 x.2 := List.forall_mem_cons.mpr ⟨wl0_13, List.forall_mem_cons.mpr ⟨wl0_19, fun _ h => absurd h List.not_mem_nil⟩⟩
def CI0 : List (Nat × Int32) := []
theorem okCI0 : ∀ x ∈ CI0, TW (.constant (RC 0) x.1 x.2) := fun _ h => absurd h List.not_mem_nil
def CJ0 : List (Nat × Int64) := []
theorem okCJ0 : ∀ x ∈ CJ0, TW (.constantLong (RC 0) x.1 x.2) := fun _ h => absurd h List.not_mem_nil
def ML1 : List (Nat × MI) := [(25, yP_slotAt), (29, yS_become)]
theorem wm1_25 : TW (.methodLink (RC 1) 25 (mN yP_slotAt)) ∧ OKm yP_slotAt := ⟨tw_t 319 (by decide +kernel) (by decide +kernel), okyP_slotAt⟩
theorem wm1_29 : TW (.methodLink (RC 1) 29 (mN yS_become)) ∧ OKm yS_become := ⟨tw_t 323 (by decide +kernel) (by decide +kernel), okyS_become⟩
theorem okML1 : ∀ x ∈ ML1, TW (.methodLink (RC 1) x.1 (mN x.2)) ∧ OKm x.2 := List.forall_mem_cons.mpr ⟨wm1_25, List.forall_mem_cons.mpr ⟨wm1_29, fun _ h => absurd h List.not_mem_nil⟩⟩
def UL1 : List (Nat × MI) := []
theorem okUL1 : ∀ x ∈ UL1, uOK 1 x := fun _ h => absurd h List.not_mem_nil
def XL1 : List (Nat × Nat) := [(33, 1)]
def FL1 : List (Nat × (Bool × Nat × Nat)) := [(11, (false, 1, 0)), (18, (false, 1, 1)), (22, (false, 1, 2))]
theorem wx1_33 : TW (.methodLink (RC 1) 33 (xN 1)) := tw_t 324 (by decide +kernel) (by decide +kernel)
theorem okXL1 : ∀ x ∈ XL1, TW (.methodLink (RC 1) x.1 (xN x.2)) := List.forall_mem_cons.mpr ⟨wx1_33, fun _ h => absurd h List.not_mem_nil⟩
theorem wl1_11 : fOK 1 11 (false, 1, 0) := ⟨by decide, by decide, Or.inl (by decide +kernel), tw_t 66 (by decide +kernel) (by decide +kernel)⟩
theorem wl1_18 : fOK 1 18 (false, 1, 1) := ⟨by decide, by decide, Or.inl (by decide +kernel), tw_t 67 (by decide +kernel) (by decide +kernel)⟩
theorem wl1_22 : fOK 1 22 (false, 1, 2) := ⟨by decide, by decide, Or.inl (by decide +kernel), tw_t 68 (by decide +kernel) (by decide +kernel)⟩
theorem okFL1 : ∀ x ∈ FL1, fOK 1 x.1 x.2 := List.forall_mem_cons.mpr ⟨wl1_11, List.forall_mem_cons.mpr ⟨wl1_18, List.forall_mem_cons.mpr ⟨wl1_22, fun _ h => absurd h List.not_mem_nil⟩⟩⟩
def CI1 : List (Nat × Int32) := []
theorem okCI1 : ∀ x ∈ CI1, TW (.constant (RC 1) x.1 x.2) := fun _ h => absurd h List.not_mem_nil
def CJ1 : List (Nat × Int64) := []
theorem okCJ1 : ∀ x ∈ CJ1, TW (.constantLong (RC 1) x.1 x.2) := fun _ h => absurd h List.not_mem_nil
def ML2 : List (Nat × MI) := [(43, yS_hasWidow), (47, yS_whoseIs), (51, yS_canHang), (57, yS_passWeek), (61, yS_hostIn), (64, yS_hangWith), (68, yS_comfortOf), (77, yS_wearOf), (83, yS_griefOf), (86, yS_metOf), (89, yS_seenOf), (92, yS_turnsOf), (95, yS_dayOf)]
theorem wm2_43 : TW (.methodLink (RC 2) 43 (mN yS_hasWidow)) ∧ OKm yS_hasWidow := ⟨tw_t 195 (by decide +kernel) (by decide +kernel), okyS_hasWidow⟩
theorem wm2_47 : TW (.methodLink (RC 2) 47 (mN yS_whoseIs)) ∧ OKm yS_whoseIs := ⟨tw_t 219 (by decide +kernel) (by decide +kernel), okyS_whoseIs⟩
theorem wm2_51 : TW (.methodLink (RC 2) 51 (mN yS_canHang)) ∧ OKm yS_canHang := ⟨tw_t 191 (by decide +kernel) (by decide +kernel), okyS_canHang⟩
theorem wm2_57 : TW (.methodLink (RC 2) 57 (mN yS_passWeek)) ∧ OKm yS_passWeek := ⟨tw_t 211 (by decide +kernel) (by decide +kernel), okyS_passWeek⟩
theorem wm2_61 : TW (.methodLink (RC 2) 61 (mN yS_hostIn)) ∧ OKm yS_hostIn := ⟨tw_t 215 (by decide +kernel) (by decide +kernel), okyS_hostIn⟩
theorem wm2_64 : TW (.methodLink (RC 2) 64 (mN yS_hangWith)) ∧ OKm yS_hangWith := ⟨tw_t 223 (by decide +kernel) (by decide +kernel), okyS_hangWith⟩
theorem wm2_68 : TW (.methodLink (RC 2) 68 (mN yS_comfortOf)) ∧ OKm yS_comfortOf := ⟨tw_t 227 (by decide +kernel) (by decide +kernel), okyS_comfortOf⟩
theorem wm2_77 : TW (.methodLink (RC 2) 77 (mN yS_wearOf)) ∧ OKm yS_wearOf := ⟨tw_t 232 (by decide +kernel) (by decide +kernel), okyS_wearOf⟩
theorem wm2_83 : TW (.methodLink (RC 2) 83 (mN yS_griefOf)) ∧ OKm yS_griefOf := ⟨tw_t 345 (by decide +kernel) (by decide +kernel), okyS_griefOf⟩
theorem wm2_86 : TW (.methodLink (RC 2) 86 (mN yS_metOf)) ∧ OKm yS_metOf := ⟨tw_t 567 (by decide +kernel) (by decide +kernel), okyS_metOf⟩
theorem wm2_89 : TW (.methodLink (RC 2) 89 (mN yS_seenOf)) ∧ OKm yS_seenOf := ⟨tw_t 513 (by decide +kernel) (by decide +kernel), okyS_seenOf⟩
theorem wm2_92 : TW (.methodLink (RC 2) 92 (mN yS_turnsOf)) ∧ OKm yS_turnsOf := ⟨tw_t 495 (by decide +kernel) (by decide +kernel), okyS_turnsOf⟩
theorem wm2_95 : TW (.methodLink (RC 2) 95 (mN yS_dayOf)) ∧ OKm yS_dayOf := ⟨tw_t 500 (by decide +kernel) (by decide +kernel), okyS_dayOf⟩
theorem okML2 : ∀ x ∈ ML2, TW (.methodLink (RC 2) x.1 (mN x.2)) ∧ OKm x.2 := List.forall_mem_cons.mpr ⟨wm2_43, List.forall_mem_cons.mpr ⟨wm2_47, List.forall_mem_cons.mpr ⟨wm2_51, List.forall_mem_cons.mpr ⟨wm2_57, List.forall_mem_cons.mpr ⟨wm2_61, List.forall_mem_cons.mpr ⟨wm2_64, List.forall_mem_cons.mpr ⟨wm2_68, List.forall_mem_cons.mpr ⟨wm2_77, List.forall_mem_cons.mpr ⟨wm2_83, List.forall_mem_cons.mpr ⟨wm2_86, List.forall_mem_cons.mpr ⟨wm2_89, List.forall_mem_cons.mpr ⟨wm2_92, List.forall_mem_cons.mpr ⟨wm2_95, fun _ h => absurd h List.not_mem_nil⟩⟩⟩⟩⟩⟩⟩⟩⟩⟩⟩⟩⟩
def UL2 : List (Nat × MI) := []
theorem okUL2 : ∀ x ∈ UL2, uOK 2 x := fun _ h => absurd h List.not_mem_nil
def XL2 : List (Nat × Nat) := [(71, 0), (80, 1)]
def FL2 : List (Nat × (Bool × Nat × Nat)) := [(9, (false, 2, 0)), (15, (false, 2, 1)), (18, (false, 2, 2)), (21, (false, 2, 3)), (24, (false, 2, 4)), (27, (false, 2, 5)), (30, (false, 2, 6)), (33, (false, 2, 7)), (37, (false, 2, 8)), (40, (false, 2, 9))]
theorem wx2_71 : TW (.methodLink (RC 2) 71 (xN 0)) := tw_t 231 (by decide +kernel) (by decide +kernel)
theorem wx2_80 : TW (.methodLink (RC 2) 80 (xN 1)) := tw_t 236 (by decide +kernel) (by decide +kernel)
theorem okXL2 : ∀ x ∈ XL2, TW (.methodLink (RC 2) x.1 (xN x.2)) := List.forall_mem_cons.mpr ⟨wx2_71, List.forall_mem_cons.mpr ⟨wx2_80, fun _ h => absurd h List.not_mem_nil⟩⟩
theorem wl2_9 : fOK 2 9 (false, 2, 0) := ⟨by decide, by decide, Or.inl (by decide +kernel), tw_t 22 (by decide +kernel) (by decide +kernel)⟩
theorem wl2_15 : fOK 2 15 (false, 2, 1) := ⟨by decide, by decide, Or.inl (by decide +kernel), tw_t 23 (by decide +kernel) (by decide +kernel)⟩
theorem wl2_18 : fOK 2 18 (false, 2, 2) := ⟨by decide, by decide, Or.inl (by decide +kernel), tw_t 24 (by decide +kernel) (by decide +kernel)⟩
theorem wl2_21 : fOK 2 21 (false, 2, 3) := ⟨by decide, by decide, Or.inl (by decide +kernel), tw_t 25 (by decide +kernel) (by decide +kernel)⟩
theorem wl2_24 : fOK 2 24 (false, 2, 4) := ⟨by decide, by decide, Or.inl (by decide +kernel), tw_t 26 (by decide +kernel) (by decide +kernel)⟩
theorem wl2_27 : fOK 2 27 (false, 2, 5) := ⟨by decide, by decide, Or.inl (by decide +kernel), tw_t 27 (by decide +kernel) (by decide +kernel)⟩
theorem wl2_30 : fOK 2 30 (false, 2, 6) := ⟨by decide, by decide, Or.inl (by decide +kernel), tw_t 28 (by decide +kernel) (by decide +kernel)⟩
theorem wl2_33 : fOK 2 33 (false, 2, 7) := ⟨by decide, by decide, Or.inl (by decide +kernel), tw_t 29 (by decide +kernel) (by decide +kernel)⟩
theorem wl2_37 : fOK 2 37 (false, 2, 8) := ⟨by decide, by decide, Or.inl (by decide +kernel), tw_t 31 (by decide +kernel) (by decide +kernel)⟩
theorem wl2_40 : fOK 2 40 (false, 2, 9) := ⟨by decide, by decide, Or.inl (by decide +kernel), tw_t 33 (by decide +kernel) (by decide +kernel)⟩
theorem okFL2 : ∀ x ∈ FL2, fOK 2 x.1 x.2 := List.forall_mem_cons.mpr ⟨wl2_9, List.forall_mem_cons.mpr ⟨wl2_15, List.forall_mem_cons.mpr ⟨wl2_18, List.forall_mem_cons.mpr ⟨wl2_21, List.forall_mem_cons.mpr ⟨wl2_24, List.forall_mem_cons.mpr ⟨wl2_27, List.forall_mem_cons.mpr ⟨wl2_30, List.forall_mem_cons.mpr ⟨wl2_33, List.forall_mem_cons.mpr ⟨wl2_37, List.forall_mem_cons.mpr ⟨wl2_40, fun _ h => absurd h List.not_mem_nil⟩⟩⟩⟩⟩⟩⟩⟩⟩⟩
def CI2 : List (Nat × Int32) := [(54, 1103515245), (55, 2147483647), (56, 65536)]
theorem okCI2 : ∀ x ∈ CI2, TW (.constant (RC 2) x.1 x.2) := List.forall_mem_cons.mpr ⟨tw_t 560 (by decide +kernel) (by decide +kernel), List.forall_mem_cons.mpr ⟨tw_t 561 (by decide +kernel) (by decide +kernel), List.forall_mem_cons.mpr ⟨tw_t 562 (by decide +kernel) (by decide +kernel), fun _ h => absurd h List.not_mem_nil⟩⟩⟩
def CJ2 : List (Nat × Int64) := []
theorem okCJ2 : ∀ x ∈ CJ2, TW (.constantLong (RC 2) x.1 x.2) := fun _ h => absurd h List.not_mem_nil
def ML3 : List (Nat × MI) := [(19, yT_digitsAt)]
theorem wm3_19 : TW (.methodLink (RC 3) 19 (mN yT_digitsAt)) ∧ OKm yT_digitsAt := ⟨tw_t 166 (by decide +kernel) (by decide +kernel), okyT_digitsAt⟩
theorem okML3 : ∀ x ∈ ML3, TW (.methodLink (RC 3) x.1 (mN x.2)) ∧ OKm x.2 := List.forall_mem_cons.mpr ⟨wm3_19, fun _ h => absurd h List.not_mem_nil⟩
def UL3 : List (Nat × MI) := [(9, yN_at)]
theorem wu3_9 : uOK 3 (9, yN_at) := ⟨tw_t 160 (by decide +kernel) (by decide +kernel), tw_t 161 (by decide +kernel) (by decide +kernel), tw_t 163 (by decide +kernel) (by decide +kernel), okyN_at, rfl, rfl⟩
theorem okUL3 : ∀ x ∈ UL3, uOK 3 x := List.forall_mem_cons.mpr ⟨wu3_9, fun _ h => absurd h List.not_mem_nil⟩
def XL3 : List (Nat × Nat) := []
def FL3 : List (Nat × (Bool × Nat × Nat)) := [(15, (false, 3, 1))]
theorem okXL3 : ∀ x ∈ XL3, TW (.methodLink (RC 3) x.1 (xN x.2)) := fun _ h => absurd h List.not_mem_nil
theorem wl3_15 : fOK 3 15 (false, 3, 1) := ⟨by decide, by decide, Or.inr (tw_t 92 (by decide +kernel) (by decide +kernel)), tw_t 93 (by decide +kernel) (by decide +kernel)⟩
theorem okFL3 : ∀ x ∈ FL3, fOK 3 x.1 x.2 := List.forall_mem_cons.mpr ⟨wl3_15, fun _ h => absurd h List.not_mem_nil⟩
def CI3 : List (Nat × Int32) := []
theorem okCI3 : ∀ x ∈ CI3, TW (.constant (RC 3) x.1 x.2) := fun _ h => absurd h List.not_mem_nil
def CJ3 : List (Nat × Int64) := []
theorem okCJ3 : ∀ x ∈ CJ3, TW (.constantLong (RC 3) x.1 x.2) := fun _ h => absurd h List.not_mem_nil
def ML4 : List (Nat × MI) := [(53, yO_rangeFault), (61, yO_refuse), (68, yO_readText), (72, yT_firstBadPlace), (75, yS_become), (79, yO_stands), (83, yT_digitsAt), (92, yP_forget), (98, yT_number), (101, yS_addWidow), (108, yS_setPlace), (112, yS_setSeen), (115, yS_setGrief), (118, yS_letPass), (121, yO_widowFault), (124, yO_whatFault), (127, yO_either), (130, yS_kindOf), (133, yS_figureOf), (136, yS_griefOf), (139, yS_dayOf), (142, yS_metOf), (145, yS_comfortOf), (148, yS_turnsOf), (151, yO_partFault), (154, yS_wearOf), (157, yS_seenOf), (160, yS_whoseIs), (166, yS_canHang), (169, yP_keep), (175, yS_passWeeks), (178, yS_allGrief), (181, yP_giveBack), (188, yO_thinkAhead), (191, yS_hostIn), (194, yO_firstGone), (197, yS_passWeek), (201, yS_putIn), (205, yS_allSeen), (208, yS_leaveOut), (211, yS_leastSeen), (214, yO_houseIn), (220, yO_bestOn), (223, yO_mindWearsLikeRow), (226, yS_pretend), (231, yN_at), (232, yO_isContent), (236, yO_burden), (242, yO_calmWeight), (246, yO_inLowestTerms), (250, yS_mostGrieved), (253, yS_withoutTurn), (256, yS_daysShared), (259, yS_clearestPart), (263, yO_weeksWith), (266, yN_add), (267, yS_hasWidow), (270, yS_drawRota), (273, yS_allMet), (276, yO_refusalsOf), (279, yO_commonDivisor)]
theorem wm4_53 : TW (.methodLink (RC 4) 53 (mN yO_rangeFault)) ∧ OKm yO_rangeFault := ⟨tw_t 135 (by decide +kernel) (by decide +kernel), okyO_rangeFault⟩
theorem wm4_61 : TW (.methodLink (RC 4) 61 (mN yO_refuse)) ∧ OKm yO_refuse := ⟨tw_t 138 (by decide +kernel) (by decide +kernel), okyO_refuse⟩
theorem wm4_68 : TW (.methodLink (RC 4) 68 (mN yO_readText)) ∧ OKm yO_readText := ⟨tw_t 152 (by decide +kernel) (by decide +kernel), okyO_readText⟩
theorem wm4_72 : TW (.methodLink (RC 4) 72 (mN yT_firstBadPlace)) ∧ OKm yT_firstBadPlace := ⟨tw_t 156 (by decide +kernel) (by decide +kernel), okyT_firstBadPlace⟩
theorem wm4_75 : TW (.methodLink (RC 4) 75 (mN yS_become)) ∧ OKm yS_become := ⟨tw_t 170 (by decide +kernel) (by decide +kernel), okyS_become⟩
theorem wm4_79 : TW (.methodLink (RC 4) 79 (mN yO_stands)) ∧ OKm yO_stands := ⟨tw_t 174 (by decide +kernel) (by decide +kernel), okyO_stands⟩
theorem wm4_83 : TW (.methodLink (RC 4) 83 (mN yT_digitsAt)) ∧ OKm yT_digitsAt := ⟨tw_t 239 (by decide +kernel) (by decide +kernel), okyT_digitsAt⟩
theorem wm4_92 : TW (.methodLink (RC 4) 92 (mN yP_forget)) ∧ OKm yP_forget := ⟨tw_t 241 (by decide +kernel) (by decide +kernel), okyP_forget⟩
theorem wm4_98 : TW (.methodLink (RC 4) 98 (mN yT_number)) ∧ OKm yT_number := ⟨tw_t 179 (by decide +kernel) (by decide +kernel), okyT_number⟩
theorem wm4_101 : TW (.methodLink (RC 4) 101 (mN yS_addWidow)) ∧ OKm yS_addWidow := ⟨tw_t 183 (by decide +kernel) (by decide +kernel), okyS_addWidow⟩
theorem wm4_108 : TW (.methodLink (RC 4) 108 (mN yS_setPlace)) ∧ OKm yS_setPlace := ⟨tw_t 187 (by decide +kernel) (by decide +kernel), okyS_setPlace⟩
theorem wm4_112 : TW (.methodLink (RC 4) 112 (mN yS_setSeen)) ∧ OKm yS_setSeen := ⟨tw_t 199 (by decide +kernel) (by decide +kernel), okyS_setSeen⟩
theorem wm4_115 : TW (.methodLink (RC 4) 115 (mN yS_setGrief)) ∧ OKm yS_setGrief := ⟨tw_t 203 (by decide +kernel) (by decide +kernel), okyS_setGrief⟩
theorem wm4_118 : TW (.methodLink (RC 4) 118 (mN yS_letPass)) ∧ OKm yS_letPass := ⟨tw_t 207 (by decide +kernel) (by decide +kernel), okyS_letPass⟩
theorem wm4_121 : TW (.methodLink (RC 4) 121 (mN yO_widowFault)) ∧ OKm yO_widowFault := ⟨tw_t 249 (by decide +kernel) (by decide +kernel), okyO_widowFault⟩
theorem wm4_124 : TW (.methodLink (RC 4) 124 (mN yO_whatFault)) ∧ OKm yO_whatFault := ⟨tw_t 254 (by decide +kernel) (by decide +kernel), okyO_whatFault⟩
theorem wm4_127 : TW (.methodLink (RC 4) 127 (mN yO_either)) ∧ OKm yO_either := ⟨tw_t 257 (by decide +kernel) (by decide +kernel), okyO_either⟩
theorem wm4_130 : TW (.methodLink (RC 4) 130 (mN yS_kindOf)) ∧ OKm yS_kindOf := ⟨tw_t 260 (by decide +kernel) (by decide +kernel), okyS_kindOf⟩
theorem wm4_133 : TW (.methodLink (RC 4) 133 (mN yS_figureOf)) ∧ OKm yS_figureOf := ⟨tw_t 264 (by decide +kernel) (by decide +kernel), okyS_figureOf⟩
theorem wm4_136 : TW (.methodLink (RC 4) 136 (mN yS_griefOf)) ∧ OKm yS_griefOf := ⟨tw_t 268 (by decide +kernel) (by decide +kernel), okyS_griefOf⟩
theorem wm4_139 : TW (.methodLink (RC 4) 139 (mN yS_dayOf)) ∧ OKm yS_dayOf := ⟨tw_t 272 (by decide +kernel) (by decide +kernel), okyS_dayOf⟩
theorem wm4_142 : TW (.methodLink (RC 4) 142 (mN yS_metOf)) ∧ OKm yS_metOf := ⟨tw_t 276 (by decide +kernel) (by decide +kernel), okyS_metOf⟩
theorem wm4_145 : TW (.methodLink (RC 4) 145 (mN yS_comfortOf)) ∧ OKm yS_comfortOf := ⟨tw_t 280 (by decide +kernel) (by decide +kernel), okyS_comfortOf⟩
theorem wm4_148 : TW (.methodLink (RC 4) 148 (mN yS_turnsOf)) ∧ OKm yS_turnsOf := ⟨tw_t 281 (by decide +kernel) (by decide +kernel), okyS_turnsOf⟩
theorem wm4_151 : TW (.methodLink (RC 4) 151 (mN yO_partFault)) ∧ OKm yO_partFault := ⟨tw_t 289 (by decide +kernel) (by decide +kernel), okyO_partFault⟩
theorem wm4_154 : TW (.methodLink (RC 4) 154 (mN yS_wearOf)) ∧ OKm yS_wearOf := ⟨tw_t 292 (by decide +kernel) (by decide +kernel), okyS_wearOf⟩
theorem wm4_157 : TW (.methodLink (RC 4) 157 (mN yS_seenOf)) ∧ OKm yS_seenOf := ⟨tw_t 297 (by decide +kernel) (by decide +kernel), okyS_seenOf⟩
theorem wm4_160 : TW (.methodLink (RC 4) 160 (mN yS_whoseIs)) ∧ OKm yS_whoseIs := ⟨tw_t 305 (by decide +kernel) (by decide +kernel), okyS_whoseIs⟩
theorem wm4_166 : TW (.methodLink (RC 4) 166 (mN yS_canHang)) ∧ OKm yS_canHang := ⟨tw_t 314 (by decide +kernel) (by decide +kernel), okyS_canHang⟩
theorem wm4_169 : TW (.methodLink (RC 4) 169 (mN yP_keep)) ∧ OKm yP_keep := ⟨tw_t 315 (by decide +kernel) (by decide +kernel), okyP_keep⟩
theorem wm4_175 : TW (.methodLink (RC 4) 175 (mN yS_passWeeks)) ∧ OKm yS_passWeeks := ⟨tw_t 337 (by decide +kernel) (by decide +kernel), okyS_passWeeks⟩
theorem wm4_178 : TW (.methodLink (RC 4) 178 (mN yS_allGrief)) ∧ OKm yS_allGrief := ⟨tw_t 341 (by decide +kernel) (by decide +kernel), okyS_allGrief⟩
theorem wm4_181 : TW (.methodLink (RC 4) 181 (mN yP_giveBack)) ∧ OKm yP_giveBack := ⟨tw_t 350 (by decide +kernel) (by decide +kernel), okyP_giveBack⟩
theorem wm4_188 : TW (.methodLink (RC 4) 188 (mN yO_thinkAhead)) ∧ OKm yO_thinkAhead := ⟨tw_t 358 (by decide +kernel) (by decide +kernel), okyO_thinkAhead⟩
theorem wm4_191 : TW (.methodLink (RC 4) 191 (mN yS_hostIn)) ∧ OKm yS_hostIn := ⟨tw_t 362 (by decide +kernel) (by decide +kernel), okyS_hostIn⟩
theorem wm4_194 : TW (.methodLink (RC 4) 194 (mN yO_firstGone)) ∧ OKm yO_firstGone := ⟨tw_t 371 (by decide +kernel) (by decide +kernel), okyO_firstGone⟩
theorem wm4_197 : TW (.methodLink (RC 4) 197 (mN yS_passWeek)) ∧ OKm yS_passWeek := ⟨tw_t 375 (by decide +kernel) (by decide +kernel), okyS_passWeek⟩
theorem wm4_201 : TW (.methodLink (RC 4) 201 (mN yS_putIn)) ∧ OKm yS_putIn := ⟨tw_t 388 (by decide +kernel) (by decide +kernel), okyS_putIn⟩
theorem wm4_205 : TW (.methodLink (RC 4) 205 (mN yS_allSeen)) ∧ OKm yS_allSeen := ⟨tw_t 400 (by decide +kernel) (by decide +kernel), okyS_allSeen⟩
theorem wm4_208 : TW (.methodLink (RC 4) 208 (mN yS_leaveOut)) ∧ OKm yS_leaveOut := ⟨tw_t 404 (by decide +kernel) (by decide +kernel), okyS_leaveOut⟩
theorem wm4_211 : TW (.methodLink (RC 4) 211 (mN yS_leastSeen)) ∧ OKm yS_leastSeen := ⟨tw_t 416 (by decide +kernel) (by decide +kernel), okyS_leastSeen⟩
theorem wm4_214 : TW (.methodLink (RC 4) 214 (mN yO_houseIn)) ∧ OKm yO_houseIn := ⟨tw_t 424 (by decide +kernel) (by decide +kernel), okyO_houseIn⟩
theorem wm4_220 : TW (.methodLink (RC 4) 220 (mN yO_bestOn)) ∧ OKm yO_bestOn := ⟨tw_t 435 (by decide +kernel) (by decide +kernel), okyO_bestOn⟩
theorem wm4_223 : TW (.methodLink (RC 4) 223 (mN yO_mindWearsLikeRow)) ∧ OKm yO_mindWearsLikeRow := ⟨tw_t 443 (by decide +kernel) (by decide +kernel), okyO_mindWearsLikeRow⟩
theorem wm4_226 : TW (.methodLink (RC 4) 226 (mN yS_pretend)) ∧ OKm yS_pretend := ⟨tw_t 452 (by decide +kernel) (by decide +kernel), okyS_pretend⟩
theorem wm4_231 : TW (.methodLink (RC 4) 231 (mN yN_at)) ∧ OKm yN_at := ⟨tw_t 447 (by decide +kernel) (by decide +kernel), okyN_at⟩
theorem wm4_232 : TW (.methodLink (RC 4) 232 (mN yO_isContent)) ∧ OKm yO_isContent := ⟨tw_t 460 (by decide +kernel) (by decide +kernel), okyO_isContent⟩
theorem wm4_236 : TW (.methodLink (RC 4) 236 (mN yO_burden)) ∧ OKm yO_burden := ⟨tw_t 464 (by decide +kernel) (by decide +kernel), okyO_burden⟩
theorem wm4_242 : TW (.methodLink (RC 4) 242 (mN yO_calmWeight)) ∧ OKm yO_calmWeight := ⟨tw_t 473 (by decide +kernel) (by decide +kernel), okyO_calmWeight⟩
theorem wm4_246 : TW (.methodLink (RC 4) 246 (mN yO_inLowestTerms)) ∧ OKm yO_inLowestTerms := ⟨tw_t 477 (by decide +kernel) (by decide +kernel), okyO_inLowestTerms⟩
theorem wm4_250 : TW (.methodLink (RC 4) 250 (mN yS_mostGrieved)) ∧ OKm yS_mostGrieved := ⟨tw_t 487 (by decide +kernel) (by decide +kernel), okyS_mostGrieved⟩
theorem wm4_253 : TW (.methodLink (RC 4) 253 (mN yS_withoutTurn)) ∧ OKm yS_withoutTurn := ⟨tw_t 491 (by decide +kernel) (by decide +kernel), okyS_withoutTurn⟩
theorem wm4_256 : TW (.methodLink (RC 4) 256 (mN yS_daysShared)) ∧ OKm yS_daysShared := ⟨tw_t 496 (by decide +kernel) (by decide +kernel), okyS_daysShared⟩
theorem wm4_259 : TW (.methodLink (RC 4) 259 (mN yS_clearestPart)) ∧ OKm yS_clearestPart := ⟨tw_t 509 (by decide +kernel) (by decide +kernel), okyS_clearestPart⟩
theorem wm4_263 : TW (.methodLink (RC 4) 263 (mN yO_weeksWith)) ∧ OKm yO_weeksWith := ⟨tw_t 531 (by decide +kernel) (by decide +kernel), okyO_weeksWith⟩
theorem wm4_266 : TW (.methodLink (RC 4) 266 (mN yN_add)) ∧ OKm yN_add := ⟨tw_t 543 (by decide +kernel) (by decide +kernel), okyN_add⟩
theorem wm4_267 : TW (.methodLink (RC 4) 267 (mN yS_hasWidow)) ∧ OKm yS_hasWidow := ⟨tw_t 253 (by decide +kernel) (by decide +kernel), okyS_hasWidow⟩
theorem wm4_270 : TW (.methodLink (RC 4) 270 (mN yS_drawRota)) ∧ OKm yS_drawRota := ⟨tw_t 556 (by decide +kernel) (by decide +kernel), okyS_drawRota⟩
theorem wm4_273 : TW (.methodLink (RC 4) 273 (mN yS_allMet)) ∧ OKm yS_allMet := ⟨tw_t 563 (by decide +kernel) (by decide +kernel), okyS_allMet⟩
theorem wm4_276 : TW (.methodLink (RC 4) 276 (mN yO_refusalsOf)) ∧ OKm yO_refusalsOf := ⟨tw_t 580 (by decide +kernel) (by decide +kernel), okyO_refusalsOf⟩
theorem wm4_279 : TW (.methodLink (RC 4) 279 (mN yO_commonDivisor)) ∧ OKm yO_commonDivisor := ⟨tw_t 480 (by decide +kernel) (by decide +kernel), okyO_commonDivisor⟩
theorem okML4 : ∀ x ∈ ML4, TW (.methodLink (RC 4) x.1 (mN x.2)) ∧ OKm x.2 := List.forall_mem_cons.mpr ⟨wm4_53, List.forall_mem_cons.mpr ⟨wm4_61, List.forall_mem_cons.mpr ⟨wm4_68, List.forall_mem_cons.mpr ⟨wm4_72, List.forall_mem_cons.mpr ⟨wm4_75, List.forall_mem_cons.mpr ⟨wm4_79, List.forall_mem_cons.mpr ⟨wm4_83, List.forall_mem_cons.mpr ⟨wm4_92, List.forall_mem_cons.mpr ⟨wm4_98, List.forall_mem_cons.mpr ⟨wm4_101, List.forall_mem_cons.mpr ⟨wm4_108, List.forall_mem_cons.mpr ⟨wm4_112, List.forall_mem_cons.mpr ⟨wm4_115, List.forall_mem_cons.mpr ⟨wm4_118, List.forall_mem_cons.mpr ⟨wm4_121, List.forall_mem_cons.mpr ⟨wm4_124, List.forall_mem_cons.mpr ⟨wm4_127, List.forall_mem_cons.mpr ⟨wm4_130, List.forall_mem_cons.mpr ⟨wm4_133, List.forall_mem_cons.mpr ⟨wm4_136, List.forall_mem_cons.mpr ⟨wm4_139, List.forall_mem_cons.mpr ⟨wm4_142, List.forall_mem_cons.mpr ⟨wm4_145, List.forall_mem_cons.mpr ⟨wm4_148, List.forall_mem_cons.mpr ⟨wm4_151, List.forall_mem_cons.mpr ⟨wm4_154, List.forall_mem_cons.mpr ⟨wm4_157, List.forall_mem_cons.mpr ⟨wm4_160, List.forall_mem_cons.mpr ⟨wm4_166, List.forall_mem_cons.mpr ⟨wm4_169, List.forall_mem_cons.mpr ⟨wm4_175, List.forall_mem_cons.mpr ⟨wm4_178, List.forall_mem_cons.mpr ⟨wm4_181, List.forall_mem_cons.mpr ⟨wm4_188, List.forall_mem_cons.mpr ⟨wm4_191, List.forall_mem_cons.mpr ⟨wm4_194, List.forall_mem_cons.mpr ⟨wm4_197, List.forall_mem_cons.mpr ⟨wm4_201, List.forall_mem_cons.mpr ⟨wm4_205, List.forall_mem_cons.mpr ⟨wm4_208, List.forall_mem_cons.mpr ⟨wm4_211, List.forall_mem_cons.mpr ⟨wm4_214, List.forall_mem_cons.mpr ⟨wm4_220, List.forall_mem_cons.mpr ⟨wm4_223, List.forall_mem_cons.mpr ⟨wm4_226, List.forall_mem_cons.mpr ⟨wm4_231, List.forall_mem_cons.mpr ⟨wm4_232, List.forall_mem_cons.mpr ⟨wm4_236, List.forall_mem_cons.mpr ⟨wm4_242, List.forall_mem_cons.mpr ⟨wm4_246, List.forall_mem_cons.mpr ⟨wm4_250, List.forall_mem_cons.mpr ⟨wm4_253, List.forall_mem_cons.mpr ⟨wm4_256, List.forall_mem_cons.mpr ⟨wm4_259, List.forall_mem_cons.mpr ⟨wm4_263, List.forall_mem_cons.mpr ⟨wm4_266, List.forall_mem_cons.mpr ⟨wm4_267, List.forall_mem_cons.mpr ⟨wm4_270, List.forall_mem_cons.mpr ⟨wm4_273, List.forall_mem_cons.mpr ⟨wm4_276, List.forall_mem_cons.mpr ⟨wm4_279, fun _ h => absurd h List.not_mem_nil⟩⟩⟩⟩⟩⟩⟩⟩⟩⟩⟩⟩⟩⟩⟩⟩⟩⟩⟩⟩⟩⟩⟩⟩⟩⟩⟩⟩⟩⟩⟩⟩⟩⟩⟩⟩⟩⟩⟩⟩⟩⟩⟩⟩⟩⟩⟩⟩⟩⟩⟩⟩⟩⟩⟩⟩⟩⟩⟩⟩⟩
def UL4 : List (Nat × MI) := [(65, yN_add), (95, yN_at)]
theorem wu4_65 : uOK 4 (65, yN_add) := ⟨tw_t 142 (by decide +kernel) (by decide +kernel), tw_t 143 (by decide +kernel) (by decide +kernel), tw_t 145 (by decide +kernel) (by decide +kernel), okyN_add, rfl, rfl⟩
theorem wu4_95 : uOK 4 (95, yN_at) := ⟨tw_t 178 (by decide +kernel) (by decide +kernel), tw_t 161 (by decide +kernel) (by decide +kernel), tw_t 163 (by decide +kernel) (by decide +kernel), okyN_at, rfl, rfl⟩
theorem okUL4 : ∀ x ∈ UL4, uOK 4 x := List.forall_mem_cons.mpr ⟨wu4_65, List.forall_mem_cons.mpr ⟨wu4_95, fun _ h => absurd h List.not_mem_nil⟩⟩
def XL4 : List (Nat × Nat) := [(86, 0), (217, 2)]
def FL4 : List (Nat × (Bool × Nat × Nat)) := [(10, (false, 4, 0)), (16, (false, 4, 1)), (19, (false, 4, 2)), (22, (false, 4, 3)), (29, (false, 4, 4)), (36, (false, 4, 5)), (45, (false, 4, 6)), (49, (false, 4, 7)), (57, (false, 3, 1)), (105, (true, 2, 8)), (163, (true, 2, 7)), (172, (true, 2, 9)), (185, (true, 1, 2)), (230, (false, 0, 1))]
theorem wx4_86 : TW (.methodLink (RC 4) 86 (xN 0)) := tw_t 240 (by decide +kernel) (by decide +kernel)
theorem wx4_217 : TW (.methodLink (RC 4) 217 (xN 2)) := tw_t 428 (by decide +kernel) (by decide +kernel)
theorem okXL4 : ∀ x ∈ XL4, TW (.methodLink (RC 4) x.1 (xN x.2)) := List.forall_mem_cons.mpr ⟨wx4_86, List.forall_mem_cons.mpr ⟨wx4_217, fun _ h => absurd h List.not_mem_nil⟩⟩
theorem wl4_10 : fOK 4 10 (false, 4, 0) := ⟨by decide, by decide, Or.inl (by decide +kernel), tw_t 106 (by decide +kernel) (by decide +kernel)⟩
theorem wl4_16 : fOK 4 16 (false, 4, 1) := ⟨by decide, by decide, Or.inl (by decide +kernel), tw_t 107 (by decide +kernel) (by decide +kernel)⟩
theorem wl4_19 : fOK 4 19 (false, 4, 2) := ⟨by decide, by decide, Or.inl (by decide +kernel), tw_t 108 (by decide +kernel) (by decide +kernel)⟩
theorem wl4_22 : fOK 4 22 (false, 4, 3) := ⟨by decide, by decide, Or.inl (by decide +kernel), tw_t 109 (by decide +kernel) (by decide +kernel)⟩
theorem wl4_29 : fOK 4 29 (false, 4, 4) := ⟨by decide, by decide, Or.inl (by decide +kernel), tw_t 110 (by decide +kernel) (by decide +kernel)⟩
theorem wl4_36 : fOK 4 36 (false, 4, 5) := ⟨by decide, by decide, Or.inl (by decide +kernel), tw_t 111 (by decide +kernel) (by decide +kernel)⟩
theorem wl4_45 : fOK 4 45 (false, 4, 6) := ⟨by decide, by decide, Or.inl (by decide +kernel), tw_t 112 (by decide +kernel) (by decide +kernel)⟩
theorem wl4_49 : fOK 4 49 (false, 4, 7) := ⟨by decide, by decide, Or.inl (by decide +kernel), tw_t 113 (by decide +kernel) (by decide +kernel)⟩
theorem wl4_57 : fOK 4 57 (false, 3, 1) := ⟨by decide, by decide, Or.inr (tw_t 92 (by decide +kernel) (by decide +kernel)), tw_t 91 (by decide +kernel) (by decide +kernel)⟩
theorem wl4_105 : fOK 4 105 (true, 2, 8) := ⟨by decide, by decide, Or.inl (by decide +kernel), List.mem_append_right _ (List.mem_of_getElem? (i := 32) (by decide +kernel))⟩
theorem wl4_163 : fOK 4 163 (true, 2, 7) := ⟨by decide, by decide, Or.inl (by decide +kernel), List.mem_append_right _ (List.mem_of_getElem? (i := 30) (by decide +kernel))⟩
theorem wl4_172 : fOK 4 172 (true, 2, 9) := ⟨by decide, by decide, Or.inl (by decide +kernel), List.mem_append_right _ (List.mem_of_getElem? (i := 34) (by decide +kernel))⟩
theorem wl4_185 : fOK 4 185 (true, 1, 2) := ⟨by decide, by decide, Or.inl (by decide +kernel), List.mem_append_right _ (List.mem_of_getElem? (i := 69) (by decide +kernel))⟩
theorem wl4_230 : fOK 4 230 (false, 0, 1) := ⟨by decide, by decide, Or.inl (by decide +kernel), tw_t 94 (by decide +kernel) (by decide +kernel)⟩
theorem okFL4 : ∀ x ∈ FL4, fOK 4 x.1 x.2 := List.forall_mem_cons.mpr ⟨wl4_10, List.forall_mem_cons.mpr ⟨wl4_16, List.forall_mem_cons.mpr ⟨wl4_19, List.forall_mem_cons.mpr ⟨wl4_22, List.forall_mem_cons.mpr ⟨wl4_29, List.forall_mem_cons.mpr ⟨wl4_36, List.forall_mem_cons.mpr ⟨wl4_45, List.forall_mem_cons.mpr ⟨wl4_49, List.forall_mem_cons.mpr ⟨wl4_57, List.forall_mem_cons.mpr ⟨wl4_105, List.forall_mem_cons.mpr ⟨wl4_163, List.forall_mem_cons.mpr ⟨wl4_172, List.forall_mem_cons.mpr ⟨wl4_185, List.forall_mem_cons.mpr ⟨wl4_230, fun _ h => absurd h List.not_mem_nil⟩⟩⟩⟩⟩⟩⟩⟩⟩⟩⟩⟩⟩⟩
def CI4 : List (Nat × Int32) := [(262, 1000000000)]
theorem okCI4 : ∀ x ∈ CI4, TW (.constant (RC 4) x.1 x.2) := List.forall_mem_cons.mpr ⟨tw_t 526 (by decide +kernel) (by decide +kernel), fun _ h => absurd h List.not_mem_nil⟩
def CJ4 : List (Nat × Int64) := [(240, 4000000000000000000)]
theorem okCJ4 : ∀ x ∈ CJ4, TW (.constantLong (RC 4) x.1 x.2) := List.forall_mem_cons.mpr ⟨tw_t 472 (by decide +kernel) (by decide +kernel), fun _ h => absurd h List.not_mem_nil⟩
def ML5 : List (Nat × MI) := [(62, yM_isWidow), (66, yM_bound), (73, yM_no), (80, yM_letterNow), (84, yM_isIn), (88, yM_readsDigits), (95, yM_readsAll), (98, yM_adds), (102, yM_isHolder), (111, yM_goes), (115, yM_comesWidow), (118, yM_comesPlace), (121, yM_isPart), (124, yM_comesWeeks), (127, yM_statement), (131, yM_passesAll), (135, yM_comesTold), (148, yM_passes), (152, yM_passOne), (158, yM_holderIn), (161, yM_comfortOf), (164, yM_within), (167, yM_wearsOf), (171, yM_goesWeek), (175, yM_allOf), (179, yM_turnsOf), (182, yM_keepsBack), (185, yM_allGrief), (188, yM_thinks), (191, yM_forgets), (194, yM_notWeeks), (197, yM_goneWhen), (200, yM_likeness), (203, yM_changes), (206, yM_griefIn), (209, yM_changesBack), (213, yM_griefPutting), (216, yM_swapsPlaces), (220, yM_leavesOut), (223, yM_seenLeaving), (226, yM_isSeen), (229, yM_houseIn), (232, yM_bestOn), (238, yM_isSo), (241, yM_bitsFor), (245, yM_findCosts), (249, yM_divisor), (253, yM_lowestOf), (257, yM_has), (260, yM_partOf), (264, yM_neverOnes), (267, yM_sameDays), (270, yM_lower), (273, yM_griefOfIn), (276, yM_manyWith), (285, yM_draw)]
theorem wm5_62 : TW (.methodLink (RC 5) 62 (mN yM_isWidow)) ∧ OKm yM_isWidow := ⟨tw_t 738 (by decide +kernel) (by decide +kernel), okyM_isWidow⟩
theorem wm5_66 : TW (.methodLink (RC 5) 66 (mN yM_bound)) ∧ OKm yM_bound := ⟨tw_t 676 (by decide +kernel) (by decide +kernel), okyM_bound⟩
theorem wm5_73 : TW (.methodLink (RC 5) 73 (mN yM_no)) ∧ OKm yM_no := ⟨tw_t 679 (by decide +kernel) (by decide +kernel), okyM_no⟩
theorem wm5_80 : TW (.methodLink (RC 5) 80 (mN yM_letterNow)) ∧ OKm yM_letterNow := ⟨tw_t 691 (by decide +kernel) (by decide +kernel), okyM_letterNow⟩
theorem wm5_84 : TW (.methodLink (RC 5) 84 (mN yM_isIn)) ∧ OKm yM_isIn := ⟨tw_t 703 (by decide +kernel) (by decide +kernel), okyM_isIn⟩
theorem wm5_88 : TW (.methodLink (RC 5) 88 (mN yM_readsDigits)) ∧ OKm yM_readsDigits := ⟨tw_t 699 (by decide +kernel) (by decide +kernel), okyM_readsDigits⟩
theorem wm5_95 : TW (.methodLink (RC 5) 95 (mN yM_readsAll)) ∧ OKm yM_readsAll := ⟨tw_t 695 (by decide +kernel) (by decide +kernel), okyM_readsAll⟩
theorem wm5_98 : TW (.methodLink (RC 5) 98 (mN yM_adds)) ∧ OKm yM_adds := ⟨tw_t 726 (by decide +kernel) (by decide +kernel), okyM_adds⟩
theorem wm5_102 : TW (.methodLink (RC 5) 102 (mN yM_isHolder)) ∧ OKm yM_isHolder := ⟨tw_t 734 (by decide +kernel) (by decide +kernel), okyM_isHolder⟩
theorem wm5_111 : TW (.methodLink (RC 5) 111 (mN yM_goes)) ∧ OKm yM_goes := ⟨tw_t 749 (by decide +kernel) (by decide +kernel), okyM_goes⟩
theorem wm5_115 : TW (.methodLink (RC 5) 115 (mN yM_comesWidow)) ∧ OKm yM_comesWidow := ⟨tw_t 722 (by decide +kernel) (by decide +kernel), okyM_comesWidow⟩
theorem wm5_118 : TW (.methodLink (RC 5) 118 (mN yM_comesPlace)) ∧ OKm yM_comesPlace := ⟨tw_t 730 (by decide +kernel) (by decide +kernel), okyM_comesPlace⟩
theorem wm5_121 : TW (.methodLink (RC 5) 121 (mN yM_isPart)) ∧ OKm yM_isPart := ⟨tw_t 742 (by decide +kernel) (by decide +kernel), okyM_isPart⟩
theorem wm5_124 : TW (.methodLink (RC 5) 124 (mN yM_comesWeeks)) ∧ OKm yM_comesWeeks := ⟨tw_t 745 (by decide +kernel) (by decide +kernel), okyM_comesWeeks⟩
theorem wm5_127 : TW (.methodLink (RC 5) 127 (mN yM_statement)) ∧ OKm yM_statement := ⟨tw_t 687 (by decide +kernel) (by decide +kernel), okyM_statement⟩
theorem wm5_131 : TW (.methodLink (RC 5) 131 (mN yM_passesAll)) ∧ OKm yM_passesAll := ⟨tw_t 706 (by decide +kernel) (by decide +kernel), okyM_passesAll⟩
theorem wm5_135 : TW (.methodLink (RC 5) 135 (mN yM_comesTold)) ∧ OKm yM_comesTold := ⟨tw_t 718 (by decide +kernel) (by decide +kernel), okyM_comesTold⟩
theorem wm5_148 : TW (.methodLink (RC 5) 148 (mN yM_passes)) ∧ OKm yM_passes := ⟨tw_t 710 (by decide +kernel) (by decide +kernel), okyM_passes⟩
theorem wm5_152 : TW (.methodLink (RC 5) 152 (mN yM_passOne)) ∧ OKm yM_passOne := ⟨tw_t 714 (by decide +kernel) (by decide +kernel), okyM_passOne⟩
theorem wm5_158 : TW (.methodLink (RC 5) 158 (mN yM_holderIn)) ∧ OKm yM_holderIn := ⟨tw_t 757 (by decide +kernel) (by decide +kernel), okyM_holderIn⟩
theorem wm5_161 : TW (.methodLink (RC 5) 161 (mN yM_comfortOf)) ∧ OKm yM_comfortOf := ⟨tw_t 761 (by decide +kernel) (by decide +kernel), okyM_comfortOf⟩
theorem wm5_164 : TW (.methodLink (RC 5) 164 (mN yM_within)) ∧ OKm yM_within := ⟨tw_t 765 (by decide +kernel) (by decide +kernel), okyM_within⟩
theorem wm5_167 : TW (.methodLink (RC 5) 167 (mN yM_wearsOf)) ∧ OKm yM_wearsOf := ⟨tw_t 768 (by decide +kernel) (by decide +kernel), okyM_wearsOf⟩
theorem wm5_171 : TW (.methodLink (RC 5) 171 (mN yM_goesWeek)) ∧ OKm yM_goesWeek := ⟨tw_t 753 (by decide +kernel) (by decide +kernel), okyM_goesWeek⟩
theorem wm5_175 : TW (.methodLink (RC 5) 175 (mN yM_allOf)) ∧ OKm yM_allOf := ⟨tw_t 832 (by decide +kernel) (by decide +kernel), okyM_allOf⟩
theorem wm5_179 : TW (.methodLink (RC 5) 179 (mN yM_turnsOf)) ∧ OKm yM_turnsOf := ⟨tw_t 788 (by decide +kernel) (by decide +kernel), okyM_turnsOf⟩
theorem wm5_182 : TW (.methodLink (RC 5) 182 (mN yM_keepsBack)) ∧ OKm yM_keepsBack := ⟨tw_t 812 (by decide +kernel) (by decide +kernel), okyM_keepsBack⟩
theorem wm5_185 : TW (.methodLink (RC 5) 185 (mN yM_allGrief)) ∧ OKm yM_allGrief := ⟨tw_t 828 (by decide +kernel) (by decide +kernel), okyM_allGrief⟩
theorem wm5_188 : TW (.methodLink (RC 5) 188 (mN yM_thinks)) ∧ OKm yM_thinks := ⟨tw_t 843 (by decide +kernel) (by decide +kernel), okyM_thinks⟩
theorem wm5_191 : TW (.methodLink (RC 5) 191 (mN yM_forgets)) ∧ OKm yM_forgets := ⟨tw_t 847 (by decide +kernel) (by decide +kernel), okyM_forgets⟩
theorem wm5_194 : TW (.methodLink (RC 5) 194 (mN yM_notWeeks)) ∧ OKm yM_notWeeks := ⟨tw_t 840 (by decide +kernel) (by decide +kernel), okyM_notWeeks⟩
theorem wm5_197 : TW (.methodLink (RC 5) 197 (mN yM_goneWhen)) ∧ OKm yM_goneWhen := ⟨tw_t 859 (by decide +kernel) (by decide +kernel), okyM_goneWhen⟩
theorem wm5_200 : TW (.methodLink (RC 5) 200 (mN yM_likeness)) ∧ OKm yM_likeness := ⟨tw_t 871 (by decide +kernel) (by decide +kernel), okyM_likeness⟩
theorem wm5_203 : TW (.methodLink (RC 5) 203 (mN yM_changes)) ∧ OKm yM_changes := ⟨tw_t 884 (by decide +kernel) (by decide +kernel), okyM_changes⟩
theorem wm5_206 : TW (.methodLink (RC 5) 206 (mN yM_griefIn)) ∧ OKm yM_griefIn := ⟨tw_t 888 (by decide +kernel) (by decide +kernel), okyM_griefIn⟩
theorem wm5_209 : TW (.methodLink (RC 5) 209 (mN yM_changesBack)) ∧ OKm yM_changesBack := ⟨tw_t 892 (by decide +kernel) (by decide +kernel), okyM_changesBack⟩
theorem wm5_213 : TW (.methodLink (RC 5) 213 (mN yM_griefPutting)) ∧ OKm yM_griefPutting := ⟨tw_t 880 (by decide +kernel) (by decide +kernel), okyM_griefPutting⟩
theorem wm5_216 : TW (.methodLink (RC 5) 216 (mN yM_swapsPlaces)) ∧ OKm yM_swapsPlaces := ⟨tw_t 900 (by decide +kernel) (by decide +kernel), okyM_swapsPlaces⟩
theorem wm5_220 : TW (.methodLink (RC 5) 220 (mN yM_leavesOut)) ∧ OKm yM_leavesOut := ⟨tw_t 912 (by decide +kernel) (by decide +kernel), okyM_leavesOut⟩
theorem wm5_223 : TW (.methodLink (RC 5) 223 (mN yM_seenLeaving)) ∧ OKm yM_seenLeaving := ⟨tw_t 908 (by decide +kernel) (by decide +kernel), okyM_seenLeaving⟩
theorem wm5_226 : TW (.methodLink (RC 5) 226 (mN yM_isSeen)) ∧ OKm yM_isSeen := ⟨tw_t 924 (by decide +kernel) (by decide +kernel), okyM_isSeen⟩
theorem wm5_229 : TW (.methodLink (RC 5) 229 (mN yM_houseIn)) ∧ OKm yM_houseIn := ⟨tw_t 932 (by decide +kernel) (by decide +kernel), okyM_houseIn⟩
theorem wm5_232 : TW (.methodLink (RC 5) 232 (mN yM_bestOn)) ∧ OKm yM_bestOn := ⟨tw_t 940 (by decide +kernel) (by decide +kernel), okyM_bestOn⟩
theorem wm5_238 : TW (.methodLink (RC 5) 238 (mN yM_isSo)) ∧ OKm yM_isSo := ⟨tw_t 948 (by decide +kernel) (by decide +kernel), okyM_isSo⟩
theorem wm5_241 : TW (.methodLink (RC 5) 241 (mN yM_bitsFor)) ∧ OKm yM_bitsFor := ⟨tw_t 956 (by decide +kernel) (by decide +kernel), okyM_bitsFor⟩
theorem wm5_245 : TW (.methodLink (RC 5) 245 (mN yM_findCosts)) ∧ OKm yM_findCosts := ⟨tw_t 964 (by decide +kernel) (by decide +kernel), okyM_findCosts⟩
theorem wm5_249 : TW (.methodLink (RC 5) 249 (mN yM_divisor)) ∧ OKm yM_divisor := ⟨tw_t 983 (by decide +kernel) (by decide +kernel), okyM_divisor⟩
theorem wm5_253 : TW (.methodLink (RC 5) 253 (mN yM_lowestOf)) ∧ OKm yM_lowestOf := ⟨tw_t 972 (by decide +kernel) (by decide +kernel), okyM_lowestOf⟩
theorem wm5_257 : TW (.methodLink (RC 5) 257 (mN yM_has)) ∧ OKm yM_has := ⟨tw_t 977 (by decide +kernel) (by decide +kernel), okyM_has⟩
theorem wm5_260 : TW (.methodLink (RC 5) 260 (mN yM_partOf)) ∧ OKm yM_partOf := ⟨tw_t 980 (by decide +kernel) (by decide +kernel), okyM_partOf⟩
theorem wm5_264 : TW (.methodLink (RC 5) 264 (mN yM_neverOnes)) ∧ OKm yM_neverOnes := ⟨tw_t 990 (by decide +kernel) (by decide +kernel), okyM_neverOnes⟩
theorem wm5_267 : TW (.methodLink (RC 5) 267 (mN yM_sameDays)) ∧ OKm yM_sameDays := ⟨tw_t 994 (by decide +kernel) (by decide +kernel), okyM_sameDays⟩
theorem wm5_270 : TW (.methodLink (RC 5) 270 (mN yM_lower)) ∧ OKm yM_lower := ⟨tw_t 1018 (by decide +kernel) (by decide +kernel), okyM_lower⟩
theorem wm5_273 : TW (.methodLink (RC 5) 273 (mN yM_griefOfIn)) ∧ OKm yM_griefOfIn := ⟨tw_t 1023 (by decide +kernel) (by decide +kernel), okyM_griefOfIn⟩
theorem wm5_276 : TW (.methodLink (RC 5) 276 (mN yM_manyWith)) ∧ OKm yM_manyWith := ⟨tw_t 1031 (by decide +kernel) (by decide +kernel), okyM_manyWith⟩
theorem wm5_285 : TW (.methodLink (RC 5) 285 (mN yM_draw)) ∧ OKm yM_draw := ⟨tw_t 1055 (by decide +kernel) (by decide +kernel), okyM_draw⟩
theorem okML5 : ∀ x ∈ ML5, TW (.methodLink (RC 5) x.1 (mN x.2)) ∧ OKm x.2 := List.forall_mem_cons.mpr ⟨wm5_62, List.forall_mem_cons.mpr ⟨wm5_66, List.forall_mem_cons.mpr ⟨wm5_73, List.forall_mem_cons.mpr ⟨wm5_80, List.forall_mem_cons.mpr ⟨wm5_84, List.forall_mem_cons.mpr ⟨wm5_88, List.forall_mem_cons.mpr ⟨wm5_95, List.forall_mem_cons.mpr ⟨wm5_98, List.forall_mem_cons.mpr ⟨wm5_102, List.forall_mem_cons.mpr ⟨wm5_111, List.forall_mem_cons.mpr ⟨wm5_115, List.forall_mem_cons.mpr ⟨wm5_118, List.forall_mem_cons.mpr ⟨wm5_121, List.forall_mem_cons.mpr ⟨wm5_124, List.forall_mem_cons.mpr ⟨wm5_127, List.forall_mem_cons.mpr ⟨wm5_131, List.forall_mem_cons.mpr ⟨wm5_135, List.forall_mem_cons.mpr ⟨wm5_148, List.forall_mem_cons.mpr ⟨wm5_152, List.forall_mem_cons.mpr ⟨wm5_158, List.forall_mem_cons.mpr ⟨wm5_161, List.forall_mem_cons.mpr ⟨wm5_164, List.forall_mem_cons.mpr ⟨wm5_167, List.forall_mem_cons.mpr ⟨wm5_171, List.forall_mem_cons.mpr ⟨wm5_175, List.forall_mem_cons.mpr ⟨wm5_179, List.forall_mem_cons.mpr ⟨wm5_182, List.forall_mem_cons.mpr ⟨wm5_185, List.forall_mem_cons.mpr ⟨wm5_188, List.forall_mem_cons.mpr ⟨wm5_191, List.forall_mem_cons.mpr ⟨wm5_194, List.forall_mem_cons.mpr ⟨wm5_197, List.forall_mem_cons.mpr ⟨wm5_200, List.forall_mem_cons.mpr ⟨wm5_203, List.forall_mem_cons.mpr ⟨wm5_206, List.forall_mem_cons.mpr ⟨wm5_209, List.forall_mem_cons.mpr ⟨wm5_213, List.forall_mem_cons.mpr ⟨wm5_216, List.forall_mem_cons.mpr ⟨wm5_220, List.forall_mem_cons.mpr ⟨wm5_223, List.forall_mem_cons.mpr ⟨wm5_226, List.forall_mem_cons.mpr ⟨wm5_229, List.forall_mem_cons.mpr ⟨wm5_232, List.forall_mem_cons.mpr ⟨wm5_238, List.forall_mem_cons.mpr ⟨wm5_241, List.forall_mem_cons.mpr ⟨wm5_245, List.forall_mem_cons.mpr ⟨wm5_249, List.forall_mem_cons.mpr ⟨wm5_253, List.forall_mem_cons.mpr ⟨wm5_257, List.forall_mem_cons.mpr ⟨wm5_260, List.forall_mem_cons.mpr ⟨wm5_264, List.forall_mem_cons.mpr ⟨wm5_267, List.forall_mem_cons.mpr ⟨wm5_270, List.forall_mem_cons.mpr ⟨wm5_273, List.forall_mem_cons.mpr ⟨wm5_276, List.forall_mem_cons.mpr ⟨wm5_285, fun _ h => absurd h List.not_mem_nil⟩⟩⟩⟩⟩⟩⟩⟩⟩⟩⟩⟩⟩⟩⟩⟩⟩⟩⟩⟩⟩⟩⟩⟩⟩⟩⟩⟩⟩⟩⟩⟩⟩⟩⟩⟩⟩⟩⟩⟩⟩⟩⟩⟩⟩⟩⟩⟩⟩⟩⟩⟩⟩⟩⟩⟩
def UL5 : List (Nat × MI) := []
theorem okUL5 : ∀ x ∈ UL5, uOK 5 x := fun _ h => absurd h List.not_mem_nil
def XL5 : List (Nat × Nat) := []
def FL5 : List (Nat × (Bool × Nat × Nat)) := [(7, (false, 5, 0)), (13, (false, 5, 1)), (16, (false, 5, 2)), (19, (false, 5, 3)), (22, (false, 5, 4)), (25, (false, 5, 5)), (28, (false, 5, 6)), (31, (false, 5, 7)), (34, (false, 5, 11)), (37, (false, 5, 12)), (40, (false, 5, 13)), (43, (false, 5, 14)), (46, (false, 5, 18)), (49, (false, 5, 23)), (52, (false, 5, 25)), (58, (false, 5, 8)), (70, (false, 5, 15)), (77, (false, 5, 16)), (92, (false, 5, 17)), (105, (false, 5, 9)), (108, (false, 5, 10)), (138, (false, 5, 22)), (141, (false, 5, 20)), (145, (false, 5, 21)), (155, (false, 5, 19)), (235, (false, 5, 24)), (279, (false, 5, 26))]
theorem okXL5 : ∀ x ∈ XL5, TW (.methodLink (RC 5) x.1 (xN x.2)) := fun _ h => absurd h List.not_mem_nil
theorem wl5_7 : fOK 5 7 (false, 5, 0) := ⟨by decide, by decide, Or.inl (by decide +kernel), tw_t 590 (by decide +kernel) (by decide +kernel)⟩
theorem wl5_13 : fOK 5 13 (false, 5, 1) := ⟨by decide, by decide, Or.inl (by decide +kernel), tw_t 591 (by decide +kernel) (by decide +kernel)⟩
theorem wl5_16 : fOK 5 16 (false, 5, 2) := ⟨by decide, by decide, Or.inl (by decide +kernel), tw_t 592 (by decide +kernel) (by decide +kernel)⟩
theorem wl5_19 : fOK 5 19 (false, 5, 3) := ⟨by decide, by decide, Or.inl (by decide +kernel), tw_t 593 (by decide +kernel) (by decide +kernel)⟩
theorem wl5_22 : fOK 5 22 (false, 5, 4) := ⟨by decide, by decide, Or.inl (by decide +kernel), tw_t 594 (by decide +kernel) (by decide +kernel)⟩
theorem wl5_25 : fOK 5 25 (false, 5, 5) := ⟨by decide, by decide, Or.inl (by decide +kernel), tw_t 595 (by decide +kernel) (by decide +kernel)⟩
theorem wl5_28 : fOK 5 28 (false, 5, 6) := ⟨by decide, by decide, Or.inl (by decide +kernel), tw_t 596 (by decide +kernel) (by decide +kernel)⟩
theorem wl5_31 : fOK 5 31 (false, 5, 7) := ⟨by decide, by decide, Or.inl (by decide +kernel), tw_t 597 (by decide +kernel) (by decide +kernel)⟩
theorem wl5_34 : fOK 5 34 (false, 5, 11) := ⟨by decide, by decide, Or.inl (by decide +kernel), tw_t 601 (by decide +kernel) (by decide +kernel)⟩
theorem wl5_37 : fOK 5 37 (false, 5, 12) := ⟨by decide, by decide, Or.inl (by decide +kernel), tw_t 602 (by decide +kernel) (by decide +kernel)⟩
theorem wl5_40 : fOK 5 40 (false, 5, 13) := ⟨by decide, by decide, Or.inl (by decide +kernel), tw_t 603 (by decide +kernel) (by decide +kernel)⟩
theorem wl5_43 : fOK 5 43 (false, 5, 14) := ⟨by decide, by decide, Or.inl (by decide +kernel), tw_t 604 (by decide +kernel) (by decide +kernel)⟩
theorem wl5_46 : fOK 5 46 (false, 5, 18) := ⟨by decide, by decide, Or.inl (by decide +kernel), tw_t 608 (by decide +kernel) (by decide +kernel)⟩
theorem wl5_49 : fOK 5 49 (false, 5, 23) := ⟨by decide, by decide, Or.inl (by decide +kernel), tw_t 613 (by decide +kernel) (by decide +kernel)⟩
theorem wl5_52 : fOK 5 52 (false, 5, 25) := ⟨by decide, by decide, Or.inl (by decide +kernel), tw_t 615 (by decide +kernel) (by decide +kernel)⟩
theorem wl5_58 : fOK 5 58 (false, 5, 8) := ⟨by decide, by decide, Or.inl (by decide +kernel), tw_t 598 (by decide +kernel) (by decide +kernel)⟩
theorem wl5_70 : fOK 5 70 (false, 5, 15) := ⟨by decide, by decide, Or.inl (by decide +kernel), tw_t 605 (by decide +kernel) (by decide +kernel)⟩
theorem wl5_77 : fOK 5 77 (false, 5, 16) := ⟨by decide, by decide, Or.inl (by decide +kernel), tw_t 606 (by decide +kernel) (by decide +kernel)⟩
theorem wl5_92 : fOK 5 92 (false, 5, 17) := ⟨by decide, by decide, Or.inl (by decide +kernel), tw_t 607 (by decide +kernel) (by decide +kernel)⟩
theorem wl5_105 : fOK 5 105 (false, 5, 9) := ⟨by decide, by decide, Or.inl (by decide +kernel), tw_t 599 (by decide +kernel) (by decide +kernel)⟩
theorem wl5_108 : fOK 5 108 (false, 5, 10) := ⟨by decide, by decide, Or.inl (by decide +kernel), tw_t 600 (by decide +kernel) (by decide +kernel)⟩
theorem wl5_138 : fOK 5 138 (false, 5, 22) := ⟨by decide, by decide, Or.inl (by decide +kernel), tw_t 612 (by decide +kernel) (by decide +kernel)⟩
theorem wl5_141 : fOK 5 141 (false, 5, 20) := ⟨by decide, by decide, Or.inl (by decide +kernel), tw_t 610 (by decide +kernel) (by decide +kernel)⟩
theorem wl5_145 : fOK 5 145 (false, 5, 21) := ⟨by decide, by decide, Or.inl (by decide +kernel), tw_t 611 (by decide +kernel) (by decide +kernel)⟩
theorem wl5_155 : fOK 5 155 (false, 5, 19) := ⟨by decide, by decide, Or.inl (by decide +kernel), tw_t 609 (by decide +kernel) (by decide +kernel)⟩
theorem wl5_235 : fOK 5 235 (false, 5, 24) := ⟨by decide, by decide, Or.inl (by decide +kernel), tw_t 614 (by decide +kernel) (by decide +kernel)⟩
theorem wl5_279 : fOK 5 279 (false, 5, 26) := ⟨by decide, by decide, Or.inl (by decide +kernel), tw_t 616 (by decide +kernel) (by decide +kernel)⟩
theorem okFL5 : ∀ x ∈ FL5, fOK 5 x.1 x.2 := List.forall_mem_cons.mpr ⟨wl5_7, List.forall_mem_cons.mpr ⟨wl5_13, List.forall_mem_cons.mpr ⟨wl5_16, List.forall_mem_cons.mpr ⟨wl5_19, List.forall_mem_cons.mpr ⟨wl5_22, List.forall_mem_cons.mpr ⟨wl5_25, List.forall_mem_cons.mpr ⟨wl5_28, List.forall_mem_cons.mpr ⟨wl5_31, List.forall_mem_cons.mpr ⟨wl5_34, List.forall_mem_cons.mpr ⟨wl5_37, List.forall_mem_cons.mpr ⟨wl5_40, List.forall_mem_cons.mpr ⟨wl5_43, List.forall_mem_cons.mpr ⟨wl5_46, List.forall_mem_cons.mpr ⟨wl5_49, List.forall_mem_cons.mpr ⟨wl5_52, List.forall_mem_cons.mpr ⟨wl5_58, List.forall_mem_cons.mpr ⟨wl5_70, List.forall_mem_cons.mpr ⟨wl5_77, List.forall_mem_cons.mpr ⟨wl5_92, List.forall_mem_cons.mpr ⟨wl5_105, List.forall_mem_cons.mpr ⟨wl5_108, List.forall_mem_cons.mpr ⟨wl5_138, List.forall_mem_cons.mpr ⟨wl5_141, List.forall_mem_cons.mpr ⟨wl5_145, List.forall_mem_cons.mpr ⟨wl5_155, List.forall_mem_cons.mpr ⟨wl5_235, List.forall_mem_cons.mpr ⟨wl5_279, fun _ h => absurd h List.not_mem_nil⟩⟩⟩⟩⟩⟩⟩⟩⟩⟩⟩⟩⟩⟩⟩⟩⟩⟩⟩⟩⟩⟩⟩⟩⟩⟩⟩
def CI5 : List (Nat × Int32) := [(55, 1000000000), (212, 100000), (282, 1103515245), (283, 2147483647), (284, 65536)]
theorem okCI5 : ∀ x ∈ CI5, TW (.constant (RC 5) x.1 x.2) := List.forall_mem_cons.mpr ⟨tw_t 1022 (by decide +kernel) (by decide +kernel), List.forall_mem_cons.mpr ⟨tw_t 879 (by decide +kernel) (by decide +kernel), List.forall_mem_cons.mpr ⟨tw_t 1059 (by decide +kernel) (by decide +kernel), List.forall_mem_cons.mpr ⟨tw_t 1060 (by decide +kernel) (by decide +kernel), List.forall_mem_cons.mpr ⟨tw_t 1061 (by decide +kernel) (by decide +kernel), fun _ h => absurd h List.not_mem_nil⟩⟩⟩⟩⟩
def CJ5 : List (Nat × Int64) := [(56, 4000000000000000000)]
theorem okCJ5 : ∀ x ∈ CJ5, TW (.constantLong (RC 5) x.1 x.2) := List.forall_mem_cons.mpr ⟨tw_t 976 (by decide +kernel) (by decide +kernel), fun _ h => absurd h List.not_mem_nil⟩
def MLs (c : Nat) : List (Nat × MI) := match c with
  | 0 => ML0
  | 1 => ML1
  | 2 => ML2
  | 3 => ML3
  | 4 => ML4
  | _ => ML5
def ULs (c : Nat) : List (Nat × MI) := match c with
  | 0 => UL0
  | 1 => UL1
  | 2 => UL2
  | 3 => UL3
  | 4 => UL4
  | _ => UL5
def XLs (c : Nat) : List (Nat × Nat) := match c with
  | 0 => XL0
  | 1 => XL1
  | 2 => XL2
  | 3 => XL3
  | 4 => XL4
  | _ => XL5
def FLs (c : Nat) : List (Nat × (Bool × Nat × Nat)) := match c with
  | 0 => FL0
  | 1 => FL1
  | 2 => FL2
  | 3 => FL3
  | 4 => FL4
  | _ => FL5
def CIs (c : Nat) : List (Nat × Int32) := match c with
  | 0 => CI0
  | 1 => CI1
  | 2 => CI2
  | 3 => CI3
  | 4 => CI4
  | _ => CI5
def CJs (c : Nat) : List (Nat × Int64) := match c with
  | 0 => CJ0
  | 1 => CJ1
  | 2 => CJ2
  | 3 => CJ3
  | 4 => CJ4
  | _ => CJ5
theorem okMLs : ∀ c, c < 6 → ∀ x ∈ MLs c, TW (.methodLink (RC c) x.1 (mN x.2)) ∧ OKm x.2 := by
  intro c hc
  rcases (show c = 0 ∨ c = 1 ∨ c = 2 ∨ c = 3 ∨ c = 4 ∨ c = 5 by omega) with rfl | rfl | rfl | rfl | rfl | rfl
  · exact okML0
  · exact okML1
  · exact okML2
  · exact okML3
  · exact okML4
  · exact okML5
theorem okULs : ∀ c, c < 6 → ∀ x ∈ ULs c, uOK c x := by
  intro c hc
  rcases (show c = 0 ∨ c = 1 ∨ c = 2 ∨ c = 3 ∨ c = 4 ∨ c = 5 by omega) with rfl | rfl | rfl | rfl | rfl | rfl
  · exact okUL0
  · exact okUL1
  · exact okUL2
  · exact okUL3
  · exact okUL4
  · exact okUL5
theorem okXLs : ∀ c, c < 6 → ∀ x ∈ XLs c, TW (.methodLink (RC c) x.1 (xN x.2)) := by
  intro c hc
  rcases (show c = 0 ∨ c = 1 ∨ c = 2 ∨ c = 3 ∨ c = 4 ∨ c = 5 by omega) with rfl | rfl | rfl | rfl | rfl | rfl
  · exact okXL0
  · exact okXL1
  · exact okXL2
  · exact okXL3
  · exact okXL4
  · exact okXL5
theorem okFLs : ∀ c, c < 6 → ∀ x ∈ FLs c, fOK c x.1 x.2 := by
  intro c hc
  rcases (show c = 0 ∨ c = 1 ∨ c = 2 ∨ c = 3 ∨ c = 4 ∨ c = 5 by omega) with rfl | rfl | rfl | rfl | rfl | rfl
  · exact okFL0
  · exact okFL1
  · exact okFL2
  · exact okFL3
  · exact okFL4
  · exact okFL5
theorem okCIs : ∀ c, c < 6 → ∀ x ∈ CIs c, TW (.constant (RC c) x.1 x.2) := by
  intro c hc
  rcases (show c = 0 ∨ c = 1 ∨ c = 2 ∨ c = 3 ∨ c = 4 ∨ c = 5 by omega) with rfl | rfl | rfl | rfl | rfl | rfl
  · exact okCI0
  · exact okCI1
  · exact okCI2
  · exact okCI3
  · exact okCI4
  · exact okCI5
theorem okCJs : ∀ c, c < 6 → ∀ x ∈ CJs c, TW (.constantLong (RC c) x.1 x.2) := by
  intro c hc
  rcases (show c = 0 ∨ c = 1 ∨ c = 2 ∨ c = 3 ∨ c = 4 ∨ c = 5 by omega) with rfl | rfl | rfl | rfl | rfl | rfl
  · exact okCJ0
  · exact okCJ1
  · exact okCJ2
  · exact okCJ3
  · exact okCJ4
  · exact okCJ5
theorem wX0 : TW (.static Lib.Math.max.name) ∧ TW (.code Lib.Math.max.name Lib.Math.max.code 2 (some .int)) := ⟨tw_t 87 (by decide +kernel) (by decide +kernel), tw_t 88 (by decide +kernel) (by decide +kernel)⟩
theorem wX1 : TW (.static Lib.Math.min.name) ∧ TW (.code Lib.Math.min.name Lib.Math.min.code 2 (some .int)) := ⟨tw_t 237 (by decide +kernel) (by decide +kernel), tw_t 238 (by decide +kernel) (by decide +kernel)⟩
theorem wX2 : TW (.static Lib.Math.abs.name) ∧ TW (.code Lib.Math.abs.name Lib.Math.abs.code 1 (some .int)) := ⟨tw_t 429 (by decide +kernel) (by decide +kernel), tw_t 430 (by decide +kernel) (by decide +kernel)⟩
theorem wXi : TW (.initialized "java/lang/Math") := tw_t 6 (by decide +kernel) (by decide +kernel)
theorem wAi : TW (.arrayClass .int) := tw_t 56 (by decide +kernel) (by decide +kernel)

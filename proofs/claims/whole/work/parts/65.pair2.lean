/-! class and model side by side: what is asked -/
section PAIR2
variable {Q : Nat → St} {Z : Mem}
theorem VB_hosts {X : St} {n p : Nat} (V : VB X n p) : hostsOK X := by
  intro q hq
  obtain ⟨h1, h2, h3⟩ := hP_t hq
  obtain ⟨i, hi, rfl⟩ := nI_of h1
  rw [V.2.2.1] at h2
  have hip : i < p := (nI_ltI hi (by have := V.2.2.2.1; omega)).mp h2
  unfold cH
  rcases V.2.2.2.2.2.2 i hip with z | ⟨w, hw, z⟩
  · rw [z]; rfl
  · rw [z, hW_n V.1 V.2.1 hw, Bool.or_true]
theorem tuv_e {X : St} {w m : Int32} (h : tuv X w m = 0) : eiv (wdv X w) (rgv m 0 60) = 0 := by
  unfold tuv at h
  by_cases h1 : eiv (wdv X w) (rgv m 0 60) = 0
  · exact h1
  · rw [if_neg h1] at h; exact h
theorem lov_m {X : St} {m c : Int32} (h : lov X m c = 0) : ∃ a, a ≤ 20 ∧ m = nI a := by
  unfold lov at h
  by_cases h1 : eiv (rgv m 1 20) (wfv c 1) = 0
  · obtain ⟨a, _, h2, h3⟩ := rgv_x (v := m) (a := 1) (b := 20) (by decide) (by decide) (eiv_0 h1).1
    exact ⟨a, h2, h3⟩
  · rw [if_neg h1] at h; exact absurd h h1
theorem gfv_m {X : St} {w m t v q : Int32} (h : gfv X w m t v q = 0) : ∃ a, a ≤ 7 ∧ m = nI a := by
  obtain ⟨h2, _, _, h5, _, _⟩ := gfB_t (gfv_t h).2.1
  obtain ⟨a, ha, rfl⟩ := nI_of h2
  refine ⟨a, ?_, rfl⟩
  rcases Nat.lt_or_ge 7 a with q | q
  · exact absurd (nI_lt (a := 7) q ha) h5
  · exact q
theorem FQ_y (A B Y : St) : FQ (qup (qup (qup Q 1 Y) 13 A) 14 B) (qup (qup (qup (qup Q 1 Y) 13 A) 14 B) 11 (Q 11)) := fun s _ _ _ => by
  by_cases h : s = 11
  · subst h; rw [qup_s, qup_n (by decide), qup_n (by decide), qup_n (by decide)]
  · rw [qup_n h]
theorem rv_in {r a : Nat} (hr : Z 93 1 = nI r) (h12 : r ≤ 12) (ha : a < r) : rv Z (nI a) = Z 94 (nI a) := by
  unfold rv
  rw [hr]
  exact if_pos ⟨nI_pos (by omega), nI_lt ha (by omega), nI_lt (b := 12) (by omega) (by decide)⟩
theorem P_widowOf (I : IV Q Z) (w c : Int32) : PRi yO_widowOf yM_widowOf [.int w, .int c] (cm Q Z) := by
  obtain ⟨h01, ⟨n, p, k, V, hk, hk2⟩, _⟩ := id I
  by_cases h : eiv (wdv (Q 11) w) (wfv c 6) = 0
  · have e1 := O_widowOf_ok (Q := Q) (Z := Z) w c (p := p) (by rw [h01]; exact V.2.2.1) V.2.2.2.1 (by rw [h01]; exact h)
    have e2 := M_widowOf_ok (Q := Q) (Z := Z) V w c h
    try rw [h01] at e1
    exact PR_q I e1 e2 (FQ_r Q) (FZ_r Z)
  · have hno := (eiv_no (wdv_no (Q 11) w) (wfv_no c 6)).resolve_left h
    have e1 := O_widowOf_no (Q := Q) (Z := Z) w c (by rw [h01]; exact h)
    try rw [h01] at e1
    exact PR_no I hno e1 (M_widowOf_no (Q := Q) V.1 V.2.1 w c h)
theorem P_wears (I : IV Q Z) (w q : Int32) : PRi yO_wears yM_wears [.int w, .int q] (cm Q Z) := by
  obtain ⟨h01, ⟨n, p, k, V, hk, hk2⟩, _⟩ := id I
  by_cases h : eiv (wdv (Q 11) w) (pfv q) = 0
  · have e1 := O_wears_ok (Q := Q) (Z := Z) w q (by rw [h01]; exact h)
    have e2 := M_wears_ok (Q := Q) (Z := Z) V.1 V.2.1 w q h
    try rw [h01] at e1
    exact PR_q I e1 e2 (FQ_r Q) (FZ_r Z)
  · have hno := (eiv_no (wdv_no (Q 11) w) (pfv_no q)).resolve_left h
    have e1 := O_wears_no (Q := Q) (Z := Z) w q (by rw [h01]; exact h)
    try rw [h01] at e1
    exact PR_no I hno e1 (M_wears_no (Q := Q) V.1 V.2.1 w q h)
theorem P_seen (I : IV Q Z) (q : Int32) : PRi yO_seen yM_seen [.int q] (cm Q Z) := by
  obtain ⟨h01, ⟨n, p, k, V, hk, hk2⟩, _⟩ := id I
  by_cases h : pfv q = 0
  · have e1 := O_seen_ok (Q := Q) (Z := Z) q h
    have e2 := M_seen_ok (Q := Q) (Z := Z) q h
    try rw [h01] at e1
    exact PR_q I e1 e2 (FQ_r Q) (FZ_r Z)
  · have hno := (pfv_no q).resolve_left h
    have e1 := O_seen_no (Q := Q) (Z := Z) q h
    try rw [h01] at e1
    exact PR_no I hno e1 (M_seen_no (Q := Q) q h)
theorem P_worst (I : IV Q Z) (c : Int32) : PRi yO_worst yM_worst [.int c] (cm Q Z) := by
  obtain ⟨h01, ⟨n, p, k, V, hk, hk2⟩, _⟩ := id I
  by_cases h : wfv c 2 = 0
  · have e1 := O_worst_ok (Q := Q) (Z := Z) c (n := n) (p := p) (by rw [h01]; exact V.1) V.2.1 (by rw [h01]; exact V.2.2.1) V.2.2.2.1 h
    have e2 := M_worst_ok (Q := Q) (Z := Z) V c h
    try rw [h01] at e1
    exact PR_q I e1 e2 (FQ_r Q) (FZ_r Z)
  · have hno := (wfv_no c 2).resolve_left h
    have e1 := O_worst_no (Q := Q) (Z := Z) c h
    try rw [h01] at e1
    exact PR_no I hno e1 (M_worst_no (Q := Q) c h)
theorem P_face (I : IV Q Z) (c : Int32) : PRi yO_face yM_face [.int c] (cm Q Z) := by
  obtain ⟨h01, ⟨n, p, k, V, hk, hk2⟩, _⟩ := id I
  by_cases h : wfv c 1 = 0
  · have e1 := O_face_ok (Q := Q) (Z := Z) c h
    have e2 := M_face_ok (Q := Q) (Z := Z) c h
    try rw [h01] at e1
    exact PR_q I e1 e2 (FQ_r Q) (FZ_r Z)
  · have hno := (wfv_no c 1).resolve_left h
    have e1 := O_face_no (Q := Q) (Z := Z) c h
    try rw [h01] at e1
    exact PR_no I hno e1 (M_face_no (Q := Q) c h)
theorem P_carry (I : IV Q Z) (m : Int32) : PRi yO_carry yM_carry [.int m] (cm Q Z) := by
  obtain ⟨h01, ⟨n, p, k, V, hk, hk2⟩, _⟩ := id I
  by_cases h : rgv m 1 60 = 0
  · obtain ⟨m, hm0, hm, rfl⟩ := rgv_160 h
    have e1 := O_carry_ok (Q := Q) (Z := Z) (m := m) (by omega) h
    have e2 := M_carry_ok (Q := Q) (Z := Z) V hk (by omega) (by omega) h
    try rw [h01] at e1
    exact PR_q I e1 e2 (FQ_r Q) (FZ_r Z)
  · have hno := (rgv_no m 1 60).resolve_left h
    have e1 := O_carry_no (Q := Q) (Z := Z) m h
    try rw [h01] at e1
    exact PR_no I hno e1 (M_carry_no (Q := Q) m h)
theorem P_bestRota (I : IV Q Z) (a : Int32) : PRi yO_bestRota yM_bestRota [.int a] (cm Q Z) := by
  obtain ⟨h01, ⟨n, p, k, V, hk, hk2⟩, _⟩ := id I
  by_cases h : rgv a (-1) 11 = 0
  · have e1 := O_bestRota_ok (Q := Q) (Z := Z) a (n := n) (by rw [h01]; exact V.1) V.2.1 h
    have e2 := M_bestRota_ok (Q := Q) (Z := Z) a V h
    try rw [h01] at e1
    exact PR_q I e1 e2 (FQ_r Q) (FZ_r Z)
  · have hno := (rgv_no a (-1) 11).resolve_left h
    have e1 := O_bestRota_no (Q := Q) (Z := Z) a h
    try rw [h01] at e1
    exact PR_no I hno e1 (M_bestRota_no (Q := Q) a h)
theorem P_next (I : IV Q Z) (w : Int32) : PRi yO_next yM_next [.int w] (cm Q Z) := by
  obtain ⟨h01, ⟨n, p, k, V, hk, hk2⟩, _⟩ := id I
  by_cases h : wdv (Q 11) w = 0
  · have e1 := O_next_ok (Q := Q) (Z := Z) w (by rw [h01]; exact h)
    have e2 := M_next_ok (Q := Q) (Z := Z) V hk (by omega) w h
    try rw [h01] at e1
    exact PR_q I e1 e2 (FQ_r Q) (FZ_r Z)
  · have hno := (wdv_no (Q 11) w).resolve_left h
    have e1 := O_next_no (Q := Q) (Z := Z) w (by rw [h01]; exact h)
    try rw [h01] at e1
    exact PR_no I hno e1 (M_next_no (Q := Q) V.1 V.2.1 w h)
theorem P_gap (I : IV Q Z) (w : Int32) : PRi yO_gap yM_gap [.int w] (cm Q Z) := by
  obtain ⟨h01, ⟨n, p, k, V, hk, hk2⟩, _⟩ := id I
  by_cases h : wdv (Q 11) w = 0
  · have e1 := O_gap_ok (Q := Q) (Z := Z) w (by rw [h01]; exact h)
    have e2 := M_gap_ok (Q := Q) (Z := Z) V hk (by omega) w h
    try rw [h01] at e1
    exact PR_q I e1 e2 (FQ_r Q) (FZ_r Z)
  · have hno := (wdv_no (Q 11) w).resolve_left h
    have e1 := O_gap_no (Q := Q) (Z := Z) w (by rw [h01]; exact h)
    try rw [h01] at e1
    exact PR_no I hno e1 (M_gap_no (Q := Q) V.1 V.2.1 w h)
theorem P_sundays (I : IV Q Z) (m : Int32) : PRi yO_sundays yM_sundays [.int m] (cm Q Z) := by
  obtain ⟨h01, ⟨n, p, k, V, hk, hk2⟩, _⟩ := id I
  by_cases h : rgv m 0 60 = 0
  · obtain ⟨m, hm, rfl⟩ := rgv_60 h
    have e1 := O_sundays_ok (Q := Q) (Z := Z) (m := m) (by omega) h
    have e2 := M_sundays_ok (Q := Q) (Z := Z) V hk (by omega) (by omega) h
    try rw [h01] at e1
    exact PR_q I e1 e2 (FQ_r Q) (FZ_r Z)
  · have hno := (rgv_no m 0 60).resolve_left h
    have e1 := O_sundays_no (Q := Q) (Z := Z) m h
    try rw [h01] at e1
    exact PR_no I hno e1 (M_sundays_no (Q := Q) m h)
theorem P_mean (I : IV Q Z) (q : Int32) : PRl yO_mean yM_mean [.int q] (cm Q Z) := by
  obtain ⟨h01, ⟨n, p, k, V, hk, hk2⟩, _⟩ := id I
  by_cases h : wfv q 1 = 0
  · have e1 := O_mean_ok (Q := Q) (Z := Z) (p := q) (n := n) (by rw [h01]; exact V.1) V.2.1 h
    have e2 := M_mean_ok (Q := Q) (Z := Z) (p := q) V h
    try rw [h01] at e1
    exact PR_ql I e1 e2 (FQ_r Q) (FZ_r Z)
  · have hno := (wfv_no q 1).resolve_left h
    have e1 := O_mean_no (Q := Q) (Z := Z) h
    try rw [h01] at e1
    exact PR_nol I hno e1 (M_mean_no (Q := Q) (p := q) h)
theorem P_like (I : IV Q Z) : PRi yO_like yM_like [] (cm Q Z) := by
  obtain ⟨h01, ⟨n, p, k, V, hk, hk2⟩, _⟩ := id I
  have e1 := O_like (Q := Q) (Z := Z) (n := n) (by rw [h01]; exact V.1) V.2.1
  have e2 := M_like (Q := Q) (Z := Z) V
  try rw [h01] at e1
  exact PR_q I e1 e2 (FQ_r Q) (FZ_r Z)
theorem P_kept (I : IV Q Z) : PRi yO_kept yM_kept [] (cm Q Z) := by
  obtain ⟨h01, ⟨n, p, k, V, hk, hk2⟩, _⟩ := id I
  have e1 := O_kept (Q := Q) (Z := Z) (n := n) (by rw [h01]; exact V.1) V.2.1
  have e2 := M_kept (Q := Q) (Z := Z) V hk (by omega)
  try rw [h01] at e1
  exact PR_q I e1 e2 (FQ_r Q) (FZ_r Z)
theorem P_then (I : IV Q Z) (m c : Int32) : PRi yO_then yM_then [.int m, .int c] (cm Q Z) := by
  obtain ⟨h01, ⟨n, p, k, V, hk, hk2⟩, _⟩ := id I
  by_cases h : eiv (rgv m 0 60) (wfv c 4) = 0
  · obtain ⟨m, hm, rfl⟩ := rgv_60 (eiv_0 h).1
    have e1 := O_then_ok (Q := Q) (Z := Z) (n := n) (m := m) c (by rw [h01]; exact V.1) V.2.1 (by omega) h
    have e2 := M_then_ok (Q := qup Q 1 (wksX (Q 11) n m)) (Z := Z) (by rw [q1_11]; exact V) (by rw [q1_11]; exact hk) (by omega) c h
    rw [q1_11] at e2
    try rw [h01] at e1
    exact PR_q I e1 e2 (FQ_t (FQ_1 _) (FQ_14 _)) (FZ_kz _ _)
  · have hno := (eiv_no (rgv_no m 0 60) (wfv_no c 4)).resolve_left h
    have e1 := O_then_no (Q := Q) (Z := Z) m c h
    try rw [h01] at e1
    exact PR_no I hno e1 (M_then_no (Q := Q) m c h)
theorem P_widowIn (I : IV Q Z) (w m c : Int32) : PRi yO_widowIn yM_widowIn [.int w, .int m, .int c] (cm Q Z) := by
  obtain ⟨h01, ⟨n, p, k, V, hk, hk2⟩, _⟩ := id I
  by_cases h : eiv (eiv (wdv (Q 11) w) (rgv m 0 60)) (wfv c 1) = 0
  · obtain ⟨m, hm, rfl⟩ := rgv_60 (eiv_0 (eiv_0 h).1).2
    have e1 := O_widowIn_ok (Q := Q) (Z := Z) w c (n := n) (m := m) (by rw [h01]; exact V.1) V.2.1 (by omega) (by rw [h01]; exact h)
    have e2 := M_widowIn_ok (Q := qup Q 1 (wksX (Q 11) n m)) (Z := Z) (m := m) (by rw [q1_11]; exact V) (by rw [q1_11]; exact hk) (by omega) w c (by rw [q1_11]; exact h)
    rw [q1_11] at e2
    try rw [h01] at e1
    exact PR_q I e1 e2 (FQ_t (FQ_1 _) (FQ_14 _)) (FZ_kz _ _)
  · have hno := (eiv_no (eiv_no (wdv_no (Q 11) w) (rgv_no m 0 60)) (wfv_no c 1)).resolve_left h
    have e1 := O_widowIn_no (Q := Q) (Z := Z) w m c (by rw [h01]; exact h)
    try rw [h01] at e1
    exact PR_no I hno e1 (M_widowIn_no (Q := Q) V.1 V.2.1 w m c h)
theorem P_eased (I : IV Q Z) (w m : Int32) : PRi yO_eased yM_eased [.int w, .int m] (cm Q Z) := by
  obtain ⟨h01, ⟨n, p, k, V, hk, hk2⟩, _⟩ := id I
  by_cases h : eiv (wdv (Q 11) w) (rgv m 0 60) = 0
  · obtain ⟨m, hm, rfl⟩ := rgv_60 (eiv_0 h).2
    have e1 := O_eased_ok (Q := Q) (Z := Z) w (n := n) (m := m) (by rw [h01]; exact V.1) V.2.1 (by omega) (by rw [h01]; exact h)
    have e2 := M_eased_ok (Q := qup Q 1 (wksX (Q 11) n m)) (Z := Z) (m := m) (by rw [q1_11]; exact V) (by rw [q1_11]; exact hk) (by omega) w (by rw [q1_11]; exact h)
    rw [q1_11] at e2
    try rw [h01] at e1
    exact PR_q I e1 e2 (FQ_t (FQ_1 _) (FQ_14 _)) (FZ_kz _ _)
  · have hno := (eiv_no (wdv_no (Q 11) w) (rgv_no m 0 60)).resolve_left h
    have e1 := O_eased_no (Q := Q) (Z := Z) w m (by rw [h01]; exact h)
    try rw [h01] at e1
    exact PR_no I hno e1 (M_eased_no (Q := Q) V.1 V.2.1 w m h)
theorem P_dayMet (I : IV Q Z) (w : Int32) : PRi yO_dayMet yM_dayMet [.int w] (cm Q Z) := by
  obtain ⟨h01, ⟨n, p, k, V, hk, hk2⟩, _⟩ := id I
  by_cases h : wdv (Q 11) w = 0
  · obtain ⟨X1, e1⟩ := O_dayMet_ok (Q := Q) (Z := Z) w (by rw [h01]; exact h) (n := n) (by rw [h01]; exact V.1) V.2.1
    have e2 := M_dayMet_ok (Q := qup Q 1 X1) (Z := Z) (by rw [q1_11]; exact V) (by rw [q1_11]; exact hk) (by omega) w (by rw [q1_11]; exact h)
    rw [q1_11] at e2
    try rw [h01] at e1
    exact PR_q I e1 e2 (FQ_t (FQ_1 _) (FQ_14 _)) (FZ_kz _ _)
  · have hno := (wdv_no (Q 11) w).resolve_left h
    have e1 := O_dayMet_no (Q := Q) (Z := Z) w (by rw [h01]; exact h)
    try rw [h01] at e1
    exact PR_no I hno e1 (M_dayMet_no (Q := Q) V.1 V.2.1 w h)
theorem P_turn (I : IV Q Z) (w m : Int32) : PRi yO_turn yM_turn [.int w, .int m] (cm Q Z) := by
  obtain ⟨h01, ⟨n, p, k, V, hk, hk2⟩, _⟩ := id I
  by_cases h : tuv (Q 11) w m = 0
  · obtain ⟨m, hm, rfl⟩ := rgv_60 (eiv_0 (tuv_e h)).2
    obtain ⟨X1, e1⟩ := O_turn_ok (Q := Q) (Z := Z) w (n := n) (m := m) (p := p) (by rw [h01]; exact V.1) V.2.1 (by omega) (by rw [h01]; exact V.2.2.1) V.2.2.2.1 (by rw [h01]; exact h)
    obtain ⟨x0, x1, x2, x3, e2⟩ := M_turn_ok (Q := qup Q 1 X1) (Z := Z) (m := m) w (by rw [q1_11]; exact V) (by rw [q1_11]; exact hk) (by omega) (by rw [q1_11]; exact h)
    rw [q1_11] at e2
    try rw [h01] at e1
    exact PR_q I e1 e2 (FQ_t (FQ_t (FQ_1 _) (FQ_13 _)) (FQ_14 _)) (FZ_kz _ _)
  · have hno := (tuv_no (Q 11) w m).resolve_left h
    have e1 := O_turn_no (Q := Q) (Z := Z) w m (by rw [h01]; exact h)
    try rw [h01] at e1
    exact PR_no I hno e1 (M_turn_no (Q := Q) V w m h)
theorem P_swap (I : IV Q Z) (m : Int32) : PRi yO_swap yM_swap [.int m] (cm Q Z) := by
  obtain ⟨h01, ⟨n, p, k, V, hk, hk2⟩, _⟩ := id I
  by_cases h : rgv m 0 60 = 0
  · obtain ⟨m, hm, rfl⟩ := rgv_60 h
    obtain ⟨X1, e1⟩ := O_swap_ok (Q := Q) (Z := Z) (n := n) (m := m) (p := p) (by rw [h01]; exact V.1) V.2.1 (by omega) (by rw [h01]; exact V.2.2.1) V.2.2.2.1 (by rw [h01]; exact VB_hosts V) h
    obtain ⟨x0, e2⟩ := M_swap_ok (Q := qup Q 1 X1) (Z := Z) (by rw [q1_11]; exact V) (by rw [q1_11]; exact hk) (by omega) h
    rw [q1_11] at e2
    try rw [h01] at e1
    exact PR_q I e1 e2 (FQ_t (FQ_1 _) (FQ_14 _)) (FZ_kz _ _)
  · have hno := (rgv_no m 0 60).resolve_left h
    have e1 := O_swap_no (Q := Q) (Z := Z) m h
    try rw [h01] at e1
    exact PR_no I hno e1 (M_swap_no (Q := Q) m h)
theorem P_leave (I : IV Q Z) (m : Int32) : PRi yO_leave yM_leave [.int m] (cm Q Z) := by
  obtain ⟨h01, ⟨n, p, k, V, hk, hk2⟩, _⟩ := id I
  by_cases h : rgv m 0 60 = 0
  · obtain ⟨m, hm, rfl⟩ := rgv_60 h
    obtain ⟨X1, e1⟩ := O_leave_ok (Q := Q) (Z := Z) (n := n) (m := m) (by rw [h01]; exact V.1) V.2.1 (by omega) h
    have e2 := M_leave_ok (Q := qup Q 1 X1) (Z := Z) (by rw [q1_11]; exact V) (by rw [q1_11]; exact hk) (by omega) h
    rw [q1_11] at e2
    try rw [h01] at e1
    exact PR_q I e1 e2 (FQ_t (FQ_1 _) (FQ_14 _)) (FZ_kz _ _)
  · have hno := (rgv_no m 0 60).resolve_left h
    have e1 := O_leave_no (Q := Q) (Z := Z) m h
    try rw [h01] at e1
    exact PR_no I hno e1 (M_leave_no (Q := Q) m h)
theorem P_mend (I : IV Q Z) (m : Int32) : PRi yO_mend yM_mend [.int m] (cm Q Z) := by
  obtain ⟨h01, ⟨n, p, k, V, hk, hk2⟩, _⟩ := id I
  by_cases h : rgv m 0 60 = 0
  · obtain ⟨m, hm, rfl⟩ := rgv_60 h
    obtain ⟨X1, e1⟩ := O_mend_ok (Q := Q) (Z := Z) (n := n) (m := m) (by rw [h01]; exact V.1) V.2.1 (by omega) h
    obtain ⟨x0, e2⟩ := M_mend_ok (Q := qup Q 1 X1) (Z := Z) (by rw [q1_11]; exact V) (by rw [q1_11]; exact hk) (by omega) h
    rw [q1_11] at e2
    try rw [h01] at e1
    exact PR_q I e1 e2 (FQ_t (FQ_1 _) (FQ_14 _)) (FZ_kz _ _)
  · have hno := (rgv_no m 0 60).resolve_left h
    have e1 := O_mend_no (Q := Q) (Z := Z) m h
    try rw [h01] at e1
    exact PR_no I hno e1 (M_mend_no (Q := Q) m h)
theorem P_lasts (I : IV Q Z) (v : Int32) : PRi yO_lasts yM_lasts [.int v] (cm Q Z) := by
  obtain ⟨h01, ⟨n, p, k, V, hk, hk2⟩, _⟩ := id I
  by_cases h : rgv v 0 99 = 0
  · obtain ⟨X1, e1⟩ := O_lasts_ok (Q := Q) (Z := Z) v (n := n) (by rw [h01]; exact V.1) V.2.1 h
    have e2 := M_lasts_ok (Q := qup Q 1 X1) (Z := Z) v (by rw [q1_11]; exact V) (by rw [q1_11]; exact hk) (by omega) h
    rw [q1_11] at e2
    try rw [h01] at e1
    exact PR_q I e1 e2 (FQ_t (FQ_1 _) (FQ_14 _)) (FZ_kz _ _)
  · have hno := (rgv_no v 0 99).resolve_left h
    have e1 := O_lasts_no (Q := Q) (Z := Z) v h
    try rw [h01] at e1
    exact PR_no I hno e1 (M_lasts_no (Q := Q) v h)
theorem P_whoHad (I : IV Q Z) (q : Int32) : PRi yO_whoHad yM_whoHad [.int q] (cm Q Z) := by
  obtain ⟨h01, ⟨n, p, k, V, hk, hk2⟩, _, _, _, ⟨r, hr12, hr1, hr2, hr3⟩, _⟩ := id I
  have hrv : ∀ a, a < r → Z 110 (nI a) = rv Z (nI a) := fun a ha => by rw [rv_in hr1 hr12 ha]; exact hr3 a ha
  by_cases h : pfv q = 0
  · obtain ⟨X1, e1⟩ := O_whoHad_ok (Q := Q) (Z := Z) q h (n := n) (r := r) (by rw [h01]; exact V.1) V.2.1 hr1 hr12
    obtain ⟨x0, e2⟩ := M_whoHad_ok (Q := qup Q 1 X1) (Z := Z) q (by rw [q1_11]; exact V) (by rw [q1_11]; exact hk) (by omega) hr2 hr12 h
    rw [q1_11] at e2
    have hf : (fun w => mwM (onX (Q 11) (nI w)) n (Z 110) q r 0) = (fun w => mwB (onX (Q 11) (nI w)) n Z q r 0) := funext fun w => mwM_B (pfv_0 h) r 0 (fun a _ ha => hrv a (by omega))
    rw [hf] at e2
    try rw [h01] at e1
    exact PR_q I e1 e2 (FQ_t (FQ_t (FQ_t (FQ_1 _) (FQ_13 _)) (FQ_14 _)) (FQ_y _ _ _)) (FZ_kz _ _)
  · have hno := (pfv_no q).resolve_left h
    have e1 := O_whoHad_no (Q := Q) (Z := Z) q h
    try rw [h01] at e1
    exact PR_no I hno e1 (M_whoHad_no (Q := Q) q h)
theorem P_whatKind (I : IV Q Z) (w q c : Int32) : PRi yO_whatKind yM_whatKind [.int w, .int q, .int c] (cm Q Z) := by
  obtain ⟨h01, ⟨n, p, k, V, hk, hk2⟩, _, _, _, ⟨r, hr12, hr1, hr2, hr3⟩, _⟩ := id I
  have hrv : ∀ a, a < r → Z 110 (nI a) = rv Z (nI a) := fun a ha => by rw [rv_in hr1 hr12 ha]; exact hr3 a ha
  by_cases h : eiv (eiv (wdv (Q 11) w) (pfv q)) (wfv c 1) = 0
  · obtain ⟨X1, e1⟩ := O_whatKind_ok (Q := Q) (Z := Z) w q c (by rw [h01]; exact h) (n := n) (r := r) (by rw [h01]; exact V.1) V.2.1 hr1 hr12
    obtain ⟨x0, x1, x2, e2⟩ := M_whatKind_ok (Q := qup Q 1 X1) (Z := Z) (by rw [q1_11]; exact V) (by rw [q1_11]; exact hk) (by omega) hr2 hr12 w q c (by rw [q1_11]; exact h)
    rw [q1_11] at e2
    have hf : (fun g => mwM (gsX (Q 11) w c g) n (Z 110) q r 0) = (fun g => mwB (gsX (Q 11) w c g) n Z q r 0) := funext fun g => mwM_B (pfv_0 (eiv_0 (eiv_0 h).1).2) r 0 (fun a _ ha => hrv a (by omega))
    rw [hf] at e2
    try rw [h01] at e1
    exact PR_q I e1 e2 (FQ_t (FQ_1 _) (FQ_14 _)) (FZ_kz _ _)
  · have hno := (eiv_no (eiv_no (wdv_no (Q 11) w) (pfv_no q)) (wfv_no c 1)).resolve_left h
    have e1 := O_whatKind_no (Q := Q) (Z := Z) w q c (by rw [h01]; exact h)
    try rw [h01] at e1
    exact PR_no I hno e1 (M_whatKind_no (Q := Q) V.1 V.2.1 w q c h)
theorem P_two (I : IV Q Z) (a b m : Int32) : PRi yO_two yM_two [.int a, .int b, .int m] (cm Q Z) := by
  obtain ⟨h01, ⟨n, p, k, V, hk, hk2⟩, _⟩ := id I
  by_cases h : tfv (Q 11) a b m = 0
  · obtain ⟨m, hm, rfl⟩ := rgv_60 (tfv_t h).2.2.2
    obtain ⟨X1, e1⟩ := O_two_ok (Q := Q) (Z := Z) a b (n := n) (m := m) (by rw [h01]; exact V.1) V.2.1 (by omega) (by rw [h01]; exact h)
    have e2 := M_two_ok (Q := qup Q 1 X1) (Z := Z) (m := m) (by rw [q1_11]; exact V) (by rw [q1_11]; exact hk) (by omega) a b (by rw [q1_11]; exact h)
    rw [q1_11] at e2
    try rw [h01] at e1
    exact PR_q I e1 e2 (FQ_t (FQ_1 _) (FQ_14 _)) (FZ_t (FZ_c84 _ _ _ _ _ _) (FZ_kz _ _))
  · have hno := (tfv_no (Q 11) a b m).resolve_left h
    have e1 := O_two_no (Q := Q) (Z := Z) a b m (by rw [h01]; exact h)
    try rw [h01] at e1
    exact PR_no I hno e1 (M_two_no (Q := Q) V a b m h)
theorem P_lots (I : IV Q Z) (m z c : Int32) : PRi yO_lots yM_lots [.int m, .int z, .int c] (cm Q Z) := by
  obtain ⟨h01, ⟨n, p, k, V, hk, hk2⟩, _⟩ := id I
  by_cases h : lov (Q 11) m c = 0
  · obtain ⟨m, hm, rfl⟩ := lov_m h
    obtain ⟨X1, e1⟩ := O_lots_ok (Q := Q) (Z := Z) z c (n := n) (p := p) (m := m) (by omega) (by rw [h01]; exact V.1) V.2.1 (by rw [h01]; exact V.2.2.1) V.2.2.2.1 (by rw [h01]; exact h)
    obtain ⟨x0, x1, x2, e2⟩ := M_lots_ok (Q := qup Q 1 X1) (Z := Z) (m := m) z c (by omega) (by rw [q1_11]; exact V) (by rw [q1_11]; exact hk) (by omega) (by rw [q1_11]; exact h)
    rw [q1_11] at e2
    try rw [h01] at e1
    exact PR_q I e1 e2 (FQ_t (FQ_1 _) (FQ_14 _)) (FZ_t (FZ_26 _) (FZ_kz _ _))
  · have hno := (lov_no (Q 11) m c).resolve_left h
    have e1 := O_lots_no (Q := Q) (Z := Z) m z c (by rw [h01]; exact h)
    try rw [h01] at e1
    exact PR_no I hno e1 (M_lots_no (Q := Q) m z c h)
theorem P_gales (I : IV Q Z) (w m t v q : Int32) : PRl yO_gales yM_gales [.int w, .int m, .int t, .int v, .int q] (cm Q Z) := by
  obtain ⟨h01, ⟨n, p, k, V, hk, hk2⟩, _⟩ := id I
  by_cases h : gfv (Q 11) w m t v q = 0
  · obtain ⟨m, hm, rfl⟩ := gfv_m h
    obtain ⟨X1, e1⟩ := O_gales_ok (Q := Q) (Z := Z) (m := m) (n := n) (by omega) (by rw [h01]; exact V.1) V.2.1 (by rw [h01]; exact h)
    obtain ⟨x0, x1, x2, e2⟩ := M_gales_ok (Q := qup Q 1 X1) (Z := Z) (m := m) (by omega) (by rw [q1_11]; exact V) (by rw [q1_11]; exact hk) (by omega) (by rw [q1_11]; exact h)
    rw [q1_11] at e2
    try rw [h01] at e1
    exact PR_ql I e1 e2 (FQ_t (FQ_1 _) (FQ_14 _)) (FZ_kz _ _)
  · have hno := (gfv_no (Q 11) w m t v q).resolve_left h
    have e1 := O_gales_no (Q := Q) (Z := Z) (by rw [h01]; exact h)
    try rw [h01] at e1
    exact PR_nol I hno e1 (M_gales_no (Q := Q) V h)
theorem P_rota (I : IV Q Z) (q : Int32) : PRi yO_rota yM_rota [.int q] (cm Q Z) := by
  obtain ⟨h01, ⟨n, p, k, V, hk, hk2⟩, _⟩ := id I
  by_cases h : q < 0 ∨ ¬ q < Q 11 0 8
  · exact PR_no I no1 (O_rota_no (Q := Q) q (by rw [h01]; exact h)) (M_rota_no (Q := Q) q h)
  · have h1 : ¬ q < 0 := fun z => h (Or.inl z)
    have h2 : q < Q 11 0 8 := by
      by_cases z : q < Q 11 0 8
      · exact z
      · exact absurd (Or.inr z) h
    have e1 := O_rota_ok (Q := Q) (Z := Z) q h1 (by rw [h01]; exact h2)
    rw [h01] at e1
    exact PR_q I e1 (M_rota_ok (Q := Q) (Z := Z) q V.2.2.1 V.2.2.2.1 h1 h2) (FQ_r Q) (FZ_r Z)
theorem P_gone (I : IV Q Z) (q : Int32) : PRi yO_gone yM_gone [.int q] (cm Q Z) := by
  obtain ⟨h01, ⟨n, p, k, V, hk, hk2⟩, _⟩ := id I
  by_cases h0 : q = -1
  · subst h0
    obtain ⟨X1, e1⟩ := O_gone_first (Q := Q) (Z := Z) (n := n) (by rw [h01]; exact V.1) V.2.1
    have e2 := M_gone_first (Q := qup Q 1 X1) (Z := Z) (n := n) (p := p) (k := k) (by rw [q1_11]; exact V) (by rw [q1_11]; exact hk) (by omega)
    rw [q1_11] at e2
    rw [h01] at e1
    exact PR_q I e1 e2 (FQ_t (FQ_1 _) (FQ_14 _)) (FZ_kz _ _)
  · by_cases h : pfv q = 0
    · obtain ⟨X1, e1⟩ := O_gone_ok (Q := Q) (Z := Z) q h0 h (n := n) (by rw [h01]; exact V.1) V.2.1
      have e2 := M_gone_ok (Q := qup Q 1 X1) (Z := Z) (n := n) (p := p) (k := k) (by rw [q1_11]; exact V) (by rw [q1_11]; exact hk) (by omega) q h0 h
      rw [q1_11] at e2
      rw [h01] at e1
      exact PR_q I e1 e2 (FQ_t (FQ_1 _) (FQ_14 _)) (FZ_kz _ _)
    · exact PR_no I ((pfv_no q).resolve_left h) (O_gone_no (Q := Q) q h0 h) (M_gone_no (Q := Q) q h0 h)
end PAIR2

theorem q_cellOf {w : Nat} {rn : Int} {g : Nat → Int} {rm rr : Nat → Int32} (hw : 2 ≤ w ∧ w ≤ 6) (hrn : 0 ≤ rn ∧ rn ≤ 9) (hg : ∀ j, 0 ≤ g j ∧ g j ≤ 9) (hr : RF rm rr) (v1 v2 : Int32) :
    ∃ ans rm' rr', f_M_cellOf v1 v2 (iz w) (iz rn) (ar g) rm = some (ans, rm') ∧ f_R_cellOf v1 v2 (iz w) (iz rn) (ar g) rr = some (ans, rr') ∧ RF rm' rr' := by
  obtain ⟨x, hx, rfl⟩ := anyI v1
  obtain ⟨y, hy, rfl⟩ := anyI v2
  obtain ⟨rm2, rr2, e1, e2, hr2⟩ := z_ref (why := -2) (by omega) hr
  have h36 := sq_le hw
  unfold f_M_cellOf f_R_cellOf f_M_cellOf_j17 f_R_cellOf_j17
  by_cases c1 : 0 ≤ x ∧ x < ((w * w : Nat) : Int)
  · obtain ⟨k, hk, rfl⟩ := natZ (n := w * w) c1
    by_cases c2 : 0 ≤ y ∧ y ≤ 1
    · by_cases c3 : y = 0
      · simp (disch := omega) only [l_0, l_1, l_2, l_3, l_4, l_5, l_6, l_7, l_8, l_9, l_10, l_12, l_16, l_32, l_35, l_36, l_40, l_48, l_59, l_57, l_60, l_97, l_99, l_100, l_122, l_250, l_255, l_1000, l_10000, l_20000, l_1000000, l_12345, l_1103515245, iz_neg, iz_add, iz_sub, iz_mul, iz_lt, iz_le, iz_eq, Option.bind_some, b1_i0, b1_i1, zr_b1, Classical.not_not, if_pos, if_neg, z_isCell, y_isCell, z_withinI, y_withinI, z_stonesOn, z_wetOn, y_wet, rdn, ar_at]
        exact ⟨_, _, _, rfl, rfl, hr⟩
      · simp (disch := omega) only [l_0, l_1, l_2, l_3, l_4, l_5, l_6, l_7, l_8, l_9, l_10, l_12, l_16, l_32, l_35, l_36, l_40, l_48, l_59, l_57, l_60, l_97, l_99, l_100, l_122, l_250, l_255, l_1000, l_10000, l_20000, l_1000000, l_12345, l_1103515245, iz_neg, iz_add, iz_sub, iz_mul, iz_lt, iz_le, iz_eq, Option.bind_some, b1_i0, b1_i1, zr_b1, Classical.not_not, if_pos, if_neg, z_isCell, y_isCell, z_withinI, y_withinI, z_stonesOn, rdn, ar_at]
        simp only [z_wetOn (show k < 36 by omega) hrn hg, y_wet (show k < 36 by omega) hrn hg, Option.bind_some]
        exact ⟨_, _, _, rfl, rfl, hr⟩
    · simp (disch := omega) only [l_0, l_1, l_2, l_3, l_4, l_5, l_6, l_7, l_8, l_9, l_10, l_12, l_16, l_32, l_35, l_36, l_40, l_48, l_59, l_57, l_60, l_97, l_99, l_100, l_122, l_250, l_255, l_1000, l_10000, l_20000, l_1000000, l_12345, l_1103515245, iz_neg, iz_add, iz_sub, iz_mul, iz_lt, iz_le, iz_eq, Option.bind_some, b1_i0, b1_i1, zr_b1, Classical.not_not, if_pos, if_neg, z_isCell, y_isCell, z_withinI, y_withinI, e1, e2]
      exact ⟨_, _, _, rfl, rfl, hr2⟩
  · simp (disch := omega) only [l_0, l_1, l_2, l_3, l_4, l_5, l_6, l_7, l_8, l_9, l_10, l_12, l_16, l_32, l_35, l_36, l_40, l_48, l_59, l_57, l_60, l_97, l_99, l_100, l_122, l_250, l_255, l_1000, l_10000, l_20000, l_1000000, l_12345, l_1103515245, iz_neg, iz_add, iz_sub, iz_mul, iz_lt, iz_le, iz_eq, Option.bind_some, b1_i0, b1_i1, zr_b1, Classical.not_not, if_pos, if_neg, z_isCell, y_isCell, e1, e2]
    exact ⟨_, _, _, rfl, rfl, hr2⟩
theorem q_crunch {w m : Nat} {rn : Int} {g kd a : Nat → Int} {rm rr : Nat → Int32} (hw : 2 ≤ w ∧ w ≤ 6) (hrn : 0 ≤ rn ∧ rn ≤ 9) (hm : m ≤ 8) (hg : ∀ j, 0 ≤ g j ∧ g j ≤ 9) (hkd : ∀ j, 0 ≤ kd j ∧ kd j ≤ 5) (ha : ∀ j, 0 ≤ a j ∧ a j ≤ 9) (hr : RF rm rr) (v1 v2 v3 : Int32) :
    ∃ ans rm' rr', f_M_crunch v1 v2 v3 (iz w) (iz rn) (iz m) (ar g) (ar kd) (ar a) rm = some (ans, rm') ∧ f_R_crunch v1 v2 v3 (iz w) (iz rn) (iz m) (ar g) (ar kd) (ar a) rr = some (ans, rr') ∧ RF rm' rr' := by
  obtain ⟨x, hx, rfl⟩ := anyI v1
  obtain ⟨y, hy, rfl⟩ := anyI v2
  obtain ⟨z, hz, rfl⟩ := anyI v3
  obtain ⟨rm2, rr2, e1, e2, hr2⟩ := z_ref (why := -2) (by omega) hr
  have h36 := sq_le hw
  unfold f_M_crunch f_R_crunch f_M_crunch_j25 f_R_crunch_j35
  by_cases c1 : 0 ≤ x ∧ x < m
  · obtain ⟨f, hf, rfl⟩ := natZ (n := m) c1
    by_cases c2 : 0 ≤ y ∧ y < ((w * w : Nat) : Int)
    · obtain ⟨k, hk, rfl⟩ := natZ (n := w * w) c2
      by_cases c3 : 0 ≤ z ∧ z ≤ 5
      · obtain ⟨j, hj, rfl⟩ := natZ (v := z) (n := 6) (by omega)
        simp (disch := omega) only [l_0, l_1, l_2, l_3, l_4, l_5, l_6, l_7, l_8, l_9, l_10, l_12, l_16, l_32, l_35, l_36, l_40, l_48, l_59, l_57, l_60, l_97, l_99, l_100, l_122, l_250, l_255, l_1000, l_10000, l_20000, l_1000000, l_12345, l_1103515245, iz_neg, iz_add, iz_sub, iz_mul, iz_lt, iz_le, iz_eq, Option.bind_some, b1_i0, b1_i1, zr_b1, Classical.not_not, if_pos, if_neg, z_isFeet, y_isFeet, z_isCell, y_isCell, z_withinI, y_withinI]
        rw [z_stepAs (by omega) (by omega) hj hrn hg hkd ha, y_crunches (by omega) (by omega) hj hrn hg hkd ha]
        exact ⟨_, _, _, rfl, rfl, hr⟩
      · simp (disch := omega) only [l_0, l_1, l_2, l_3, l_4, l_5, l_6, l_7, l_8, l_9, l_10, l_12, l_16, l_32, l_35, l_36, l_40, l_48, l_59, l_57, l_60, l_97, l_99, l_100, l_122, l_250, l_255, l_1000, l_10000, l_20000, l_1000000, l_12345, l_1103515245, iz_neg, iz_add, iz_sub, iz_mul, iz_lt, iz_le, iz_eq, Option.bind_some, b1_i0, b1_i1, zr_b1, Classical.not_not, if_pos, if_neg, z_isFeet, y_isFeet, z_isCell, y_isCell, z_withinI, y_withinI, e1, e2]
        exact ⟨_, _, _, rfl, rfl, hr2⟩
    · simp (disch := omega) only [l_0, l_1, l_2, l_3, l_4, l_5, l_6, l_7, l_8, l_9, l_10, l_12, l_16, l_32, l_35, l_36, l_40, l_48, l_59, l_57, l_60, l_97, l_99, l_100, l_122, l_250, l_255, l_1000, l_10000, l_20000, l_1000000, l_12345, l_1103515245, iz_neg, iz_add, iz_sub, iz_mul, iz_lt, iz_le, iz_eq, Option.bind_some, b1_i0, b1_i1, zr_b1, Classical.not_not, if_pos, if_neg, z_isFeet, y_isFeet, z_isCell, y_isCell, z_withinI, y_withinI, e1, e2]
      exact ⟨_, _, _, rfl, rfl, hr2⟩
  · simp (disch := omega) only [l_0, l_1, l_2, l_3, l_4, l_5, l_6, l_7, l_8, l_9, l_10, l_12, l_16, l_32, l_35, l_36, l_40, l_48, l_59, l_57, l_60, l_97, l_99, l_100, l_122, l_250, l_255, l_1000, l_10000, l_20000, l_1000000, l_12345, l_1103515245, iz_neg, iz_add, iz_sub, iz_mul, iz_lt, iz_le, iz_eq, Option.bind_some, b1_i0, b1_i1, zr_b1, Classical.not_not, if_pos, if_neg, z_isFeet, y_isFeet, e1, e2]
    exact ⟨_, _, _, rfl, rfl, hr2⟩
/-! loops over all cells, over all feet -/
theorem z_silent {w : Nat} {rn : Int} {g : Nat → Int} (hw : 2 ≤ w ∧ w ≤ 6) (hrn : 0 ≤ rn ∧ rn ≤ 9) (hg : ∀ j, 0 ≤ g j ∧ g j ≤ 9) : f_M_silent (iz w) (iz rn) (ar g) = some (fo (fun k c => if max 0 (g k - rn) = 0 then c + 1 else c) (w * w) 0) := by
  unfold f_M_silent f_M_silent_l4
  have h36 := sq_le hw
  have h := loopF (body := fun s : Int32 × Int32 => f_M_silent_b4 (iz w) (iz rn) (ar g) s.1 s.2) (fun c k => (c, iz k)) (fun k c => if max 0 (g k - rn) = 0 then c + 1 else c) (fun c => c) 0 (w * w) (by omega)
    (fun k c hk => by
      have := hg k
      simp only [f_M_silent_b4, z_cells hw, Option.bind_some]
      rw [z_wetOn (by omega) hrn hg, ← iz_succ]
      simp (disch := omega) only [l_0, iz_eq, iz_le, if_neg, Option.bind_some]
      split <;> rfl)
    (fun c => by
      simp only [f_M_silent_b4, z_cells hw, Option.bind_some]
      simp (disch := omega) only [iz_le, if_pos])
  rw [show iter (fun s => f_M_silent_b4 (iz w) (iz rn) (ar g) s.1 s.2) FUEL ((0 : Int32), (0 : Int32)) = _ from h]
  rfl
theorem sqz (w : Nat) : iz (w : Int) * iz (w : Int) = iz ((w * w : Nat) : Int) := by rw [iz_mul, Int.natCast_mul]
theorem y_silent {w : Nat} {rn : Int} {g : Nat → Int} (hw : 2 ≤ w ∧ w ≤ 6) (hrn : 0 ≤ rn ∧ rn ≤ 9) (hg : ∀ j, 0 ≤ g j ∧ g j ≤ 9) : f_R_silent (iz w) (iz rn) (ar g) = some (fo (fun k c => if max 0 (g k - rn) = 0 then c + 1 else c) (w * w) 0) := by
  unfold f_R_silent f_R_silent_l4
  have h36 := sq_le hw
  have h := loopF (body := fun s : Int32 × Int32 => f_R_silent_b4 (iz w) (iz rn) (ar g) s.1 s.2) (fun c k => (c, iz k)) (fun k c => if max 0 (g k - rn) = 0 then c + 1 else c) (fun c => c) 0 (w * w) (by omega)
    (fun k c hk => by
      have := hg k
      simp only [f_R_silent_b4, sqz]
      rw [y_wet (by omega) hrn hg, ← iz_succ]
      simp (disch := omega) only [l_0, iz_eq, iz_le, if_neg, Option.bind_some]
      split <;> rfl)
    (fun c => by
      simp only [f_R_silent_b4, sqz]
      simp (disch := omega) only [iz_le, if_pos])
  rw [show iter (fun s => f_R_silent_b4 (iz w) (iz rn) (ar g) s.1 s.2) FUEL ((0 : Int32), (0 : Int32)) = _ from h]
  rfl

/-! column, worst -/
def fb (v : Nat → Int) (big : Int) : Nat → Nat × Int
  | 0 => (0, big)
  | k + 1 => if v k < (fb v big k).2 then (k, v k) else fb v big k
theorem fb_s (v : Nat → Int) (big : Int) (k : Nat) : fb v big (k + 1) = if v k < (fb v big k).2 then (k, v k) else fb v big k := rfl
theorem fl_s (v : Nat → Int) (k : Nat) : fl v (k + 1) = if v (k + 1) < v (fl v k) then k + 1 else fl v k := rfl
theorem fb_fl {v : Nat → Int} {big : Int} (h : v 0 < big) : ∀ k, fb v big (k + 1) = (fl v k, v (fl v k))
  | 0 => by
    rw [fb_s]
    exact if_pos h
  | k + 1 => by
    rw [fb_s, fb_fl h k, fl_s]
    dsimp only
    split <;> rfl
theorem fb_lt {v : Nat → Int} {big : Int} (h : v 0 < big) : ∀ k, (fb v big k).1 ≤ k ∧ ((fb v big k).2 = big ∨ (fb v big k).2 = v (fb v big k).1)
  | 0 => ⟨Nat.le_refl 0, Or.inl rfl⟩
  | k + 1 => by
    rw [fb_fl h k]
    have := fl_le v k
    exact ⟨by dsimp only; omega, Or.inr rfl⟩
def csum (w : Nat) (rn : Int) (g kd a : Nat → Int) (f c : Nat) : Int := sm (cst w rn g kd a f c) w
theorem csum_bd {w : Nat} {rn : Int} {g kd a : Nat → Int} {f c k : Nat} (hw : k ≤ 6) (hg : ∀ j, 0 ≤ g j ∧ g j ≤ 9) (ha : ∀ j, 0 ≤ a j ∧ a j ≤ 9) (hr : 0 ≤ rn) : 0 ≤ sm (cst w rn g kd a f c) k ∧ sm (cst w rn g kd a f c) k ≤ 222 := by
  have := sm_bd (g := cst w rn g kd a f c) (b := 37) k (fun j _ => cst_bd hg ha hr)
  omega
theorem z_columnS {w m : Nat} {rn : Int} {g kd a : Nat → Int} (hD : Dr w rn m g kd a) {f c : Nat} (hf : f < m) (hc : c < w) :
    f_M_column_l41 (iz f) (iz c) (iz w) (iz rn) (ar g) (ar kd) (ar a) (iz 0) (iz 0) = some (iz (csum w rn g kd a f c)) := by
  obtain ⟨hw, hrn, hm, hg, hkd, ha⟩ := id hD
  exact loopS (body := fun s : Int32 × Int32 => f_M_column_b41 (iz f) (iz c) (iz w) (iz rn) (ar g) (ar kd) (ar a) s.1 s.2) (fun k => (iz (sm (cst w rn g kd a f c) k), iz k)) _ w (by omega)
    (fun k hk => by
      simp only [f_M_column_b41, z_cellAt, Option.bind_some, z_stepC hD hf hk hc, ← iz_succ, iz_add]
      simp (disch := omega) only [iz_le, if_neg]
      rfl)
    (by
      simp only [f_M_column_b41]
      simp (disch := omega) only [iz_le, if_pos]
      rfl)
theorem y_straight {w m : Nat} {rn : Int} {g kd a : Nat → Int} (hD : Dr w rn m g kd a) {f c : Nat} (hf : f < m) (hc : c < w) :
    f_R_straight (iz f) (iz c) (iz w) (iz rn) (ar g) (ar kd) (ar a) = some (iz (csum w rn g kd a f c)) := by
  obtain ⟨hw, hrn, hm, hg, hkd, ha⟩ := id hD
  have h := loopS (body := fun s : Int32 × Int32 => f_R_straight_b5 (iz f) (iz c) (iz w) (iz rn) (ar g) (ar kd) (ar a) s.1 s.2) (fun k => (iz (sm (cst w rn g kd a f c) k), iz k)) (iz (csum w rn g kd a f c)) w (by omega)
    (fun k hk => by
      simp only [f_R_straight_b5, idz, Option.bind_some, y_crC hD hf hk hc, ← iz_succ, iz_add]
      simp (disch := omega) only [iz_le, if_neg]
      rfl)
    (by
      simp only [f_R_straight_b5]
      simp (disch := omega) only [iz_le, if_pos]
      rfl)
  unfold f_R_straight
  rw [show f_R_straight_l5 (iz f) (iz c) (iz w) (iz rn) (ar g) (ar kd) (ar a) 0 0 = _ from h]
  rfl
theorem z_columnL {w m : Nat} {rn : Int} {g kd a : Nat → Int} (hD : Dr w rn m g kd a) {f : Nat} (hf : f < m) :
    f_M_column_l23 (iz f) (iz w) (iz rn) (ar g) (ar kd) (ar a) (iz 0) (iz 1000000) (iz 0) = some (iz ((fl (csum w rn g kd a f) (w - 1) : Nat) : Int)) := by
  obtain ⟨hw, hrn, hm, hg, hkd, ha⟩ := id hD
  have b0 := csum_bd (w := w) (kd := kd) (f := f) (c := 0) (k := w) hw.2 hg ha hrn.1
  have h0 : csum w rn g kd a f 0 < 1000000 := by unfold csum; omega
  have h := loopS (body := fun s : Int32 × Int32 × Int32 => f_M_column_b23 (iz f) (iz w) (iz rn) (ar g) (ar kd) (ar a) s.1 s.2.1 s.2.2) (fun k => (iz (((fb (csum w rn g kd a f) 1000000 k).1 : Nat) : Int), iz (fb (csum w rn g kd a f) 1000000 k).2, iz k)) (iz (((fb (csum w rn g kd a f) 1000000 w).1 : Nat) : Int)) w (by omega)
    (fun k hk => by
      have b1 := csum_bd (w := w) (kd := kd) (f := f) (c := k) (k := w) hw.2 hg ha hrn.1
      have b2 := csum_bd (w := w) (kd := kd) (f := f) (c := (fb (csum w rn g kd a f) 1000000 k).1) (k := w) hw.2 hg ha hrn.1
      have b3 := (fb_lt h0 k).2
      have b4 : 0 ≤ csum w rn g kd a f k ∧ csum w rn g kd a f k ≤ 222 := b1
      have b5 : 0 ≤ (fb (csum w rn g kd a f) 1000000 k).2 ∧ (fb (csum w rn g kd a f) 1000000 k).2 ≤ 1000000 := by
        rcases b3 with e | e
        · omega
        · rw [e]; exact ⟨b2.1, Int.le_trans b2.2 (by decide)⟩
      simp only [f_M_column_b23]
      rw [show f_M_column_l41 (iz f) (iz k) (iz w) (iz rn) (ar g) (ar kd) (ar a) 0 0 = _ from z_columnS hD hf hk, ← iz_succ]
      rw [fb_s]
      by_cases c : csum w rn g kd a f k < (fb (csum w rn g kd a f) 1000000 k).2
      · simp (disch := omega) only [iz_add, iz_sub, iz_mul, iz_lt, iz_le, iz_eq, Option.bind_some, b1_i0, b1_i1, zr_b1, Classical.not_not, if_pos, if_neg]
      · simp (disch := omega) only [iz_add, iz_sub, iz_mul, iz_lt, iz_le, iz_eq, Option.bind_some, b1_i0, b1_i1, zr_b1, Classical.not_not, if_pos, if_neg])
    (by
      simp only [f_M_column_b23]
      simp (disch := omega) only [iz_add, iz_sub, iz_mul, iz_lt, iz_le, iz_eq, Option.bind_some, b1_i0, b1_i1, zr_b1, Classical.not_not, if_pos, if_neg])
  refine Eq.trans h ?_
  rw [show w = (w - 1) + 1 by omega, fb_fl (by rw [show (w - 1) + 1 = w by omega]; exact h0)]
  rfl
theorem y_columnL {w m : Nat} {rn : Int} {g kd a : Nat → Int} (hD : Dr w rn m g kd a) {f : Nat} (hf : f < m) :
    f_R_column_l19 (iz f) (iz w) (iz rn) (ar g) (ar kd) (ar a) (iz 0) (iz 1) = some (iz ((fl (csum w rn g kd a f) (w - 1) : Nat) : Int)) := by
  obtain ⟨hw, hrn, hm, hg, hkd, ha⟩ := id hD
  exact loopS (body := fun s : Int32 × Int32 => f_R_column_b19 (iz f) (iz w) (iz rn) (ar g) (ar kd) (ar a) s.1 s.2) (fun k => (iz ((fl (csum w rn g kd a f) k : Nat) : Int), iz ((k + 1 : Nat) : Int))) _ (w - 1) (by omega)
    (fun k hk => by
      have b1 := csum_bd (w := w) (kd := kd) (f := f) (c := k + 1) (k := w) hw.2 hg ha hrn.1
      have b2 := csum_bd (w := w) (kd := kd) (f := f) (c := fl (csum w rn g kd a f) k) (k := w) hw.2 hg ha hrn.1
      have b3 : 0 ≤ csum w rn g kd a f (k + 1) ∧ csum w rn g kd a f (k + 1) ≤ 222 := b1
      have b4 : 0 ≤ csum w rn g kd a f (fl (csum w rn g kd a f) k) ∧ csum w rn g kd a f (fl (csum w rn g kd a f) k) ≤ 222 := b2
      have b5 := fl_le (csum w rn g kd a f) k
      simp only [f_R_column_b19]
      rw [y_straight hD hf (show k + 1 < w by omega), y_straight hD hf (show fl (csum w rn g kd a f) k < w by omega), ← iz_succ (k + 1)]
      rw [show fl (csum w rn g kd a f) (k + 1) = if csum w rn g kd a f (k + 1) < csum w rn g kd a f (fl (csum w rn g kd a f) k) then k + 1 else fl (csum w rn g kd a f) k from rfl]
      by_cases c : csum w rn g kd a f (k + 1) < csum w rn g kd a f (fl (csum w rn g kd a f) k)
      · simp (disch := omega) only [iz_add, iz_sub, iz_mul, iz_lt, iz_le, iz_eq, Option.bind_some, b1_i0, b1_i1, zr_b1, Classical.not_not, if_pos, if_neg]
      · simp (disch := omega) only [iz_add, iz_sub, iz_mul, iz_lt, iz_le, iz_eq, Option.bind_some, b1_i0, b1_i1, zr_b1, Classical.not_not, if_pos, if_neg])
    (by
      simp only [f_R_column_b19]
      simp (disch := omega) only [iz_add, iz_sub, iz_mul, iz_lt, iz_le, iz_eq, Option.bind_some, b1_i0, b1_i1, zr_b1, Classical.not_not, if_pos, if_neg])
theorem q_column {w m : Nat} {rn : Int} {g kd a : Nat → Int} {rm rr : Nat → Int32} (hD : Dr w rn m g kd a) (hr : RF rm rr) (v1 : Int32) :
    ∃ ans rm' rr', f_M_column v1 (iz w) (iz rn) (iz m) (ar g) (ar kd) (ar a) rm = some (ans, rm') ∧ f_R_column v1 (iz w) (iz rn) (iz m) (ar g) (ar kd) (ar a) rr = some (ans, rr') ∧ RF rm' rr' := by
  obtain ⟨hw, hrn, hm, hg, hkd, ha⟩ := id hD
  obtain ⟨x, hx, rfl⟩ := anyI v1
  obtain ⟨rm2, rr2, e1, e2, hr2⟩ := z_ref (why := -2) (by omega) hr
  unfold f_M_column f_R_column
  by_cases c1 : 0 ≤ x ∧ x < m
  · obtain ⟨f, hf, rfl⟩ := natZ (n := m) c1
    simp (disch := omega) only [l_0, l_1, l_2, l_3, l_4, l_5, l_6, l_7, l_8, l_9, l_10, l_12, l_16, l_32, l_35, l_36, l_40, l_48, l_59, l_57, l_60, l_97, l_99, l_100, l_122, l_250, l_255, l_1000, l_10000, l_20000, l_1000000, l_12345, l_1103515245, iz_neg, iz_add, iz_sub, iz_mul, iz_lt, iz_le, iz_eq, Option.bind_some, b1_i0, b1_i1, zr_b1, Classical.not_not, if_pos, if_neg, z_isFeet, y_isFeet]
    rw [z_columnL hD hf, y_columnL hD hf]
    exact ⟨_, _, _, rfl, rfl, hr⟩
  · simp (disch := omega) only [l_0, l_1, l_2, l_3, l_4, l_5, l_6, l_7, l_8, l_9, l_10, l_12, l_16, l_32, l_35, l_36, l_40, l_48, l_59, l_57, l_60, l_97, l_99, l_100, l_122, l_250, l_255, l_1000, l_10000, l_20000, l_1000000, l_12345, l_1103515245, iz_neg, iz_add, iz_sub, iz_mul, iz_lt, iz_le, iz_eq, Option.bind_some, b1_i0, b1_i1, zr_b1, Classical.not_not, if_pos, if_neg, z_isFeet, y_isFeet, e1, e2]
    exact ⟨_, _, _, rfl, rfl, hr2⟩
def wst (w : Nat) (rn : Int) (g kd a : Nat → Int) (f : Nat) (c : Nat) : Int := -cz rn g kd a f c (c / w)
theorem wst_bd {w : Nat} {rn : Int} {g kd a : Nat → Int} {f c : Nat} (hg : ∀ j, 0 ≤ g j ∧ g j ≤ 9) (ha : ∀ j, 0 ≤ a j ∧ a j ≤ 9) (hr : 0 ≤ rn) : -37 ≤ wst w rn g kd a f c ∧ wst w rn g kd a f c ≤ 0 := by
  have := cz_bd (kd := kd) (f := f) (c := c) (k := c / w) hg ha hr
  unfold wst
  omega
theorem z_worstL {w m : Nat} {rn : Int} {g kd a : Nat → Int} (hD : Dr w rn m g kd a) {f : Nat} (hf : f < m) :
    f_M_worst_l22 (iz f) (iz w) (iz rn) (ar g) (ar kd) (ar a) (iz 0) (iz (-1)) (iz 0) = some (iz ((fl (wst w rn g kd a f) (w * w - 1) : Nat) : Int)) := by
  obtain ⟨hw, hrn, hm, hg, hkd, ha⟩ := id hD
  have hq := sq_le hw
  have hp : 0 < w * w := Nat.mul_pos (by omega) (by omega)
  have b0 := wst_bd (w := w) (kd := kd) (f := f) (c := 0) hg ha hrn.1
  have h0 : wst w rn g kd a f 0 < 1 := by omega
  have h := loopS (body := fun s : Int32 × Int32 × Int32 => f_M_worst_b22 (iz f) (iz w) (iz rn) (ar g) (ar kd) (ar a) s.1 s.2.1 s.2.2) (fun k => (iz (((fb (wst w rn g kd a f) 1 k).1 : Nat) : Int), iz (-(fb (wst w rn g kd a f) 1 k).2), iz k)) (iz (((fb (wst w rn g kd a f) 1 (w * w)).1 : Nat) : Int)) (w * w) (by omega)
    (fun k hk => by
      have b1 := wst_bd (w := w) (kd := kd) (f := f) (c := k) hg ha hrn.1
      have b2 := wst_bd (w := w) (kd := kd) (f := f) (c := (fb (wst w rn g kd a f) 1 k).1) hg ha hrn.1
      have b3 := (fb_lt h0 k).2
      have b5 : -37 ≤ (fb (wst w rn g kd a f) 1 k).2 ∧ (fb (wst w rn g kd a f) 1 k).2 ≤ 1 := by
        rcases b3 with e | e
        · omega
        · rw [e]; omega
      simp only [f_M_worst_b22, z_cells hw, Option.bind_some]
      rw [z_stepOn hw (by omega) hk hrn hg hkd ha, ← iz_succ]
      rw [show cz rn g kd a f k (k / w) = -wst w rn g kd a f k by unfold wst; omega]
      rw [fb_s]
      by_cases c : wst w rn g kd a f k < (fb (wst w rn g kd a f) 1 k).2
      · simp (disch := omega) only [iz_add, iz_sub, iz_mul, iz_lt, iz_le, iz_eq, Option.bind_some, b1_i0, b1_i1, zr_b1, Classical.not_not, if_pos, if_neg]
      · simp (disch := omega) only [iz_add, iz_sub, iz_mul, iz_lt, iz_le, iz_eq, Option.bind_some, b1_i0, b1_i1, zr_b1, Classical.not_not, if_pos, if_neg])
    (by
      simp only [f_M_worst_b22, z_cells hw, Option.bind_some]
      simp (disch := omega) only [iz_add, iz_sub, iz_mul, iz_lt, iz_le, iz_eq, Option.bind_some, b1_i0, b1_i1, zr_b1, Classical.not_not, if_pos, if_neg])
  refine Eq.trans h ?_
  rw [show w * w = (w * w - 1) + 1 by omega, fb_fl h0]
  rfl
theorem y_worstL {w m : Nat} {rn : Int} {g kd a : Nat → Int} (hD : Dr w rn m g kd a) {f : Nat} (hf : f < m) :
    f_R_worst_l19 (iz f) (iz w) (iz rn) (ar g) (ar kd) (ar a) (iz 0) (iz 1) = some (iz ((fl (wst w rn g kd a f) (w * w - 1) : Nat) : Int)) := by
  obtain ⟨hw, hrn, hm, hg, hkd, ha⟩ := id hD
  have hq := sq_le hw
  have hp : 0 < w * w := Nat.mul_pos (by omega) (by omega)
  exact loopS (body := fun s : Int32 × Int32 => f_R_worst_b19 (iz f) (iz w) (iz rn) (ar g) (ar kd) (ar a) s.1 s.2) (fun k => (iz ((fl (wst w rn g kd a f) k : Nat) : Int), iz ((k + 1 : Nat) : Int))) _ (w * w - 1) (by omega)
    (fun k hk => by
      have b1 := wst_bd (w := w) (kd := kd) (f := f) (c := k + 1) hg ha hrn.1
      have b2 := wst_bd (w := w) (kd := kd) (f := f) (c := fl (wst w rn g kd a f) k) hg ha hrn.1
      have b5 := fl_le (wst w rn g kd a f) k
      simp only [f_R_worst_b19, sqz]
      rw [y_stepOn hw (by omega) (show k + 1 < w * w by omega) hrn hg hkd ha, y_stepOn hw (by omega) (show fl (wst w rn g kd a f) k < w * w by omega) hrn hg hkd ha, ← iz_succ (k + 1)]
      rw [show cz rn g kd a f (k + 1) ((k + 1) / w) = -wst w rn g kd a f (k + 1) by unfold wst; omega, show cz rn g kd a f (fl (wst w rn g kd a f) k) (fl (wst w rn g kd a f) k / w) = -wst w rn g kd a f (fl (wst w rn g kd a f) k) by unfold wst; omega]
      rw [show fl (wst w rn g kd a f) (k + 1) = if wst w rn g kd a f (k + 1) < wst w rn g kd a f (fl (wst w rn g kd a f) k) then k + 1 else fl (wst w rn g kd a f) k from rfl]
      by_cases c : wst w rn g kd a f (k + 1) < wst w rn g kd a f (fl (wst w rn g kd a f) k)
      · simp (disch := omega) only [iz_add, iz_sub, iz_mul, iz_lt, iz_le, iz_eq, Option.bind_some, b1_i0, b1_i1, zr_b1, Classical.not_not, if_pos, if_neg]
      · simp (disch := omega) only [iz_add, iz_sub, iz_mul, iz_lt, iz_le, iz_eq, Option.bind_some, b1_i0, b1_i1, zr_b1, Classical.not_not, if_pos, if_neg])
    (by
      simp only [f_R_worst_b19, sqz]
      simp (disch := omega) only [iz_add, iz_sub, iz_mul, iz_lt, iz_le, iz_eq, Option.bind_some, b1_i0, b1_i1, zr_b1, Classical.not_not, if_pos, if_neg])
theorem q_worst {w m : Nat} {rn : Int} {g kd a : Nat → Int} {rm rr : Nat → Int32} (hD : Dr w rn m g kd a) (hr : RF rm rr) (v1 : Int32) :
    ∃ ans rm' rr', f_M_worst v1 (iz w) (iz rn) (iz m) (ar g) (ar kd) (ar a) rm = some (ans, rm') ∧ f_R_worst v1 (iz w) (iz rn) (iz m) (ar g) (ar kd) (ar a) rr = some (ans, rr') ∧ RF rm' rr' := by
  obtain ⟨hw, hrn, hm, hg, hkd, ha⟩ := id hD
  obtain ⟨x, hx, rfl⟩ := anyI v1
  obtain ⟨rm2, rr2, e1, e2, hr2⟩ := z_ref (why := -2) (by omega) hr
  unfold f_M_worst f_R_worst
  by_cases c1 : 0 ≤ x ∧ x < m
  · obtain ⟨f, hf, rfl⟩ := natZ (n := m) c1
    simp (disch := omega) only [l_0, l_1, l_2, l_3, l_4, l_5, l_6, l_7, l_8, l_9, l_10, l_12, l_16, l_32, l_35, l_36, l_40, l_48, l_59, l_57, l_60, l_97, l_99, l_100, l_122, l_250, l_255, l_1000, l_10000, l_20000, l_1000000, l_12345, l_1103515245, iz_neg, iz_add, iz_sub, iz_mul, iz_lt, iz_le, iz_eq, Option.bind_some, b1_i0, b1_i1, zr_b1, Classical.not_not, if_pos, if_neg, z_isFeet, y_isFeet]
    rw [z_worstL hD hf, y_worstL hD hf]
    exact ⟨_, _, _, rfl, rfl, hr⟩
  · simp (disch := omega) only [l_0, l_1, l_2, l_3, l_4, l_5, l_6, l_7, l_8, l_9, l_10, l_12, l_16, l_32, l_35, l_36, l_40, l_48, l_59, l_57, l_60, l_97, l_99, l_100, l_122, l_250, l_255, l_1000, l_10000, l_20000, l_1000000, l_12345, l_1103515245, iz_neg, iz_add, iz_sub, iz_mul, iz_lt, iz_le, iz_eq, Option.bind_some, b1_i0, b1_i1, zr_b1, Classical.not_not, if_pos, if_neg, z_isFeet, y_isFeet, e1, e2]
    exact ⟨_, _, _, rfl, rfl, hr2⟩

/-! steps laid; the quietest, the loudest -/
def stp (w : Nat) (u : Int) (g kd a : Nat → Int) (f j : Nat) : Int := cz u g kd a f j (j / w)
theorem stp_bd {w : Nat} {u : Int} {g kd a : Nat → Int} {f : Nat} (hg : ∀ j, 0 ≤ g j ∧ g j ≤ 9) (ha : ∀ j, 0 ≤ a j ∧ a j ≤ 9) (hr : 0 ≤ u) (j : Nat) : 0 ≤ stp w u g kd a f j ∧ stp w u g kd a f j ≤ 37 := cz_bd hg ha hr
theorem agr_congr {ρ : Nat → Int32} {T S : Nat → Int} {a b : Nat} (h : Agr ρ T a b) (e : ∀ j, a ≤ j → j < b → T j = S j) : Agr ρ S a b := fun j h1 h2 => by rw [h j h1 h2, e j h1 h2]
theorem z_putStep {j : Nat} {x : Int32} {st : Nat → Int32} (hj : j < 36) : f_P_putStep (iz j) x st = some (upd st j x) := by
  unfold f_P_putStep
  rw [l_0, l_35, z_withinI (by omega) (by omega) (by omega)]
  simp only [Option.bind_some]
  rw [if_neg (by rw [b1_i0]; omega), wrn _ (by omega) hj]
  rfl
theorem z_stepP {j : Nat} {st : Nat → Int32} (hj : j < 36) : f_P_stepOn (iz j) st = some (st j) := by
  unfold f_P_stepOn
  rw [l_0, l_35, z_withinI (by omega) (by omega) (by omega)]
  simp only [Option.bind_some]
  rw [if_neg (by rw [b1_i0]; omega), rdn _ (by omega) hj]
  rfl
theorem z_cellOnWay {j : Nat} {way : Nat → Int32} (hj : j < 6) : f_P_cellOnWay (iz j) way = some (way j) := by
  unfold f_P_cellOnWay
  rw [l_0, l_5, z_withinI (by omega) (by omega) (by omega)]
  simp only [Option.bind_some]
  rw [if_neg (by rw [b1_i0]; omega), rdn _ (by omega) hj]
  rfl
section
variable {w m : Nat} {rn : Int} {g kd a : Nat → Int}
theorem z_layCrunches {f : Nat} {t : Int} (hD : Dr w rn m g kd a) (hf : f < m) (pw : Int32) (st : Nat → Int32) :
    ∃ st', f_M_layCrunches (iz f) (iz t) (iz w) (iz rn) (ar g) (ar kd) (ar a) pw st = some (iz w, st') ∧ Agr st' (fun j => t * stp w rn g kd a f j) 0 (w * w) := by
  obtain ⟨hw, hrn, hm, hg, hkd, ha⟩ := id hD
  have h36 := sq_le hw
  obtain ⟨st', e, h⟩ := loopI (body := fun s : Int32 × (Nat → Int32) => f_M_layCrunches_b16 (iz f) (iz t) (iz w) (iz rn) (ar g) (ar kd) (ar a) s.1 s.2) (fun k z => ∃ st, z = (iz k, st) ∧ Agr st (fun j => t * stp w rn g kd a f j) 0 k) (fun st => Agr st (fun j => t * stp w rn g kd a f j) 0 (w * w)) (w * w) (by omega)
    (fun k z hk => by
      rintro ⟨st, rfl, h1⟩
      simp only [f_M_layCrunches_b16, z_cells hw, Option.bind_some]
      rw [if_neg (by rw [iz_le (by omega) (by omega)]; omega), z_stepOn hw (by omega) hk hrn hg hkd ha]
      simp only [Option.bind_some]
      rw [z_putStep (by omega), iz_mul]
      exact ⟨_, rfl, upd st k (iz (t * stp w rn g kd a f k)), by rw [iz_succ]; rfl, agr_nx (T := fun j => t * stp w rn g kd a f j) h1⟩)
    (fun z => by
      rintro ⟨st, rfl, h1⟩
      simp only [f_M_layCrunches_b16, z_cells hw, Option.bind_some]
      rw [if_pos (by rw [iz_le (by omega) (by omega)]; omega)]
      exact ⟨_, rfl, h1⟩)
    (iz 0, st) ⟨st, rfl, agr_no⟩
  unfold f_M_layCrunches
  rw [show f_M_layCrunches_l16 (iz f) (iz t) (iz w) (iz rn) (ar g) (ar kd) (ar a) 0 st = some st' from e]
  exact ⟨_, rfl, h⟩
theorem nar1 : vp_nar .boolean 1 = 1 := rfl
theorem nar0 : vp_nar .boolean 0 = 0 := rfl
theorem y_costs {f : Nat} (hD : Dr w rn m g kd a) (hf : f < m) (cost may : Nat → Int32) :
    ∃ cost' may', f_R_costs (iz f) (iz w) (iz rn) (ar g) (ar kd) (ar a) cost may = some (cost', may') ∧ Agr cost' (stp w rn g kd a f) 0 (w * w) := by
  obtain ⟨hw, hrn, hm, hg, hkd, ha⟩ := id hD
  have h36 := sq_le hw
  obtain ⟨r, e, h⟩ := loopI (body := fun s : Int32 × (Nat → Int32) × (Nat → Int32) => f_R_costs_b2 (iz f) (iz w) (iz rn) (ar g) (ar kd) (ar a) s.1 s.2.1 s.2.2) (fun k z => ∃ cost may, z = (iz k, cost, may) ∧ Agr cost (stp w rn g kd a f) 0 k) (fun r => Agr r.1 (stp w rn g kd a f) 0 (w * w)) (w * w) (by omega)
    (fun k z hk => by
      rintro ⟨cost, may, rfl, h1⟩
      simp only [f_R_costs_b2]
      rw [sqz, if_neg (by rw [iz_le (by omega) (by omega)]; omega), y_stepOn hw (by omega) hk hrn hg hkd ha]
      simp only [Option.bind_some]
      rw [wrn _ (by omega) (by omega)]
      simp only [Option.bind_some]
      rw [wrn _ (by omega) (by omega)]
      exact ⟨_, rfl, upd cost k (iz (stp w rn g kd a f k)), _, by rw [iz_succ]; rfl, agr_nx h1⟩)
    (fun z => by
      rintro ⟨cost, may, rfl, h1⟩
      simp only [f_R_costs_b2]
      rw [sqz, if_pos (by rw [iz_le (by omega) (by omega)]; omega)]
      exact ⟨_, rfl, h1⟩)
    (iz 0, cost, may) ⟨cost, may, rfl, agr_no⟩
  unfold f_R_costs
  rw [show f_R_costs_l2 (iz f) (iz w) (iz rn) (ar g) (ar kd) (ar a) 0 cost may = some r from e]
  exact ⟨_, _, rfl, h⟩
/-- the least sum of steps with a sign -/
abbrev LTb (w : Nat) (s : Nat → Int) : Nat → Int := Tb w opA s
abbrev ls (w : Nat) (s : Nat → Int) : Int := mnf (LTb w s) 0 (w - 1)
theorem LTb_eq {s : Nat → Int} (hw : 2 ≤ w ∧ w ≤ 6) : EqL w s (LTb w s) := fun _ _ hr hc => Tb_eq hw opA s hr hc
theorem LTb_bd {s : Nat → Int} (hw : 2 ≤ w ∧ w ≤ 6) (hs : ∀ j, -37 ≤ s j ∧ s j ≤ 37) : BdT w (LTb w s) := Tb_bd hw hopA hs
theorem ls_bd {s : Nat → Int} (hw : 2 ≤ w ∧ w ≤ 6) (hs : ∀ j, -37 ≤ s j ∧ s j ≤ 37) : -500 ≤ ls w s ∧ ls w s ≤ 500 := by
  have hp : w ≤ w * w := by have := Nat.mul_le_mul_right w (show 1 ≤ w by omega); omega
  exact mnf_bd (M := 500) (fun x hx => LTb_bd hw hs _ (by omega))
theorem z_ls {s : Nat → Int} {st : Nat → Int32} (hw : 2 ≤ w ∧ w ≤ 6) (hst : Agr st s 0 (w * w)) (hs : ∀ j, -37 ≤ s j ∧ s j ≤ 37) (rest way : Nat → Int32) :
    ∃ rest' way', f_P_leastTogether (iz w) st rest way = some (iz (ls w s), rest', way') ∧ ∀ k, k < w → way' k = iz ((k * w + qd w (pL (LTb w s)) k : Nat) : Int) :=
  z_leastTogether hw hst (LTb_eq hw) (LTb_bd hw hs) rest way
theorem y_ls {s : Nat → Int} {cost : Nat → Int32} {σ : Int} (hσ : σ = 1 ∨ σ = -1) (hw : 2 ≤ w ∧ w ≤ 6) (hc : Agr cost (fun j => σ * s j) 0 (w * w)) (hs : ∀ j, -37 ≤ s j ∧ s j ≤ 37) (rest way : Nat → Int32) :
    ∃ rest' way', f_R_sums (iz σ) (iz w) cost rest way = some (iz (σ * ls w s), rest', way') ∧ ∀ k, k < w → way' k = iz ((k * w + qd w (pL (LTb w s)) k : Nat) : Int) :=
  y_sums hσ hw (LTb_eq hw) (LTb_bd hw hs) hc rest way
theorem z_leastOf {f : Nat} (hD : Dr w rn m g kd a) (hf : f < m) (pw : Int32) (st rest way : Nat → Int32) :
    ∃ st' rest' way', f_M_leastOf (iz f) (iz w) (iz rn) (ar g) (ar kd) (ar a) pw st rest way = some (iz (ls w (stp w rn g kd a f)), iz w, st', rest', way') ∧ ∀ k, k < w → way' k = iz ((k * w + qd w (pL (LTb w (stp w rn g kd a f))) k : Nat) : Int) := by
  obtain ⟨hw, hrn, hm, hg, hkd, ha⟩ := id hD
  obtain ⟨st', e1, h1⟩ := z_layCrunches (t := 1) hD hf pw st
  obtain ⟨rest', way', e2, h2⟩ := z_ls hw (agr_congr h1 (fun j _ _ => Int.one_mul _)) (fun j => by have := stp_bd (w := w) (kd := kd) (f := f) hg ha hrn.1 j; omega) rest way
  unfold f_M_leastOf
  rw [show f_M_layCrunches (iz f) 1 (iz w) (iz rn) (ar g) (ar kd) (ar a) pw st = _ from e1]
  simp only [Option.bind_some]
  rw [e2]
  exact ⟨_, _, _, rfl, h2⟩
theorem y_quiet {f : Nat} (hD : Dr w rn m g kd a) (hf : f < m) (cost may rest way : Nat → Int32) :
    ∃ cost' may' rest' way', f_R_quiet (iz f) (iz w) (iz rn) (ar g) (ar kd) (ar a) cost may rest way = some (iz (ls w (stp w rn g kd a f)), cost', may', rest', way') ∧ ∀ k, k < w → way' k = iz ((k * w + qd w (pL (LTb w (stp w rn g kd a f))) k : Nat) : Int) := by
  obtain ⟨hw, hrn, hm, hg, hkd, ha⟩ := id hD
  obtain ⟨cost', may', e1, h1⟩ := y_costs hD hf cost may
  obtain ⟨rest', way', e2, h2⟩ := y_ls (σ := 1) (Or.inl rfl) hw (agr_congr h1 (fun j _ _ => (Int.one_mul _).symm)) (fun j => by have := stp_bd (w := w) (kd := kd) (f := f) hg ha hrn.1 j; omega) rest way
  unfold f_R_quiet
  rw [e1]
  simp only [Option.bind_some]
  rw [show f_R_sums 1 (iz w) cost' rest way = _ from e2, Int.one_mul]
  exact ⟨_, _, _, _, rfl, h2⟩
theorem q_quietest {rm rr : Nat → Int32} (hD : Dr w rn m g kd a) (hr : RF rm rr) (v1 v2 pw : Int32) (st rest way cost may yrest yway : Nat → Int32) :
    ∃ x y, f_M_quietest v1 v2 (iz w) (iz rn) (iz m) (ar g) (ar kd) (ar a) pw st rest way rm = some x ∧ f_R_quietest v1 v2 (iz w) (iz rn) (iz m) (ar g) (ar kd) (ar a) rr cost may yrest yway = some y ∧ x.1 = y.1 ∧ RF x.2.2.2.2.2 y.2.1 := by
  obtain ⟨hw, hrn, hm, hg, hkd, ha⟩ := id hD
  obtain ⟨x, hx, rfl⟩ := anyI v1
  obtain ⟨v, hv, rfl⟩ := anyI v2
  obtain ⟨rm2, rr2, e1, e2, hr2⟩ := z_ref (why := -2) (by omega) hr
  unfold f_M_quietest f_R_quietest f_M_quietest_j16 f_R_quietest_j16
  by_cases c1 : 0 ≤ x ∧ x < m
  · obtain ⟨f, hf, rfl⟩ := natZ (n := m) c1
    by_cases c2 : -1 ≤ v ∧ v < w
    · obtain ⟨st', rest', way', e3, h3⟩ := z_leastOf hD hf pw st rest way
      obtain ⟨cost', may', yrest', yway', e4, h4⟩ := y_quiet hD hf cost may yrest yway
      simp (disch := omega) only [l_0, l_1, l_2, l_3, l_4, l_5, l_6, l_7, l_8, l_9, l_10, l_12, l_16, l_32, l_35, l_36, l_40, l_48, l_59, l_57, l_60, l_97, l_99, l_100, l_122, l_250, l_255, l_1000, l_10000, l_20000, l_1000000, l_12345, l_1103515245, iz_neg, iz_add, iz_sub, iz_mul, iz_lt, iz_le, iz_eq, Option.bind_some, b1_i0, b1_i1, zr_b1, Classical.not_not, if_pos, if_neg, z_isFeet, y_isFeet, z_isStepOrNone, y_isPlace]
      rw [e3, e4]
      simp only [Option.bind_some]
      by_cases c3 : v = -1
      · simp (disch := omega) only [l_0, l_1, l_2, l_3, l_4, l_5, l_6, l_7, l_8, l_9, l_10, l_12, l_16, l_32, l_35, l_36, l_40, l_48, l_59, l_57, l_60, l_97, l_99, l_100, l_122, l_250, l_255, l_1000, l_10000, l_20000, l_1000000, l_12345, l_1103515245, iz_neg, iz_add, iz_sub, iz_mul, iz_lt, iz_le, iz_eq, Option.bind_some, b1_i0, b1_i1, zr_b1, Classical.not_not, if_pos, if_neg]
        exact ⟨_, _, rfl, rfl, rfl, hr⟩
      · obtain ⟨k, hk, rfl⟩ := natZ (v := v) (n := w) (by omega)
        simp (disch := omega) only [l_0, l_1, l_2, l_3, l_4, l_5, l_6, l_7, l_8, l_9, l_10, l_12, l_16, l_32, l_35, l_36, l_40, l_48, l_59, l_57, l_60, l_97, l_99, l_100, l_122, l_250, l_255, l_1000, l_10000, l_20000, l_1000000, l_12345, l_1103515245, iz_neg, iz_add, iz_sub, iz_mul, iz_lt, iz_le, iz_eq, Option.bind_some, b1_i0, b1_i1, zr_b1, Classical.not_not, if_pos, if_neg]
        rw [z_cellOnWay (by omega), rdn _ (by omega) (by omega), h3 k hk, h4 k hk]
        exact ⟨_, _, rfl, rfl, rfl, hr⟩
    · simp (disch := omega) only [l_0, l_1, l_2, l_3, l_4, l_5, l_6, l_7, l_8, l_9, l_10, l_12, l_16, l_32, l_35, l_36, l_40, l_48, l_59, l_57, l_60, l_97, l_99, l_100, l_122, l_250, l_255, l_1000, l_10000, l_20000, l_1000000, l_12345, l_1103515245, iz_neg, iz_add, iz_sub, iz_mul, iz_lt, iz_le, iz_eq, Option.bind_some, b1_i0, b1_i1, zr_b1, Classical.not_not, if_pos, if_neg, z_isFeet, y_isFeet, z_isStepOrNone, y_isPlace, e1, e2]
      exact ⟨_, _, rfl, rfl, rfl, hr2⟩
  · simp (disch := omega) only [l_0, l_1, l_2, l_3, l_4, l_5, l_6, l_7, l_8, l_9, l_10, l_12, l_16, l_32, l_35, l_36, l_40, l_48, l_59, l_57, l_60, l_97, l_99, l_100, l_122, l_250, l_255, l_1000, l_10000, l_20000, l_1000000, l_12345, l_1103515245, iz_neg, iz_add, iz_sub, iz_mul, iz_lt, iz_le, iz_eq, Option.bind_some, b1_i0, b1_i1, zr_b1, Classical.not_not, if_pos, if_neg, z_isFeet, y_isFeet, e1, e2]
    exact ⟨_, _, rfl, rfl, rfl, hr2⟩
theorem q_loudest {rm rr : Nat → Int32} (hD : Dr w rn m g kd a) (hr : RF rm rr) (v1 v2 pw : Int32) (st rest way cost may yrest yway : Nat → Int32) :
    ∃ x y, f_M_loudest v1 v2 (iz w) (iz rn) (iz m) (ar g) (ar kd) (ar a) pw st rest way rm = some x ∧ f_R_loudest v1 v2 (iz w) (iz rn) (iz m) (ar g) (ar kd) (ar a) rr cost may yrest yway = some y ∧ x.1 = y.1 ∧ RF x.2.2.2.2.2 y.2.1 := by
  obtain ⟨hw, hrn, hm, hg, hkd, ha⟩ := id hD
  obtain ⟨x, hx, rfl⟩ := anyI v1
  obtain ⟨v, hv, rfl⟩ := anyI v2
  obtain ⟨rm2, rr2, e1, e2, hr2⟩ := z_ref (why := -2) (by omega) hr
  unfold f_M_loudest f_R_loudest f_M_loudest_j16 f_R_loudest_j16
  by_cases c1 : 0 ≤ x ∧ x < m
  · obtain ⟨f, hf, rfl⟩ := natZ (n := m) c1
    by_cases c2 : -1 ≤ v ∧ v < w
    · have hb : ∀ j, -37 ≤ -1 * stp w rn g kd a f j ∧ -1 * stp w rn g kd a f j ≤ 37 := fun j => by
        have := stp_bd (w := w) (kd := kd) (f := f) hg ha hrn.1 j
        omega
      obtain ⟨st', e5, h5⟩ := z_layCrunches (t := -1) hD hf pw st
      obtain ⟨rest', way', e3, h3⟩ := z_ls hw h5 hb rest way
      obtain ⟨cost', may', e6, h6⟩ := y_costs hD hf cost may
      obtain ⟨yrest', yway', e4, h4⟩ := y_ls (s := fun j => -1 * stp w rn g kd a f j) (σ := -1) (Or.inr rfl) hw (agr_congr h6 (fun j _ _ => by omega)) hb yrest yway
      simp (disch := omega) only [l_0, l_1, l_2, l_3, l_4, l_5, l_6, l_7, l_8, l_9, l_10, l_12, l_16, l_32, l_35, l_36, l_40, l_48, l_59, l_57, l_60, l_97, l_99, l_100, l_122, l_250, l_255, l_1000, l_10000, l_20000, l_1000000, l_12345, l_1103515245, iz_neg, iz_add, iz_sub, iz_mul, iz_lt, iz_le, iz_eq, Option.bind_some, b1_i0, b1_i1, zr_b1, Classical.not_not, if_pos, if_neg, z_isFeet, y_isFeet, z_isStepOrNone, y_isPlace]
      rw [e5, e6]
      simp only [Option.bind_some]
      rw [e3, e4]
      simp only [Option.bind_some]
      by_cases c3 : v = -1
      · simp (disch := omega) only [l_0, l_1, l_2, l_3, l_4, l_5, l_6, l_7, l_8, l_9, l_10, l_12, l_16, l_32, l_35, l_36, l_40, l_48, l_59, l_57, l_60, l_97, l_99, l_100, l_122, l_250, l_255, l_1000, l_10000, l_20000, l_1000000, l_12345, l_1103515245, iz_neg, iz_add, iz_sub, iz_mul, iz_lt, iz_le, iz_eq, Option.bind_some, b1_i0, b1_i1, zr_b1, Classical.not_not, if_pos, if_neg]
        exact ⟨_, _, rfl, rfl, by show iz (-ls w _) = iz (-1 * ls w _); congr 1; omega, hr⟩
      · obtain ⟨k, hk, rfl⟩ := natZ (v := v) (n := w) (by omega)
        simp (disch := omega) only [l_0, l_1, l_2, l_3, l_4, l_5, l_6, l_7, l_8, l_9, l_10, l_12, l_16, l_32, l_35, l_36, l_40, l_48, l_59, l_57, l_60, l_97, l_99, l_100, l_122, l_250, l_255, l_1000, l_10000, l_20000, l_1000000, l_12345, l_1103515245, iz_neg, iz_add, iz_sub, iz_mul, iz_lt, iz_le, iz_eq, Option.bind_some, b1_i0, b1_i1, zr_b1, Classical.not_not, if_pos, if_neg]
        rw [z_cellOnWay (by omega), rdn _ (by omega) (by omega), h3 k hk, h4 k hk]
        exact ⟨_, _, rfl, rfl, rfl, hr⟩
    · simp (disch := omega) only [l_0, l_1, l_2, l_3, l_4, l_5, l_6, l_7, l_8, l_9, l_10, l_12, l_16, l_32, l_35, l_36, l_40, l_48, l_59, l_57, l_60, l_97, l_99, l_100, l_122, l_250, l_255, l_1000, l_10000, l_20000, l_1000000, l_12345, l_1103515245, iz_neg, iz_add, iz_sub, iz_mul, iz_lt, iz_le, iz_eq, Option.bind_some, b1_i0, b1_i1, zr_b1, Classical.not_not, if_pos, if_neg, z_isFeet, y_isFeet, z_isStepOrNone, y_isPlace, e1, e2]
      exact ⟨_, _, rfl, rfl, rfl, hr2⟩
  · simp (disch := omega) only [l_0, l_1, l_2, l_3, l_4, l_5, l_6, l_7, l_8, l_9, l_10, l_12, l_16, l_32, l_35, l_36, l_40, l_48, l_59, l_57, l_60, l_97, l_99, l_100, l_122, l_250, l_255, l_1000, l_10000, l_20000, l_1000000, l_12345, l_1103515245, iz_neg, iz_add, iz_sub, iz_mul, iz_lt, iz_le, iz_eq, Option.bind_some, b1_i0, b1_i1, zr_b1, Classical.not_not, if_pos, if_neg, z_isFeet, y_isFeet, e1, e2]
    exact ⟨_, _, rfl, rfl, rfl, hr2⟩
end

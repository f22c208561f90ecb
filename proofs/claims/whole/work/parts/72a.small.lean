/-! folds of loops -/
def fo {α : Type} (f : Nat → α → α) : Nat → α → α
  | 0, a => a
  | n + 1, a => f n (fo f n a)
theorem loopF {σ ρ α : Type} {body : σ → Option (σ ⊕ ρ)} (mk : α → Nat → σ) (f : Nat → α → α) (out : α → ρ) (a0 : α) (N : Nat) (hN : N < 100000) (hb : ∀ k a, k < N → body (mk a k) = some (.inl (mk (f k a) (k + 1)))) (he : ∀ a, body (mk a N) = some (.inr (out a))) : iter body FUEL (mk a0 0) = some (out (fo f N a0)) :=
  loopS (fun k => mk (fo f k a0) k) (out (fo f N a0)) N hN (fun k hk => hb k _ hk) (he _)
theorem loopFI {σ ρ α : Type} {body : σ → Option (σ ⊕ ρ)} (I : Nat → α → Prop) (mk : α → Nat → σ) (f : Nat → α → α) (out : α → ρ) (a0 : α) (N : Nat) (hN : N < 100000) (h0 : I 0 a0) (hI : ∀ k a, k < N → I k a → I (k + 1) (f k a)) (hb : ∀ k a, k < N → I k a → body (mk a k) = some (.inl (mk (f k a) (k + 1)))) (he : ∀ a, I N a → body (mk a N) = some (.inr (out a))) : iter body FUEL (mk a0 0) = some (out (fo f N a0)) ∧ I N (fo f N a0) := by
  have inv : ∀ k, k ≤ N → I k (fo f k a0) := by
    intro k
    induction k with
    | zero => intro _; exact h0
    | succ k ih => intro h; exact hI k _ (by omega) (ih (by omega))
  exact ⟨loopS (fun k => mk (fo f k a0) k) (out (fo f N a0)) N hN (fun k hk => hb k _ hk (inv k (by omega))) (he _ (inv N (Nat.le_refl N))), inv N (Nat.le_refl N)⟩
theorem fo_congr {α : Type} {f g : Nat → α → α} : ∀ (n : Nat) (a : α), (∀ k x, k < n → f k x = g k x) → fo f n a = fo g n a
  | 0, _, _ => rfl
  | n + 1, a, h => by
    unfold fo
    rw [fo_congr n a (fun k x hk => h k x (by omega)), h n _ (by omega)]
/-! cells, columns -/
theorem z_cells {w : Nat} (hw : 2 ≤ w ∧ w ≤ 6) : f_D_cells (iz w) = some (iz ((w * w : Nat) : Int)) := by
  unfold f_D_cells
  have := sq_le hw
  have e : ((w : Int) * (w : Int)) = ((w * w : Nat) : Int) := by rw [Int.natCast_mul]
  rw [iz_mul, e, l_36, iz_min (by omega) (by omega)]
  congr 2
  omega
theorem z_isCell {v : Int} {w : Nat} (hv : -2147483648 ≤ v ∧ v < 2147483648) (hw : 2 ≤ w ∧ w ≤ 6) : f_M_isCell (iz v) (iz w) = some (b1 (0 ≤ v ∧ v < ((w * w : Nat) : Int))) := by
  unfold f_M_isCell
  have := sq_le hw
  rw [z_cells hw]
  simp only [Option.bind_some]
  rw [l_0, l_1, iz_sub, z_withinI hv (by omega) (by omega)]
  simp only [Option.bind_some, zr_b1]
  exact congrArg some (b1_c (by omega))
theorem y_isCell {v : Int} {w : Nat} (hv : -2147483648 ≤ v ∧ v < 2147483648) (hw : 2 ≤ w ∧ w ≤ 6) : f_R_isCell (iz v) (iz w) = some (b1 (0 ≤ v ∧ v < ((w * w : Nat) : Int))) := by
  unfold f_R_isCell
  have := sq_le hw
  have e : ((w : Int) * (w : Int)) = ((w * w : Nat) : Int) := by rw [Int.natCast_mul]
  rw [iz_mul, e, l_0, l_1, iz_sub, y_withinI hv (by omega) (by omega)]
  simp only [Option.bind_some, zr_b1]
  exact congrArg some (b1_c (by omega))
theorem z_isColumn {v : Int} {w : Nat} (hv : -2147483648 ≤ v ∧ v < 2147483648) (hw : 2 ≤ w ∧ w ≤ 6) : f_M_isColumn (iz v) (iz w) = some (b1 (0 ≤ v ∧ v < w)) := by
  unfold f_M_isColumn
  rw [l_0, l_1, iz_sub, z_withinI hv (by omega) (by omega)]
  simp only [Option.bind_some, zr_b1]
  exact congrArg some (b1_c (by omega))
theorem y_isColumn {v : Int} {w : Nat} (hv : -2147483648 ≤ v ∧ v < 2147483648) (hw : 2 ≤ w ∧ w ≤ 6) : f_R_isColumn (iz v) (iz w) = some (b1 (0 ≤ v ∧ v < w)) := by
  unfold f_R_isColumn
  rw [l_0, l_1, iz_sub, y_withinI hv (by omega) (by omega)]
  simp only [Option.bind_some, zr_b1]
  exact congrArg some (b1_c (by omega))
theorem z_isStepOrNone {v : Int} {w : Nat} (hv : -2147483648 ≤ v ∧ v < 2147483648) (hw : 2 ≤ w ∧ w ≤ 6) : f_M_isStepOrNone (iz v) (iz w) = some (b1 (-1 ≤ v ∧ v < w)) := by
  unfold f_M_isStepOrNone
  rw [l_m1, l_1, iz_sub, z_withinI hv (by omega) (by omega)]
  simp only [Option.bind_some, zr_b1]
  exact congrArg some (b1_c (by omega))
theorem y_isPlace {v : Int} {w : Nat} (hv : -2147483648 ≤ v ∧ v < 2147483648) (hw : 2 ≤ w ∧ w ≤ 6) : f_R_isPlace (iz v) (iz w) = some (b1 (-1 ≤ v ∧ v < w)) := by
  unfold f_R_isPlace
  rw [l_m1, l_1, iz_sub, y_withinI hv (by omega) (by omega)]
  simp only [Option.bind_some, zr_b1]
  exact congrArg some (b1_c (by omega))
/-! says -/
def und (a b : Nat) : Bool := b == 0 || a == b || (a == 3 && b == 1) || (a == 4 && b == 2)
theorem kinds_M : ∀ a, a < 6 → ∀ b, b < 6 → f_M_isOfKind (iz (a : Nat)) (iz (b : Nat)) = some (b1 (und a b = true)) := by decide +kernel
theorem kinds_R : ∀ a, a < 6 → ∀ b, b < 6 → f_R_isUnder (iz (a : Nat)) (iz (b : Nat)) = some (b1 (und a b = true)) := by decide +kernel
theorem q_says {m : Nat} {rn : Int} {g kd a l mk sz rl : Nat → Int} {el ro : Nat → Int64} {rm rr : Nat → Int32} (hm : m ≤ 8) (hrn : 0 ≤ rn ∧ rn ≤ 9) (hg : ∀ j, 0 ≤ g j ∧ g j ≤ 9) (hkd : ∀ j, 0 ≤ kd j ∧ kd j ≤ 5) (ha : ∀ j, 0 ≤ a j ∧ a j ≤ 9) (hsi : SI m mk sz rl el ro) (hr : RF rm rr) (v1 v2 : Int32) :
    ∃ ans rm' rr', f_M_says v1 v2 (iz rn) (iz m) (ar g) (ar kd) (ar a) (ar l) (ar mk) rm = some (ans, rm') ∧ f_R_says v1 v2 (iz rn) (ar g) (ar kd) (ar a) (ar l) (ar mk) rr = some (ans, rr') ∧ RF rm' rr' := by
  obtain ⟨s, hs, rfl⟩ := anyI v1
  obtain ⟨t, ht, rfl⟩ := anyI v2
  obtain ⟨rm2, rr2, e1, e2, hr2⟩ := z_ref (why := -2) (by omega) hr
  obtain ⟨rm3, rr3, e3, e4, hr3⟩ := z_ref (why := -3) (by omega) hr
  obtain ⟨rm4, rr4, e5, e6, hr4⟩ := z_ref (why := -4) (by omega) hr
  unfold f_M_says f_R_says f_M_says_j16 f_M_says_j75 f_R_says_j16
  by_cases c1 : 0 ≤ s ∧ s < 8
  · obtain ⟨k, hk, rfl⟩ := natZ (n := 8) c1
    have hb := hsi.mkb hm hk
    by_cases c2 : 0 ≤ t ∧ t ≤ 5
    · obtain ⟨t, ht6, rfl⟩ := natZ (v := t) (n := 6) (by omega)
      simp (disch := omega) only [l_0, l_1, l_2, l_3, l_4, l_5, l_6, l_7, l_8, l_9, l_10, l_12, l_16, l_32, l_35, l_36, l_40, l_48, l_59, l_57, l_60, l_97, l_99, l_100, l_122, l_250, l_255, l_1000, l_10000, l_20000, l_1000000, l_12345, l_1103515245, iz_neg, iz_add, iz_sub, iz_mul, iz_lt, iz_le, iz_eq, Option.bind_some, b1_i0, b1_i1, zr_b1, Classical.not_not, if_pos, if_neg, z_isShelf, y_isShelf, c1, c2, and_self, not_true_eq_false, if_false, z_withinI, y_withinI, z_heldBy, z_isFeet, y_isRow, rdn, ar_at, e1, e2, e3, e4, e5, e6]
      rcases hsi k hk with q | q | q
      · simp (disch := omega) only [iz_add, iz_sub, iz_mul, iz_lt, iz_le, iz_eq, Option.bind_some, b1_i0, b1_i1, zr_b1, Classical.not_not, if_pos, if_neg, e5, e6]
        exact ⟨_, _, _, rfl, rfl, hr4⟩
      · simp (disch := omega) only [iz_add, iz_sub, iz_mul, iz_lt, iz_le, iz_eq, Option.bind_some, b1_i0, b1_i1, zr_b1, Classical.not_not, if_pos, if_neg, e3, e4]
        exact ⟨_, _, _, rfl, rfl, hr3⟩
      · obtain ⟨f, hf, hfe⟩ := natZ (v := mk k - 10) (n := 8) (by omega)
        have hkf := hkd f
        obtain ⟨kf, hkf6, hkfe⟩ := natZ (v := kd f) (n := 6) (by omega)
        simp (disch := omega) only [iz_add, iz_sub, iz_mul, iz_lt, iz_le, iz_eq, Option.bind_some, b1_i0, b1_i1, zr_b1, Classical.not_not, if_pos, if_neg, hfe, z_kindOf, rdn, ar_at, hkfe, kinds_M, kinds_R, z_chanceOf]
        by_cases c3 : und kf t = true
        · by_cases c4 : (t : Int) = 0
          · simp only [c3, c4, not_true_eq_false, if_true, if_false]
            exact ⟨_, _, _, rfl, rfl, hr⟩
          · simp only [c3, c4, not_true_eq_false, if_false]
            have h1 : f_D_stepAs (iz f) (iz 0) (iz 1) (iz rn) (ar g) (ar kd) (ar a) = some (iz (cz rn g kd a f 0 1)) := z_stepAs (c := 0) (k := 1) hf (by omega) (by omega) hrn hg hkd ha
            have h2 : f_R_crunches (iz f) (iz 0) (iz 1) (iz rn) (ar g) (ar kd) (ar a) = some (iz (cz rn g kd a f 0 1)) := y_crunches (c := 0) (k := 1) hf (by omega) (by omega) hrn hg hkd ha
            rw [h1, h2]
            exact ⟨_, _, _, rfl, rfl, hr⟩
        · simp only [c3, not_false_eq_true, if_true, e3, e4, Option.bind_some]
          exact ⟨_, _, _, rfl, rfl, hr3⟩
    · simp (disch := omega) only [l_0, l_1, l_2, l_3, l_4, l_5, l_6, l_7, l_8, l_9, l_10, l_12, l_16, l_32, l_35, l_36, l_40, l_48, l_59, l_57, l_60, l_97, l_99, l_100, l_122, l_250, l_255, l_1000, l_10000, l_20000, l_1000000, l_12345, l_1103515245, iz_neg, iz_add, iz_sub, iz_mul, iz_lt, iz_le, iz_eq, Option.bind_some, b1_i0, b1_i1, zr_b1, Classical.not_not, if_pos, if_neg, z_isShelf, y_isShelf, c1, c2, and_self, not_true_eq_false, not_false_eq_true, if_true, if_false, z_withinI, y_withinI, e1, e2]
      exact ⟨_, _, _, rfl, rfl, hr2⟩
  · simp (disch := omega) only [l_0, l_1, l_2, l_3, l_4, l_5, l_6, l_7, l_8, l_9, l_10, l_12, l_16, l_32, l_35, l_36, l_40, l_48, l_59, l_57, l_60, l_97, l_99, l_100, l_122, l_250, l_255, l_1000, l_10000, l_20000, l_1000000, l_12345, l_1103515245, iz_neg, iz_add, iz_sub, iz_mul, iz_lt, iz_le, iz_eq, Option.bind_some, b1_i0, b1_i1, zr_b1, Classical.not_not, if_pos, if_neg, z_isShelf, y_isShelf, c1, not_false_eq_true, if_true, e1, e2]
    exact ⟨_, _, _, rfl, rfl, hr2⟩
/-! gravel, ask, feet, feed .. -/
theorem z_pour {g : Nat → Int} {c : Nat} {v : Int} (hc : c < 36) : f_D_pour (iz c) (iz v) (ar g) = some (ar (upz g c v)) := by
  unfold f_D_pour
  simp (disch := omega) only [l_0, l_1, l_2, l_3, l_4, l_5, l_6, l_7, l_8, l_9, l_10, l_12, l_16, l_32, l_35, l_36, l_40, l_48, l_59, l_57, l_60, l_97, l_99, l_100, l_122, l_250, l_255, l_1000, l_10000, l_20000, l_1000000, l_12345, l_1103515245, iz_neg, iz_add, iz_sub, iz_mul, iz_lt, iz_le, iz_eq, Option.bind_some, b1_i0, b1_i1, zr_b1, Classical.not_not, if_pos, if_neg, z_withinI, wrn, upd_ar]
theorem q_gravel {w : Nat} {g : Nat → Int} {rm rr : Nat → Int32} (hw : 2 ≤ w ∧ w ≤ 6) (hg : ∀ j, 0 ≤ g j ∧ g j ≤ 9) (hg0 : ∀ j, 36 ≤ j → g j = 0) (hr : RF rm rr) (v1 v2 : Int32) :
    ∃ ans g' rm' rr', f_M_gravel v1 v2 (iz w) (ar g) rm = some (ans, ar g', rm') ∧ f_R_gravel v1 v2 (iz w) (ar g) rr = some (ans, ar g', rr') ∧ (∀ j, 0 ≤ g' j ∧ g' j ≤ 9) ∧ (∀ j, 36 ≤ j → g' j = 0) ∧ RF rm' rr' := by
  obtain ⟨s, hs, rfl⟩ := anyI v1
  obtain ⟨t, ht, rfl⟩ := anyI v2
  obtain ⟨rm2, rr2, e1, e2, hr2⟩ := z_ref (why := -2) (by omega) hr
  have h36 := sq_le hw
  unfold f_M_gravel f_R_gravel f_M_gravel_j18 f_R_gravel_j18
  by_cases c1 : 0 ≤ s ∧ s < ((w * w : Nat) : Int)
  · obtain ⟨k, hk, rfl⟩ := natZ (n := w * w) c1
    by_cases c2 : 0 ≤ t ∧ t ≤ 9
    · simp (disch := omega) only [l_0, l_1, l_2, l_3, l_4, l_5, l_6, l_7, l_8, l_9, l_10, l_12, l_16, l_32, l_35, l_36, l_40, l_48, l_59, l_57, l_60, l_97, l_99, l_100, l_122, l_250, l_255, l_1000, l_10000, l_20000, l_1000000, l_12345, l_1103515245, iz_neg, iz_add, iz_sub, iz_mul, iz_lt, iz_le, iz_eq, Option.bind_some, b1_i0, b1_i1, zr_b1, Classical.not_not, if_pos, if_neg, z_isCell, y_isCell, c1, c2, and_self, not_true_eq_false, if_false, z_withinI, y_withinI, z_stonesOn, z_pour, rdn, wrn, ar_at, upd_ar]
      refine ⟨_, _, _, _, rfl, rfl, fun j => ?_, fun j hj => ?_, hr⟩
      · unfold upz
        split
        · exact c2
        · exact hg j
      · unfold upz
        rw [if_neg (by omega)]
        exact hg0 j hj
    · simp (disch := omega) only [l_0, l_1, l_2, l_3, l_4, l_5, l_6, l_7, l_8, l_9, l_10, l_12, l_16, l_32, l_35, l_36, l_40, l_48, l_59, l_57, l_60, l_97, l_99, l_100, l_122, l_250, l_255, l_1000, l_10000, l_20000, l_1000000, l_12345, l_1103515245, iz_neg, iz_add, iz_sub, iz_mul, iz_lt, iz_le, iz_eq, Option.bind_some, b1_i0, b1_i1, zr_b1, Classical.not_not, if_pos, if_neg, z_isCell, y_isCell, c1, c2, and_self, not_true_eq_false, not_false_eq_true, if_true, if_false, z_withinI, y_withinI, e1, e2]
      exact ⟨_, _, _, _, rfl, rfl, hg, hg0, hr2⟩
  · simp (disch := omega) only [l_0, l_1, l_2, l_3, l_4, l_5, l_6, l_7, l_8, l_9, l_10, l_12, l_16, l_32, l_35, l_36, l_40, l_48, l_59, l_57, l_60, l_97, l_99, l_100, l_122, l_250, l_255, l_1000, l_10000, l_20000, l_1000000, l_12345, l_1103515245, iz_neg, iz_add, iz_sub, iz_mul, iz_lt, iz_le, iz_eq, Option.bind_some, b1_i0, b1_i1, zr_b1, Classical.not_not, if_pos, if_neg, z_isCell, y_isCell, c1, not_false_eq_true, if_true, e1, e2]
    exact ⟨_, _, _, _, rfl, rfl, hg, hg0, hr2⟩
theorem q_ask {rn er : Int} {rm rr : Nat → Int32} (hrn : 0 ≤ rn ∧ rn ≤ 9) (her : 1 ≤ er ∧ er ≤ 99) (hr : RF rm rr) (v1 v2 : Int32) :
    ∃ ans rn' er' rm' rr', f_M_ask v1 v2 (iz rn) (iz er) rm = some (ans, iz rn', iz er', rm') ∧ f_R_ask v1 v2 (iz rn) (iz er) rr = some (ans, iz rn', iz er', rr') ∧ (0 ≤ rn' ∧ rn' ≤ 9) ∧ (1 ≤ er' ∧ er' ≤ 99) ∧ RF rm' rr' := by
  obtain ⟨s, hs, rfl⟩ := anyI v1
  obtain ⟨t, ht, rfl⟩ := anyI v2
  obtain ⟨rm2, rr2, e1, e2, hr2⟩ := z_ref (why := -2) (by omega) hr
  unfold f_M_ask f_R_ask f_M_ask_j33 f_M_ask_j67 f_R_ask_j22 f_R_ask_j28 f_R_ask_j50
  simp (disch := omega) only [l_0, l_1, l_2, l_3, l_4, l_5, l_6, l_7, l_8, l_9, l_10, l_12, l_16, l_32, l_35, l_36, l_40, l_48, l_59, l_57, l_60, l_97, l_99, l_100, l_122, l_250, l_255, l_1000, l_10000, l_20000, l_1000000, l_12345, l_1103515245, iz_neg, iz_add, iz_sub, iz_mul, iz_lt, iz_le, iz_eq, Option.bind_some, b1_i0, b1_i1, zr_b1, Classical.not_not, if_pos, if_neg, z_withinI, y_withinI, e1, e2]
  by_cases c1 : s = 0
  · subst c1
    by_cases c2 : 0 ≤ t ∧ t ≤ 9
    · simp (disch := omega) only [iz_add, iz_sub, iz_mul, iz_lt, iz_le, iz_eq, Option.bind_some, b1_i0, b1_i1, zr_b1, Classical.not_not, if_pos, if_neg, z_withinI, y_withinI, e1, e2]
      exact ⟨_, t, er, _, _, rfl, rfl, c2, her, hr⟩
    · simp (disch := omega) only [iz_add, iz_sub, iz_mul, iz_lt, iz_le, iz_eq, Option.bind_some, b1_i0, b1_i1, zr_b1, Classical.not_not, if_pos, if_neg, z_withinI, y_withinI, e1, e2]
      exact ⟨_, rn, er, _, _, rfl, rfl, hrn, her, hr2⟩
  · by_cases c3 : s = 1
    · subst c3
      by_cases c2 : 1 ≤ t ∧ t ≤ 99
      · simp (disch := omega) only [iz_add, iz_sub, iz_mul, iz_lt, iz_le, iz_eq, Option.bind_some, b1_i0, b1_i1, zr_b1, Classical.not_not, if_pos, if_neg, z_withinI, y_withinI, e1, e2]
        exact ⟨_, rn, t, _, _, rfl, rfl, hrn, c2, hr⟩
      · simp (disch := omega) only [iz_add, iz_sub, iz_mul, iz_lt, iz_le, iz_eq, Option.bind_some, b1_i0, b1_i1, zr_b1, Classical.not_not, if_pos, if_neg, z_withinI, y_withinI, e1, e2]
        exact ⟨_, rn, er, _, _, rfl, rfl, hrn, her, hr2⟩
    · simp (disch := omega) only [iz_add, iz_sub, iz_mul, iz_lt, iz_le, iz_eq, Option.bind_some, b1_i0, b1_i1, zr_b1, Classical.not_not, if_pos, if_neg, z_withinI, y_withinI, e1, e2]
      exact ⟨_, rn, er, _, _, rfl, rfl, hrn, her, hr2⟩
theorem z_isFull {m : Nat} (hm : m ≤ 8) : f_D_isFull (iz m) = some (b1 (m = 8)) := by
  unfold f_D_isFull b1
  by_cases c : m = 8
  · simp (disch := omega) only [l_0, l_1, l_2, l_3, l_4, l_5, l_6, l_7, l_8, l_9, l_10, l_12, l_16, l_32, l_35, l_36, l_40, l_48, l_59, l_57, l_60, l_97, l_99, l_100, l_122, l_250, l_255, l_1000, l_10000, l_20000, l_1000000, l_12345, l_1103515245, iz_neg, iz_add, iz_sub, iz_mul, iz_lt, iz_le, iz_eq, Option.bind_some, b1_i0, b1_i1, zr_b1, Classical.not_not, if_pos, if_neg]
  · simp (disch := omega) only [l_0, l_1, l_2, l_3, l_4, l_5, l_6, l_7, l_8, l_9, l_10, l_12, l_16, l_32, l_35, l_36, l_40, l_48, l_59, l_57, l_60, l_97, l_99, l_100, l_122, l_250, l_255, l_1000, l_10000, l_20000, l_1000000, l_12345, l_1103515245, iz_neg, iz_add, iz_sub, iz_mul, iz_lt, iz_le, iz_eq, Option.bind_some, b1_i0, b1_i1, zr_b1, Classical.not_not, if_pos, if_neg]
theorem q_feet {m : Nat} {kd a l : Nat → Int} {rm rr : Nat → Int32} (hm : m ≤ 8) (hkd : ∀ j, 0 ≤ kd j ∧ kd j ≤ 5) (ha : ∀ j, 0 ≤ a j ∧ a j ≤ 9) (hl : ∀ j, 0 ≤ l j ∧ l j ≤ 99) (hl1 : ∀ j, j < m → 1 ≤ l j) (h80 : ∀ j, 8 ≤ j → kd j = 0 ∧ a j = 0 ∧ l j = 0) (hr : RF rm rr) (v1 v2 v3 : Int32) :
    ∃ (ans : Int32) (m' : Nat) (kd' a' l' : Nat → Int) (rm' rr' : Nat → Int32), f_M_feet v1 v2 v3 (iz m) (ar kd) (ar a) (ar l) rm = some (ans, iz m', ar kd', ar a', ar l', rm') ∧ f_R_feet v1 v2 v3 (iz m) (ar kd) (ar a) (ar l) rr = some (ans, iz m', ar kd', ar a', ar l', rr') ∧ m ≤ m' ∧ m' ≤ 8 ∧ (∀ j, 0 ≤ kd' j ∧ kd' j ≤ 5) ∧ (∀ j, 0 ≤ a' j ∧ a' j ≤ 9) ∧ (∀ j, 0 ≤ l' j ∧ l' j ≤ 99) ∧ (∀ j, j < m' → 1 ≤ l' j) ∧ (∀ j, 8 ≤ j → kd' j = 0 ∧ a' j = 0 ∧ l' j = 0) ∧ RF rm' rr' := by
  obtain ⟨x, hx, rfl⟩ := anyI v1
  obtain ⟨y, hy, rfl⟩ := anyI v2
  obtain ⟨z, hz, rfl⟩ := anyI v3
  obtain ⟨rm2, rr2, e1, e2, hr2⟩ := z_ref (why := -2) (by omega) hr
  obtain ⟨rm6, rr6, e3, e4, hr6⟩ := z_ref (why := -6) (by omega) hr
  unfold f_M_feet f_R_feet f_M_feet_j29 f_R_feet_j29 f_D_welcome f_R_newFeet
  by_cases c : (0 ≤ x ∧ x ≤ 5) ∧ (0 ≤ y ∧ y ≤ 9) ∧ (1 ≤ z ∧ z ≤ 99)
  · obtain ⟨c1, c2, c3⟩ := c
    by_cases c8 : m = 8
    · simp (disch := omega) only [l_0, l_1, l_2, l_3, l_4, l_5, l_6, l_7, l_8, l_9, l_10, l_12, l_16, l_32, l_35, l_36, l_40, l_48, l_59, l_57, l_60, l_97, l_99, l_100, l_122, l_250, l_255, l_1000, l_10000, l_20000, l_1000000, l_12345, l_1103515245, iz_neg, iz_add, iz_sub, iz_mul, iz_lt, iz_le, iz_eq, Option.bind_some, b1_i0, b1_i1, zr_b1, Classical.not_not, if_pos, if_neg, z_withinI, y_withinI, z_isFull, e3, e4]
      exact ⟨_, m, kd, a, l, _, _, rfl, rfl, Nat.le_refl m, hm, hkd, ha, hl, hl1, h80, hr6⟩
    · simp (disch := omega) only [l_0, l_1, l_2, l_3, l_4, l_5, l_6, l_7, l_8, l_9, l_10, l_12, l_16, l_32, l_35, l_36, l_40, l_48, l_59, l_57, l_60, l_97, l_99, l_100, l_122, l_250, l_255, l_1000, l_10000, l_20000, l_1000000, l_12345, l_1103515245, iz_neg, iz_add, iz_sub, iz_mul, iz_lt, iz_le, iz_eq, Option.bind_some, b1_i0, b1_i1, zr_b1, Classical.not_not, if_pos, if_neg, z_withinI, y_withinI, z_isFull, wrn, upd_ar]
      refine ⟨_, m + 1, _, _, _, _, _, rfl, rfl, by omega, by omega, fun j => ?_, fun j => ?_, fun j => ?_, fun j hj => ?_, fun j hj => ?_, hr⟩
      · unfold upz; split
        · exact c1
        · exact hkd j
      · unfold upz; split
        · exact c2
        · exact ha j
      · unfold upz; split
        · omega
        · exact hl j
      · unfold upz; split
        · omega
        · exact hl1 j (by omega)
      · unfold upz
        simp only [if_neg (show ¬ j = m by omega)]
        exact h80 j hj
  · by_cases c1 : 0 ≤ x ∧ x ≤ 5
    · by_cases c2 : 0 ≤ y ∧ y ≤ 9
      · simp (disch := omega) only [l_0, l_1, l_2, l_3, l_4, l_5, l_6, l_7, l_8, l_9, l_10, l_12, l_16, l_32, l_35, l_36, l_40, l_48, l_59, l_57, l_60, l_97, l_99, l_100, l_122, l_250, l_255, l_1000, l_10000, l_20000, l_1000000, l_12345, l_1103515245, iz_neg, iz_add, iz_sub, iz_mul, iz_lt, iz_le, iz_eq, Option.bind_some, b1_i0, b1_i1, zr_b1, Classical.not_not, if_pos, if_neg, z_withinI, y_withinI, e1, e2]
        exact ⟨_, m, kd, a, l, _, _, rfl, rfl, Nat.le_refl m, hm, hkd, ha, hl, hl1, h80, hr2⟩
      · simp (disch := omega) only [l_0, l_1, l_2, l_3, l_4, l_5, l_6, l_7, l_8, l_9, l_10, l_12, l_16, l_32, l_35, l_36, l_40, l_48, l_59, l_57, l_60, l_97, l_99, l_100, l_122, l_250, l_255, l_1000, l_10000, l_20000, l_1000000, l_12345, l_1103515245, iz_neg, iz_add, iz_sub, iz_mul, iz_lt, iz_le, iz_eq, Option.bind_some, b1_i0, b1_i1, zr_b1, Classical.not_not, if_pos, if_neg, z_withinI, y_withinI, e1, e2]
        exact ⟨_, m, kd, a, l, _, _, rfl, rfl, Nat.le_refl m, hm, hkd, ha, hl, hl1, h80, hr2⟩
    · simp (disch := omega) only [l_0, l_1, l_2, l_3, l_4, l_5, l_6, l_7, l_8, l_9, l_10, l_12, l_16, l_32, l_35, l_36, l_40, l_48, l_59, l_57, l_60, l_97, l_99, l_100, l_122, l_250, l_255, l_1000, l_10000, l_20000, l_1000000, l_12345, l_1103515245, iz_neg, iz_add, iz_sub, iz_mul, iz_lt, iz_le, iz_eq, Option.bind_some, b1_i0, b1_i1, zr_b1, Classical.not_not, if_pos, if_neg, z_withinI, y_withinI, e1, e2]
      exact ⟨_, m, kd, a, l, _, _, rfl, rfl, Nat.le_refl m, hm, hkd, ha, hl, hl1, h80, hr2⟩
theorem q_feed {n : Nat} {lt : Nat → Int} {rm rr : Nat → Int32} (hn : n ≤ 250) (hlt : ∀ j, 0 ≤ lt j ∧ lt j ≤ 255) (hr : RF rm rr) (v1 : Int32) :
    ∃ (ans : Int32) (n' : Nat) (lt' : Nat → Int) (rm' rr' : Nat → Int32), f_M_feed v1 (iz n) (ar lt) rm = some (ans, iz n', ar lt', rm') ∧ f_R_feed v1 (iz n) (ar lt) rr = some (ans, iz n', ar lt', rr') ∧ n' ≤ 250 ∧ (∀ j, 0 ≤ lt' j ∧ lt' j ≤ 255) ∧ RF rm' rr' := by
  obtain ⟨x, hx, rfl⟩ := anyI v1
  obtain ⟨rm2, rr2, e1, e2, hr2⟩ := z_ref (why := -2) (by omega) hr
  obtain ⟨rm6, rr6, e3, e4, hr6⟩ := z_ref (why := -6) (by omega) hr
  unfold f_M_feed f_R_feed f_T_isFull f_T_append
  by_cases c1 : 0 ≤ x ∧ x ≤ 255
  · by_cases c2 : n = 250
    · simp (disch := omega) only [l_0, l_1, l_2, l_3, l_4, l_5, l_6, l_7, l_8, l_9, l_10, l_12, l_16, l_32, l_35, l_36, l_40, l_48, l_59, l_57, l_60, l_97, l_99, l_100, l_122, l_250, l_255, l_1000, l_10000, l_20000, l_1000000, l_12345, l_1103515245, iz_neg, iz_add, iz_sub, iz_mul, iz_lt, iz_le, iz_eq, Option.bind_some, b1_i0, b1_i1, zr_b1, Classical.not_not, if_pos, if_neg, z_withinI, y_withinI, e3, e4]
      exact ⟨_, n, lt, _, _, rfl, rfl, hn, hlt, hr6⟩
    · simp (disch := omega) only [l_0, l_1, l_2, l_3, l_4, l_5, l_6, l_7, l_8, l_9, l_10, l_12, l_16, l_32, l_35, l_36, l_40, l_48, l_59, l_57, l_60, l_97, l_99, l_100, l_122, l_250, l_255, l_1000, l_10000, l_20000, l_1000000, l_12345, l_1103515245, iz_neg, iz_add, iz_sub, iz_mul, iz_lt, iz_le, iz_eq, Option.bind_some, b1_i0, b1_i1, zr_b1, Classical.not_not, if_pos, if_neg, z_withinI, y_withinI, l_249, wrn, upd_ar]
      refine ⟨_, n + 1, _, _, _, rfl, rfl, by omega, fun j => ?_, hr⟩
      unfold upz; split
      · exact c1
      · exact hlt j
  · simp (disch := omega) only [l_0, l_1, l_2, l_3, l_4, l_5, l_6, l_7, l_8, l_9, l_10, l_12, l_16, l_32, l_35, l_36, l_40, l_48, l_59, l_57, l_60, l_97, l_99, l_100, l_122, l_250, l_255, l_1000, l_10000, l_20000, l_1000000, l_12345, l_1103515245, iz_neg, iz_add, iz_sub, iz_mul, iz_lt, iz_le, iz_eq, Option.bind_some, b1_i0, b1_i1, zr_b1, Classical.not_not, if_pos, if_neg, z_withinI, y_withinI, e1, e2]
    exact ⟨_, n, lt, _, _, rfl, rfl, hn, hlt, hr2⟩
theorem q_feetOf {m : Nat} {kd a l : Nat → Int} {rm rr : Nat → Int32} (hm : m ≤ 8) (hr : RF rm rr) (v1 v2 : Int32) :
    ∃ ans rm' rr', f_M_feetOf v1 v2 (iz m) (ar kd) (ar a) (ar l) rm = some (ans, rm') ∧ f_R_feetOf v1 v2 (iz m) (ar kd) (ar a) (ar l) rr = some (ans, rr') ∧ RF rm' rr' := by
  obtain ⟨x, hx, rfl⟩ := anyI v1
  obtain ⟨y, hy, rfl⟩ := anyI v2
  obtain ⟨rm2, rr2, e1, e2, hr2⟩ := z_ref (why := -2) (by omega) hr
  unfold f_M_feetOf f_R_feetOf f_M_feetOf_j17 f_R_feetOf_j17
  by_cases c1 : 0 ≤ x ∧ x < m
  · obtain ⟨f, hf, rfl⟩ := natZ (n := m) c1
    by_cases c2 : 0 ≤ y ∧ y ≤ 2
    · by_cases c3 : y = 0
      · simp (disch := omega) only [l_0, l_1, l_2, l_3, l_4, l_5, l_6, l_7, l_8, l_9, l_10, l_12, l_16, l_32, l_35, l_36, l_40, l_48, l_59, l_57, l_60, l_97, l_99, l_100, l_122, l_250, l_255, l_1000, l_10000, l_20000, l_1000000, l_12345, l_1103515245, iz_neg, iz_add, iz_sub, iz_mul, iz_lt, iz_le, iz_eq, Option.bind_some, b1_i0, b1_i1, zr_b1, Classical.not_not, if_pos, if_neg, z_isFeet, y_isFeet, z_withinI, y_withinI, z_kindOf, z_weightOf, z_chanceOf, rdn, ar_at]
        exact ⟨_, _, _, rfl, rfl, hr⟩
      · by_cases c4 : y = 1
        · simp (disch := omega) only [l_0, l_1, l_2, l_3, l_4, l_5, l_6, l_7, l_8, l_9, l_10, l_12, l_16, l_32, l_35, l_36, l_40, l_48, l_59, l_57, l_60, l_97, l_99, l_100, l_122, l_250, l_255, l_1000, l_10000, l_20000, l_1000000, l_12345, l_1103515245, iz_neg, iz_add, iz_sub, iz_mul, iz_lt, iz_le, iz_eq, Option.bind_some, b1_i0, b1_i1, zr_b1, Classical.not_not, if_pos, if_neg, z_isFeet, y_isFeet, z_withinI, y_withinI, z_kindOf, z_weightOf, z_chanceOf, rdn, ar_at]
          exact ⟨_, _, _, rfl, rfl, hr⟩
        · simp (disch := omega) only [l_0, l_1, l_2, l_3, l_4, l_5, l_6, l_7, l_8, l_9, l_10, l_12, l_16, l_32, l_35, l_36, l_40, l_48, l_59, l_57, l_60, l_97, l_99, l_100, l_122, l_250, l_255, l_1000, l_10000, l_20000, l_1000000, l_12345, l_1103515245, iz_neg, iz_add, iz_sub, iz_mul, iz_lt, iz_le, iz_eq, Option.bind_some, b1_i0, b1_i1, zr_b1, Classical.not_not, if_pos, if_neg, z_isFeet, y_isFeet, z_withinI, y_withinI, z_kindOf, z_weightOf, z_chanceOf, rdn, ar_at]
          exact ⟨_, _, _, rfl, rfl, hr⟩
    · simp (disch := omega) only [l_0, l_1, l_2, l_3, l_4, l_5, l_6, l_7, l_8, l_9, l_10, l_12, l_16, l_32, l_35, l_36, l_40, l_48, l_59, l_57, l_60, l_97, l_99, l_100, l_122, l_250, l_255, l_1000, l_10000, l_20000, l_1000000, l_12345, l_1103515245, iz_neg, iz_add, iz_sub, iz_mul, iz_lt, iz_le, iz_eq, Option.bind_some, b1_i0, b1_i1, zr_b1, Classical.not_not, if_pos, if_neg, z_isFeet, y_isFeet, z_withinI, y_withinI, e1, e2]
      exact ⟨_, _, _, rfl, rfl, hr2⟩
  · simp (disch := omega) only [l_0, l_1, l_2, l_3, l_4, l_5, l_6, l_7, l_8, l_9, l_10, l_12, l_16, l_32, l_35, l_36, l_40, l_48, l_59, l_57, l_60, l_97, l_99, l_100, l_122, l_250, l_255, l_1000, l_10000, l_20000, l_1000000, l_12345, l_1103515245, iz_neg, iz_add, iz_sub, iz_mul, iz_lt, iz_le, iz_eq, Option.bind_some, b1_i0, b1_i1, zr_b1, Classical.not_not, if_pos, if_neg, z_isFeet, y_isFeet, e1, e2]
    exact ⟨_, _, _, rfl, rfl, hr2⟩
theorem SI.more {m m' : Nat} {mk sz rl : Nat → Int} {el ro : Nat → Int64} (h : SI m mk sz rl el ro) (hm : m ≤ m') : SI m' mk sz rl el ro := by
  intro q hq
  rcases h q hq with c | c | c
  · exact Or.inl c
  · exact Or.inr (Or.inl c)
  · exact Or.inr (Or.inr ⟨c.1, by omega, c.2.2⟩)

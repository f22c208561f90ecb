/-! shelves -/
def SI (m : Nat) (mk sz rl : Nat → Int) (el ro : Nat → Int64) : Prop :=
  ∀ s : Nat, s < 8 → (mk s = -1 ∧ sz s = 0) ∨ (0 ≤ mk s ∧ mk s ≤ 4 ∧ 0 ≤ sz s ∧ sz s ≤ 40 ∧ rl s = sz s ∧ ∀ i : Nat, (i : Int) < sz s → el (40 * s + i) = ro (40 * s + i)) ∨ (10 ≤ mk s ∧ mk s < 10 + m ∧ sz s = 0)
theorem SI.mkb {m : Nat} {mk sz rl : Nat → Int} {el ro : Nat → Int64} (h : SI m mk sz rl el ro) (hm : m ≤ 8) {s : Nat} (hs : s < 8) : -1 ≤ mk s ∧ mk s < 18 ∧ 0 ≤ sz s ∧ sz s ≤ 40 := by
  rcases h s hs with q | q | q <;> omega
theorem natZ {v : Int} {n : Nat} (h : 0 ≤ v ∧ v < n) : ∃ k : Nat, k < n ∧ v = k := ⟨v.toNat, by omega, by omega⟩
theorem z_heldBy {mk : Nat → Int} {s : Nat} (hs : s < 8) : f_S_heldBy (iz s) (ar mk) = some (iz (mk s)) := by
  unfold f_S_heldBy
  rw [z_isShelf (by omega)]
  simp only [Option.bind_some]
  rw [if_neg (by rw [b1_0]; omega), rdn s (by omega) hs]
  rfl
theorem z_heldByN {mk : Nat → Int} {s : Int} (hs : -2147483648 ≤ s ∧ s < 2147483648) (h : ¬ (0 ≤ s ∧ s < 8)) : f_S_heldBy (iz s) (ar mk) = some (iz (-1)) := by
  unfold f_S_heldBy
  rw [z_isShelf hs]
  simp only [Option.bind_some]
  rw [if_pos (by rw [b1_0]; exact h)]
  rfl
theorem z_sizeOf {sz : Nat → Int} {s : Nat} (hs : s < 8) : f_S_sizeOf (iz s) (ar sz) = some (iz (sz s)) := by
  unfold f_S_sizeOf
  rw [z_isShelf (by omega)]
  simp only [Option.bind_some]
  rw [if_neg (by rw [b1_0]; omega), rdn s (by omega) hs]
  rfl
theorem z_sizeOfN {sz : Nat → Int} {s : Int} (hs : -2147483648 ≤ s ∧ s < 2147483648) (h : ¬ (0 ≤ s ∧ s < 8)) : f_S_sizeOf (iz s) (ar sz) = some (iz 0) := by
  unfold f_S_sizeOf
  rw [z_isShelf hs]
  simp only [Option.bind_some]
  rw [if_pos (by rw [b1_0]; exact h)]
  rfl
def wnr (h : Int) : Int := if h = -1 then -4 else if 10 ≤ h then -3 else 0
theorem z_whyNoRow {mk : Nat → Int} {s : Nat} (hs : s < 8) (hm : -1 ≤ mk s ∧ mk s < 18) : f_S_whyNoRow (iz s) (ar mk) = some (iz (wnr (mk s))) := by
  unfold f_S_whyNoRow wnr
  rw [z_heldBy hs]
  simp (disch := omega) only [l_0, l_1, l_2, l_3, l_4, l_5, l_6, l_7, l_8, l_9, l_10, l_12, l_16, l_32, l_35, l_36, l_40, l_48, l_59, l_57, l_60, l_97, l_99, l_100, l_122, l_250, l_255, l_1000, l_10000, l_20000, l_1000000, l_12345, l_1103515245, iz_neg, iz_add, iz_sub, iz_mul, iz_lt, iz_le, iz_eq, Option.bind_some, b1_i0, b1_i1, zr_b1, Classical.not_not]
  split
  · rfl
  · split <;> rfl
theorem y_isRow {mk : Nat → Int} {s : Nat} (hs : s < 8) (hm : -1 ≤ mk s ∧ mk s < 18) : f_R_isRow (iz s) (ar mk) = some (b1 (0 ≤ mk s ∧ mk s ≤ 4)) := by
  unfold f_R_isRow
  rw [rdn s (by omega) hs]
  simp only [Option.bind_some, ar_at, l_0, l_4]
  rw [y_withinI (by omega) (by omega) (by omega)]
  simp only [Option.bind_some, zr_b1]
theorem y_noRow {mk : Nat → Int} {s : Nat} (hs : s < 8) (hm : -1 ≤ mk s ∧ mk s < 18) : f_R_noRow (iz s) (ar mk) = some (iz (wnr (mk s))) := by
  unfold f_R_noRow wnr
  rw [rdn s (by omega) hs]
  simp only [ar_at]
  simp (disch := omega) only [l_0, l_1, l_2, l_3, l_4, l_5, l_6, l_7, l_8, l_9, l_10, l_12, l_16, l_32, l_35, l_36, l_40, l_48, l_59, l_57, l_60, l_97, l_99, l_100, l_122, l_250, l_255, l_1000, l_10000, l_20000, l_1000000, l_12345, l_1103515245, iz_neg, iz_add, iz_sub, iz_mul, iz_lt, iz_le, iz_eq, Option.bind_some, b1_i0, b1_i1, zr_b1, Classical.not_not]
  by_cases c1 : mk s < 10
  · rw [if_pos c1]
    by_cases c2 : 0 ≤ mk s
    · rw [if_pos c2, if_neg (by omega), if_neg (by omega)]
    · rw [if_neg c2, if_pos (by omega)]
  · rw [if_neg c1, if_neg (by omega), if_pos (by omega)]
/-- a row's first n elements are 0 -/
def zeroed (el : Nat → Int64) (s n : Nat) : Nat → Int64 := fun j => if 40 * s ≤ j ∧ j < 40 * s + n then 0 else el j
theorem zeroed_step (el : Nat → Int64) (s k : Nat) : vp_updL (zeroed el s k) (40 * s + k) 0 = zeroed el s (k + 1) := by
  funext j
  unfold vp_updL zeroed
  by_cases h : j = 40 * s + k
  · rw [if_pos h, if_pos (by omega)]
  · rw [if_neg h]
    by_cases h2 : 40 * s ≤ j ∧ j < 40 * s + k
    · rw [if_pos h2, if_pos (by omega)]
    · rw [if_neg h2, if_neg (by omega)]
theorem zeroed_0 (el : Nat → Int64) (s : Nat) : zeroed el s 0 = el := by
  funext j
  unfold zeroed
  rw [if_neg (by omega)]
theorem z_layRowL {s n : Nat} {el : Nat → Int64} (hs : s < 8) (hn : n ≤ 40) : f_S_layRow_l35 (iz s) (iz n) (iz 0) el = some (zeroed el s n) := by
  unfold f_S_layRow_l35
  have h := loopS (body := fun q : Int32 × (Nat → Int64) => f_S_layRow_b35 (iz s) (iz n) q.1 q.2) (fun k => (iz k, zeroed el s k)) (zeroed el s n) n (by omega)
    (fun k hk => by
      simp only [f_S_layRow_b35]
      simp (disch := omega) only [l_0, l_1, l_2, l_3, l_4, l_5, l_6, l_7, l_8, l_9, l_10, l_12, l_16, l_32, l_35, l_36, l_40, l_48, l_59, l_57, l_60, l_97, l_99, l_100, l_122, l_250, l_255, l_1000, l_10000, l_20000, l_1000000, l_12345, l_1103515245, iz_neg, iz_add, iz_sub, iz_mul, iz_lt, iz_le, iz_eq, Option.bind_some, b1_i0, b1_i1, zr_b1, Classical.not_not, wrL_iz]
      rw [if_neg (by omega)]
      have e : ((s : Int) * 40 + (k : Int)).toNat = 40 * s + k := by omega
      rw [e, zeroed_step]
      rfl)
    (by
      simp only [f_S_layRow_b35]
      simp (disch := omega) only [l_0, l_1, l_2, l_3, l_4, l_5, l_6, l_7, l_8, l_9, l_10, l_12, l_16, l_32, l_35, l_36, l_40, l_48, l_59, l_57, l_60, l_97, l_99, l_100, l_122, l_250, l_255, l_1000, l_10000, l_20000, l_1000000, l_12345, l_1103515245, iz_neg, iz_add, iz_sub, iz_mul, iz_lt, iz_le, iz_eq, Option.bind_some, b1_i0, b1_i1, zr_b1, Classical.not_not]
      rw [if_pos (by omega)])
  rw [zeroed_0] at h
  exact h
theorem y_rowL {s : Nat} {el : Nat → Int64} (hs : s < 8) : f_R_row_l50 (iz s) (iz 0) el = some (zeroed el s 40) := by
  unfold f_R_row_l50
  have h := loopS (body := fun q : Int32 × (Nat → Int64) => f_R_row_b50 (iz s) q.1 q.2) (fun k => (iz k, zeroed el s k)) (zeroed el s 40) 40 (by omega)
    (fun k hk => by
      simp only [f_R_row_b50]
      simp (disch := omega) only [l_0, l_1, l_2, l_3, l_4, l_5, l_6, l_7, l_8, l_9, l_10, l_12, l_16, l_32, l_35, l_36, l_40, l_48, l_59, l_57, l_60, l_97, l_99, l_100, l_122, l_250, l_255, l_1000, l_10000, l_20000, l_1000000, l_12345, l_1103515245, iz_neg, iz_add, iz_sub, iz_mul, iz_lt, iz_le, iz_eq, Option.bind_some, b1_i0, b1_i1, zr_b1, Classical.not_not, wrL_iz]
      rw [if_neg (by omega)]
      have e : (40 * (s : Int) + (k : Int)).toNat = 40 * s + k := by omega
      rw [e, zeroed_step]
      rfl)
    (by
      simp only [f_R_row_b50]
      simp (disch := omega) only [l_0, l_1, l_2, l_3, l_4, l_5, l_6, l_7, l_8, l_9, l_10, l_12, l_16, l_32, l_35, l_36, l_40, l_48, l_59, l_57, l_60, l_97, l_99, l_100, l_122, l_250, l_255, l_1000, l_10000, l_20000, l_1000000, l_12345, l_1103515245, iz_neg, iz_add, iz_sub, iz_mul, iz_lt, iz_le, iz_eq, Option.bind_some, b1_i0, b1_i1, zr_b1, Classical.not_not]
      rw [if_pos (by omega)])
  rw [zeroed_0] at h
  exact h
theorem q_row {m : Nat} {mk sz rl : Nat → Int} {el ro : Nat → Int64} {rm rr : Nat → Int32} (hm : m ≤ 8) (hsi : SI m mk sz rl el ro) (hr : RF rm rr) (v1 v2 v3 : Int32) :
    ∃ ans mk' sz' rl' el' ro' rm' rr', f_M_row v1 v2 v3 (ar mk) (ar sz) el rm = some (ans, ar mk', ar sz', el', rm') ∧ f_R_row v1 v2 v3 (ar mk) (ar rl) ro rr = some (ans, ar mk', ar rl', ro', rr') ∧ SI m mk' sz' rl' el' ro' ∧ RF rm' rr' := by
  obtain ⟨s, hs, rfl⟩ := anyI v1
  obtain ⟨t, ht, rfl⟩ := anyI v2
  obtain ⟨n, hn, rfl⟩ := anyI v3
  obtain ⟨rm', rr', e1, e2, hr'⟩ := z_ref (why := -2) (by omega) hr
  by_cases c : (0 ≤ s ∧ s < 8) ∧ (0 ≤ t ∧ t ≤ 4) ∧ (0 ≤ n ∧ n ≤ 40)
  · obtain ⟨c1, c2, c3⟩ := c
    obtain ⟨s, h1, rfl⟩ := natZ (n := 8) c1
    obtain ⟨n, h2, rfl⟩ := natZ (n := 41) (v := n) (by omega)
    refine ⟨iz 1, upz mk s t, upz sz s n, upz rl s n, zeroed el s n, zeroed ro s 40, rm, rr, ?_, ?_, ?_, hr⟩
    · unfold f_M_row f_S_layRow
      simp (disch := omega) only [l_0, l_1, l_2, l_3, l_4, l_5, l_6, l_7, l_8, l_9, l_10, l_12, l_16, l_32, l_35, l_36, l_40, l_48, l_59, l_57, l_60, l_97, l_99, l_100, l_122, l_250, l_255, l_1000, l_10000, l_20000, l_1000000, l_12345, l_1103515245, iz_neg, iz_add, iz_sub, iz_mul, iz_lt, iz_le, iz_eq, Option.bind_some, b1_i0, b1_i1, zr_b1, Classical.not_not, z_isShelf, z_withinI, wrn, z_layRowL, c1, c2, c3, and_self, not_true_eq_false, if_false, upd_ar]
    · unfold f_R_row
      simp (disch := omega) only [l_0, l_1, l_2, l_3, l_4, l_5, l_6, l_7, l_8, l_9, l_10, l_12, l_16, l_32, l_35, l_36, l_40, l_48, l_59, l_57, l_60, l_97, l_99, l_100, l_122, l_250, l_255, l_1000, l_10000, l_20000, l_1000000, l_12345, l_1103515245, iz_neg, iz_add, iz_sub, iz_mul, iz_lt, iz_le, iz_eq, Option.bind_some, b1_i0, b1_i1, zr_b1, Classical.not_not, y_isShelf, y_withinI, wrn, y_rowL, c1, c2, c3, and_self, not_true_eq_false, if_false, upd_ar]
    · intro q hq
      by_cases e : q = s
      · subst e
        refine Or.inr (Or.inl ?_)
        simp only [upz_same]
        refine ⟨c2.1, c2.2, by omega, by omega, trivial, fun i hi => ?_⟩
        unfold zeroed
        rw [if_pos (by omega), if_pos (by omega)]
      · simp only [upz_ne e]
        rcases hsi q hq with h | h | h
        · exact Or.inl h
        · refine Or.inr (Or.inl ⟨h.1, h.2.1, h.2.2.1, h.2.2.2.1, h.2.2.2.2.1, fun i hi => ?_⟩)
          have := h.2.2.2.1
          unfold zeroed
          rw [if_neg (by omega), if_neg (by omega)]
          exact h.2.2.2.2.2 i hi
        · exact Or.inr (Or.inr h)
  · refine ⟨iz (-2), mk, sz, rl, el, ro, rm', rr', ?_, ?_, hsi, hr'⟩
    · unfold f_M_row f_M_row_j26
      simp (disch := omega) only [l_0, l_1, l_2, l_3, l_4, l_5, l_6, l_7, l_8, l_9, l_10, l_12, l_16, l_32, l_35, l_36, l_40, l_48, l_59, l_57, l_60, l_97, l_99, l_100, l_122, l_250, l_255, l_1000, l_10000, l_20000, l_1000000, l_12345, l_1103515245, iz_neg, iz_add, iz_sub, iz_mul, iz_lt, iz_le, iz_eq, Option.bind_some, b1_i0, b1_i1, zr_b1, Classical.not_not, z_isShelf, z_withinI, e1]
      (repeat' split) <;> first | rfl | omega
    · unfold f_R_row f_R_row_j26
      simp (disch := omega) only [l_0, l_1, l_2, l_3, l_4, l_5, l_6, l_7, l_8, l_9, l_10, l_12, l_16, l_32, l_35, l_36, l_40, l_48, l_59, l_57, l_60, l_97, l_99, l_100, l_122, l_250, l_255, l_1000, l_10000, l_20000, l_1000000, l_12345, l_1103515245, iz_neg, iz_add, iz_sub, iz_mul, iz_lt, iz_le, iz_eq, Option.bind_some, b1_i0, b1_i1, zr_b1, Classical.not_not, y_isShelf, y_withinI, e2]
      (repeat' split) <;> first | rfl | omega

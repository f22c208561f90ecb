/-! longs -/
def lz (a : Int) : Int64 := Int64.ofInt a
theorem lz_toInt {a : Int} (h : -9223372036854775808 ≤ a ∧ a < 9223372036854775808) : (lz a).toInt = a := Int64.toInt_ofInt_of_le h.1 h.2
theorem toLz (x : Int64) : lz x.toInt = x := Int64.ofInt_toInt x
theorem iz_long {a : Int} (h : -2147483648 ≤ a ∧ a < 2147483648) : (iz a).toInt64 = lz a := by
  apply Int64.toInt.inj
  rw [Int32.toInt_toInt64, iz_toInt h, lz_toInt (by omega)]
theorem lz_add (a b : Int) : lz a + lz b = lz (a + b) := (Int64.ofInt_add a b).symm
theorem lz_sub (a b : Int) : lz a - lz b = lz (a - b) := (Int64.ofInt_sub a b).symm
theorem lz_mul (a b : Int) : lz a * lz b = lz (a * b) := (Int64.ofInt_mul a b).symm
theorem lz_eq {a b : Int} (ha : -9223372036854775808 ≤ a ∧ a < 9223372036854775808) (hb : -9223372036854775808 ≤ b ∧ b < 9223372036854775808) : (lz a = lz b) = (a = b) := propext ⟨fun h => by have h2 := congrArg Int64.toInt h; rw [lz_toInt ha, lz_toInt hb] at h2; exact h2, fun h => by rw [h]⟩
theorem lz_lt {a b : Int} (ha : -9223372036854775808 ≤ a ∧ a < 9223372036854775808) (hb : -9223372036854775808 ≤ b ∧ b < 9223372036854775808) : (lz a < lz b) = (a < b) := propext (by rw [Int64.lt_iff_toInt_lt, lz_toInt ha, lz_toInt hb])
def cmpz (a b : Int) : Int := if a > b then 1 else if a = b then 0 else -1
theorem lg_lz {a b : Int} (ha : -9223372036854775808 ≤ a ∧ a < 9223372036854775808) (hb : -9223372036854775808 ≤ b ∧ b < 9223372036854775808) : lg_cmp (lz a) (lz b) = iz (cmpz a b) := by
  unfold lg_cmp cmpz
  simp only [gt_iff_lt, lz_lt hb ha, lz_eq ha hb]
  split
  · rfl
  · split <;> rfl
theorem cmpz_bd (a b : Int) : -1 ≤ cmpz a b ∧ cmpz a b ≤ 1 := by
  unfold cmpz
  split
  · omega
  · split <;> omega
theorem cmpz_gt (a b : Int) : (0 < cmpz a b) = (b < a) := propext (by unfold cmpz; (repeat' split) <;> omega)
theorem cmpz_le (a b : Int) : (cmpz a b ≤ 0) = (a ≤ b) := propext (by unfold cmpz; (repeat' split) <;> omega)
theorem cmpz_ge (a b : Int) : (0 ≤ cmpz a b) = (b ≤ a) := propext (by unfold cmpz; (repeat' split) <;> omega)
theorem cmpz_lt (a b : Int) : (cmpz a b < 0) = (a < b) := propext (by unfold cmpz; (repeat' split) <;> omega)
theorem cmpz_eq (a b : Int) : (cmpz a b = 0) = (a = b) := propext (by unfold cmpz; (repeat' split) <;> omega)
theorem anyL (x : Int64) : ∃ v : Int, (-9223372036854775808 ≤ v ∧ v < 9223372036854775808) ∧ x = lz v :=
  ⟨x.toInt, ⟨Int64.le_toInt x, Int64.toInt_lt x⟩, (toLz x).symm⟩
/-! set -/
theorem z_lowest (x : Int32) (v : Int64) : ∃ r, f_S_lowest x v = some r := by
  unfold f_S_lowest
  (repeat' split) <;> exact ⟨_, rfl⟩
theorem y_kept (x : Int32) (v : Int64) : f_R_kept x v = f_S_lowest x v := rfl
theorem SI.upd {m : Nat} {mk sz rl : Nat → Int} {el ro : Nat → Int64} (h : SI m mk sz rl el ro) (k : Nat) (x : Int64) : SI m mk sz rl (vp_updL el k x) (vp_updL ro k x) := by
  intro q hq
  rcases h q hq with c | c | c
  · exact Or.inl c
  · refine Or.inr (Or.inl ⟨c.1, c.2.1, c.2.2.1, c.2.2.2.1, c.2.2.2.2.1, fun i hi => ?_⟩)
    unfold vp_updL
    by_cases e : 40 * q + i = k
    · rw [if_pos e, if_pos e]
    · rw [if_neg e, if_neg e]
      exact c.2.2.2.2.2 i hi
  · exact Or.inr (Or.inr c)
theorem wnr_0 {h : Int} : (wnr h = 0) = (¬ h = -1 ∧ h < 10) := propext (by unfold wnr; (repeat' split) <;> omega)
theorem wnr_bd (h : Int) : -4 ≤ wnr h ∧ wnr h ≤ 0 ∧ ¬ wnr h = -1 ∧ ¬ wnr h = -2 := by unfold wnr; (repeat' split) <;> omega
theorem q_set {m : Nat} {mk sz rl : Nat → Int} {el ro : Nat → Int64} {rm rr : Nat → Int32} (hm : m ≤ 8) (hsi : SI m mk sz rl el ro) (hr : RF rm rr) (v1 v2 : Int32) (v3 : Int64) :
    ∃ ans el' ro' rm' rr', f_M_set v1 v2 v3 (ar mk) (ar sz) el rm = some (ans, el', rm') ∧ f_R_set v1 v2 v3 (ar mk) (ar rl) ro rr = some (ans, ro', rr') ∧ SI m mk sz rl el' ro' ∧ RF rm' rr' := by
  obtain ⟨s, hs, rfl⟩ := anyI v1
  obtain ⟨i, hi, rfl⟩ := anyI v2
  obtain ⟨rm', rr', e1, e2, hr'⟩ := z_ref (why := -2) (by omega) hr
  unfold f_M_set f_R_set
  by_cases c1 : 0 ≤ s ∧ s < 8
  · obtain ⟨k, hk, rfl⟩ := natZ (n := 8) c1
    have hb := hsi.mkb hm hk
    have hw := wnr_bd (mk k)
    simp (disch := omega) only [l_0, l_1, l_2, l_3, l_4, l_5, l_6, l_7, l_8, l_9, l_10, l_12, l_16, l_32, l_35, l_36, l_40, l_48, l_59, l_57, l_60, l_97, l_99, l_100, l_122, l_250, l_255, l_1000, l_10000, l_20000, l_1000000, l_12345, l_1103515245, iz_neg, iz_add, iz_sub, iz_mul, iz_lt, iz_le, iz_eq, Option.bind_some, b1_i0, b1_i1, zr_b1, Classical.not_not, z_isShelf, y_isShelf, c1, and_self, not_true_eq_false, if_false, z_whyNoRow, y_isRow, y_noRow, wnr_0]
    by_cases c2 : 0 ≤ mk k ∧ mk k ≤ 4
    · have hrow : rl k = sz k := by rcases hsi k hk with q | q | q <;> omega
      rw [if_pos (by omega), if_neg (by omega)]
      simp (disch := omega) only [l_0, l_1, l_2, l_3, l_4, l_5, l_6, l_7, l_8, l_9, l_10, l_12, l_16, l_32, l_35, l_36, l_40, l_48, l_59, l_57, l_60, l_97, l_99, l_100, l_122, l_250, l_255, l_1000, l_10000, l_20000, l_1000000, l_12345, l_1103515245, iz_neg, iz_add, iz_sub, iz_mul, iz_lt, iz_le, iz_eq, Option.bind_some, b1_i0, b1_i1, zr_b1, Classical.not_not, z_sizeOf, rdn, ar_at, z_withinI, y_withinI, hrow]
      by_cases c3 : 0 ≤ i ∧ i ≤ sz k - 1
      · obtain ⟨j, hj, rfl⟩ := natZ (v := i) (n := 40) (by omega)
        obtain ⟨r, hlow⟩ := z_lowest (iz (mk k)) v3
        have ix1 : (40 * (k : Int) + (j : Int)).toNat = 40 * k + j := by omega
        have ix2 : ((k : Int) * 40 + (j : Int)).toNat = 40 * k + j := by omega
        unfold f_S_put
        simp (disch := omega) only [l_0, l_1, l_2, l_3, l_4, l_5, l_6, l_7, l_8, l_9, l_10, l_12, l_16, l_32, l_35, l_36, l_40, l_48, l_59, l_57, l_60, l_97, l_99, l_100, l_122, l_250, l_255, l_1000, l_10000, l_20000, l_1000000, l_12345, l_1103515245, iz_neg, iz_add, iz_sub, iz_mul, iz_lt, iz_le, iz_eq, Option.bind_some, b1_i0, b1_i1, zr_b1, Classical.not_not, z_sizeOf, z_heldBy, z_withinI, c3, and_self, not_true_eq_false, if_false, wrL_iz, y_kept, hlow, ix1, ix2]
        exact ⟨_, _, _, _, _, rfl, rfl, hsi.upd _ _, hr⟩
      · simp (disch := omega) only [l_0, l_1, l_2, l_3, l_4, l_5, l_6, l_7, l_8, l_9, l_10, l_12, l_16, l_32, l_35, l_36, l_40, l_48, l_59, l_57, l_60, l_97, l_99, l_100, l_122, l_250, l_255, l_1000, l_10000, l_20000, l_1000000, l_12345, l_1103515245, iz_neg, iz_add, iz_sub, iz_mul, iz_lt, iz_le, iz_eq, Option.bind_some, b1_i0, b1_i1, zr_b1, Classical.not_not, c3, not_false_eq_true, if_true, e1, e2]
        exact ⟨_, _, _, _, _, rfl, rfl, hsi, hr'⟩
    · have hne : ¬ (¬ mk k = -1 ∧ mk k < 10) := by rcases hsi k hk with q | q | q <;> omega
      rw [if_neg hne, if_pos c2]
      have hw0 : ¬ wnr (mk k) = 0 := by rw [wnr_0]; exact hne
      obtain ⟨rm2, rr2, e3, e4, hr2⟩ := z_ref (why := wnr (mk k)) (by omega) hr
      simp (disch := omega) only [l_0, l_1, l_2, l_3, l_4, l_5, l_6, l_7, l_8, l_9, l_10, l_12, l_16, l_32, l_35, l_36, l_40, l_48, l_59, l_57, l_60, l_97, l_99, l_100, l_122, l_250, l_255, l_1000, l_10000, l_20000, l_1000000, l_12345, l_1103515245, iz_neg, iz_add, iz_sub, iz_mul, iz_lt, iz_le, iz_eq, Option.bind_some, b1_i0, b1_i1, zr_b1, Classical.not_not, e3, e4]
      exact ⟨_, _, _, _, _, rfl, rfl, hsi, hr2⟩
  · simp (disch := omega) only [l_0, l_1, l_2, l_3, l_4, l_5, l_6, l_7, l_8, l_9, l_10, l_12, l_16, l_32, l_35, l_36, l_40, l_48, l_59, l_57, l_60, l_97, l_99, l_100, l_122, l_250, l_255, l_1000, l_10000, l_20000, l_1000000, l_12345, l_1103515245, iz_neg, iz_add, iz_sub, iz_mul, iz_lt, iz_le, iz_eq, Option.bind_some, b1_i0, b1_i1, zr_b1, Classical.not_not, z_isShelf, y_isShelf, c1, not_false_eq_true, if_true, e1, e2]
    exact ⟨_, _, _, _, _, rfl, rfl, hsi, hr'⟩
theorem q_element {m : Nat} {mk sz rl : Nat → Int} {el ro : Nat → Int64} (hm : m ≤ 8) (hsi : SI m mk sz rl el ro) (v1 v2 : Int32) :
    ∃ x, f_M_element v1 v2 (ar sz) el = some x ∧ f_R_element v1 v2 (ar mk) (ar rl) ro = some x := by
  obtain ⟨s, hs, rfl⟩ := anyI v1
  obtain ⟨i, hi, rfl⟩ := anyI v2
  unfold f_M_element f_S_elementOf f_R_element
  by_cases c1 : 0 ≤ s ∧ s < 8
  · obtain ⟨k, hk, rfl⟩ := natZ (n := 8) c1
    have hb := hsi.mkb hm hk
    simp (disch := omega) only [l_0, l_1, l_2, l_3, l_4, l_5, l_6, l_7, l_8, l_9, l_10, l_12, l_16, l_32, l_35, l_36, l_40, l_48, l_59, l_57, l_60, l_97, l_99, l_100, l_122, l_250, l_255, l_1000, l_10000, l_20000, l_1000000, l_12345, l_1103515245, iz_neg, iz_add, iz_sub, iz_mul, iz_lt, iz_le, iz_eq, Option.bind_some, b1_i0, b1_i1, zr_b1, Classical.not_not, y_isShelf, c1, and_self, not_true_eq_false, if_false, z_sizeOf, y_isRow, z_withinI]
    by_cases c2 : 0 ≤ mk k ∧ mk k ≤ 4
    · have hrow : rl k = sz k := by rcases hsi k hk with q | q | q <;> omega
      simp (disch := omega) only [l_0, l_1, l_2, l_3, l_4, l_5, l_6, l_7, l_8, l_9, l_10, l_12, l_16, l_32, l_35, l_36, l_40, l_48, l_59, l_57, l_60, l_97, l_99, l_100, l_122, l_250, l_255, l_1000, l_10000, l_20000, l_1000000, l_12345, l_1103515245, iz_neg, iz_add, iz_sub, iz_mul, iz_lt, iz_le, iz_eq, Option.bind_some, b1_i0, b1_i1, zr_b1, Classical.not_not, c2, and_self, not_true_eq_false, if_false, rdn, ar_at, hrow, y_withinI]
      by_cases c3 : 0 ≤ i ∧ i ≤ sz k - 1
      · obtain ⟨j, hj, rfl⟩ := natZ (v := i) (n := 40) (by omega)
        have ix1 : (40 * (k : Int) + (j : Int)).toNat = 40 * k + j := by omega
        have ix2 : ((k : Int) * 40 + (j : Int)).toNat = 40 * k + j := by omega
        have hel : el (40 * k + j) = ro (40 * k + j) := by
          rcases hsi k hk with q | q | q
          · omega
          · exact q.2.2.2.2.2 j (by omega)
          · omega
        simp (disch := omega) only [l_0, l_1, l_2, l_3, l_4, l_5, l_6, l_7, l_8, l_9, l_10, l_12, l_16, l_32, l_35, l_36, l_40, l_48, l_59, l_57, l_60, l_97, l_99, l_100, l_122, l_250, l_255, l_1000, l_10000, l_20000, l_1000000, l_12345, l_1103515245, iz_neg, iz_add, iz_sub, iz_mul, iz_lt, iz_le, iz_eq, Option.bind_some, b1_i0, b1_i1, zr_b1, Classical.not_not, c3, and_self, not_true_eq_false, if_false, rdL_iz, ix1, ix2, hel]
        first | exact ⟨_, rfl, rfl⟩ | exact ⟨_, rfl⟩
      · simp (disch := omega) only [l_0, l_1, l_2, l_3, l_4, l_5, l_6, l_7, l_8, l_9, l_10, l_12, l_16, l_32, l_35, l_36, l_40, l_48, l_59, l_57, l_60, l_97, l_99, l_100, l_122, l_250, l_255, l_1000, l_10000, l_20000, l_1000000, l_12345, l_1103515245, iz_neg, iz_add, iz_sub, iz_mul, iz_lt, iz_le, iz_eq, Option.bind_some, b1_i0, b1_i1, zr_b1, Classical.not_not, c3, not_false_eq_true, if_true]
        first | exact ⟨_, rfl, rfl⟩ | exact ⟨_, rfl⟩
    · have hz : sz k = 0 := by rcases hsi k hk with q | q | q <;> omega
      rw [if_pos c2, if_pos (by omega)]
      first | exact ⟨_, rfl, rfl⟩ | exact ⟨_, rfl⟩
  · simp (disch := omega) only [l_0, l_1, l_2, l_3, l_4, l_5, l_6, l_7, l_8, l_9, l_10, l_12, l_16, l_32, l_35, l_36, l_40, l_48, l_59, l_57, l_60, l_97, l_99, l_100, l_122, l_250, l_255, l_1000, l_10000, l_20000, l_1000000, l_12345, l_1103515245, iz_neg, iz_add, iz_sub, iz_mul, iz_lt, iz_le, iz_eq, Option.bind_some, b1_i0, b1_i1, zr_b1, Classical.not_not, y_isShelf, c1, not_false_eq_true, if_true, z_sizeOfN, z_withinI]
    rw [if_pos (by omega)]
    first | exact ⟨_, rfl, rfl⟩ | exact ⟨_, rfl⟩
theorem q_holds {mk : Nat → Int} (v1 : Int32) : ∃ x, f_M_holds v1 (ar mk) = some x ∧ f_R_holds v1 (ar mk) = some x := by
  obtain ⟨s, hs, rfl⟩ := anyI v1
  unfold f_M_holds f_R_holds
  by_cases c1 : 0 ≤ s ∧ s < 8
  · obtain ⟨k, hk, rfl⟩ := natZ (n := 8) c1
    simp (disch := omega) only [l_0, l_1, l_2, l_3, l_4, l_5, l_6, l_7, l_8, l_9, l_10, l_12, l_16, l_32, l_35, l_36, l_40, l_48, l_59, l_57, l_60, l_97, l_99, l_100, l_122, l_250, l_255, l_1000, l_10000, l_20000, l_1000000, l_12345, l_1103515245, iz_neg, iz_add, iz_sub, iz_mul, iz_lt, iz_le, iz_eq, Option.bind_some, b1_i0, b1_i1, zr_b1, Classical.not_not, y_isShelf, c1, and_self, not_true_eq_false, if_false, z_heldBy, rdn, ar_at]
    first | exact ⟨_, rfl, rfl⟩ | exact ⟨_, rfl⟩
  · simp (disch := omega) only [l_0, l_1, l_2, l_3, l_4, l_5, l_6, l_7, l_8, l_9, l_10, l_12, l_16, l_32, l_35, l_36, l_40, l_48, l_59, l_57, l_60, l_97, l_99, l_100, l_122, l_250, l_255, l_1000, l_10000, l_20000, l_1000000, l_12345, l_1103515245, iz_neg, iz_add, iz_sub, iz_mul, iz_lt, iz_le, iz_eq, Option.bind_some, b1_i0, b1_i1, zr_b1, Classical.not_not, y_isShelf, c1, not_false_eq_true, if_true, z_heldByN]
    first | exact ⟨_, rfl, rfl⟩ | exact ⟨_, rfl⟩
theorem q_show {m : Nat} {mk sz rl : Nat → Int} {el ro : Nat → Int64} {rm rr : Nat → Int32} (hm : m ≤ 8) (hsi : SI m mk sz rl el ro) (hr : RF rm rr) (v1 v2 : Int32) :
    ∃ ans mk' sz' rm' rr', f_M_show v1 v2 (iz m) (ar mk) (ar sz) rm = some (ans, ar mk', ar sz', rm') ∧ f_R_show v1 v2 (iz m) (ar mk) rr = some (ans, ar mk', rr') ∧ SI m mk' sz' rl el ro ∧ RF rm' rr' := by
  obtain ⟨s, hs, rfl⟩ := anyI v1
  obtain ⟨f, hf, rfl⟩ := anyI v2
  obtain ⟨rm', rr', e1, e2, hr'⟩ := z_ref (why := -2) (by omega) hr
  unfold f_M_show f_R_show f_M_show_j20 f_R_show_j20 f_M_show_j27 f_R_show_j27 f_S_layFeet f_S_layFeet_j25 f_R_show_j45
  by_cases c1 : 0 ≤ s ∧ s < 8
  · obtain ⟨k, hk, rfl⟩ := natZ (n := 8) c1
    simp (disch := omega) only [l_0, l_1, l_2, l_3, l_4, l_5, l_6, l_7, l_8, l_9, l_10, l_12, l_16, l_32, l_35, l_36, l_40, l_48, l_59, l_57, l_60, l_97, l_99, l_100, l_122, l_250, l_255, l_1000, l_10000, l_20000, l_1000000, l_12345, l_1103515245, iz_neg, iz_add, iz_sub, iz_mul, iz_lt, iz_le, iz_eq, Option.bind_some, b1_i0, b1_i1, zr_b1, Classical.not_not, z_isShelf, y_isShelf, c1, and_self, not_true_eq_false, if_false, wrn, z_isFeet, y_isFeet, upd_ar, e1, e2]
    by_cases c2 : f = -1
    · rw [if_pos c2, if_pos c2, if_pos c2, if_pos c2]
      refine ⟨_, _, _, _, _, rfl, rfl, ?_, hr⟩
      intro q hq
      by_cases e : q = k
      · subst e
        exact Or.inl ⟨upz_same, upz_same⟩
      · simp only [upz_ne e]
        exact hsi q hq
    · simp only [if_neg c2]
      by_cases c3 : 0 ≤ f ∧ f < m
      · rw [if_neg (by omega), if_neg (by omega)]
        refine ⟨_, _, _, _, _, rfl, rfl, ?_, hr⟩
        intro q hq
        by_cases e : q = k
        · subst e
          refine Or.inr (Or.inr ⟨?_, ?_, upz_same⟩) <;> rw [upz_same] <;> omega
        · simp only [upz_ne e]
          exact hsi q hq
      · rw [if_pos c3, if_pos c3]
        exact ⟨_, _, _, _, _, rfl, rfl, hsi, hr'⟩
  · simp (disch := omega) only [l_0, l_1, l_2, l_3, l_4, l_5, l_6, l_7, l_8, l_9, l_10, l_12, l_16, l_32, l_35, l_36, l_40, l_48, l_59, l_57, l_60, l_97, l_99, l_100, l_122, l_250, l_255, l_1000, l_10000, l_20000, l_1000000, l_12345, l_1103515245, iz_neg, iz_add, iz_sub, iz_mul, iz_lt, iz_le, iz_eq, Option.bind_some, b1_i0, b1_i1, zr_b1, Classical.not_not, z_isShelf, y_isShelf, c1, not_false_eq_true, if_true, e1, e2]
    exact ⟨_, _, _, _, _, rfl, rfl, hsi, hr'⟩

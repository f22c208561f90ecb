/-! ways told on a shelf -/
theorem lg_0 : (0 : Int64) = lz 0 := rfl
theorem lg_1 : (1 : Int64) = lz 1 := rfl
theorem lg_lt {a b : Int} (ha : -9223372036854775808 ≤ a ∧ a < 9223372036854775808) (hb : -9223372036854775808 ≤ b ∧ b < 9223372036854775808) : (lg_cmp (lz a) (lz b) < 0) = (a < b) := by
  have := cmpz_bd a b
  rw [lg_lz ha hb, l_0, iz_lt (by omega) (by omega), cmpz_lt]
theorem lg_le {a b : Int} (ha : -9223372036854775808 ≤ a ∧ a < 9223372036854775808) (hb : -9223372036854775808 ≤ b ∧ b < 9223372036854775808) : (lg_cmp (lz a) (lz b) ≤ 0) = (a ≤ b) := by
  have := cmpz_bd a b
  rw [lg_lz ha hb, l_0, iz_le (by omega) (by omega), cmpz_le]
theorem lg_ge {a b : Int} (ha : -9223372036854775808 ≤ a ∧ a < 9223372036854775808) (hb : -9223372036854775808 ≤ b ∧ b < 9223372036854775808) : (0 ≤ lg_cmp (lz a) (lz b)) = (b ≤ a) := by
  have := cmpz_bd a b
  rw [lg_lz ha hb, l_0, iz_le (by omega) (by omega), cmpz_ge]
theorem lg_eq {a b : Int} (ha : -9223372036854775808 ≤ a ∧ a < 9223372036854775808) (hb : -9223372036854775808 ≤ b ∧ b < 9223372036854775808) : (lg_cmp (lz a) (lz b) = 0) = (a = b) := by
  have := cmpz_bd a b
  rw [lg_lz ha hb, l_0, iz_eq (by omega) (by omega), cmpz_eq]
theorem lz_neg (a : Int) : -lz a = lz (-a) := (Int64.ofInt_neg a).symm
theorem lz_wrap (a : Int) : lz a = lz (a + 18446744073709551616) := by
  apply Int64.toInt_inj.mp
  show (Int64.ofInt a).toInt = (Int64.ofInt (a + 18446744073709551616)).toInt
  rw [Int64.toInt_ofInt, Int64.toInt_ofInt]
  show Int.bmod a 18446744073709551616 = Int.bmod (a + 18446744073709551616) 18446744073709551616
  unfold Int.bmod
  have e : (a + 18446744073709551616) % ((18446744073709551616 : Nat) : Int) = a % ((18446744073709551616 : Nat) : Int) := Int.add_emod_right a _
  rw [e]
theorem lz_int {a : Int} (h : -2147483648 ≤ a ∧ a < 2147483648) : Int64.toInt32 (lz a) = iz a := by
  rw [← iz_long h]
  exact Int32.toInt32_toInt64 _
theorem lz_div {a b : Int} (ha : 0 ≤ a ∧ a < 9223372036854775808) (hb : 0 < b ∧ b < 9223372036854775808) : dvL (lz a) (lz b) = some (lz (a / b)) := by
  unfold dvL
  rw [lg_0, if_neg (by rw [lz_eq (by omega) (by omega)]; omega)]
  congr 1
  apply Int64.toInt_inj.mp
  have hq : 0 ≤ a / b := Int.ediv_nonneg (by omega) (by omega)
  have hq2 : a / b ≤ a := Int.ediv_le_self b ha.1
  rw [Int64.toInt_div_of_ne_right _ _ (by intro e; rw [show (-1 : Int64) = lz (-1) from rfl, lz_eq (by omega) (by omega)] at e; omega), lz_toInt (by omega), lz_toInt (by omega), lz_toInt (by omega)]
  exact Int.tdiv_eq_ediv_of_nonneg ha.1
theorem z_abs1 {a : Int} (h : -9223372036854775807 ≤ a ∧ a < 9223372036854775808) : f_JM_abs1 (lz a) = some (lz (if 0 ≤ a then a else -a)) := by
  unfold f_JM_abs1
  by_cases c : 0 ≤ a
  · rw [lg_0, if_pos (by rw [lg_ge (by omega) (by omega)]; exact c), if_pos c]
  · rw [lg_0, if_neg (by rw [lg_ge (by omega) (by omega)]; exact c), if_neg c, lz_neg]
theorem z_abs0 {a : Int} (h : -2147483647 ≤ a ∧ a < 2147483648) : f_JM_abs0 (iz a) = some (iz (if 0 ≤ a then a else -a)) := by
  unfold f_JM_abs0
  by_cases c : 0 ≤ a
  · rw [l_0, if_pos (by rw [iz_le (by omega) (by omega)]; exact c), if_pos c]
  · rw [l_0, if_neg (by rw [iz_le (by omega) (by omega)]; exact c), if_neg c, iz_neg]
def TL (sz : Nat → Int) (el ro : Nat → Int64) (a : Nat) (T : Nat → Int) : Prop := a < 8 ∧ sz a ≤ 40 ∧ ∀ k : Nat, (k : Int) < sz a → (-9223372036854775808 ≤ T k ∧ T k < 9223372036854775808) ∧ el (40 * a + k) = lz (T k) ∧ ro (40 * a + k) = lz (T k)
theorem z_told {sz : Nat → Int} {el ro : Nat → Int64} {a : Nat} {T : Nat → Int} (h : TL sz el ro a T) {k : Nat} (hk : (k : Int) < sz a) : f_S_elementOf (iz a) (iz k) (ar sz) el = some (lz (T k)) := by
  obtain ⟨h1, h2, h3⟩ := h
  unfold f_S_elementOf
  have ix : ((a : Int) * 40 + (k : Int)).toNat = 40 * a + k := by omega
  simp (disch := omega) only [l_0, l_1, l_2, l_3, l_4, l_5, l_6, l_7, l_8, l_9, l_10, l_12, l_16, l_32, l_35, l_36, l_40, l_48, l_59, l_57, l_60, l_97, l_99, l_100, l_122, l_250, l_255, l_1000, l_10000, l_20000, l_1000000, l_12345, l_1103515245, iz_neg, iz_add, iz_sub, iz_mul, iz_lt, iz_le, iz_eq, Option.bind_some, b1_i0, b1_i1, zr_b1, Classical.not_not, if_pos, if_neg, z_sizeOf, z_withinI, rdL_iz, ix, (h3 k hk).2.1]
theorem y_told {sz : Nat → Int} {el ro : Nat → Int64} {a : Nat} {T : Nat → Int} (h : TL sz el ro a T) {k : Nat} (hk : (k : Int) < sz a) : f_R_toldAt (iz a) (iz k) ro = some (lz (T k)) := by
  obtain ⟨h1, h2, h3⟩ := h
  unfold f_R_toldAt
  have ix : (40 * (a : Int) + (k : Int)).toNat = 40 * a + k := by omega
  simp (disch := omega) only [l_0, l_1, l_2, l_3, l_4, l_5, l_6, l_7, l_8, l_9, l_10, l_12, l_16, l_32, l_35, l_36, l_40, l_48, l_59, l_57, l_60, l_97, l_99, l_100, l_122, l_250, l_255, l_1000, l_10000, l_20000, l_1000000, l_12345, l_1103515245, iz_neg, iz_add, iz_sub, iz_mul, iz_lt, iz_le, iz_eq, Option.bind_some, b1_i0, b1_i1, zr_b1, Classical.not_not, if_pos, if_neg, rdL_iz, ix, (h3 k hk).2.2]
theorem SI.told {m : Nat} {mk sz rl : Nat → Int} {el ro : Nat → Int64} (h : SI m mk sz rl el ro) {a : Nat} (ha : a < 8) (hr : 0 ≤ mk a ∧ mk a ≤ 4) : rl a = sz a ∧ (0 ≤ sz a ∧ sz a ≤ 40) ∧ ∃ T, TL sz el ro a T := by
  rcases h a ha with q | q | q
  · omega
  · refine ⟨q.2.2.2.2.1, ⟨q.2.2.1, q.2.2.2.1⟩, fun k => (ro (40 * a + k)).toInt, ha, q.2.2.2.1, fun k hk => ⟨?_, ?_, ?_⟩⟩
    · exact ⟨Int64.le_toInt _, Int64.toInt_lt _⟩
    · rw [toLz]; exact q.2.2.2.2.2 k hk
    · rw [toLz]
  · omega
abbrev BD (w : Nat) (T : Nat → Int) (k : Nat) : Prop := w ≤ k ∨ ¬ (((k * w : Nat) : Int) ≤ T k ∧ T k < ((k * w : Nat) : Int) + w) ∨ (0 < k ∧ ¬ (-1 ≤ T k - T (k - 1) - w ∧ T k - T (k - 1) - w ≤ 1))
def bd (w : Nat) (T : Nat → Int) (k : Nat) : Bool := decide (BD w T k)
theorem bd_no {w : Nat} {T : Nat → Int} {k : Nat} (h : bd w T k = false) : k < w ∧ (((k * w : Nat) : Int) ≤ T k ∧ T k < ((k * w : Nat) : Int) + w) ∧ (0 < k → -1 ≤ T k - T (k - 1) - w ∧ T k - T (k - 1) - w ≤ 1) := by
  have h2 := of_decide_eq_false h
  unfold BD at h2
  exact ⟨by omega, by omega, by omega⟩
theorem bd_yes {w : Nat} {T : Nat → Int} {k : Nat} (h : bd w T k = true) : BD w T k := of_decide_eq_true h
theorem kw_pred {k w : Nat} (h : 0 < k) : (((k - 1) * w : Nat) : Int) + w = ((k * w : Nat) : Int) := by
  obtain ⟨j, rfl⟩ : ∃ j, k = j + 1 := ⟨k - 1, by omega⟩
  have : (j + 1) * w = j * w + w := Nat.succ_mul j w
  rw [this]
  simp
theorem kw_bd {k w : Nat} (hw : 2 ≤ w ∧ w ≤ 6) (hk : k ≤ 40) : ((k * w : Nat) : Int) ≤ 240 := by
  have := Nat.mul_le_mul hk hw.2
  omega
theorem toLong2 (k w : Nat) (hk : k ≤ 40) (hw : w ≤ 6) : Int32.toInt64 (iz (k : Int)) * Int32.toInt64 (iz (w : Int)) = lz ((k * w : Nat) : Int) := by
  rw [iz_long (by omega), iz_long (by omega), lz_mul, Int.natCast_mul]
section
variable {sz : Nat → Int} {el ro : Nat → Int64} {a w v : Nat} {T : Nat → Int}
theorem z_wrN (h : TL sz el ro a T) (hw : 2 ≤ w ∧ w ≤ 6) (hv : (v : Int) ≤ sz a) {k : Nat} (hk : k < v) (hp : ∀ j, j ≤ k → bd w T j = false) :
    f_M_wrongIn_b2 (iz a) (iz v) (iz w) (ar sz) el (iz k) = some (.inl (iz ((k + 1 : Nat) : Int))) := by
  obtain ⟨b1, b2, b3⟩ := bd_no (hp k (Nat.le_refl k))
  have h2 := h.2.1
  have kb := kw_bd (k := k) hw (by omega)
  unfold f_M_wrongIn_b2 f_M_wrongIn_j100
  rw [z_told h (show (k : Int) < sz a by omega), toLong2 k w (by omega) (by omega), iz_long (by omega)]
  simp only [Option.bind_some, lz_sub]
  rw [if_neg (by rw [iz_le (by omega) (by omega)]; omega), if_neg (by rw [iz_le (by omega) (by omega)]; omega), lg_0, if_neg (by rw [lg_lt (by omega) (by omega)]; omega), if_pos (by rw [lg_lt (by omega) (by omega)]; omega), lg_1]
  by_cases c : k = 0
  · subst c
    rw [if_pos (show iz ((0 : Nat) : Int) = 0 from rfl), z_abs1 (by omega)]
    simp only [Option.bind_some]
    rw [if_pos (by rw [lg_le (by split <;> omega) (by omega)]; split <;> omega)]
    rfl
  · have b4 := b3 (by omega)
    obtain ⟨p1, p2, p3⟩ := bd_no (hp (k - 1) (by omega))
    have kp := kw_pred (k := k) (w := w) (by omega)
    rw [if_neg (by rw [l_0, iz_eq (by omega) (by omega)]; omega), show iz (k : Int) - 1 = iz ((k - 1 : Nat) : Int) by rw [l_1, iz_sub]; congr 1; omega, z_told h (show ((k - 1 : Nat) : Int) < sz a by omega)]
    simp only [Option.bind_some, lz_sub, lz_add]
    rw [z_abs1 (by omega)]
    simp only [Option.bind_some]
    rw [if_pos (by rw [lg_le (by split <;> omega) (by omega)]; split <;> omega), iz_succ]
theorem z_wrY (h : TL sz el ro a T) (hw : 2 ≤ w ∧ w ≤ 6) (hv : (v : Int) ≤ sz a) {k : Nat} (hk : k < v) (hp : ∀ j, j < k → bd w T j = false) (hb : bd w T k = true) :
    ∃ r, f_M_wrongIn_b2 (iz a) (iz v) (iz w) (ar sz) el (iz k) = some (.inr r) ∧ (r = .inl (iz k) ∨ r = .inr (.inl (iz k))) := by
  have hB := bd_yes hb
  unfold BD at hB
  have h2 := h.2.1
  have kb := kw_bd (k := k) hw (by omega)
  have tb := (h.2.2 k (by omega)).1
  unfold f_M_wrongIn_b2 f_M_wrongIn_j100
  rw [z_told h (show (k : Int) < sz a by omega), toLong2 k w (by omega) (by omega), iz_long (by omega)]
  simp only [Option.bind_some, lz_sub]
  rw [if_neg (by rw [iz_le (by omega) (by omega)]; omega)]
  by_cases c1 : w ≤ k
  · rw [if_pos (by rw [iz_le (by omega) (by omega)]; omega)]
    exact ⟨_, rfl, Or.inl rfl⟩
  · rw [if_neg (by rw [iz_le (by omega) (by omega)]; omega)]
    by_cases c2 : T k - ((k * w : Nat) : Int) < 0
    · by_cases c3 : -9223372036854775808 ≤ T k - ((k * w : Nat) : Int)
      · rw [lg_0, if_pos (by rw [lg_lt (by omega) (by omega)]; exact c2)]
        exact ⟨_, rfl, Or.inl rfl⟩
      · rw [lz_wrap (T k - ((k * w : Nat) : Int)), lg_0, if_neg (by rw [lg_lt (by omega) (by omega)]; omega), if_neg (by rw [lg_lt (by omega) (by omega)]; omega)]
        exact ⟨_, rfl, Or.inl rfl⟩
    · rw [lg_0, if_neg (by rw [lg_lt (by omega) (by omega)]; exact c2)]
      by_cases c4 : T k - ((k * w : Nat) : Int) < w
      · rw [if_pos (by rw [lg_lt (by omega) (by omega)]; exact c4), lg_1]
        have k0 : 0 < k := by omega
        obtain ⟨p1, p2, p3⟩ := bd_no (hp (k - 1) (by omega))
        have kp := kw_pred (k := k) (w := w) k0
        rw [if_neg (by rw [l_0, iz_eq (by omega) (by omega)]; omega), show iz (k : Int) - 1 = iz ((k - 1 : Nat) : Int) by rw [l_1, iz_sub]; congr 1; omega, z_told h (show ((k - 1 : Nat) : Int) < sz a by omega)]
        simp only [Option.bind_some, lz_sub, lz_add]
        rw [z_abs1 (by omega)]
        simp only [Option.bind_some]
        rw [if_neg (by rw [lg_le (by split <;> omega) (by omega)]; split <;> omega)]
        exact ⟨_, rfl, Or.inr rfl⟩
      · rw [if_neg (by rw [lg_lt (by omega) (by omega)]; exact c4)]
        exact ⟨_, rfl, Or.inl rfl⟩
def wrz (w v : Nat) (T : Nat → Int) : Int := if fnd (bd w T) 0 v < v then (fnd (bd w T) 0 v : Nat) else if w ≤ v then -1 else v
theorem z_wrongIn (h : TL sz el ro a T) (hw : 2 ≤ w ∧ w ≤ 6) (hv : (v : Int) ≤ sz a) : f_M_wrongIn (iz a) (iz v) (iz w) (ar sz) el = some (iz (wrz w v T)) := by
  have h2 := h.2.1
  have hle := fnd_le (bd w T) v 0
  unfold f_M_wrongIn wrz
  by_cases c : fnd (bd w T) 0 v < v
  · rw [if_pos c]
    obtain ⟨r, e1, e2⟩ := z_wrY h hw hv c (fun j hj => fnd_no (bd w T) v 0 j (by omega) hj) (fnd_yes (bd w T) v 0 (by omega))
    have hl := loopS (body := fun s : Int32 => f_M_wrongIn_b2 (iz a) (iz v) (iz w) (ar sz) el s) (fun k => iz k) r (fnd (bd w T) 0 v) (by omega) (fun k hk => z_wrN h hw hv (by omega) (fun j hj => fnd_no (bd w T) v 0 j (by omega) (by omega))) e1
    rw [show f_M_wrongIn_l2 (iz a) (iz v) (iz w) (ar sz) el 0 = some r from hl]
    rcases e2 with rfl | rfl <;> rfl
  · rw [if_neg c]
    have e : fnd (bd w T) 0 v = v := by omega
    have hl := loopS (body := fun s : Int32 => f_M_wrongIn_b2 (iz a) (iz v) (iz w) (ar sz) el s) (fun k => iz k) (.inr (.inr ())) v (by omega) (fun k hk => z_wrN h hw hv hk (fun j hj => fnd_no (bd w T) v 0 j (by omega) (by omega)))
      (by
        unfold f_M_wrongIn_b2
        exact if_pos (by rw [iz_le (by omega) (by omega)]; omega))
    rw [show f_M_wrongIn_l2 (iz a) (iz v) (iz w) (ar sz) el 0 = _ from hl]
    simp only [Option.bind_some, Sum.elim_inr]
    by_cases d : w ≤ v
    · rw [if_pos (by rw [iz_le (by omega) (by omega)]; omega), if_pos d]; rfl
    · rw [if_neg (by rw [iz_le (by omega) (by omega)]; omega), if_neg d]
theorem div_is {t k w : Nat} (hw : 0 < w) : t / w = k ↔ k * w ≤ t ∧ t < k * w + w := by
  constructor
  · intro e
    subst e
    have h1 := Nat.div_mul_le_self t w
    have h2 := Nat.lt_div_mul_add hw (a := t)
    exact ⟨h1, h2⟩
  · intro ⟨h1, h2⟩
    exact Nat.div_eq_of_lt_le h1 (by rw [Nat.succ_mul]; exact h2)
theorem y_isNext {s t k : Nat} (hw : 2 ≤ w ∧ w ≤ 6) (hk : k ≤ 40) (h1 : t / w = k + 1) (h2 : s / w = k) : f_R_isNext (iz s) (iz t) (iz w) = some (b1 (-1 ≤ (t : Int) - s - w ∧ (t : Int) - s - w ≤ 1)) := by
  have q1 := (div_is (t := t) (k := k + 1) (w := w) (by omega)).mp h1
  have q2 := (div_is (t := s) (k := k) (w := w) (by omega)).mp h2
  have q3 : (k + 1) * w = k * w + w := Nat.succ_mul k w
  have q4 := kw_bd (k := k) hw hk
  have m1 : ((t : Int) % (w : Int)) = (t : Int) - ((k * w : Nat) : Int) - w := by
    have := Nat.div_add_mod t w
    rw [h1, Nat.mul_comm] at this
    have e : ((t : Int) % (w : Int)) = ((t % w : Nat) : Int) := rfl
    omega
  have m2 : ((s : Int) % (w : Int)) = (s : Int) - ((k * w : Nat) : Int) := by
    have := Nat.div_add_mod s w
    rw [h2, Nat.mul_comm] at this
    have e : ((s : Int) % (w : Int)) = ((s % w : Nat) : Int) := rfl
    omega
  have d1 : ((t : Int) / (w : Int)) = (k : Int) + 1 := by
    have e : ((t : Int) / (w : Int)) = ((t / w : Nat) : Int) := rfl
    omega
  have d2 : ((s : Int) / (w : Int)) = (k : Int) := by
    have e : ((s : Int) / (w : Int)) = ((s / w : Nat) : Int) := rfl
    omega
  unfold f_R_isNext
  rw [dv_iz (by omega) (by omega), dv_iz (by omega) (by omega), rm_iz (by omega) (by omega), rm_iz (by omega) (by omega), d1, d2, m1, m2]
  simp only [Option.bind_some]
  rw [if_pos (by rw [l_1, iz_add]), iz_sub, z_abs0 (by omega)]
  simp only [Option.bind_some]
  by_cases c : -1 ≤ (t : Int) - s - w ∧ (t : Int) - s - w ≤ 1
  · rw [l_2, if_neg (by rw [iz_le (by omega) (by split <;> omega)]; split <;> omega), b1_T c]
  · rw [l_2, if_pos (by rw [iz_le (by omega) (by split <;> omega)]; split <;> omega), b1_F c]
theorem y_wrN (h : TL sz el ro a T) (hw : 2 ≤ w ∧ w ≤ 6) (hv : (v : Int) ≤ sz a) {k : Nat} (hk : k < v) (hp : ∀ j, j ≤ k → bd w T j = false) :
    f_R_wrong_b2 (iz a) (iz v) (iz w) ro (iz k) = some (.inl (iz ((k + 1 : Nat) : Int))) := by
  obtain ⟨b1, b2, b3⟩ := bd_no (hp k (Nat.le_refl k))
  have h2 := h.2.1
  have kb := kw_bd (k := k) hw (by omega)
  have ww := sq_le hw
  have kw : k * w + w ≤ w * w := by rw [← Nat.succ_mul]; exact Nat.mul_le_mul_right w b1
  obtain ⟨t, ht, et⟩ := natZ (v := T k) (n := 1000) (by omega)
  have dt : t / w = k := (div_is (by omega)).mpr ⟨by omega, by omega⟩
  have dt2 : ((t : Int) / (w : Int)) = (k : Int) := by
    have e : ((t : Int) / (w : Int)) = ((t / w : Nat) : Int) := rfl
    omega
  unfold f_R_wrong_b2
  rw [y_told h (show (k : Int) < sz a by omega), sqz, iz_long (by omega), iz_long (by omega), iz_long (by omega), et]
  simp only [Option.bind_some]
  rw [if_neg (by rw [iz_le (by omega) (by omega)]; omega), if_neg (by rw [iz_eq (by omega) (by omega)]; omega), lg_0, if_neg (by rw [lg_lt (by omega) (by omega)]; omega), if_neg (by rw [lg_ge (by omega) (by omega)]; omega), lz_div (by omega) (by omega), dt2]
  simp only [Option.bind_some]
  rw [if_pos (by rw [lg_eq (by omega) (by omega)])]
  by_cases c : k = 0
  · subst c
    rw [l_0, if_pos (by rw [iz_le (by omega) (by omega)]; omega), iz_succ]
  · obtain ⟨j, rfl⟩ : ∃ j, k = j + 1 := ⟨k - 1, by omega⟩
    have b4 := b3 (by omega)
    rw [Nat.add_sub_cancel] at b4
    obtain ⟨p1, p2, p3⟩ := bd_no (hp j (by omega))
    have kp : (j + 1) * w = j * w + w := Nat.succ_mul j w
    obtain ⟨s, hs, es⟩ := natZ (v := T j) (n := 1000) (by omega)
    have ds : s / w = j := (div_is (by omega)).mpr ⟨by omega, by omega⟩
    rw [l_0, if_neg (by rw [iz_le (by omega) (by omega)]; omega), show iz ((j + 1 : Nat) : Int) - 1 = iz (j : Int) by rw [l_1, iz_sub]; congr 1; omega, y_told h (show (j : Int) < sz a by omega), es]
    simp only [Option.bind_some]
    rw [lz_int (by omega), lz_int (by omega), y_isNext hw (by omega) dt ds, b1_T (by omega)]
    simp only [Option.bind_some]
    rw [if_neg (by decide), iz_succ]
theorem y_wrY (h : TL sz el ro a T) (hw : 2 ≤ w ∧ w ≤ 6) (hv : (v : Int) ≤ sz a) {k : Nat} (hk : k < v) (hp : ∀ j, j < k → bd w T j = false) (hb : bd w T k = true) :
    ∃ r, f_R_wrong_b2 (iz a) (iz v) (iz w) ro (iz k) = some (.inr r) ∧ (r = .inl (iz k) ∨ r = .inr (.inl (iz k))) := by
  have hB := bd_yes hb
  unfold BD at hB
  have h2 := h.2.1
  have kb := kw_bd (k := k) hw (by omega)
  have ww := sq_le hw
  have tb := (h.2.2 k (by omega)).1
  unfold f_R_wrong_b2
  rw [y_told h (show (k : Int) < sz a by omega), sqz, iz_long (by omega), iz_long (by omega), iz_long (by omega)]
  simp only [Option.bind_some]
  rw [if_neg (by rw [iz_le (by omega) (by omega)]; omega)]
  by_cases c1 : k = w
  · rw [if_pos (by rw [iz_eq (by omega) (by omega)]; omega)]
    exact ⟨_, rfl, Or.inl rfl⟩
  · rw [if_neg (by rw [iz_eq (by omega) (by omega)]; omega), lg_0]
    have kl : k < w := by
      by_cases e : k = 0
      · omega
      · have := (bd_no (hp (k - 1) (by omega))).1
        omega
    have kw : k * w + w ≤ w * w := by rw [← Nat.succ_mul]; exact Nat.mul_le_mul_right w kl
    by_cases c2 : T k < 0
    · rw [if_pos (by rw [lg_lt (by omega) (by omega)]; exact c2)]
      exact ⟨_, rfl, Or.inl rfl⟩
    · rw [if_neg (by rw [lg_lt (by omega) (by omega)]; exact c2)]
      by_cases c3 : ((w * w : Nat) : Int) ≤ T k
      · rw [if_pos (by rw [lg_ge (by omega) (by omega)]; exact c3)]
        exact ⟨_, rfl, Or.inl rfl⟩
      · rw [if_neg (by rw [lg_ge (by omega) (by omega)]; exact c3)]
        obtain ⟨t, ht, et⟩ := natZ (v := T k) (n := 1000) (by omega)
        have dt2 : ((t : Int) / (w : Int)) = ((t / w : Nat) : Int) := rfl
        have dl : t / w ≤ t := Nat.div_le_self t w
        have dn : (0 : Int) ≤ ((t / w : Nat) : Int) := Int.natCast_nonneg _
        rw [et, lz_div (by omega) (by omega), dt2]
        simp only [Option.bind_some]
        by_cases c4 : t / w = k
        · have q := (div_is (t := t) (k := k) (w := w) (by omega)).mp c4
          rw [if_pos (by rw [lg_eq (by omega) (by omega)]; omega)]
          obtain ⟨j, rfl⟩ : ∃ j, k = j + 1 := ⟨k - 1, by omega⟩
          rw [Nat.add_sub_cancel] at hB
          obtain ⟨p1, p2, p3⟩ := bd_no (hp j (by omega))
          have kp : (j + 1) * w = j * w + w := Nat.succ_mul j w
          obtain ⟨s, hs, es⟩ := natZ (v := T j) (n := 1000) (by omega)
          have ds : s / w = j := (div_is (by omega)).mpr ⟨by omega, by omega⟩
          rw [l_0, if_neg (by rw [iz_le (by omega) (by omega)]; omega), show iz ((j + 1 : Nat) : Int) - 1 = iz (j : Int) by rw [l_1, iz_sub]; congr 1; omega, y_told h (show (j : Int) < sz a by omega), es]
          simp only [Option.bind_some]
          rw [lz_int (by omega), lz_int (by omega), y_isNext hw (by omega) c4 ds, b1_F (by omega)]
          simp only [Option.bind_some]
          rw [if_pos (by decide)]
          exact ⟨_, rfl, Or.inr rfl⟩
        · rw [if_neg (by rw [lg_eq (by omega) (by omega)]; omega)]
          exact ⟨_, rfl, Or.inl rfl⟩
theorem y_wrong (h : TL sz el ro a T) (hw : 2 ≤ w ∧ w ≤ 6) (hv : (v : Int) ≤ sz a) : f_R_wrong (iz a) (iz v) (iz w) ro = some (iz (wrz w v T)) := by
  have h2 := h.2.1
  have hle := fnd_le (bd w T) v 0
  unfold f_R_wrong wrz
  by_cases c : fnd (bd w T) 0 v < v
  · rw [if_pos c]
    obtain ⟨r, e1, e2⟩ := y_wrY h hw hv c (fun j hj => fnd_no (bd w T) v 0 j (by omega) hj) (fnd_yes (bd w T) v 0 (by omega))
    have hl := loopS (body := fun s : Int32 => f_R_wrong_b2 (iz a) (iz v) (iz w) ro s) (fun k => iz k) r (fnd (bd w T) 0 v) (by omega) (fun k hk => y_wrN h hw hv (by omega) (fun j hj => fnd_no (bd w T) v 0 j (by omega) (by omega))) e1
    rw [show f_R_wrong_l2 (iz a) (iz v) (iz w) ro 0 = some r from hl]
    rcases e2 with rfl | rfl <;> rfl
  · rw [if_neg c]
    have e : fnd (bd w T) 0 v = v := by omega
    have hl := loopS (body := fun s : Int32 => f_R_wrong_b2 (iz a) (iz v) (iz w) ro s) (fun k => iz k) (.inr (.inr ())) v (by omega) (fun k hk => y_wrN h hw hv hk (fun j hj => fnd_no (bd w T) v 0 j (by omega) (by omega)))
      (by
        unfold f_R_wrong_b2
        exact if_pos (by rw [iz_le (by omega) (by omega)]; omega))
    rw [show f_R_wrong_l2 (iz a) (iz v) (iz w) ro 0 = _ from hl]
    simp only [Option.bind_some, Sum.elim_inr]
    by_cases d : w ≤ v
    · rw [if_pos (by rw [iz_le (by omega) (by omega)]; omega), if_pos d]; rfl
    · rw [if_neg (by rw [iz_le (by omega) (by omega)]; omega), if_neg d]
end

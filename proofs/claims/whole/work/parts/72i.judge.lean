/-! judge, loud, done -/
def wo (mk sz : Nat → Int) (a : Nat) (v : Int) : Int := if wnr (mk a) = 0 then (if v ≤ sz a then 0 else -2) else wnr (mk a)
theorem wo_bd (mk sz : Nat → Int) (a : Nat) (v : Int) : -4 ≤ wo mk sz a v ∧ wo mk sz a v ≤ 0 := by
  have := wnr_bd (mk a)
  unfold wo
  (repeat' split) <;> omega
section
variable {m : Nat} {mk sz rl : Nat → Int} {el ro : Nat → Int64} {a : Nat} {v : Int}
theorem wo_ref (h : ¬ wo mk sz a v = 0) : -4 ≤ wo mk sz a v ∧ wo mk sz a v ≤ -2 := by
  have := wnr_bd (mk a)
  revert h
  unfold wo
  (repeat' split) <;> omega
theorem wo_row (hsi : SI m mk sz rl el ro) (ha : a < 8) (h : wo mk sz a v = 0) : (0 ≤ mk a ∧ mk a ≤ 4) ∧ v ≤ sz a := by
  revert h
  unfold wo wnr
  rcases hsi a ha with q | q | q <;> (repeat' split) <;> omega
theorem z_whyNoRowOf (hm : m ≤ 8) (hsi : SI m mk sz rl el ro) (ha : a < 8) (hv : -2147483648 ≤ v ∧ v < 2147483648) : f_M_whyNoRowOf (iz a) (iz v) (ar mk) (ar sz) = some (iz (wo mk sz a v)) := by
  have hb := hsi.mkb hm ha
  have hw := wnr_bd (mk a)
  unfold f_M_whyNoRowOf wo
  rw [z_whyNoRow ha ⟨hb.1, hb.2.1⟩, z_sizeOf ha]
  simp only [Option.bind_some]
  by_cases c : wnr (mk a) = 0
  · rw [if_pos (by rw [l_0, iz_eq (by omega) (by omega)]; exact c), if_pos c]
    by_cases d : v ≤ sz a
    · rw [if_pos (by rw [iz_le (by omega) (by omega)]; exact d), if_pos d]; rfl
    · rw [if_neg (by rw [iz_le (by omega) (by omega)]; exact d), if_neg d]; rfl
  · rw [if_neg (by rw [l_0, iz_eq (by omega) (by omega)]; exact c), if_neg c]
theorem y_noWay (hm : m ≤ 8) (hsi : SI m mk sz rl el ro) (ha : a < 8) (hv : -2147483648 ≤ v ∧ v < 2147483648) : f_R_noWay (iz a) (iz v) (ar mk) (ar rl) = some (iz (wo mk sz a v)) := by
  have hb := hsi.mkb hm ha
  have hw := wnr_bd (mk a)
  unfold f_R_noWay wo
  rw [y_isRow ha ⟨hb.1, hb.2.1⟩, y_noRow ha ⟨hb.1, hb.2.1⟩, rdn a (by omega) ha]
  simp only [Option.bind_some, ar_at, b1_0]
  rcases hsi a ha with q | q | q
  · rw [if_pos (by omega), if_neg (by rw [wnr_0]; omega)]
  · rw [if_neg (by omega), q.2.2.2.2.1, if_pos (show wnr (mk a) = 0 by rw [wnr_0]; omega)]
    by_cases d : v ≤ sz a
    · rw [if_pos (by rw [iz_le (by omega) (by omega)]; exact d), if_pos d]; rfl
    · rw [if_neg (by rw [iz_le (by omega) (by omega)]; exact d), if_neg d]; rfl
  · rw [if_pos (by omega), if_neg (by rw [wnr_0]; omega)]
theorem y_noHeard (hm : m ≤ 8) (hsi : SI m mk sz rl el ro) (ha : a < 8) (hv : -2147483648 ≤ v ∧ v < 2147483648) : f_R_noHeard (iz a) (iz v) (ar mk) (ar rl) = some (iz (wo mk sz a v)) := y_noWay hm hsi ha hv
end
theorem wrz_bd (w v : Nat) (T : Nat → Int) : -1 ≤ wrz w v T ∧ wrz w v T ≤ v := by
  unfold wrz
  (repeat' split) <;> omega
theorem wrz_ok {w v : Nat} {T : Nat → Int} (h : wrz w v T = -1) : v = w ∧ ∀ k, k < w → bd w T k = false := by
  have hle := fnd_le (bd w T) v 0
  revert h
  unfold wrz
  split
  · omega
  · rename_i c
    split
    · rename_i d
      intro _
      have hn : ∀ k, k < v → bd w T k = false := fun k hk => fnd_no (bd w T) v 0 k (by omega) (by omega)
      by_cases e : v = w
      · exact ⟨e, fun k hk => hn k (by omega)⟩
      · have := (bd_no (hn w (by omega))).1
        omega
    · omega
theorem q_judge {w m : Nat} {mk sz rl : Nat → Int} {el ro : Nat → Int64} {rm rr : Nat → Int32} (hw : 2 ≤ w ∧ w ≤ 6) (hm : m ≤ 8) (hsi : SI m mk sz rl el ro) (hr : RF rm rr) (v1 v2 : Int32) :
    ∃ ans rm' rr', f_M_judge v1 v2 (iz w) (ar mk) (ar sz) el rm = some (ans, rm') ∧ f_R_judge v1 v2 (iz w) (ar mk) (ar rl) ro rr = some (ans, rr') ∧ RF rm' rr' := by
  obtain ⟨s, hs, rfl⟩ := anyI v1
  obtain ⟨t, ht, rfl⟩ := anyI v2
  obtain ⟨m2, r2, e1, e2, hr2⟩ := z_ref (why := -2) (by omega) hr
  unfold f_M_judge f_R_judge f_M_judge_j17 f_R_judge_j17
  by_cases c1 : 0 ≤ s ∧ s < 8
  · obtain ⟨a, ha, rfl⟩ := natZ (n := 8) c1
    by_cases c2 : 0 ≤ t ∧ t ≤ 40
    · obtain ⟨v, hv, rfl⟩ := natZ (v := t) (n := 41) (by omega)
      have wb := wo_bd mk sz a v
      by_cases c3 : wo mk sz a v = 0
      · obtain ⟨hrow, hsz⟩ := wo_row hsi ha c3
        obtain ⟨_, _, T, hT⟩ := hsi.told ha hrow
        simp (disch := omega) only [l_0, l_1, l_2, l_3, l_4, l_5, l_6, l_7, l_8, l_9, l_10, l_12, l_16, l_32, l_35, l_36, l_40, l_48, l_59, l_57, l_60, l_97, l_99, l_100, l_122, l_250, l_255, l_1000, l_10000, l_20000, l_1000000, l_12345, l_1103515245, iz_neg, iz_add, iz_sub, iz_mul, iz_lt, iz_le, iz_eq, Option.bind_some, b1_i0, b1_i1, zr_b1, Classical.not_not, if_pos, if_neg, z_isShelf, y_isShelf, z_withinI, y_withinI, z_whyNoRowOf hm hsi ha, y_noWay hm hsi ha, z_wrongIn hT hw, y_wrong hT hw]
        exact ⟨_, _, _, rfl, rfl, hr⟩
      · have wr := wo_ref c3
        obtain ⟨m3, r3, e3, e4, hr3⟩ := z_ref (why := wo mk sz a v) (by omega) hr
        simp (disch := omega) only [l_0, l_1, l_2, l_3, l_4, l_5, l_6, l_7, l_8, l_9, l_10, l_12, l_16, l_32, l_35, l_36, l_40, l_48, l_59, l_57, l_60, l_97, l_99, l_100, l_122, l_250, l_255, l_1000, l_10000, l_20000, l_1000000, l_12345, l_1103515245, iz_neg, iz_add, iz_sub, iz_mul, iz_lt, iz_le, iz_eq, Option.bind_some, b1_i0, b1_i1, zr_b1, Classical.not_not, if_pos, if_neg, z_isShelf, y_isShelf, z_withinI, y_withinI, z_whyNoRowOf hm hsi ha, y_noWay hm hsi ha, e3, e4]
        exact ⟨_, _, _, rfl, rfl, hr3⟩
    · simp (disch := omega) only [l_0, l_1, l_2, l_3, l_4, l_5, l_6, l_7, l_8, l_9, l_10, l_12, l_16, l_32, l_35, l_36, l_40, l_48, l_59, l_57, l_60, l_97, l_99, l_100, l_122, l_250, l_255, l_1000, l_10000, l_20000, l_1000000, l_12345, l_1103515245, iz_neg, iz_add, iz_sub, iz_mul, iz_lt, iz_le, iz_eq, Option.bind_some, b1_i0, b1_i1, zr_b1, Classical.not_not, if_pos, if_neg, z_isShelf, y_isShelf, z_withinI, y_withinI, e1, e2]
      exact ⟨_, _, _, rfl, rfl, hr2⟩
  · simp (disch := omega) only [l_0, l_1, l_2, l_3, l_4, l_5, l_6, l_7, l_8, l_9, l_10, l_12, l_16, l_32, l_35, l_36, l_40, l_48, l_59, l_57, l_60, l_97, l_99, l_100, l_122, l_250, l_255, l_1000, l_10000, l_20000, l_1000000, l_12345, l_1103515245, iz_neg, iz_add, iz_sub, iz_mul, iz_lt, iz_le, iz_eq, Option.bind_some, b1_i0, b1_i1, zr_b1, Classical.not_not, if_pos, if_neg, z_isShelf, y_isShelf, e1, e2]
    exact ⟨_, _, _, rfl, rfl, hr2⟩
theorem z_whyNoWay {w m : Nat} {mk sz rl : Nat → Int} {el ro : Nat → Int64} {a v : Nat} {T : Nat → Int} (hw : 2 ≤ w ∧ w ≤ 6) (hm : m ≤ 8) (hsi : SI m mk sz rl el ro) (hT : TL sz el ro a T) (hv : v ≤ 40) (h0 : wo mk sz a v = 0) :
    f_M_whyNoWay (iz a) (iz v) (iz w) (ar mk) (ar sz) el = some (iz (if wrz w v T = -1 then 0 else -5)) := by
  obtain ⟨hrow, hsz⟩ := wo_row hsi hT.1 h0
  have hb := wrz_bd w v T
  unfold f_M_whyNoWay
  rw [z_whyNoRowOf hm hsi hT.1 (by omega), h0]
  simp only [Option.bind_some]
  rw [if_pos (show iz 0 = 0 from rfl), z_wrongIn hT hw hsz]
  simp only [Option.bind_some]
  by_cases c : wrz w v T = -1
  · rw [if_pos (by rw [l_1, iz_neg, iz_eq (by omega) (by omega)]; exact c), if_pos c]; rfl
  · rw [if_neg (by rw [l_1, iz_neg, iz_eq (by omega) (by omega)]; exact c), if_neg c]; rfl
theorem z_whyNoWayN {w m : Nat} {mk sz rl : Nat → Int} {el ro : Nat → Int64} {a v : Nat} (hm : m ≤ 8) (hsi : SI m mk sz rl el ro) (ha : a < 8) (hv : v ≤ 40) (h0 : ¬ wo mk sz a v = 0) :
    f_M_whyNoWay (iz a) (iz v) (iz w) (ar mk) (ar sz) el = some (iz (wo mk sz a v)) := by
  have wb := wo_bd mk sz a v
  unfold f_M_whyNoWay
  rw [z_whyNoRowOf hm hsi ha (by omega)]
  simp only [Option.bind_some]
  rw [if_neg (by rw [l_0, iz_eq (by omega) (by omega)]; exact h0)]
/-- a way told rightly -/
def tst (w : Nat) (rn : Int) (g kd a' : Nat → Int) (f : Nat) (T : Nat → Int) (k : Nat) : Int := cz rn g kd a' f (T k).toNat k
section
variable {w m : Nat} {rn er : Int} {g kd a' : Nat → Int} {sz : Nat → Int} {el ro : Nat → Int64} {a f : Nat} {T : Nat → Int}
theorem tl_cell (hw : 2 ≤ w ∧ w ≤ 6) (hk : ∀ k, k < w → bd w T k = false) {k : Nat} (h : k < w) : ∃ c : Nat, c < w * w ∧ T k = c ∧ c / w = k := by
  obtain ⟨b1, b2, b3⟩ := bd_no (hk k h)
  have ww := sq_le hw
  have kw : k * w + w ≤ w * w := by rw [← Nat.succ_mul]; exact Nat.mul_le_mul_right w b1
  obtain ⟨t, ht, et⟩ := natZ (v := T k) (n := w * w) (by omega)
  exact ⟨t, ht, et, (div_is (by omega)).mpr ⟨by omega, by omega⟩⟩
theorem z_stepT (hD : Dr w rn m g kd a') (hf : f < m) (hT : TL sz el ro a T) (hz : (w : Int) ≤ sz a) (hk : ∀ k, k < w → bd w T k = false) {k : Nat} (h : k < w) :
    f_D_stepOn (iz f) (Int64.toInt32 (lz (T k))) (iz w) (iz rn) (ar g) (ar kd) (ar a') = some (iz (tst w rn g kd a' f T k)) := by
  obtain ⟨hw, hrn, hm, hg, hkd, ha⟩ := id hD
  obtain ⟨c, hc, e, d⟩ := tl_cell hw hk h
  have ww := sq_le hw
  unfold tst
  rw [e, lz_int (by omega), z_stepOn hw (by omega) hc hrn hg hkd ha, d]
  rfl
theorem y_stepT (hD : Dr w rn m g kd a') (hf : f < m) (hT : TL sz el ro a T) (hz : (w : Int) ≤ sz a) (hk : ∀ k, k < w → bd w T k = false) {k : Nat} (h : k < w) :
    f_R_stepOn (iz f) (Int64.toInt32 (lz (T k))) (iz w) (iz rn) (ar g) (ar kd) (ar a') = some (iz (tst w rn g kd a' f T k)) := by
  obtain ⟨hw, hrn, hm, hg, hkd, ha⟩ := id hD
  obtain ⟨c, hc, e, d⟩ := tl_cell hw hk h
  have ww := sq_le hw
  unfold tst
  rw [e, lz_int (by omega), y_stepOn hw (by omega) hc hrn hg hkd ha, d]
  rfl
theorem tst_bd (hD : Dr w rn m g kd a') (k : Nat) : 0 ≤ tst w rn g kd a' f T k ∧ tst w rn g kd a' f T k ≤ 37 := by
  obtain ⟨hw, hrn, hm, hg, hkd, ha⟩ := id hD
  exact cz_bd hg ha hrn.1
theorem z_allAlong (hD : Dr w rn m g kd a') (hf : f < m) (hT : TL sz el ro a T) (hz : (w : Int) ≤ sz a) (hk : ∀ k, k < w → bd w T k = false) :
    f_M_allAlong (iz a) (iz f) (iz w) (iz rn) (ar g) (ar kd) (ar a') (ar sz) el = some (iz (sm (tst w rn g kd a' f T) w)) := by
  obtain ⟨hw, hrn, hm, hg, hkd, ha⟩ := id hD
  have h := loopS (body := fun s : Int32 × Int32 => f_M_allAlong_b5 (iz a) (iz f) (iz w) (iz rn) (ar g) (ar kd) (ar a') (ar sz) el s.1 s.2) (fun k => (iz (sm (tst w rn g kd a' f T) k), iz k)) (iz (sm (tst w rn g kd a' f T) w)) w (by omega)
    (fun k h => by
      simp only [f_M_allAlong_b5]
      rw [z_told hT (show (k : Int) < sz a by omega)]
      simp only [Option.bind_some]
      rw [z_stepT hD hf hT hz hk h]
      simp only [Option.bind_some, ← iz_succ, iz_add]
      simp (disch := omega) only [iz_le, if_neg]
      rfl)
    (by
      simp only [f_M_allAlong_b5]
      simp (disch := omega) only [iz_le, if_pos])
  unfold f_M_allAlong
  rw [show f_M_allAlong_l5 (iz a) (iz f) (iz w) (iz rn) (ar g) (ar kd) (ar a') (ar sz) el 0 0 = _ from h]
  rfl
def hrd (w : Nat) (rn er : Int) (g kd a' : Nat → Int) (f : Nat) (T : Nat → Int) (k : Nat) : Bool := decide (er ≤ tst w rn g kd a' f T k)
theorem z_firstAlong (hD : Dr w rn m g kd a') (her : 1 ≤ er ∧ er ≤ 99) (hf : f < m) (hT : TL sz el ro a T) (hz : (w : Int) ≤ sz a) (hk : ∀ k, k < w → bd w T k = false) :
    f_M_firstHeardAlong (iz a) (iz f) (iz w) (iz rn) (iz er) (ar g) (ar kd) (ar a') (ar sz) el = some (iz (if fnd (hrd w rn er g kd a' f T) 0 w < w then (fnd (hrd w rn er g kd a' f T) 0 w : Nat) else -1)) := by
  obtain ⟨hw, hrn, hm, hg, hkd, ha⟩ := id hD
  have h := loopE (body := fun s : Int32 => f_M_firstHeardAlong_b2 (iz a) (iz f) (iz w) (iz rn) (iz er) (ar g) (ar kd) (ar a') (ar sz) el s) (fun k => iz k) (hrd w rn er g kd a' f T) (fun k => .inl (iz k)) (.inr ()) w (by omega)
    (fun k h hP => by
      have b := tst_bd (f := f) (T := T) hD k
      have hP2 := of_decide_eq_false hP
      simp only [f_M_firstHeardAlong_b2]
      rw [z_told hT (show (k : Int) < sz a by omega)]
      simp only [Option.bind_some]
      rw [z_stepT hD hf hT hz hk h]
      simp only [Option.bind_some, ← iz_succ]
      simp (disch := omega) only [iz_le, iz_lt, if_neg, if_pos])
    (fun k h hP => by
      have b := tst_bd (f := f) (T := T) hD k
      have hP2 := of_decide_eq_true hP
      simp only [f_M_firstHeardAlong_b2]
      rw [z_told hT (show (k : Int) < sz a by omega)]
      simp only [Option.bind_some]
      rw [z_stepT hD hf hT hz hk h]
      simp only [Option.bind_some]
      simp (disch := omega) only [iz_le, iz_lt, if_neg, if_pos])
    (by
      simp only [f_M_firstHeardAlong_b2]
      simp (disch := omega) only [iz_le, if_pos])
  unfold f_M_firstHeardAlong
  rw [show f_M_firstHeardAlong_l2 (iz a) (iz f) (iz w) (iz rn) (iz er) (ar g) (ar kd) (ar a') (ar sz) el 0 = _ from h]
  simp only [Option.bind_some]
  split <;> rfl
theorem fnd_s (P : Nat → Bool) (a d : Nat) : fnd P a (d + 1) = if P a then a else fnd P (a + 1) d := rfl
theorem y_loudOf (hD : Dr w rn m g kd a') (her : 1 ≤ er ∧ er ≤ 99) (hf : f < m) (hT : TL sz el ro a T) (hz : (w : Int) ≤ sz a) (hk : ∀ k, k < w → bd w T k = false) (v3 : Int32) :
    f_R_loudOf (iz a) (iz f) v3 (iz w) (iz rn) (iz er) (ar g) (ar kd) (ar a') ro = some (if v3 = 0 then iz (sm (tst w rn g kd a' f T) w) else iz (if fnd (hrd w rn er g kd a' f T) 0 w < w then (fnd (hrd w rn er g kd a' f T) 0 w : Nat) else -1)) := by
  obtain ⟨hw, hrn, hm, hg, hkd, ha⟩ := id hD
  have h := loopS (body := fun s : Int32 × Int32 × Int32 => f_R_loudOf_b14 (iz a) (iz f) (iz w) (iz rn) (iz er) (ar g) (ar kd) (ar a') ro s.1 s.2.1 s.2.2) (fun k => (iz (sm (tst w rn g kd a' f T) w - sm (tst w rn g kd a' f T) (w - k)), iz (if fnd (hrd w rn er g kd a' f T) (w - k) k < w then (fnd (hrd w rn er g kd a' f T) (w - k) k : Nat) else -1), iz ((w : Int) - 1 - k)))
    (iz (sm (tst w rn g kd a' f T) w), iz (if fnd (hrd w rn er g kd a' f T) 0 w < w then (fnd (hrd w rn er g kd a' f T) 0 w : Nat) else -1)) w (by omega)
    (fun k h => by
      obtain ⟨j, hj⟩ : ∃ j, w - k = j + 1 := ⟨w - k - 1, by omega⟩
      have b := tst_bd (f := f) (T := T) hD j
      have e1 : ((w : Int) - 1 - k) = (j : Int) := by omega
      have e2 : w - (k + 1) = j := by omega
      have e3 : ((w : Int) - 1 - ((k + 1 : Nat) : Int)) = (j : Int) + -1 := by omega
      have e4 : sm (tst w rn g kd a' f T) (j + 1) = sm (tst w rn g kd a' f T) j + tst w rn g kd a' f T j := rfl
      simp only [f_R_loudOf_b14]
      rw [e1, e2, e3, hj, e4, fnd_s, y_told hT (show (j : Int) < sz a by omega)]
      simp only [Option.bind_some]
      rw [y_stepT hD hf hT hz hk (show j < w by omega)]
      simp only [Option.bind_some]
      rw [iz_add, show sm (tst w rn g kd a' f T) w - (sm (tst w rn g kd a' f T) j + tst w rn g kd a' f T j) + tst w rn g kd a' f T j = sm (tst w rn g kd a' f T) w - sm (tst w rn g kd a' f T) j by omega]
      by_cases c : er ≤ tst w rn g kd a' f T j
      · rw [show hrd w rn er g kd a' f T j = true from decide_eq_true c]
        simp (disch := omega) only [l_0, l_1, l_2, l_3, l_4, l_5, l_6, l_7, l_8, l_9, l_10, l_12, l_16, l_32, l_35, l_36, l_40, l_48, l_59, l_57, l_60, l_97, l_99, l_100, l_122, l_250, l_255, l_1000, l_10000, l_20000, l_1000000, l_12345, l_1103515245, iz_neg, iz_add, iz_sub, iz_mul, iz_lt, iz_le, iz_eq, Option.bind_some, b1_i0, b1_i1, zr_b1, Classical.not_not, if_pos, if_neg, if_true, ite_true]
      · rw [show hrd w rn er g kd a' f T j = false from decide_eq_false c]
        rw [if_neg (by rw [l_0, iz_lt (by omega) (by omega)]; omega), if_pos (by rw [iz_lt (by omega) (by omega)]; omega), show (-1 : Int32) = iz (-1) from rfl, iz_add]
        rfl)
    (by
      simp only [f_R_loudOf_b14]
      rw [Nat.sub_self, if_pos (by rw [l_0, iz_lt (by omega) (by omega)]; omega)]
      rw [show sm (tst w rn g kd a' f T) 0 = 0 from rfl, Int.sub_zero])
  rw [Nat.sub_zero, Int.sub_self, show fnd (hrd w rn er g kd a' f T) w 0 = w from rfl, if_neg (Nat.lt_irrefl w), show (w : Int) - 1 - ((0 : Nat) : Int) = (w : Int) - 1 by omega] at h
  unfold f_R_loudOf
  rw [l_1, iz_sub, show f_R_loudOf_l14 (iz a) (iz f) (iz w) (iz rn) (iz er) (ar g) (ar kd) (ar a') ro 0 (-iz 1) (iz ((w : Int) - 1)) = _ from h]
  simp only [Option.bind_some]
  split <;> rfl
end
theorem q_loud {w m : Nat} {rn er : Int} {g kd a : Nat → Int} {mk sz rl : Nat → Int} {el ro : Nat → Int64} {rm rr : Nat → Int32} (hD : Dr w rn m g kd a) (her : 1 ≤ er ∧ er ≤ 99) (hsi : SI m mk sz rl el ro) (hr : RF rm rr) (v1 v2 v3 v4 : Int32) :
    ∃ ans rm' rr', f_M_loud v1 v2 v3 v4 (iz w) (iz rn) (iz er) (iz m) (ar g) (ar kd) (ar a) (ar mk) (ar sz) el rm = some (ans, rm') ∧ f_R_loud v1 v2 v3 v4 (iz w) (iz rn) (iz er) (iz m) (ar g) (ar kd) (ar a) (ar mk) (ar rl) ro rr = some (ans, rr') ∧ RF rm' rr' := by
  obtain ⟨hw, hrn, hm, hg, hkd, ha⟩ := id hD
  obtain ⟨s, hs, rfl⟩ := anyI v1
  obtain ⟨t, ht, rfl⟩ := anyI v2
  obtain ⟨x, hx, rfl⟩ := anyI v3
  obtain ⟨y, hy, rfl⟩ := anyI v4
  obtain ⟨m2, r2, e1, e2, hr2⟩ := z_ref (why := -2) (by omega) hr
  unfold f_M_loud f_R_loud f_M_loud_j35 f_R_loud_j35
  by_cases c1 : 0 ≤ s ∧ s < 8
  · obtain ⟨b, hb, rfl⟩ := natZ (n := 8) c1
    by_cases c2 : 0 ≤ t ∧ t ≤ 40
    · obtain ⟨v, hv, rfl⟩ := natZ (v := t) (n := 41) (by omega)
      by_cases c3 : 0 ≤ x ∧ x < m
      · obtain ⟨f, hf, rfl⟩ := natZ (n := m) c3
        by_cases c4 : 0 ≤ y ∧ y ≤ 1
        · have wb := wo_bd mk sz b v
          by_cases c5 : wo mk sz b v = 0
          · obtain ⟨hrow, hsz⟩ := wo_row hsi hb c5
            obtain ⟨_, _, T, hT⟩ := hsi.told hb hrow
            have hq := z_whyNoWay hw hm hsi hT (show v ≤ 40 by omega) c5
            have wz := wrz_bd w v T
            by_cases c6 : wrz w v T = -1
            · obtain ⟨rfl, hk⟩ := wrz_ok c6
              rw [if_pos c6] at hq
              have f1 := z_allAlong hD hf hT hsz hk
              have f2 := z_firstAlong hD her hf hT hsz hk
              have f3 := y_loudOf hD her hf hT hsz hk (iz y)
              by_cases c7 : y = 0
              · subst c7
                rw [if_pos (show iz 0 = 0 from rfl)] at f3
                simp (disch := omega) only [l_0, l_1, l_2, l_3, l_4, l_5, l_6, l_7, l_8, l_9, l_10, l_12, l_16, l_32, l_35, l_36, l_40, l_48, l_59, l_57, l_60, l_97, l_99, l_100, l_122, l_250, l_255, l_1000, l_10000, l_20000, l_1000000, l_12345, l_1103515245, iz_neg, iz_add, iz_sub, iz_mul, iz_lt, iz_le, iz_eq, Option.bind_some, b1_i0, b1_i1, zr_b1, Classical.not_not, if_pos, if_neg, z_isShelf, y_isShelf, z_withinI, y_withinI, z_isFeet, y_isFeet, hq, y_noWay hm hsi hb, y_wrong hT hw, f1, f3]
                exact ⟨_, _, _, rfl, rfl, hr⟩
              · rw [if_neg (by rw [l_0, iz_eq (by omega) (by omega)]; exact c7)] at f3
                simp (disch := omega) only [l_0, l_1, l_2, l_3, l_4, l_5, l_6, l_7, l_8, l_9, l_10, l_12, l_16, l_32, l_35, l_36, l_40, l_48, l_59, l_57, l_60, l_97, l_99, l_100, l_122, l_250, l_255, l_1000, l_10000, l_20000, l_1000000, l_12345, l_1103515245, iz_neg, iz_add, iz_sub, iz_mul, iz_lt, iz_le, iz_eq, Option.bind_some, b1_i0, b1_i1, zr_b1, Classical.not_not, if_pos, if_neg, z_isShelf, y_isShelf, z_withinI, y_withinI, z_isFeet, y_isFeet, hq, y_noWay hm hsi hb, y_wrong hT hw, f2, f3]
                exact ⟨_, _, _, rfl, rfl, hr⟩
            · rw [if_neg c6] at hq
              obtain ⟨m3, r3, e3, e4, hr3⟩ := z_ref (why := -5) (by omega) hr
              simp (disch := omega) only [l_0, l_1, l_2, l_3, l_4, l_5, l_6, l_7, l_8, l_9, l_10, l_12, l_16, l_32, l_35, l_36, l_40, l_48, l_59, l_57, l_60, l_97, l_99, l_100, l_122, l_250, l_255, l_1000, l_10000, l_20000, l_1000000, l_12345, l_1103515245, iz_neg, iz_add, iz_sub, iz_mul, iz_lt, iz_le, iz_eq, Option.bind_some, b1_i0, b1_i1, zr_b1, Classical.not_not, if_pos, if_neg, z_isShelf, y_isShelf, z_withinI, y_withinI, z_isFeet, y_isFeet, hq, y_noWay hm hsi hb, y_wrong hT hw, e3, e4]
              exact ⟨_, _, _, rfl, rfl, hr3⟩
          · have wr := wo_ref c5
            have hq := z_whyNoWayN (w := w) hm hsi hb (show v ≤ 40 by omega) c5
            obtain ⟨m3, r3, e3, e4, hr3⟩ := z_ref (why := wo mk sz b v) (by omega) hr
            simp (disch := omega) only [l_0, l_1, l_2, l_3, l_4, l_5, l_6, l_7, l_8, l_9, l_10, l_12, l_16, l_32, l_35, l_36, l_40, l_48, l_59, l_57, l_60, l_97, l_99, l_100, l_122, l_250, l_255, l_1000, l_10000, l_20000, l_1000000, l_12345, l_1103515245, iz_neg, iz_add, iz_sub, iz_mul, iz_lt, iz_le, iz_eq, Option.bind_some, b1_i0, b1_i1, zr_b1, Classical.not_not, if_pos, if_neg, z_isShelf, y_isShelf, z_withinI, y_withinI, z_isFeet, y_isFeet, hq, y_noWay hm hsi hb, e3, e4]
            exact ⟨_, _, _, rfl, rfl, hr3⟩
        · simp (disch := omega) only [l_0, l_1, l_2, l_3, l_4, l_5, l_6, l_7, l_8, l_9, l_10, l_12, l_16, l_32, l_35, l_36, l_40, l_48, l_59, l_57, l_60, l_97, l_99, l_100, l_122, l_250, l_255, l_1000, l_10000, l_20000, l_1000000, l_12345, l_1103515245, iz_neg, iz_add, iz_sub, iz_mul, iz_lt, iz_le, iz_eq, Option.bind_some, b1_i0, b1_i1, zr_b1, Classical.not_not, if_pos, if_neg, z_isShelf, y_isShelf, z_withinI, y_withinI, z_isFeet, y_isFeet, e1, e2]
          exact ⟨_, _, _, rfl, rfl, hr2⟩
      · simp (disch := omega) only [l_0, l_1, l_2, l_3, l_4, l_5, l_6, l_7, l_8, l_9, l_10, l_12, l_16, l_32, l_35, l_36, l_40, l_48, l_59, l_57, l_60, l_97, l_99, l_100, l_122, l_250, l_255, l_1000, l_10000, l_20000, l_1000000, l_12345, l_1103515245, iz_neg, iz_add, iz_sub, iz_mul, iz_lt, iz_le, iz_eq, Option.bind_some, b1_i0, b1_i1, zr_b1, Classical.not_not, if_pos, if_neg, z_isShelf, y_isShelf, z_withinI, y_withinI, z_isFeet, y_isFeet, e1, e2]
        exact ⟨_, _, _, rfl, rfl, hr2⟩
    · simp (disch := omega) only [l_0, l_1, l_2, l_3, l_4, l_5, l_6, l_7, l_8, l_9, l_10, l_12, l_16, l_32, l_35, l_36, l_40, l_48, l_59, l_57, l_60, l_97, l_99, l_100, l_122, l_250, l_255, l_1000, l_10000, l_20000, l_1000000, l_12345, l_1103515245, iz_neg, iz_add, iz_sub, iz_mul, iz_lt, iz_le, iz_eq, Option.bind_some, b1_i0, b1_i1, zr_b1, Classical.not_not, if_pos, if_neg, z_isShelf, y_isShelf, z_withinI, y_withinI, e1, e2]
      exact ⟨_, _, _, rfl, rfl, hr2⟩
  · simp (disch := omega) only [l_0, l_1, l_2, l_3, l_4, l_5, l_6, l_7, l_8, l_9, l_10, l_12, l_16, l_32, l_35, l_36, l_40, l_48, l_59, l_57, l_60, l_97, l_99, l_100, l_122, l_250, l_255, l_1000, l_10000, l_20000, l_1000000, l_12345, l_1103515245, iz_neg, iz_add, iz_sub, iz_mul, iz_lt, iz_le, iz_eq, Option.bind_some, b1_i0, b1_i1, zr_b1, Classical.not_not, if_pos, if_neg, z_isShelf, y_isShelf, e1, e2]
    exact ⟨_, _, _, rfl, rfl, hr2⟩
/-- the stones wetted along a way -/
def dng (T : Nat → Int) (g : Nat → Int) : Nat → Nat → Int
  | 0 => g
  | k + 1 => upz (dng T g k) (T k).toNat (max 0 (dng T g k (T k).toNat - 1))
theorem dng_bd {T g : Nat → Int} (hg : ∀ j, 0 ≤ g j ∧ g j ≤ 9) : ∀ k j, 0 ≤ dng T g k j ∧ dng T g k j ≤ 9
  | 0, j => hg j
  | k + 1, j => by
    have h1 := dng_bd (T := T) hg k (T k).toNat
    have h2 := dng_bd (T := T) hg k j
    unfold dng upz
    split
    · omega
    · exact h2
theorem dng_0 {T g : Nat → Int} (hg : ∀ j, 36 ≤ j → g j = 0) : ∀ k j, 36 ≤ j → dng T g k j = 0
  | 0, j, hj => hg j hj
  | k + 1, j, hj => by
    have h1 := dng_0 (T := T) hg k j hj
    unfold dng upz
    split
    · rename_i c
      rw [← c, h1]
      rfl
    · exact h1
section
variable {w m : Nat} {rn er : Int} {g kd a' : Nat → Int} {sz : Nat → Int} {el ro : Nat → Int64} {a f : Nat} {T : Nat → Int}
theorem z_doneL (hw : 2 ≤ w ∧ w ≤ 6) (hg : ∀ j, 0 ≤ g j ∧ g j ≤ 9) (hT : TL sz el ro a T) (hz : (w : Int) ≤ sz a) (hk : ∀ k, k < w → bd w T k = false) :
    f_M_done_l63 (iz a) (iz w) (ar sz) el (iz 0) (ar g) = some (ar (dng T g w)) := by
  exact loopS (body := fun s : Int32 × (Nat → Int32) => f_M_done_b63 (iz a) (iz w) (ar sz) el s.1 s.2) (fun k => (iz k, ar (dng T g k))) (ar (dng T g w)) w (by omega)
    (fun k h => by
      obtain ⟨c, hc, e, d⟩ := tl_cell hw hk h
      have ww := sq_le hw
      have b := dng_bd (T := T) hg k c
      have ec : (c : Int).toNat = c := by omega
      simp only [f_M_done_b63]
      rw [z_told hT (show (k : Int) < sz a by omega), show dng T g (k + 1) = upz (dng T g k) (T k).toNat (max 0 (dng T g k (T k).toNat - 1)) from rfl, e, ec]
      simp only [Option.bind_some]
      rw [lz_int (by omega), z_stonesOn (by omega)]
      simp only [Option.bind_some]
      rw [l_1, iz_sub, l_0, iz_max (by omega) (by omega), z_pour (by omega), show iz (k : Int) + iz 1 = iz ((k + 1 : Nat) : Int) from iz_succ k]
      simp (disch := omega) only [iz_le, if_neg, Option.bind_some])
    (by
      simp only [f_M_done_b63]
      simp (disch := omega) only [iz_le, if_pos])
theorem y_doneL (hw : 2 ≤ w ∧ w ≤ 6) (hg : ∀ j, 0 ≤ g j ∧ g j ≤ 9) (hT : TL sz el ro a T) (hz : (w : Int) ≤ sz a) (hk : ∀ k, k < w → bd w T k = false) :
    f_R_done_l81 (iz a) (iz w) ro (iz 0) (ar g) = some (ar (dng T g w)) := by
  exact loopS (body := fun s : Int32 × (Nat → Int32) => f_R_done_b81 (iz a) (iz w) ro s.1 s.2) (fun k => (iz k, ar (dng T g k))) (ar (dng T g w)) w (by omega)
    (fun k h => by
      obtain ⟨c, hc, e, d⟩ := tl_cell hw hk h
      have ww := sq_le hw
      have b := dng_bd (T := T) hg k c
      have ec : (c : Int).toNat = c := by omega
      simp only [f_R_done_b81]
      rw [y_told hT (show (k : Int) < sz a by omega), show dng T g (k + 1) = upz (dng T g k) (T k).toNat (max 0 (dng T g k (T k).toNat - 1)) from rfl, e, ec]
      simp only [Option.bind_some]
      rw [lz_int (by omega), rdn c (by omega) (by omega)]
      simp only [Option.bind_some, ar_at]
      rw [l_1, iz_sub, l_0, iz_max (by omega) (by omega), wrn c (by omega) (by omega), upd_ar, show iz (k : Int) + iz 1 = iz ((k + 1 : Nat) : Int) from iz_succ k]
      simp (disch := omega) only [iz_le, if_neg, Option.bind_some])
    (by
      simp only [f_R_done_b81]
      simp (disch := omega) only [iz_le, if_pos])
end
theorem q_done {w m : Nat} {rn er : Int} {g kd a : Nat → Int} {mk sz rl : Nat → Int} {el ro : Nat → Int64} {rm rr : Nat → Int32} (hD : Dr w rn m g kd a) (her : 1 ≤ er ∧ er ≤ 99) (hg0 : ∀ j, 36 ≤ j → g j = 0) (hsi : SI m mk sz rl el ro) (hr : RF rm rr) (v1 v2 v3 : Int32) :
    ∃ ans g' rm' rr', f_M_done v1 v2 v3 (iz w) (iz rn) (iz m) (ar g) (ar kd) (ar a) (ar mk) (ar sz) el rm = some (ans, ar g', rm') ∧ f_R_done v1 v2 v3 (iz w) (iz rn) (iz er) (iz m) (ar g) (ar kd) (ar a) (ar mk) (ar rl) ro rr = some (ans, ar g', rr') ∧ (∀ j, 0 ≤ g' j ∧ g' j ≤ 9) ∧ (∀ j, 36 ≤ j → g' j = 0) ∧ RF rm' rr' := by
  obtain ⟨hw, hrn, hm, hg, hkd, ha⟩ := id hD
  obtain ⟨s, hs, rfl⟩ := anyI v1
  obtain ⟨t, ht, rfl⟩ := anyI v2
  obtain ⟨x, hx, rfl⟩ := anyI v3
  obtain ⟨m2, r2, e1, e2, hr2⟩ := z_ref (why := -2) (by omega) hr
  unfold f_M_done f_R_done f_M_done_j25 f_R_done_j25
  by_cases c1 : 0 ≤ s ∧ s < 8
  · obtain ⟨b, hb, rfl⟩ := natZ (n := 8) c1
    by_cases c2 : 0 ≤ t ∧ t ≤ 40
    · obtain ⟨v, hv, rfl⟩ := natZ (v := t) (n := 41) (by omega)
      by_cases c3 : 0 ≤ x ∧ x < m
      · obtain ⟨f, hf, rfl⟩ := natZ (n := m) c3
        have wb := wo_bd mk sz b v
        by_cases c5 : wo mk sz b v = 0
        · obtain ⟨hrow, hsz⟩ := wo_row hsi hb c5
          obtain ⟨_, _, T, hT⟩ := hsi.told hb hrow
          have hq := z_whyNoWay hw hm hsi hT (show v ≤ 40 by omega) c5
          have wz := wrz_bd w v T
          by_cases c6 : wrz w v T = -1
          · obtain ⟨rfl, hk⟩ := wrz_ok c6
            rw [if_pos c6] at hq
            have f1 := z_allAlong hD hf hT hsz hk
            have f3 := y_loudOf hD her hf hT hsz hk (iz 0)
            rw [if_pos (show iz 0 = 0 from rfl)] at f3
            simp (disch := omega) only [l_0, l_1, l_2, l_3, l_4, l_5, l_6, l_7, l_8, l_9, l_10, l_12, l_16, l_32, l_35, l_36, l_40, l_48, l_59, l_57, l_60, l_97, l_99, l_100, l_122, l_250, l_255, l_1000, l_10000, l_20000, l_1000000, l_12345, l_1103515245, iz_neg, iz_add, iz_sub, iz_mul, iz_lt, iz_le, iz_eq, Option.bind_some, b1_i0, b1_i1, zr_b1, Classical.not_not, if_pos, if_neg, z_isShelf, y_isShelf, z_withinI, y_withinI, z_isFeet, y_isFeet, hq, y_noWay hm hsi hb, y_wrong hT hw, f1, f3, z_doneL hw hg hT hsz hk, y_doneL hw hg hT hsz hk]
            exact ⟨_, _, _, _, rfl, rfl, dng_bd hg v, dng_0 hg0 v, hr⟩
          · rw [if_neg c6] at hq
            obtain ⟨m3, r3, e3, e4, hr3⟩ := z_ref (why := -5) (by omega) hr
            simp (disch := omega) only [l_0, l_1, l_2, l_3, l_4, l_5, l_6, l_7, l_8, l_9, l_10, l_12, l_16, l_32, l_35, l_36, l_40, l_48, l_59, l_57, l_60, l_97, l_99, l_100, l_122, l_250, l_255, l_1000, l_10000, l_20000, l_1000000, l_12345, l_1103515245, iz_neg, iz_add, iz_sub, iz_mul, iz_lt, iz_le, iz_eq, Option.bind_some, b1_i0, b1_i1, zr_b1, Classical.not_not, if_pos, if_neg, z_isShelf, y_isShelf, z_withinI, y_withinI, z_isFeet, y_isFeet, hq, y_noWay hm hsi hb, y_wrong hT hw, e3, e4]
            exact ⟨_, _, _, _, rfl, rfl, hg, hg0, hr3⟩
        · have wr := wo_ref c5
          have hq := z_whyNoWayN (w := w) hm hsi hb (show v ≤ 40 by omega) c5
          obtain ⟨m3, r3, e3, e4, hr3⟩ := z_ref (why := wo mk sz b v) (by omega) hr
          simp (disch := omega) only [l_0, l_1, l_2, l_3, l_4, l_5, l_6, l_7, l_8, l_9, l_10, l_12, l_16, l_32, l_35, l_36, l_40, l_48, l_59, l_57, l_60, l_97, l_99, l_100, l_122, l_250, l_255, l_1000, l_10000, l_20000, l_1000000, l_12345, l_1103515245, iz_neg, iz_add, iz_sub, iz_mul, iz_lt, iz_le, iz_eq, Option.bind_some, b1_i0, b1_i1, zr_b1, Classical.not_not, if_pos, if_neg, z_isShelf, y_isShelf, z_withinI, y_withinI, z_isFeet, y_isFeet, hq, y_noWay hm hsi hb, e3, e4]
          exact ⟨_, _, _, _, rfl, rfl, hg, hg0, hr3⟩
      · simp (disch := omega) only [l_0, l_1, l_2, l_3, l_4, l_5, l_6, l_7, l_8, l_9, l_10, l_12, l_16, l_32, l_35, l_36, l_40, l_48, l_59, l_57, l_60, l_97, l_99, l_100, l_122, l_250, l_255, l_1000, l_10000, l_20000, l_1000000, l_12345, l_1103515245, iz_neg, iz_add, iz_sub, iz_mul, iz_lt, iz_le, iz_eq, Option.bind_some, b1_i0, b1_i1, zr_b1, Classical.not_not, if_pos, if_neg, z_isShelf, y_isShelf, z_withinI, y_withinI, z_isFeet, y_isFeet, e1, e2]
        exact ⟨_, _, _, _, rfl, rfl, hg, hg0, hr2⟩
    · simp (disch := omega) only [l_0, l_1, l_2, l_3, l_4, l_5, l_6, l_7, l_8, l_9, l_10, l_12, l_16, l_32, l_35, l_36, l_40, l_48, l_59, l_57, l_60, l_97, l_99, l_100, l_122, l_250, l_255, l_1000, l_10000, l_20000, l_1000000, l_12345, l_1103515245, iz_neg, iz_add, iz_sub, iz_mul, iz_lt, iz_le, iz_eq, Option.bind_some, b1_i0, b1_i1, zr_b1, Classical.not_not, if_pos, if_neg, z_isShelf, y_isShelf, z_withinI, y_withinI, e1, e2]
      exact ⟨_, _, _, _, rfl, rfl, hg, hg0, hr2⟩
  · simp (disch := omega) only [l_0, l_1, l_2, l_3, l_4, l_5, l_6, l_7, l_8, l_9, l_10, l_12, l_16, l_32, l_35, l_36, l_40, l_48, l_59, l_57, l_60, l_97, l_99, l_100, l_122, l_250, l_255, l_1000, l_10000, l_20000, l_1000000, l_12345, l_1103515245, iz_neg, iz_add, iz_sub, iz_mul, iz_lt, iz_le, iz_eq, Option.bind_some, b1_i0, b1_i1, zr_b1, Classical.not_not, if_pos, if_neg, z_isShelf, y_isShelf, e1, e2]
    exact ⟨_, _, _, _, rfl, rfl, hg, hg0, hr2⟩

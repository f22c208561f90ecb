/-! telling -/
def apc (w : Nat) (u : Int) (g kd a : Nat → Int) (m c : Nat) : Int := ((cn (alo (sme w u g kd a c) m) m : Nat) : Int)
theorem apc_bd (w : Nat) (u : Int) (g kd a : Nat → Int) (m c : Nat) : 0 ≤ apc w u g kd a m c ∧ apc w u g kd a m c ≤ m := by
  have := cn_le (alo (sme w u g kd a c) m) m
  unfold apc
  omega
def sS (w : Nat) (u : Int) (g kd a : Nat → Int) (m : Nat) (s : Nat → Int64) : Nat → Nat → Int64
  | 0 => s
  | k + 1 => fls w u g kd a k m (sS w u g kd a m s k)
theorem fl_min (v : Nat → Int) : ∀ k j, j ≤ k → v (fl v k) ≤ v j
  | 0, j, h => by
    have e : j = 0 := by omega
    subst e
    exact Int.le_refl _
  | k + 1, j, h => by
    have ih := fl_min v k
    rw [fl_s]
    by_cases c : v (k + 1) < v (fl v k)
    · rw [if_pos c]
      by_cases e : j = k + 1
      · rw [e]; exact Int.le_refl _
      · have := ih j (by omega); omega
    · rw [if_neg c]
      by_cases e : j = k + 1
      · rw [e]; omega
      · exact ih j (by omega)
section
variable {w m : Nat} {u : Int} {g kd a : Nat → Int} {c f : Nat}
theorem z_mostApart (hD : Dr w u m g kd a) (s : Nat → Int64) : ∃ s', f_M_mostApart (iz w) (iz u) (iz m) (ar g) (ar kd) (ar a) s = some (iz ((fl (fun c => -apc w u g kd a m c) (w - 1) : Nat) : Int), s') := by
  obtain ⟨hw, hrn, hm, hg, hkd, ha⟩ := id hD
  refine ⟨sS w u g kd a m s w, ?_⟩
  have h0 : (fun c => -apc w u g kd a m c) 0 < 1 := by
    have := apc_bd w u g kd a m 0
    dsimp only
    omega
  have h := loopS (body := fun s : Int32 × Int32 × Int32 × (Nat → Int64) => f_M_mostApart_b6 (iz w) (iz u) (iz m) (ar g) (ar kd) (ar a) s.1 s.2.1 s.2.2.1 s.2.2.2) (fun k => (iz (((fb (fun c => -apc w u g kd a m c) 1 k).1 : Nat) : Int), iz (-(fb (fun c => -apc w u g kd a m c) 1 k).2), iz k, sS w u g kd a m s k)) (iz (((fb (fun c => -apc w u g kd a m c) 1 w).1 : Nat) : Int), sS w u g kd a m s w) w (by omega)
    (fun k hk => by
      have b1 := apc_bd w u g kd a m k
      have b2 := apc_bd w u g kd a m (fb (fun c => -apc w u g kd a m c) 1 k).1
      have b3 := (fb_lt (v := fun c => -apc w u g kd a m c) h0 k).2
      have b5 : -8 ≤ (fb (fun c => -apc w u g kd a m c) 1 k).2 ∧ (fb (fun c => -apc w u g kd a m c) 1 k).2 ≤ 1 := by
        rcases b3 with e | e
        · omega
        · rw [e]; omega
      simp only [f_M_mostApart_b6]
      rw [z_apartUnder hD hk, ← iz_succ]
      simp only [Option.bind_some]
      rw [show ((cn (alo (sme w u g kd a k) m) m : Nat) : Int) = apc w u g kd a m k from rfl]
      rw [fb_s]
      by_cases c : -apc w u g kd a m k < (fb (fun c => -apc w u g kd a m c) 1 k).2
      · rw [if_neg (by rw [iz_le (by omega) (by omega)]; omega), if_neg (by rw [iz_le (by omega) (by omega)]; omega), if_pos c]
        rw [show -(-apc w u g kd a m k) = apc w u g kd a m k by omega]
        rfl
      · rw [if_neg (by rw [iz_le (by omega) (by omega)]; omega), if_pos (by rw [iz_le (by omega) (by omega)]; omega), if_neg c]
        rfl)
    (by
      simp only [f_M_mostApart_b6]
      simp (disch := omega) only [iz_le, if_pos])
  unfold f_M_mostApart
  rw [show f_M_mostApart_l6 (iz w) (iz u) (iz m) (ar g) (ar kd) (ar a) 0 (-1) 0 s = _ from h]
  have e : fb (fun c => -apc w u g kd a m c) 1 w = (fl (fun c => -apc w u g kd a m c) (w - 1), -apc w u g kd a m (fl (fun c => -apc w u g kd a m c) (w - 1))) := by
    have := fb_fl (v := fun c => -apc w u g kd a m c) h0 (w - 1)
    rw [show w - 1 + 1 = w by omega] at this
    exact this
  rw [e]
  rfl
theorem y_mostApart (hD : Dr w u m g kd a) : f_R_mostApart (iz w) (iz u) (iz m) (ar g) (ar kd) (ar a) = some (iz ((fl (fun c => -apc w u g kd a m c) (w - 1) : Nat) : Int)) := by
  obtain ⟨hw, hrn, hm, hg, hkd, ha⟩ := id hD
  have h := loopS (body := fun s : Int32 × Int32 => f_R_mostApart_b4 (iz w) (iz u) (iz m) (ar g) (ar kd) (ar a) s.1 s.2) (fun k => (iz ((fl (fun c => -apc w u g kd a m c) k : Nat) : Int), iz ((k + 1 : Nat) : Int))) (iz ((fl (fun c => -apc w u g kd a m c) (w - 1) : Nat) : Int)) (w - 1) (by omega)
    (fun k hk => by
      have b1 := apc_bd w u g kd a m (k + 1)
      have b2 := apc_bd w u g kd a m (fl (fun c => -apc w u g kd a m c) k)
      have b5 := fl_le (fun c => -apc w u g kd a m c) k
      simp only [f_R_mostApart_b4]
      rw [y_apartOn hD (show k + 1 < w by omega), y_apartOn hD (show fl (fun c => -apc w u g kd a m c) k < w by omega), ← iz_succ (k + 1)]
      simp only [Option.bind_some]
      rw [show ((cn (alo (sme w u g kd a (k + 1)) m) m : Nat) : Int) = apc w u g kd a m (k + 1) from rfl, show ((cn (alo (sme w u g kd a (fl (fun c => -apc w u g kd a m c) k)) m) m : Nat) : Int) = apc w u g kd a m (fl (fun c => -apc w u g kd a m c) k) from rfl]
      rw [fl_s]
      by_cases c : -apc w u g kd a m (k + 1) < -apc w u g kd a m (fl (fun c => -apc w u g kd a m c) k)
      · rw [if_neg (by rw [iz_le (by omega) (by omega)]; omega), if_neg (by rw [iz_le (by omega) (by omega)]; omega), if_pos c]
      · rw [if_neg (by rw [iz_le (by omega) (by omega)]; omega), if_pos (by rw [iz_le (by omega) (by omega)]; omega), if_neg c])
    (by
      simp only [f_R_mostApart_b4]
      simp (disch := omega) only [iz_le, if_pos])
  unfold f_R_mostApart
  rw [show f_R_mostApart_l4 (iz w) (iz u) (iz m) (ar g) (ar kd) (ar a) 0 1 = _ from h]
  rfl
def apQ (w : Nat) (u : Int) (g kd a : Nat → Int) (m : Nat) (c : Nat) : Bool := decide (apc w u g kd a m c = m)
def apR (w : Nat) (g kd a : Nat → Int) (m : Nat) (u : Nat) : Bool := decide (fnd (apQ w u g kd a m) 0 w < w)
theorem z_rainI (hD : Dr w u m g kd a) (s : Nat → Int64) : f_M_leastRainApart_l10 (iz u) (iz w) (iz m) (ar g) (ar kd) (ar a) (iz 0) s = some (if fnd (apQ w u g kd a m) 0 w < w then .inl (sS w u g kd a m s (fnd (apQ w u g kd a m) 0 w + 1)) else .inr (sS w u g kd a m s w)) := by
  obtain ⟨hw, hrn, hm, hg, hkd, ha⟩ := id hD
  exact loopE (body := fun s : Int32 × (Nat → Int64) => f_M_leastRainApart_b10 (iz u) (iz w) (iz m) (ar g) (ar kd) (ar a) s.1 s.2) (fun k => (iz k, sS w u g kd a m s k)) (apQ w u g kd a m) (fun k => .inl (sS w u g kd a m s (k + 1))) (.inr (sS w u g kd a m s w)) w (by omega)
    (fun k hk hP => by
      have b := apc_bd w u g kd a m k
      have hP2 := of_decide_eq_false hP
      simp only [f_M_leastRainApart_b10, z_count hD.2.2.1, Option.bind_some]
      rw [z_apartUnder hD hk]
      simp only [Option.bind_some]
      rw [show ((cn (alo (sme w u g kd a k) m) m : Nat) : Int) = apc w u g kd a m k from rfl]
      rw [if_neg (by rw [iz_le (by omega) (by omega)]; omega), if_neg (by rw [iz_eq (by omega) (by omega)]; exact hP2), iz_succ]
      rfl)
    (fun k hk hP => by
      have b := apc_bd w u g kd a m k
      have hP2 := of_decide_eq_true hP
      simp only [f_M_leastRainApart_b10, z_count hD.2.2.1, Option.bind_some]
      rw [z_apartUnder hD hk]
      simp only [Option.bind_some]
      rw [show ((cn (alo (sme w u g kd a k) m) m : Nat) : Int) = apc w u g kd a m k from rfl]
      rw [if_neg (by rw [iz_le (by omega) (by omega)]; omega), if_pos (by rw [iz_eq (by omega) (by omega)]; exact hP2)]
      rfl)
    (by
      simp only [f_M_leastRainApart_b10, z_count hD.2.2.1, Option.bind_some]
      simp (disch := omega) only [iz_le, if_pos])
def sR (w : Nat) (g kd a : Nat → Int) (m : Nat) (s : Nat → Int64) : Nat → Nat → Int64
  | 0 => s
  | k + 1 => sS w k g kd a m (sR w g kd a m s k) w
theorem z_leastRain (hD : Dr w u m g kd a) (s : Nat → Int64) : ∃ s', f_M_leastRainApart (iz w) (iz m) (ar g) (ar kd) (ar a) s = some (iz (if fnd (apR w g kd a m) 0 10 < 10 then (fnd (apR w g kd a m) 0 10 : Nat) else -1), s') := by
  obtain ⟨hw, hrn, hm, hg, hkd, ha⟩ := id hD
  have h := loopE (body := fun s : Int32 × (Nat → Int64) => f_M_leastRainApart_b2 (iz w) (iz m) (ar g) (ar kd) (ar a) s.1 s.2) (fun k => (iz k, sR w g kd a m s k)) (apR w g kd a m) (fun k => .inl (iz k, sS w k g kd a m (sR w g kd a m s k) (fnd (apQ w k g kd a m) 0 w + 1))) (.inr (sR w g kd a m s 10)) 10 (by omega)
    (fun k hk hP => by
      have hP2 := of_decide_eq_false hP
      have hD2 : Dr w k m g kd a := ⟨hw, by omega, hm, hg, hkd, ha⟩
      simp only [f_M_leastRainApart_b2]
      rw [l_9, if_neg (by rw [iz_lt (by omega) (by omega)]; omega), show f_M_leastRainApart_l10 (iz k) (iz w) (iz m) (ar g) (ar kd) (ar a) 0 (sR w g kd a m s k) = _ from z_rainI hD2 _, if_neg hP2, iz_succ]
      rfl)
    (fun k hk hP => by
      have hP2 := of_decide_eq_true hP
      have hD2 : Dr w k m g kd a := ⟨hw, by omega, hm, hg, hkd, ha⟩
      simp only [f_M_leastRainApart_b2]
      rw [l_9, if_neg (by rw [iz_lt (by omega) (by omega)]; omega), show f_M_leastRainApart_l10 (iz k) (iz w) (iz m) (ar g) (ar kd) (ar a) 0 (sR w g kd a m s k) = _ from z_rainI hD2 _, if_pos hP2]
      rfl)
    (by
      simp only [f_M_leastRainApart_b2]
      exact if_pos (by decide))
  unfold f_M_leastRainApart
  rw [show f_M_leastRainApart_l2 (iz w) (iz m) (ar g) (ar kd) (ar a) 0 s = _ from h]
  simp only [Option.bind_some]
  split
  · exact ⟨_, rfl⟩
  · exact ⟨_, rfl⟩
theorem apR_is (hw : 2 ≤ w ∧ w ≤ 6) (u : Nat) : (apc w u g kd a m (fl (fun c => -apc w u g kd a m c) (w - 1)) = m) = (apR w g kd a m u = true) := propext (by
  have hl := fl_le (fun c => -apc w u g kd a m c) (w - 1)
  constructor
  · intro h
    apply decide_eq_true
    by_cases c : fnd (apQ w u g kd a m) 0 w < w
    · exact c
    · have h1 := fnd_le (apQ w u g kd a m) w 0
      have h2 := fnd_no (apQ w u g kd a m) w 0 (fl (fun c => -apc w u g kd a m c) (w - 1)) (by omega) (by omega)
      have h3 := of_decide_eq_false h2
      exact absurd h h3
  · intro h
    have h1 := of_decide_eq_true h
    have h2 := of_decide_eq_true (fnd_yes (apQ w u g kd a m) w 0 (by omega))
    have h3 := fl_min (fun c => -apc w u g kd a m c) (w - 1) (fnd (apQ w u g kd a m) 0 w) (by omega)
    have h4 := apc_bd w u g kd a m (fl (fun c => -apc w u g kd a m c) (w - 1))
    omega)
theorem y_tellL (hD : Dr w u m g kd a) : ∃ x, f_R_telling_l36 (iz w) (iz m) (ar g) (ar kd) (ar a) (iz (-1)) (iz 9) (iz u) = some (iz (if fnd (apR w g kd a m) 0 10 < 10 then (fnd (apR w g kd a m) 0 10 : Nat) else -1), x) := by
  obtain ⟨hw, hrn, hm, hg, hkd, ha⟩ := id hD
  refine ⟨iz 0, ?_⟩
  exact loopS (body := fun s : Int32 × Int32 × Int32 => f_R_telling_b36 (iz w) (iz m) (ar g) (ar kd) (ar a) s.1 s.2.1 s.2.2) (fun k => (iz (if fnd (apR w g kd a m) (10 - k) k < 10 then (fnd (apR w g kd a m) (10 - k) k : Nat) else -1), iz (9 - (k : Int)), if k = 0 then iz u else iz (10 - (k : Int)))) _ 10 (by omega)
    (fun k hk => by
      obtain ⟨j, hj⟩ : ∃ j, 10 - k = j + 1 := ⟨9 - k, by omega⟩
      have e1 : (9 - (k : Int)) = (j : Int) := by omega
      have e2 : 10 - (k + 1) = j := by omega
      have e3 : (9 - ((k + 1 : Nat) : Int)) = (j : Int) + -1 := by omega
      have e4 : (10 - ((k + 1 : Nat) : Int)) = (j : Int) := by omega
      have hD2 : Dr w j m g kd a := ⟨hw, by omega, hm, hg, hkd, ha⟩
      have hl := fl_le (fun c => -apc w j g kd a m c) (w - 1)
      have b := apc_bd w j g kd a m (fl (fun c => -apc w j g kd a m c) (w - 1))
      have e := apR_is (g := g) (kd := kd) (a := a) (m := m) hw j
      simp only [f_R_telling_b36]
      rw [e1, y_mostApart hD2]
      simp only [Option.bind_some]
      rw [y_apartOn hD2 (show fl (fun c => -apc w j g kd a m c) (w - 1) < w by omega)]
      simp only [Option.bind_some]
      rw [show ((cn (alo (sme w j g kd a (fl (fun c => -apc w j g kd a m c) (w - 1))) m) m : Nat) : Int) = apc w j g kd a m (fl (fun c => -apc w j g kd a m c) (w - 1)) from rfl]
      rw [l_0, if_neg (by rw [iz_lt (by omega) (by omega)]; omega), e2, e3, e4, hj, fnd_s, if_neg (show ¬ k + 1 = 0 by omega), show (-1 : Int32) = iz (-1) from rfl, iz_add]
      by_cases q : apR w g kd a m j = true
      · rw [if_pos (by rw [iz_eq (by omega) (by omega), e]; exact q), if_pos q, if_pos (show j < 10 by omega)]
      · rw [if_neg (by rw [iz_eq (by omega) (by omega), e]; exact q), if_neg q])
    (by
      simp only [f_R_telling_b36]
      exact if_pos (by decide))
end
theorem q_telling {w m : Nat} {rn : Int} {g kd a : Nat → Int} {rm rr : Nat → Int32} (hD : Dr w rn m g kd a) (hr : RF rm rr) (v1 : Int32) (s : Nat → Int64) :
    ∃ ans s' rm' rr', f_M_telling v1 (iz w) (iz rn) (iz m) (ar g) (ar kd) (ar a) s rm = some (ans, s', rm') ∧ f_R_telling v1 (iz w) (iz rn) (iz m) (ar g) (ar kd) (ar a) rr = some (ans, iz rn, rr') ∧ RF rm' rr' := by
  obtain ⟨hw, hrn, hm, hg, hkd, ha⟩ := id hD
  obtain ⟨x, hx, rfl⟩ := anyI v1
  obtain ⟨rm2, rr2, e1, e2, hr2⟩ := z_ref (why := -2) (by omega) hr
  obtain ⟨s1, f1⟩ := z_mostApart hD s
  obtain ⟨s2, f2⟩ := z_leastRain hD s
  obtain ⟨y, f3⟩ := y_tellL hD
  have f4 := y_mostApart hD
  unfold f_M_telling f_R_telling
  by_cases c1 : 0 ≤ x ∧ x ≤ 1
  · by_cases c2 : x = 0
    · simp (disch := omega) only [l_0, l_1, l_2, l_3, l_4, l_5, l_6, l_7, l_8, l_9, l_10, l_12, l_16, l_32, l_35, l_36, l_40, l_48, l_59, l_57, l_60, l_97, l_99, l_100, l_122, l_250, l_255, l_1000, l_10000, l_20000, l_1000000, l_12345, l_1103515245, iz_neg, iz_add, iz_sub, iz_mul, iz_lt, iz_le, iz_eq, Option.bind_some, b1_i0, b1_i1, zr_b1, Classical.not_not, if_pos, if_neg, z_withinI, y_withinI, f1, f4]
      exact ⟨_, _, _, _, rfl, rfl, hr⟩
    · simp (disch := omega) only [l_0, l_1, l_2, l_3, l_4, l_5, l_6, l_7, l_8, l_9, l_10, l_12, l_16, l_32, l_35, l_36, l_40, l_48, l_59, l_57, l_60, l_97, l_99, l_100, l_122, l_250, l_255, l_1000, l_10000, l_20000, l_1000000, l_12345, l_1103515245, iz_neg, iz_add, iz_sub, iz_mul, iz_lt, iz_le, iz_eq, Option.bind_some, b1_i0, b1_i1, zr_b1, Classical.not_not, if_pos, if_neg, z_withinI, y_withinI, f2, f3]
      exact ⟨_, _, _, _, rfl, rfl, hr⟩
  · simp (disch := omega) only [l_0, l_1, l_2, l_3, l_4, l_5, l_6, l_7, l_8, l_9, l_10, l_12, l_16, l_32, l_35, l_36, l_40, l_48, l_59, l_57, l_60, l_97, l_99, l_100, l_122, l_250, l_255, l_1000, l_10000, l_20000, l_1000000, l_12345, l_1103515245, iz_neg, iz_add, iz_sub, iz_mul, iz_lt, iz_le, iz_eq, Option.bind_some, b1_i0, b1_i1, zr_b1, Classical.not_not, if_pos, if_neg, z_withinI, y_withinI, e1, e2]
    exact ⟨_, _, _, _, rfl, rfl, hr2⟩

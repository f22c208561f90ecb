/-! ranked, duel -/
section
variable {w m : Nat} {rn : Int} {g kd a : Nat → Int}
abbrev qu (w : Nat) (rn : Int) (g kd a : Nat → Int) (f : Nat) : Int := ls w (stp w rn g kd a f)
theorem qu_bd (hD : Dr w rn m g kd a) (f : Nat) : -500 ≤ qu w rn g kd a f ∧ qu w rn g kd a f ≤ 500 := by
  obtain ⟨hw, hrn, hm, hg, hkd, ha⟩ := id hD
  exact ls_bd hw (fun j => by have := stp_bd (w := w) (kd := kd) (f := f) hg ha hrn.1 j; omega)
def isLess (v : Nat → Int) (f k : Nat) : Prop := v k < v f ∨ (v k = v f ∧ k < f)
def plc (v : Nat → Int) (f k : Nat) : Int := sm (fun k => if v k < v f ∨ (v k = v f ∧ k < f) then 1 else 0) k
theorem plc_s (v : Nat → Int) (f k : Nat) : plc v f (k + 1) = plc v f k + if v k < v f ∨ (v k = v f ∧ k < f) then 1 else 0 := rfl
theorem plc_bd (v : Nat → Int) (f : Nat) (k : Nat) : 0 ≤ plc v f k ∧ plc v f k ≤ k := by
  have := sm_bd (g := fun k => if v k < v f ∨ (v k = v f ∧ k < f) then 1 else 0) (b := 1) k (fun j _ => by split <;> omega)
  unfold plc
  omega
theorem z_placeOf {vol : Nat → Int32} {v : Nat → Int} {f : Nat} (hm : m ≤ 8) (hf : f < m) (hv : ∀ j, -500 ≤ v j ∧ v j ≤ 500) (h : ∀ j, j < m → vol j = iz (v j)) : f_M_placeOf (iz f) (iz m) vol = some (iz (plc v f m)) := by
  have hl := loopS (body := fun s : Int32 × Int32 => f_M_placeOf_b4 (iz f) (iz m) vol s.1 s.2) (fun k => (iz (plc v f k), iz k)) (iz (plc v f m)) m (by omega)
    (fun k hk => by
      have b1 := hv k
      have b2 := hv f
      simp only [f_M_placeOf_b4, z_count hm, Option.bind_some]
      rw [if_neg (by rw [iz_le (by omega) (by omega)]; omega), rdn _ (by omega) (by omega), rdn _ (by omega) (by omega), h k hk, h f hf, plc_s, iz_succ k]
      simp only [Option.bind_some]
      by_cases c1 : v k < v f
      · rw [if_pos (by rw [iz_lt (by omega) (by omega)]; exact c1), if_pos (Or.inl c1), l_1, iz_add]
      · rw [if_neg (by rw [iz_lt (by omega) (by omega)]; exact c1)]
        by_cases c2 : v k = v f
        · rw [if_pos (by rw [c2])]
          by_cases c3 : k < f
          · rw [if_neg (by rw [iz_le (by omega) (by omega)]; omega), if_pos (Or.inr ⟨c2, c3⟩), l_1, iz_add]
          · rw [if_pos (by rw [iz_le (by omega) (by omega)]; omega), if_neg (by omega), Int.add_zero]
        · rw [if_neg (by rw [iz_eq (by omega) (by omega)]; exact c2), if_neg (by omega), Int.add_zero])
    (by
      simp only [f_M_placeOf_b4, z_count hm, Option.bind_some]
      rw [if_pos (by rw [iz_le (by omega) (by omega)]; omega)])
  unfold f_M_placeOf
  rw [show f_M_placeOf_l4 (iz f) (iz m) vol 0 0 = _ from hl]
  rfl
def isAt (v : Nat → Int) (m : Nat) (x : Int) (f : Nat) : Bool := decide (plc v f m = x)
theorem z_rankedV (hD : Dr w rn m g kd a) (pw : Int32) (st rest way vol : Nat → Int32) :
    ∃ r, f_M_ranked_l17 (iz w) (iz rn) (iz m) (ar g) (ar kd) (ar a) 0 pw st rest way vol = some r ∧ ∀ j, j < m → r.2.2.2.2 j = iz (qu w rn g kd a j) := by
  obtain ⟨hw, hrn, hm, hg, hkd, ha⟩ := id hD
  exact loopI (body := fun s : Int32 × Int32 × (Nat → Int32) × (Nat → Int32) × (Nat → Int32) × (Nat → Int32) => f_M_ranked_b17 (iz w) (iz rn) (iz m) (ar g) (ar kd) (ar a) s.1 s.2.1 s.2.2.1 s.2.2.2.1 s.2.2.2.2.1 s.2.2.2.2.2)
    (fun k z => ∃ pw st rest way vol, z = (iz k, pw, st, rest, way, vol) ∧ ∀ j, j < k → vol j = iz (qu w rn g kd a j)) _ m (by omega)
    (fun k z hk => by
      rintro ⟨pw, st, rest, way, vol, rfl, h1⟩
      obtain ⟨st', rest', way', e, _⟩ := z_leastOf hD hk pw st rest way
      simp only [f_M_ranked_b17, z_count hD.2.2.1, Option.bind_some]
      rw [if_neg (by rw [iz_le (by omega) (by omega)]; omega), e]
      simp only [Option.bind_some]
      rw [wrn _ (by omega) (by omega)]
      refine ⟨_, rfl, _, _, _, _, _, by rw [iz_succ], fun j hj => ?_⟩
      by_cases c : j = k
      · subst c; exact upd_same
      · rw [upd_ne c]; exact h1 j (by omega))
    (fun z => by
      rintro ⟨pw, st, rest, way, vol, rfl, h1⟩
      simp only [f_M_ranked_b17, z_count hD.2.2.1, Option.bind_some]
      rw [if_pos (by rw [iz_le (by omega) (by omega)]; omega)]
      exact ⟨_, rfl, h1⟩)
    (0, pw, st, rest, way, vol) ⟨pw, st, rest, way, vol, rfl, fun j hj => by omega⟩
theorem z_rankedL {vol : Nat → Int32} {v : Nat → Int} {x : Int} (hm : m ≤ 8) (hx : -2147483648 ≤ x ∧ x < 2147483648) (hv : ∀ j, -500 ≤ v j ∧ v j ≤ 500) (h : ∀ j, j < m → vol j = iz (v j)) :
    f_M_ranked_l47 (iz x) (iz m) vol 0 = some (if fnd (isAt v m x) 0 m < m then .inl (iz ((fnd (isAt v m x) 0 m : Nat) : Int)) else .inr ()) := by
  exact loopE (body := fun s : Int32 => f_M_ranked_b47 (iz x) (iz m) vol s) (fun k => iz k) (isAt v m x) (fun k => .inl (iz k)) (.inr ()) m (by omega)
    (fun k hk hP => by
      have b := plc_bd v k m
      have h2 := of_decide_eq_false hP
      simp only [f_M_ranked_b47, z_count hm, Option.bind_some]
      rw [if_neg (by rw [iz_le (by omega) (by omega)]; omega), z_placeOf hm hk hv h]
      simp only [Option.bind_some]
      rw [if_neg (by rw [iz_eq (by omega) hx]; exact h2), iz_succ])
    (fun k hk hP => by
      have b := plc_bd v k m
      have h2 := of_decide_eq_true hP
      simp only [f_M_ranked_b47, z_count hm, Option.bind_some]
      rw [if_neg (by rw [iz_le (by omega) (by omega)]; omega), z_placeOf hm hk hv h]
      simp only [Option.bind_some]
      rw [if_pos (by rw [h2])])
    (by
      simp only [f_M_ranked_b47, z_count hm, Option.bind_some]
      rw [if_pos (by rw [iz_le (by omega) (by omega)]; omega)])
theorem y_rankedS {f : Nat} (hD : Dr w rn m g kd a) (hf : f < m) (cost may rest way : Nat → Int32) :
    ∃ r, f_R_ranked_l30 (iz f) (iz w) (iz rn) (iz m) (ar g) (ar kd) (ar a) 0 0 cost may rest way = some r ∧ r.1 = iz (plc (qu w rn g kd a) f m) := by
  obtain ⟨hw, hrn, hm, hg, hkd, ha⟩ := id hD
  have hv := qu_bd hD
  exact loopI (body := fun s : Int32 × Int32 × (Nat → Int32) × (Nat → Int32) × (Nat → Int32) × (Nat → Int32) => f_R_ranked_b30 (iz f) (iz w) (iz rn) (iz m) (ar g) (ar kd) (ar a) s.1 s.2.1 s.2.2.1 s.2.2.2.1 s.2.2.2.2.1 s.2.2.2.2.2)
    (fun k z => ∃ cost may rest way, z = (iz (plc (qu w rn g kd a) f k), iz k, cost, may, rest, way)) _ m (by omega)
    (fun k z hk => by
      rintro ⟨cost, may, rest, way, rfl⟩
      have b1 := hv k
      have b2 := hv f
      obtain ⟨c1, m1, r1, w1, e1, _⟩ := y_quiet hD hk cost may rest way
      obtain ⟨c2, m2, r2, w2, e2, _⟩ := y_quiet hD hf c1 m1 r1 w1
      obtain ⟨c3, m3, r3, w3, e3, _⟩ := y_quiet hD hk c2 m2 r2 w2
      obtain ⟨c4, m4, r4, w4, e4, _⟩ := y_quiet hD hf c3 m3 r3 w3
      change _ = some (iz (qu w rn g kd a k), _, _, _, _) at e1
      change _ = some (iz (qu w rn g kd a f), _, _, _, _) at e2
      change _ = some (iz (qu w rn g kd a k), _, _, _, _) at e3
      change _ = some (iz (qu w rn g kd a f), _, _, _, _) at e4
      simp only [f_R_ranked_b30]
      rw [if_neg (by rw [iz_le (by omega) (by omega)]; omega), e1]
      simp only [Option.bind_some]
      rw [e2]
      simp only [Option.bind_some]
      rw [plc_s, iz_succ k]
      by_cases d1 : qu w rn g kd a k < qu w rn g kd a f
      · rw [if_pos (by rw [iz_lt (by omega) (by omega)]; exact d1), if_pos (Or.inl d1), l_1, iz_add]
        exact ⟨_, rfl, _, _, _, _, rfl⟩
      · rw [if_neg (by rw [iz_lt (by omega) (by omega)]; exact d1), e3]
        simp only [Option.bind_some]
        rw [e4]
        simp only [Option.bind_some]
        by_cases d2 : qu w rn g kd a k = qu w rn g kd a f
        · rw [if_pos (by rw [d2])]
          by_cases d3 : k < f
          · rw [if_neg (by rw [iz_le (by omega) (by omega)]; omega), if_pos (Or.inr ⟨d2, d3⟩), l_1, iz_add]
            exact ⟨_, rfl, _, _, _, _, rfl⟩
          · rw [if_pos (by rw [iz_le (by omega) (by omega)]; omega), if_neg (by omega), Int.add_zero]
            exact ⟨_, rfl, _, _, _, _, rfl⟩
        · rw [if_neg (by rw [iz_eq (by omega) (by omega)]; exact d2), if_neg (by omega), Int.add_zero]
          exact ⟨_, rfl, _, _, _, _, rfl⟩)
    (fun z => by
      rintro ⟨cost, may, rest, way, rfl⟩
      simp only [f_R_ranked_b30]
      rw [if_pos (by rw [iz_le (by omega) (by omega)]; omega)]
      exact ⟨_, rfl, rfl⟩)
    (0, 0, cost, may, rest, way) ⟨cost, may, rest, way, rfl⟩
theorem y_rankedL {x : Int} (hD : Dr w rn m g kd a) (hx : -2147483648 ≤ x ∧ x < 2147483648) (cost may rest way : Nat → Int32) :
    ∃ r, f_R_ranked_l17 (iz x) (iz w) (iz rn) (iz m) (ar g) (ar kd) (ar a) 0 cost may rest way = some r ∧ ((fnd (isAt (qu w rn g kd a) m x) 0 m < m → ∃ s, r = .inl (iz ((fnd (isAt (qu w rn g kd a) m x) 0 m : Nat) : Int), s)) ∧ (¬ fnd (isAt (qu w rn g kd a) m x) 0 m < m → ∃ s, r = .inr s)) := by
  obtain ⟨hw, hrn, hm, hg, hkd, ha⟩ := id hD
  have hle := fnd_le (isAt (qu w rn g kd a) m x) m 0
  exact loopI (body := fun s : Int32 × (Nat → Int32) × (Nat → Int32) × (Nat → Int32) × (Nat → Int32) => f_R_ranked_b17 (iz x) (iz w) (iz rn) (iz m) (ar g) (ar kd) (ar a) s.1 s.2.1 s.2.2.1 s.2.2.2.1 s.2.2.2.2)
    (fun k z => ∃ cost may rest way, z = (iz k, cost, may, rest, way)) _ (fnd (isAt (qu w rn g kd a) m x) 0 m) (by omega)
    (fun k z hk => by
      rintro ⟨cost, may, rest, way, rfl⟩
      have b := plc_bd (qu w rn g kd a) k m
      have h2 := of_decide_eq_false (fnd_no (isAt (qu w rn g kd a) m x) m 0 k (by omega) hk)
      obtain ⟨r, e, h⟩ := y_rankedS hD (show k < m by omega) cost may rest way
      simp only [f_R_ranked_b17]
      rw [if_neg (by rw [iz_le (by omega) (by omega)]; omega), e]
      simp only [Option.bind_some]
      rw [h, if_neg (by rw [iz_eq (by omega) hx]; exact h2), iz_succ]
      exact ⟨_, rfl, _, _, _, _, rfl⟩)
    (fun z => by
      rintro ⟨cost, may, rest, way, rfl⟩
      simp only [f_R_ranked_b17]
      by_cases c : fnd (isAt (qu w rn g kd a) m x) 0 m < m
      · have h2 := of_decide_eq_true (fnd_yes (isAt (qu w rn g kd a) m x) m 0 (by omega))
        obtain ⟨r, e, h⟩ := y_rankedS hD c cost may rest way
        rw [if_neg (by rw [iz_le (by omega) (by omega)]; omega), e]
        simp only [Option.bind_some]
        rw [h, if_pos (by rw [h2])]
        exact ⟨_, rfl, fun _ => ⟨_, rfl⟩, fun z => absurd c z⟩
      · rw [if_pos (by rw [iz_le (by omega) (by omega)]; omega)]
        exact ⟨_, rfl, fun z => absurd z c, fun _ => ⟨_, rfl⟩⟩)
    (0, cost, may, rest, way) ⟨cost, may, rest, way, rfl⟩
theorem q_ranked {rm rr : Nat → Int32} (hD : Dr w rn m g kd a) (hr : RF rm rr) (v1 pw : Int32) (st rest way vol cost may yrest yway : Nat → Int32) :
    ∃ x y, f_M_ranked v1 (iz w) (iz rn) (iz m) (ar g) (ar kd) (ar a) pw st rest way vol rm = some x ∧ f_R_ranked v1 (iz w) (iz rn) (iz m) (ar g) (ar kd) (ar a) rr cost may yrest yway = some y ∧ x.1 = y.1 ∧ RF x.2.2.2.2.2.2 y.2.1 := by
  obtain ⟨hw, hrn, hm, hg, hkd, ha⟩ := id hD
  obtain ⟨x, hx, rfl⟩ := anyI v1
  obtain ⟨rm2, rr2, e1, e2, hr2⟩ := z_ref (why := -2) (by omega) hr
  unfold f_M_ranked f_R_ranked
  by_cases c1 : 0 ≤ x ∧ x < m
  · obtain ⟨r, e3, h3⟩ := z_rankedV hD pw st rest way vol
    obtain ⟨s, e4, h4⟩ := y_rankedL hD hx cost may yrest yway
    simp (disch := omega) only [l_0, l_1, l_2, l_3, l_4, l_5, l_6, l_7, l_8, l_9, l_10, l_12, l_16, l_32, l_35, l_36, l_40, l_48, l_59, l_57, l_60, l_97, l_99, l_100, l_122, l_250, l_255, l_1000, l_10000, l_20000, l_1000000, l_12345, l_1103515245, iz_neg, iz_add, iz_sub, iz_mul, iz_lt, iz_le, iz_eq, Option.bind_some, b1_i0, b1_i1, zr_b1, Classical.not_not, if_pos, if_neg, z_isFeet, y_isFeet]
    rw [show f_M_ranked_l17 (iz w) (iz rn) (iz m) (ar g) (ar kd) (ar a) (iz 0) pw st rest way vol = _ from e3, show f_R_ranked_l17 (iz x) (iz w) (iz rn) (iz m) (ar g) (ar kd) (ar a) (iz 0) cost may yrest yway = _ from e4]
    simp only [Option.bind_some]
    rw [show f_M_ranked_l47 (iz x) (iz m) r.2.2.2.2 (iz 0) = _ from z_rankedL hm hx (qu_bd hD) h3]
    by_cases c : fnd (isAt (qu w rn g kd a) m x) 0 m < m
    · obtain ⟨t, rfl⟩ := h4.1 c
      rw [if_pos c]
      exact ⟨_, _, rfl, rfl, rfl, hr⟩
    · obtain ⟨t, rfl⟩ := h4.2 c
      rw [if_neg c]
      exact ⟨_, _, rfl, rfl, rfl, hr⟩
  · simp (disch := omega) only [l_0, l_1, l_2, l_3, l_4, l_5, l_6, l_7, l_8, l_9, l_10, l_12, l_16, l_32, l_35, l_36, l_40, l_48, l_59, l_57, l_60, l_97, l_99, l_100, l_122, l_250, l_255, l_1000, l_10000, l_20000, l_1000000, l_12345, l_1103515245, iz_neg, iz_add, iz_sub, iz_mul, iz_lt, iz_le, iz_eq, Option.bind_some, b1_i0, b1_i1, zr_b1, Classical.not_not, if_pos, if_neg, z_isFeet, y_isFeet, e1, e2]
    exact ⟨_, _, rfl, rfl, rfl, hr2⟩
/-! duel -/
def du (w : Nat) (rn : Int) (g kd a : Nat → Int) (f c : Nat) : Int := -qu w rn (upz g c 9) kd a f
theorem Dr.up (hD : Dr w rn m g kd a) (c : Nat) {v : Int} (hv : 0 ≤ v ∧ v ≤ 9) : Dr w rn m (upz g c v) kd a := by
  obtain ⟨hw, hrn, hm, hg, hkd, ha⟩ := hD
  exact ⟨hw, hrn, hm, upz_bd hg hv, hkd, ha⟩
theorem fb_bd {v : Nat → Int} {big lo hi : Int} (h : ∀ k, lo ≤ v k ∧ v k ≤ hi) (hb : lo ≤ big ∧ big ≤ hi) : ∀ k, lo ≤ (fb v big k).2 ∧ (fb v big k).2 ≤ hi
  | 0 => hb
  | k + 1 => by
    rw [fb_s]
    split
    · exact h k
    · exact fb_bd h hb k
theorem z_raisedStep {f c : Nat} (hD : Dr w rn m g kd a) (hf : f < m) (hc : c < w * w) : f_D_raisedStep (iz f) (iz c) (iz w) (iz rn) (ar kd) (ar a) = some (iz (stp w rn (upz g c 9) kd a f c)) := by
  obtain ⟨hw, hrn, hm, hg, hkd, ha⟩ := id hD
  have h1 := div_lt6 hw hc
  unfold f_D_raisedStep
  rw [z_kindOf (by omega), z_weightOf (by omega), z_rowOf hw hc]
  simp only [Option.bind_some]
  rw [l_0, l_9, iz_sub, iz_max (by omega) (by omega), z_stepBy (by omega) (hkd f) (ha f) (by omega)]
  simp only [Option.bind_some]
  unfold stp cz
  rw [upz_same]
theorem z_duelL {f : Nat} {st rest way : Nat → Int32} (hD : Dr w rn m g kd a) (hf : f < m) (hst : Agr st (stp w rn g kd a f) 0 (w * w)) :
    ∃ r, f_M_duel_l38 (iz f) (iz w) (iz rn) (ar kd) (ar a) (iz w) 0 (-1) 0 st rest way = some r ∧ r.1 = iz (((fb (du w rn g kd a f) 1 (w * w)).1 : Nat) : Int) ∧ r.2.1 = iz (-(fb (du w rn g kd a f) 1 (w * w)).2) := by
  obtain ⟨hw, hrn, hm, hg, hkd, ha⟩ := id hD
  have h36 := sq_le hw
  have hdb : ∀ k, -500 ≤ du w rn g kd a f k ∧ du w rn g kd a f k ≤ 500 := fun k => by
    have := qu_bd (hD.up k (v := 9) (by omega)) f
    unfold du; omega
  exact loopI (body := fun s : Int32 × Int32 × Int32 × (Nat → Int32) × (Nat → Int32) × (Nat → Int32) => f_M_duel_b38 (iz f) (iz w) (iz rn) (ar kd) (ar a) (iz w) s.1 s.2.1 s.2.2.1 s.2.2.2.1 s.2.2.2.2.1 s.2.2.2.2.2)
    (fun k z => ∃ st rest way, z = (iz (((fb (du w rn g kd a f) 1 k).1 : Nat) : Int), iz (-(fb (du w rn g kd a f) 1 k).2), iz k, st, rest, way) ∧ Agr st (stp w rn g kd a f) 0 (w * w)) _ (w * w) (by omega)
    (fun k z hk => by
      rintro ⟨st, rest, way, rfl, h1⟩
      have b1 := hdb k
      have b2 := fb_bd hdb (show -500 ≤ (1 : Int) ∧ (1 : Int) ≤ 500 by omega) k
      have hup : Agr (upd st k (iz (stp w rn (upz g k 9) kd a f k))) (stp w rn (upz g k 9) kd a f) 0 (w * w) := fun j _ hj => by
        by_cases c : j = k
        · subst c; exact upd_same
        · rw [upd_ne c, h1 j (by omega) hj]
          unfold stp cz
          rw [upz_ne c]
      have hback : Agr (upd (upd st k (iz (stp w rn (upz g k 9) kd a f k))) k (st k)) (stp w rn g kd a f) 0 (w * w) := fun j _ hj => by
        by_cases c : j = k
        · subst c; rw [upd_same]; exact h1 j (by omega) hj
        · rw [upd_ne c, upd_ne c, h1 j (by omega) hj]
      obtain ⟨rest', way', e, _⟩ := z_ls hw hup (fun j => by have := stp_bd (w := w) (u := rn) (kd := kd) (f := f) (upz_bd (k := k) (v := 9) hg (by omega)) ha hrn.1 j; omega) rest way
      simp only [f_M_duel_b38, z_cells hw, Option.bind_some]
      rw [if_neg (by rw [iz_le (by omega) (by omega)]; omega), z_stepP (by omega), z_raisedStep hD hf hk]
      simp only [Option.bind_some]
      rw [z_putStep (by omega)]
      simp only [Option.bind_some]
      rw [e]
      simp only [Option.bind_some]
      rw [z_putStep (by omega)]
      simp only [Option.bind_some]
      rw [show ls w (stp w rn (upz g k 9) kd a f) = -du w rn g kd a f k from (Int.neg_neg _).symm, fb_s, iz_succ k]
      by_cases c : du w rn g kd a f k < (fb (du w rn g kd a f) 1 k).2
      · rw [if_neg (by rw [iz_le (by omega) (by omega)]; omega), if_pos c]
        exact ⟨_, rfl, _, _, _, rfl, hback⟩
      · rw [if_pos (by rw [iz_le (by omega) (by omega)]; omega), if_neg c]
        exact ⟨_, rfl, _, _, _, rfl, hback⟩)
    (fun z => by
      rintro ⟨st, rest, way, rfl, h1⟩
      simp only [f_M_duel_b38, z_cells hw, Option.bind_some]
      rw [if_pos (by rw [iz_le (by omega) (by omega)]; omega)]
      exact ⟨_, rfl, rfl, rfl⟩)
    (0, -1, 0, st, rest, way) ⟨st, rest, way, rfl, hst⟩
theorem y_duelL {f : Nat} {cost may rest way : Nat → Int32} (hD : Dr w rn m g kd a) (hf : f < m) :
    ∃ r, f_R_duel_l32 (iz f) (iz w) (iz rn) (ar kd) (ar a) 0 (-1) 0 (ar g) cost may rest way = some r ∧ r.1 = iz (((fb (du w rn g kd a f) 1 (w * w)).1 : Nat) : Int) ∧ r.2.1 = iz (-(fb (du w rn g kd a f) 1 (w * w)).2) ∧ r.2.2.1 = ar g := by
  obtain ⟨hw, hrn, hm, hg, hkd, ha⟩ := id hD
  have h36 := sq_le hw
  have hdb : ∀ k, -500 ≤ du w rn g kd a f k ∧ du w rn g kd a f k ≤ 500 := fun k => by
    have := qu_bd (hD.up k (v := 9) (by omega)) f
    unfold du; omega
  exact loopI (body := fun s : Int32 × Int32 × Int32 × (Nat → Int32) × (Nat → Int32) × (Nat → Int32) × (Nat → Int32) × (Nat → Int32) => f_R_duel_b32 (iz f) (iz w) (iz rn) (ar kd) (ar a) s.1 s.2.1 s.2.2.1 s.2.2.2.1 s.2.2.2.2.1 s.2.2.2.2.2.1 s.2.2.2.2.2.2.1 s.2.2.2.2.2.2.2)
    (fun k z => ∃ cost may rest way, z = (iz (((fb (du w rn g kd a f) 1 k).1 : Nat) : Int), iz (-(fb (du w rn g kd a f) 1 k).2), iz k, ar g, cost, may, rest, way)) _ (w * w) (by omega)
    (fun k z hk => by
      rintro ⟨cost, may, rest, way, rfl⟩
      have b1 := hdb k
      have b2 := fb_bd hdb (show -500 ≤ (1 : Int) ∧ (1 : Int) ≤ 500 by omega) k
      obtain ⟨c1, m1, r1, w1, e, _⟩ := y_quiet (hD.up k (v := 9) (by omega)) hf cost may rest way
      simp only [f_R_duel_b32]
      rw [sqz, if_neg (by rw [iz_le (by omega) (by omega)]; omega), rdn _ (by omega) (by omega), wrn _ (by omega) (by omega)]
      simp only [Option.bind_some]
      rw [l_9, upd_ar, e]
      simp only [Option.bind_some]
      rw [wrn _ (by omega) (by omega), ar_at, upd_ar, upz_upz, upz_own]
      simp only [Option.bind_some]
      rw [show ls w (stp w rn (upz g k 9) kd a f) = -du w rn g kd a f k from (Int.neg_neg _).symm, fb_s, iz_succ k]
      by_cases c : du w rn g kd a f k < (fb (du w rn g kd a f) 1 k).2
      · rw [if_pos (by rw [iz_lt (by omega) (by omega)]; omega), if_pos c]
        exact ⟨_, rfl, _, _, _, _, rfl⟩
      · rw [if_neg (by rw [iz_lt (by omega) (by omega)]; omega), if_neg c]
        exact ⟨_, rfl, _, _, _, _, rfl⟩)
    (fun z => by
      rintro ⟨cost, may, rest, way, rfl⟩
      simp only [f_R_duel_b32]
      rw [sqz, if_pos (by rw [iz_le (by omega) (by omega)]; omega)]
      exact ⟨_, rfl, rfl, rfl, rfl⟩)
    (0, -1, 0, ar g, cost, may, rest, way) ⟨cost, may, rest, way, rfl⟩
theorem q_duel {rm rr : Nat → Int32} (hD : Dr w rn m g kd a) (hr : RF rm rr) (v1 v2 pw : Int32) (st rest way cost may yrest yway : Nat → Int32) :
    ∃ x y, f_M_duel v1 v2 (iz w) (iz rn) (iz m) (ar g) (ar kd) (ar a) pw st rest way rm = some x ∧ f_R_duel v1 v2 (iz w) (iz rn) (iz m) (ar g) (ar kd) (ar a) rr cost may yrest yway = some y ∧ x.1 = y.1 ∧ y.2.1 = ar g ∧ RF x.2.2.2.2.2 y.2.2.1 := by
  obtain ⟨hw, hrn, hm, hg, hkd, ha⟩ := id hD
  obtain ⟨x, hx, rfl⟩ := anyI v1
  obtain ⟨v, hv, rfl⟩ := anyI v2
  obtain ⟨rm2, rr2, e1, e2, hr2⟩ := z_ref (why := -2) (by omega) hr
  unfold f_M_duel f_R_duel f_M_duel_j17 f_R_duel_j17
  by_cases c1 : 0 ≤ x ∧ x < m
  · obtain ⟨f, hf, rfl⟩ := natZ (n := m) c1
    by_cases c2 : 0 ≤ v ∧ v ≤ 1
    · obtain ⟨st', e3, h3⟩ := z_layCrunches (t := 1) hD hf pw st
      obtain ⟨r, e4, h4, h5⟩ := z_duelL (rest := rest) (way := way) hD hf (agr_congr h3 (fun j _ _ => Int.one_mul _))
      obtain ⟨s, e6, h6, h7, h8⟩ := y_duelL (cost := cost) (may := may) (rest := yrest) (way := yway) hD hf
      simp (disch := omega) only [l_0, l_1, l_2, l_3, l_4, l_5, l_6, l_7, l_8, l_9, l_10, l_12, l_16, l_32, l_35, l_36, l_40, l_48, l_59, l_57, l_60, l_97, l_99, l_100, l_122, l_250, l_255, l_1000, l_10000, l_20000, l_1000000, l_12345, l_1103515245, iz_neg, iz_add, iz_sub, iz_mul, iz_lt, iz_le, iz_eq, Option.bind_some, b1_i0, b1_i1, zr_b1, Classical.not_not, if_pos, if_neg, z_isFeet, y_isFeet, z_withinI, y_withinI]
      rw [e3]
      simp only [Option.bind_some]
      rw [show f_M_duel_l38 (iz f) (iz w) (iz rn) (ar kd) (ar a) (iz w) (iz 0) (iz (-1)) (iz 0) st' rest way = _ from e4, show f_R_duel_l32 (iz f) (iz w) (iz rn) (ar kd) (ar a) (iz 0) (iz (-1)) (iz 0) (ar g) cost may yrest yway = _ from e6]
      simp only [Option.bind_some]
      by_cases c3 : v = 0
      · simp (disch := omega) only [l_0, l_1, l_2, l_3, l_4, l_5, l_6, l_7, l_8, l_9, l_10, l_12, l_16, l_32, l_35, l_36, l_40, l_48, l_59, l_57, l_60, l_97, l_99, l_100, l_122, l_250, l_255, l_1000, l_10000, l_20000, l_1000000, l_12345, l_1103515245, iz_neg, iz_add, iz_sub, iz_mul, iz_lt, iz_le, iz_eq, Option.bind_some, b1_i0, b1_i1, zr_b1, Classical.not_not, if_pos, if_neg]
        exact ⟨_, _, rfl, rfl, h4.trans h6.symm, h8, hr⟩
      · simp (disch := omega) only [l_0, l_1, l_2, l_3, l_4, l_5, l_6, l_7, l_8, l_9, l_10, l_12, l_16, l_32, l_35, l_36, l_40, l_48, l_59, l_57, l_60, l_97, l_99, l_100, l_122, l_250, l_255, l_1000, l_10000, l_20000, l_1000000, l_12345, l_1103515245, iz_neg, iz_add, iz_sub, iz_mul, iz_lt, iz_le, iz_eq, Option.bind_some, b1_i0, b1_i1, zr_b1, Classical.not_not, if_pos, if_neg]
        exact ⟨_, _, rfl, rfl, h5.trans h7.symm, h8, hr⟩
    · simp (disch := omega) only [l_0, l_1, l_2, l_3, l_4, l_5, l_6, l_7, l_8, l_9, l_10, l_12, l_16, l_32, l_35, l_36, l_40, l_48, l_59, l_57, l_60, l_97, l_99, l_100, l_122, l_250, l_255, l_1000, l_10000, l_20000, l_1000000, l_12345, l_1103515245, iz_neg, iz_add, iz_sub, iz_mul, iz_lt, iz_le, iz_eq, Option.bind_some, b1_i0, b1_i1, zr_b1, Classical.not_not, if_pos, if_neg, z_isFeet, y_isFeet, z_withinI, y_withinI, e1, e2]
      exact ⟨_, _, rfl, rfl, rfl, rfl, hr2⟩
  · simp (disch := omega) only [l_0, l_1, l_2, l_3, l_4, l_5, l_6, l_7, l_8, l_9, l_10, l_12, l_16, l_32, l_35, l_36, l_40, l_48, l_59, l_57, l_60, l_97, l_99, l_100, l_122, l_250, l_255, l_1000, l_10000, l_20000, l_1000000, l_12345, l_1103515245, iz_neg, iz_add, iz_sub, iz_mul, iz_lt, iz_le, iz_eq, Option.bind_some, b1_i0, b1_i1, zr_b1, Classical.not_not, if_pos, if_neg, z_isFeet, y_isFeet, e1, e2]
    exact ⟨_, _, rfl, rfl, rfl, rfl, hr2⟩
end

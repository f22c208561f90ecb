/-! raked, planks: both sides; dry -/
section
variable {w m : Nat} {rn er : Int} {g kd a : Nat → Int}
theorem z_markTurnable {j : Nat} {v : Int32} {tn : Nat → Int32} (hj : j < 36) : f_P_markTurnable (iz j) v tn = some (upd tn j (vp_nar .boolean v)) := by
  unfold f_P_markTurnable
  rw [l_0, l_35, z_withinI (by omega) (by omega) (by omega)]
  simp only [Option.bind_some]
  rw [if_neg (by rw [b1_i0]; omega), wrn _ (by omega) hj]
  rfl
theorem tm_nx {tb : Nat → Bool} {tn : Nat → Int32} {k : Nat} {v : Int32} (h : ∀ j, j < k → tn j = bz (tb j)) (hv : v = bz (tb k)) : ∀ j, j < k + 1 → upd tn k v j = bz (tb j) := fun j hj => by
  by_cases c : j = k
  · subst c; rw [upd_same]; exact hv
  · rw [upd_ne c]; exact h j (by omega)
/-- what can be raked -/
def tbR (w : Nat) (rn er : Int) (g kd a : Nat → Int) (f c : Nat) : Bool := nhr w rn er g kd a f c && !nhr w rn er (upz g c 9) kd a f c
theorem z_rakedL {f : Nat} {st : Nat → Int32} (hD : Dr w rn m g kd a) (her : 1 ≤ er ∧ er ≤ 99) (hf : f < m) (hs : Agr st (s01 (nhr w rn er g kd a f)) 0 (w * w)) (tn : Nat → Int32) :
    ∃ tn', f_M_raked_l41 (iz f) (iz w) (iz rn) (iz er) (ar kd) (ar a) st 0 tn = some tn' ∧ TM w tn' (tbR w rn er g kd a f) := by
  obtain ⟨hw, hrn, hm, hg, hkd, ha⟩ := id hD
  have h36 := sq_le hw
  exact loopI (body := fun s : Int32 × (Nat → Int32) => f_M_raked_b41 (iz f) (iz w) (iz rn) (iz er) (ar kd) (ar a) st s.1 s.2) (fun k z => ∃ tn, z = (iz k, tn) ∧ ∀ j, j < k → tn j = bz (tbR w rn er g kd a f j)) (fun tn => TM w tn (tbR w rn er g kd a f)) (w * w) (by omega)
    (fun k z hk => by
      rintro ⟨tn, rfl, h1⟩
      have hsk := hs k (by omega) hk
      have hsb := s01_bd (nhr w rn er g kd a f) k
      have hb := stp_bd (w := w) (u := rn) (kd := kd) (f := f) (upz_bd (k := k) (v := 9) hg (by omega)) ha hrn.1 k
      simp only [f_M_raked_b41, f_M_raked_j91, f_M_raked_j92, z_cells hw, Option.bind_some]
      rw [if_neg (by rw [iz_le (by omega) (by omega)]; omega), z_stepP (by omega), hsk, z_raisedStep hD hf hk, z_markTurnable (by omega), z_markTurnable (by omega)]
      simp only [Option.bind_some]
      cases q : nhr w rn er g kd a f k with
      | false =>
        have e0 : s01 (nhr w rn er g kd a f) k = 1 := if_neg (by rw [q]; decide)
        rw [e0, if_neg (by decide), iz_succ]
        exact ⟨_, rfl, _, rfl, tm_nx h1 (by unfold tbR; rw [q]; rfl)⟩
      | true =>
        have e0 : s01 (nhr w rn er g kd a f) k = 0 := if_pos q
        rw [e0, if_pos (show iz 0 = 0 from rfl)]
        by_cases c : stp w rn (upz g k 9) kd a f k < er
        · have q2 : nhr w rn er (upz g k 9) kd a f k = true := decide_eq_true (by omega)
          rw [if_pos (by rw [iz_lt (by omega) (by omega)]; exact c), iz_succ]
          exact ⟨_, rfl, _, rfl, tm_nx h1 (by unfold tbR; rw [q, q2]; rfl)⟩
        · have q2 : nhr w rn er (upz g k 9) kd a f k = false := decide_eq_false (by omega)
          rw [if_neg (by rw [iz_lt (by omega) (by omega)]; exact c), iz_succ]
          exact ⟨_, rfl, _, rfl, tm_nx h1 (by unfold tbR; rw [q, q2]; rfl)⟩)
    (fun z => by
      rintro ⟨tn, rfl, h1⟩
      simp only [f_M_raked_b41, z_cells hw, Option.bind_some]
      rw [if_pos (by rw [iz_le (by omega) (by omega)]; omega)]
      exact ⟨_, rfl, h1⟩)
    (0, tn) ⟨tn, rfl, fun j hj => by omega⟩
/-- what can be laid with planks -/
def tbP (w : Nat) (rn er : Int) (g kd a : Nat → Int) (f c : Nat) : Bool := !nhr w rn er g kd a f c
theorem z_planksL {f : Nat} {st : Nat → Int32} (hw : 2 ≤ w ∧ w ≤ 6) (hs : Agr st (s01 (nhr w rn er g kd a f)) 0 (w * w)) (tn : Nat → Int32) :
    ∃ tn', f_M_planks_l41 (iz w) st 0 tn = some tn' ∧ TM w tn' (tbP w rn er g kd a f) := by
  have h36 := sq_le hw
  exact loopI (body := fun s : Int32 × (Nat → Int32) => f_M_planks_b41 (iz w) st s.1 s.2) (fun k z => ∃ tn, z = (iz k, tn) ∧ ∀ j, j < k → tn j = bz (tbP w rn er g kd a f j)) (fun tn => TM w tn (tbP w rn er g kd a f)) (w * w) (by omega)
    (fun k z hk => by
      rintro ⟨tn, rfl, h1⟩
      have hsk := hs k (by omega) hk
      simp only [f_M_planks_b41, f_M_planks_j73, z_cells hw, Option.bind_some]
      rw [if_neg (by rw [iz_le (by omega) (by omega)]; omega), z_stepP (by omega), hsk, z_markTurnable (by omega), z_markTurnable (by omega)]
      simp only [Option.bind_some]
      cases q : nhr w rn er g kd a f k with
      | false =>
        have e0 : s01 (nhr w rn er g kd a f) k = 1 := if_neg (by rw [q]; decide)
        rw [e0, if_neg (by decide), iz_succ]
        exact ⟨_, rfl, _, rfl, tm_nx h1 (by unfold tbP; rw [q]; rfl)⟩
      | true =>
        have e0 : s01 (nhr w rn er g kd a f) k = 0 := if_pos q
        rw [e0, if_pos (show iz 0 = 0 from rfl), iz_succ]
        exact ⟨_, rfl, _, rfl, tm_nx h1 (by unfold tbP; rw [q]; rfl)⟩)
    (fun z => by
      rintro ⟨tn, rfl, h1⟩
      simp only [f_M_planks_b41, z_cells hw, Option.bind_some]
      rw [if_pos (by rw [iz_le (by omega) (by omega)]; omega)]
      exact ⟨_, rfl, h1⟩)
    (0, tn) ⟨tn, rfl, fun j hj => by omega⟩
theorem nhr_0 {f c : Nat} (hrn : 0 ≤ rn) (her : 1 ≤ er) : nhr w rn er (upz g c 0) kd a f c = true := by
  refine decide_eq_true ?_
  unfold stp cz crn
  rw [upz_same, if_pos (by omega)]
  omega
theorem z_fewR {f : Nat} {opn tn : Nat → Int32} (hw : 2 ≤ w ∧ w ≤ 6) (ho : OM w opn (nhr w rn er g kd a f)) (ht : TM w tn (tbR w rn er g kd a f)) (td : Nat → Int32) :
    ∃ o t, f_P_fewestTurned 0 (iz w) opn tn td = some (iz (cod (fewg w rn er g kd a f 9 false)), o, t) ∧ (0 < cod (fewg w rn er g kd a f 9 false) → t 0 = iz (((fewg w rn er g kd a f 9 false).2.1 : Nat) : Int)) ∧ (1 < cod (fewg w rn er g kd a f 9 false) → t 1 = iz (((fewg w rn er g kd a f 9 false).2.2 : Nat) : Int)) := by
  have hE := E12 (w := w) (rn := rn) (er := er) (g := g) (kd := kd) (a := a) (f := f) (v := 9) (W := false) (tb := tbR w rn er g kd a f) hw
    (fun c _ hb => by
      unfold tbR at hb
      rw [Bool.and_eq_true] at hb
      rw [hb.1]
      cases q : nhr w rn er (upz g c 9) kd a f c with
      | false => rfl
      | true => rw [q] at hb; exact absurd hb.2 (by decide))
    (fun c _ hb => by
      unfold tbR at hb
      cases q : nhr w rn er (upz g c 9) kd a f c with
      | true => exact Or.inr rfl
      | false =>
        rw [q] at hb
        left
        cases q2 : nhr w rn er g kd a f c with
        | false => rfl
        | true => rw [q2] at hb; cases hb)
  exact z_few (W := false) hw ho ht td (fun h0 => (hE h0).1) (fun h0 => (hE h0).2)
theorem z_fewP {f : Nat} {opn tn : Nat → Int32} (hw : 2 ≤ w ∧ w ≤ 6) (hrn : 0 ≤ rn) (her : 1 ≤ er) (ho : OM w opn (nhr w rn er g kd a f)) (ht : TM w tn (tbP w rn er g kd a f)) (td : Nat → Int32) :
    ∃ o t, f_P_fewestTurned 1 (iz w) opn tn td = some (iz (cod (fewg w rn er g kd a f 0 true)), o, t) ∧ (0 < cod (fewg w rn er g kd a f 0 true) → t 0 = iz (((fewg w rn er g kd a f 0 true).2.1 : Nat) : Int)) ∧ (1 < cod (fewg w rn er g kd a f 0 true) → t 1 = iz (((fewg w rn er g kd a f 0 true).2.2 : Nat) : Int)) := by
  have hE := E12 (w := w) (rn := rn) (er := er) (g := g) (kd := kd) (a := a) (f := f) (v := 0) (W := true) (tb := tbP w rn er g kd a f) hw
    (fun c _ hb => by
      unfold tbP at hb
      rw [nhr_0 hrn her, hb])
    (fun c _ hb => by
      unfold tbP at hb
      left
      rw [nhr_0 hrn her]
      cases q : nhr w rn er g kd a f c with
      | true => rfl
      | false => rw [q] at hb; cases hb)
  exact z_few (W := true) hw ho ht td (fun h0 => (hE h0).1) (fun h0 => (hE h0).2)
/-- the answer for an i -/
def fan (x : Nat × Nat × Nat) (i : Int) : Int := if i = -1 then cod x else if cod x ≤ i then -5 else if i = 0 then x.2.1 else x.2.2
theorem z_toldF {x : Nat × Nat × Nat} {i : Int} {t rm rm5 : Nat → Int32} (hx : x.1 ≤ 3) (hi : -1 ≤ i ∧ i < 2147483648) (t0 : 0 < cod x → t 0 = iz ((x.2.1 : Nat) : Int)) (t1 : 1 < cod x → t 1 = iz ((x.2.2 : Nat) : Int)) (he : f_M_refuse (iz (-5)) rm = some (iz (-5), rm5)) :
    f_M_toldOfFewest (iz (cod x)) (iz i) t rm = some (iz (fan x i), if i = -1 then rm else if cod x ≤ i then rm5 else rm) := by
  have hc : -1 ≤ cod x ∧ cod x ≤ 2 := by unfold cod; split <;> omega
  unfold f_M_toldOfFewest fan
  by_cases c1 : i = -1
  · rw [if_pos (by rw [c1]; rfl), if_pos c1, if_pos c1]
  · rw [if_neg (by rw [l_m1, iz_eq (by omega) (by omega)]; exact c1), if_neg c1, if_neg c1]
    by_cases c2 : cod x ≤ i
    · rw [if_pos (by rw [iz_le (by omega) (by omega)]; exact c2), if_pos c2, if_pos c2, show (-5 : Int32) = iz (-5) from rfl, he]
      rfl
    · rw [if_neg (by rw [iz_le (by omega) (by omega)]; exact c2), if_neg c2, if_neg c2]
      unfold f_P_turnedCell
      rw [l_0, l_1, z_withinI (by omega) (by omega) (by omega)]
      simp only [Option.bind_some]
      rw [if_neg (by rw [b1_i0]; omega)]
      by_cases c3 : i = 0
      · rw [if_pos c3, c3, show iz 0 = iz ((0 : Nat) : Int) from rfl, rdn _ (by omega) (by omega), t0 (by omega)]
        rfl
      · rw [if_neg c3, show i = ((1 : Nat) : Int) by omega, rdn _ (by omega) (by omega), t1 (by omega)]
        rfl
theorem y_cellsOf {x f : Nat} {v i : Int} {W : Bool} {rr rr5 : Nat → Int32} (hD : Dr w rn m g kd a) (her : 1 ≤ er ∧ er ≤ 99) (hf : f < m) (hv : 0 ≤ v ∧ v ≤ 9) (hi : -1 ≤ i ∧ i < 2147483648) (he : f_R_no (iz (-5)) rr = some (iz (-5), rr5)) (cost may rest : Nat → Int32) :
    ∃ s, f_R_cellsOf (iz f) (iz v) (bz W) (iz i) (iz w) (iz rn) (iz er) (iz m) (ar g) (ar kd) (ar a) rr cost may rest = some (iz (fan (fewg w rn er g kd a f v W) i), ar g, (if i = -1 then rr else if cod (fewg w rn er g kd a f v W) ≤ i then rr5 else rr), s) := by
  obtain ⟨hw, hrn, hm, hg, hkd, ha⟩ := id hD
  have h36 := sq_le hw
  obtain ⟨s, e⟩ := y_fewest (W := W) hD her hf hv cost may rest
  have hb := few_bd (w := w) (W := W) (B0 := pw w (nhr w rn er g kd a f) == W) (B1 := B1g w rn er g kd a f v W) (B2 := B2g w rn er g kd a f v W)
  change (fewg w rn er g kd a f v W).1 ≤ 3 ∧ ((fewg w rn er g kd a f v W).1 = 0 → (fewg w rn er g kd a f v W).2 = (0, 0)) ∧ ((fewg w rn er g kd a f v W).1 = 1 → (fewg w rn er g kd a f v W).2.1 < w * w ∧ (fewg w rn er g kd a f v W).2.2 = 0) ∧ ((fewg w rn er g kd a f v W).1 = 2 → (fewg w rn er g kd a f v W).2.1 < w * w ∧ (fewg w rn er g kd a f v W).2.2 < w * w) at hb
  unfold f_R_cellsOf f_R_cellsOf_j70
  rw [y_isFeet (by omega) hm]
  simp only [Option.bind_some, b1_0]
  rw [if_neg (show ¬ ¬ (0 ≤ (f : Int) ∧ (f : Int) < m) by omega), if_pos (by rw [l_m1, iz_le (by omega) (by omega)]; exact hi.1), e]
  simp only [Option.bind_some]
  generalize fewg w rn er g kd a f v W = x at hb ⊢
  obtain ⟨n, c, d⟩ := x
  obtain ⟨h1, h2, h3, h4⟩ := hb
  dsimp only at h1 h2 h3 h4
  have hn : n = 0 ∨ n = 1 ∨ n = 2 ∨ n = 3 := by omega
  have f0 : ∀ i : Int, fan (n, c, d) i = if i = -1 then cod (n, c, d) else if cod (n, c, d) ≤ i then -5 else if i = 0 then (c : Int) else (d : Int) := fun _ => rfl
  rw [f0]
  by_cases c1 : i = -1
  · subst c1
    rw [if_pos (show iz (-1) = -1 from rfl), if_pos rfl, if_pos rfl]
    rcases hn with rfl | rfl | rfl | rfl
    · rw [show ycd (0, c, d) = 0 from rfl, if_neg (by decide), l_10000, dv_iz (by omega) (by omega)]
      exact ⟨_, rfl⟩
    · have := h3 rfl
      rw [show ycd (1, c, d) = 10000 * ((1 : Nat) : Int) + 100 * (c : Int) + (d : Int) from rfl, show cod (1, c, d) = ((1 : Nat) : Int) from rfl, if_neg (by rw [l_m1, iz_eq (by omega) (by omega)]; omega), l_10000, dv_iz (by omega) (by omega), show (10000 * ((1 : Nat) : Int) + 100 * (c : Int) + (d : Int)) / 10000 = ((1 : Nat) : Int) by omega]
      exact ⟨_, rfl⟩
    · have := h4 rfl
      rw [show ycd (2, c, d) = 10000 * ((2 : Nat) : Int) + 100 * (c : Int) + (d : Int) from rfl, show cod (2, c, d) = ((2 : Nat) : Int) from rfl, if_neg (by rw [l_m1, iz_eq (by omega) (by omega)]; omega), l_10000, dv_iz (by omega) (by omega), show (10000 * ((2 : Nat) : Int) + 100 * (c : Int) + (d : Int)) / 10000 = ((2 : Nat) : Int) by omega]
      exact ⟨_, rfl⟩
    · exact ⟨_, rfl⟩
  · rw [if_neg (show ¬ iz i = -1 by rw [l_m1, iz_eq (by omega) (by omega)]; exact c1), if_neg c1, if_neg c1]
    rcases hn with rfl | rfl | rfl | rfl
    · rw [show ycd (0, c, d) = 0 from rfl, show cod (0, c, d) = ((0 : Nat) : Int) from rfl, if_neg (by decide), l_10000, dv_iz (by omega) (by omega)]
      simp only [Option.bind_some]
      rw [if_neg (by rw [iz_lt (by omega) (by omega)]; omega), if_pos (show ((0 : Nat) : Int) ≤ i by omega), if_pos (show ((0 : Nat) : Int) ≤ i by omega), show (-5 : Int32) = iz (-5) from rfl, he]
      exact ⟨_, rfl⟩
    · have := h3 rfl
      rw [show ycd (1, c, d) = 10000 * ((1 : Nat) : Int) + 100 * (c : Int) + (d : Int) from rfl, show cod (1, c, d) = ((1 : Nat) : Int) from rfl, if_neg (by rw [l_m1, iz_eq (by omega) (by omega)]; omega), l_10000, dv_iz (by omega) (by omega), show (10000 * ((1 : Nat) : Int) + 100 * (c : Int) + (d : Int)) / 10000 = 1 by omega]
      simp only [Option.bind_some]
      by_cases c2 : ((1 : Nat) : Int) ≤ i
      · rw [if_neg (by rw [iz_lt (by omega) (by omega)]; omega), if_pos c2, if_pos c2, show (-5 : Int32) = iz (-5) from rfl, he]
        exact ⟨_, rfl⟩
      · rw [if_pos (by rw [iz_lt (by omega) (by omega)]; omega), if_neg c2, if_neg c2, if_pos (by rw [l_0, iz_eq (by omega) (by omega)]; omega), if_pos (show i = 0 by omega), l_100, dv_iz (by omega) (by omega)]
        simp only [Option.bind_some]
        rw [rm_iz (by omega) (by omega), show (10000 * ((1 : Nat) : Int) + 100 * (c : Int) + (d : Int)) / 100 % 100 = (c : Int) by omega]
        exact ⟨_, rfl⟩
    · have := h4 rfl
      rw [show ycd (2, c, d) = 10000 * ((2 : Nat) : Int) + 100 * (c : Int) + (d : Int) from rfl, show cod (2, c, d) = ((2 : Nat) : Int) from rfl, if_neg (by rw [l_m1, iz_eq (by omega) (by omega)]; omega), l_10000, dv_iz (by omega) (by omega), show (10000 * ((2 : Nat) : Int) + 100 * (c : Int) + (d : Int)) / 10000 = 2 by omega]
      simp only [Option.bind_some]
      by_cases c2 : ((2 : Nat) : Int) ≤ i
      · rw [if_neg (by rw [iz_lt (by omega) (by omega)]; omega), if_pos c2, if_pos c2, show (-5 : Int32) = iz (-5) from rfl, he]
        exact ⟨_, rfl⟩
      · rw [if_pos (by rw [iz_lt (by omega) (by omega)]; omega), if_neg c2, if_neg c2]
        by_cases c3 : i = 0
        · rw [if_pos (by rw [l_0, iz_eq (by omega) (by omega)]; exact c3), if_pos c3, l_100, dv_iz (by omega) (by omega)]
          simp only [Option.bind_some]
          rw [rm_iz (by omega) (by omega), show (10000 * ((2 : Nat) : Int) + 100 * (c : Int) + (d : Int)) / 100 % 100 = (c : Int) by omega]
          exact ⟨_, rfl⟩
        · rw [if_neg (by rw [l_0, iz_eq (by omega) (by omega)]; exact c3), if_neg c3, l_100, rm_iz (by omega) (by omega), show (10000 * ((2 : Nat) : Int) + 100 * (c : Int) + (d : Int)) % 100 = (d : Int) by omega]
          exact ⟨_, rfl⟩
    · rw [show ycd (3, c, d) = -1 from rfl, show cod (3, c, d) = -1 from rfl, if_pos (show iz (-1) = -1 from rfl), if_pos (by omega), if_pos (by omega), show (-5 : Int32) = iz (-5) from rfl, he]
      exact ⟨_, rfl⟩
theorem q_raked {rm rr : Nat → Int32} (hD : Dr w rn m g kd a) (her : 1 ≤ er ∧ er ≤ 99) (hr : RF rm rr) (v1 v2 pw : Int32) (st opn tn td cost may yrest : Nat → Int32) :
    ∃ x y, f_M_raked v1 v2 (iz w) (iz rn) (iz er) (iz m) (ar g) (ar kd) (ar a) pw st opn tn td rm = some x ∧ f_R_raked v1 v2 (iz w) (iz rn) (iz er) (iz m) (ar g) (ar kd) (ar a) rr cost may yrest = some y ∧ x.1 = y.1 ∧ y.2.1 = ar g ∧ RF x.2.2.2.2.2.2 y.2.2.1 := by
  obtain ⟨hw, hrn, hm, hg, hkd, ha⟩ := id hD
  obtain ⟨x, hx, rfl⟩ := anyI v1
  obtain ⟨i, hi, rfl⟩ := anyI v2
  obtain ⟨rm2, rr2, e1, e2, hr2⟩ := z_ref (why := -2) (by omega) hr
  obtain ⟨rm5, rr5, e15, e25, hr5⟩ := z_ref (why := -5) (by omega) hr
  by_cases c1 : 0 ≤ x ∧ x < m
  · obtain ⟨f, hf, rfl⟩ := natZ (n := m) c1
    by_cases c2 : -1 ≤ i
    · obtain ⟨st', e3, h3⟩ := z_layHeard (er := er) hD hrn her hf pw st
      obtain ⟨opn', e4, h4⟩ := z_markOpen hw h3 opn
      obtain ⟨tn', e5, h5⟩ := z_rakedL hD her hf h3 tn
      obtain ⟨o, t, e6, h6, h7⟩ := z_fewR hw h4 h5 td
      have e7 := z_toldF few_bd.1 ⟨c2, hi.2⟩ h6 h7 e15
      obtain ⟨s, e8⟩ := y_cellsOf (x := 0) (W := false) hD her hf (show (0 : Int) ≤ 9 ∧ (9 : Int) ≤ 9 by omega) ⟨c2, hi.2⟩ e25 cost may yrest
      unfold f_M_raked f_R_raked
      rw [show f_R_cellsOf (iz f) 9 0 (iz i) (iz w) (iz rn) (iz er) (iz m) (ar g) (ar kd) (ar a) rr cost may yrest = _ from e8]
      rw [z_isFeet (by omega) hm]
      simp only [Option.bind_some, b1_0]
      rw [if_neg (show ¬ ¬ (0 ≤ (f : Int) ∧ (f : Int) < m) by omega), if_pos (by rw [l_m1, iz_le (by omega) (by omega)]; exact c2), e3]
      simp only [Option.bind_some]
      rw [e4, e5]
      simp only [Option.bind_some]
      rw [e6]
      simp only [Option.bind_some]
      rw [e7]
      simp only [Option.bind_some]
      refine ⟨_, _, rfl, rfl, rfl, rfl, ?_⟩
      dsimp only
      split
      · exact hr
      · split
        · exact hr5
        · exact hr
    · unfold f_M_raked f_R_raked f_M_raked_j13 f_R_cellsOf f_R_cellsOf_j14
      simp (disch := omega) only [l_0, l_1, l_2, l_3, l_4, l_5, l_6, l_7, l_8, l_9, l_10, l_12, l_16, l_32, l_35, l_36, l_40, l_48, l_59, l_57, l_60, l_97, l_99, l_100, l_122, l_250, l_255, l_1000, l_10000, l_20000, l_1000000, l_12345, l_1103515245, iz_neg, iz_add, iz_sub, iz_mul, iz_lt, iz_le, iz_eq, Option.bind_some, b1_i0, b1_i1, zr_b1, Classical.not_not, if_pos, if_neg, z_isFeet, y_isFeet, e1, e2]
      exact ⟨_, _, rfl, rfl, rfl, rfl, hr2⟩
  · unfold f_M_raked f_R_raked f_M_raked_j13 f_R_cellsOf f_R_cellsOf_j14
    simp (disch := omega) only [l_0, l_1, l_2, l_3, l_4, l_5, l_6, l_7, l_8, l_9, l_10, l_12, l_16, l_32, l_35, l_36, l_40, l_48, l_59, l_57, l_60, l_97, l_99, l_100, l_122, l_250, l_255, l_1000, l_10000, l_20000, l_1000000, l_12345, l_1103515245, iz_neg, iz_add, iz_sub, iz_mul, iz_lt, iz_le, iz_eq, Option.bind_some, b1_i0, b1_i1, zr_b1, Classical.not_not, if_pos, if_neg, z_isFeet, y_isFeet, e1, e2]
    exact ⟨_, _, rfl, rfl, rfl, rfl, hr2⟩
theorem q_planks {rm rr : Nat → Int32} (hD : Dr w rn m g kd a) (her : 1 ≤ er ∧ er ≤ 99) (hr : RF rm rr) (v1 v2 pw : Int32) (st opn tn td cost may yrest : Nat → Int32) :
    ∃ x y, f_M_planks v1 v2 (iz w) (iz rn) (iz er) (iz m) (ar g) (ar kd) (ar a) pw st opn tn td rm = some x ∧ f_R_planks v1 v2 (iz w) (iz rn) (iz er) (iz m) (ar g) (ar kd) (ar a) rr cost may yrest = some y ∧ x.1 = y.1 ∧ y.2.1 = ar g ∧ RF x.2.2.2.2.2.2 y.2.2.1 := by
  obtain ⟨hw, hrn, hm, hg, hkd, ha⟩ := id hD
  obtain ⟨x, hx, rfl⟩ := anyI v1
  obtain ⟨i, hi, rfl⟩ := anyI v2
  obtain ⟨rm2, rr2, e1, e2, hr2⟩ := z_ref (why := -2) (by omega) hr
  obtain ⟨rm5, rr5, e15, e25, hr5⟩ := z_ref (why := -5) (by omega) hr
  by_cases c1 : 0 ≤ x ∧ x < m
  · obtain ⟨f, hf, rfl⟩ := natZ (n := m) c1
    by_cases c2 : -1 ≤ i
    · obtain ⟨st', e3, h3⟩ := z_layHeard (er := er) hD hrn her hf pw st
      obtain ⟨opn', e4, h4⟩ := z_markOpen hw h3 opn
      obtain ⟨tn', e5, h5⟩ := z_planksL hw h3 tn
      obtain ⟨o, t, e6, h6, h7⟩ := z_fewP hw hrn.1 her.1 h4 h5 td
      have e7 := z_toldF few_bd.1 ⟨c2, hi.2⟩ h6 h7 e15
      obtain ⟨s, e8⟩ := y_cellsOf (x := 0) (W := true) hD her hf (show (0 : Int) ≤ 0 ∧ (0 : Int) ≤ 9 by omega) ⟨c2, hi.2⟩ e25 cost may yrest
      unfold f_M_planks f_R_planks
      rw [show f_R_cellsOf (iz f) 0 1 (iz i) (iz w) (iz rn) (iz er) (iz m) (ar g) (ar kd) (ar a) rr cost may yrest = _ from e8]
      rw [z_isFeet (by omega) hm]
      simp only [Option.bind_some, b1_0]
      rw [if_neg (show ¬ ¬ (0 ≤ (f : Int) ∧ (f : Int) < m) by omega), if_pos (by rw [l_m1, iz_le (by omega) (by omega)]; exact c2), e3]
      simp only [Option.bind_some]
      rw [e4, e5]
      simp only [Option.bind_some]
      rw [e6]
      simp only [Option.bind_some]
      rw [e7]
      simp only [Option.bind_some]
      refine ⟨_, _, rfl, rfl, rfl, rfl, ?_⟩
      dsimp only
      split
      · exact hr
      · split
        · exact hr5
        · exact hr
    · unfold f_M_planks f_R_planks f_M_planks_j13 f_R_cellsOf f_R_cellsOf_j14
      simp (disch := omega) only [l_0, l_1, l_2, l_3, l_4, l_5, l_6, l_7, l_8, l_9, l_10, l_12, l_16, l_32, l_35, l_36, l_40, l_48, l_59, l_57, l_60, l_97, l_99, l_100, l_122, l_250, l_255, l_1000, l_10000, l_20000, l_1000000, l_12345, l_1103515245, iz_neg, iz_add, iz_sub, iz_mul, iz_lt, iz_le, iz_eq, Option.bind_some, b1_i0, b1_i1, zr_b1, Classical.not_not, if_pos, if_neg, z_isFeet, y_isFeet, e1, e2]
      exact ⟨_, _, rfl, rfl, rfl, rfl, hr2⟩
  · unfold f_M_planks f_R_planks f_M_planks_j13 f_R_cellsOf f_R_cellsOf_j14
    simp (disch := omega) only [l_0, l_1, l_2, l_3, l_4, l_5, l_6, l_7, l_8, l_9, l_10, l_12, l_16, l_32, l_35, l_36, l_40, l_48, l_59, l_57, l_60, l_97, l_99, l_100, l_122, l_250, l_255, l_1000, l_10000, l_20000, l_1000000, l_12345, l_1103515245, iz_neg, iz_add, iz_sub, iz_mul, iz_lt, iz_le, iz_eq, Option.bind_some, b1_i0, b1_i1, zr_b1, Classical.not_not, if_pos, if_neg, z_isFeet, y_isFeet, e1, e2]
    exact ⟨_, _, rfl, rfl, rfl, rfl, hr2⟩
/-! dry -/
theorem Dr.wet (hD : Dr w rn m g kd a) {u : Int} (hu : 0 ≤ u ∧ u ≤ 9) : Dr w u m g kd a := by
  obtain ⟨hw, hrn, hm, hg, hkd, ha⟩ := hD
  exact ⟨hw, hu, hm, hg, hkd, ha⟩
def dryP (w : Nat) (er : Int) (g kd a : Nat → Int) (f u : Nat) : Bool := pw w (nhr w u er g kd a f)
theorem z_dryL {f : Nat} (hD : Dr w rn m g kd a) (her : 1 ≤ er ∧ er ≤ 99) (hf : f < m) (pw : Int32) (st opn : Nat → Int32) :
    ∃ r, f_M_dry_l17 (iz f) (iz w) (iz er) (ar g) (ar kd) (ar a) 0 pw st opn = some r ∧ ((fnd (dryP w er g kd a f) 0 10 < 10 → ∃ s, r = .inl (iz ((fnd (dryP w er g kd a f) 0 10 : Nat) : Int), s)) ∧ (¬ fnd (dryP w er g kd a f) 0 10 < 10 → ∃ s, r = .inr s)) := by
  obtain ⟨hw, hrn, hm, hg, hkd, ha⟩ := id hD
  have hle := fnd_le (dryP w er g kd a f) 10 0
  exact loopI (body := fun s : Int32 × Int32 × (Nat → Int32) × (Nat → Int32) => f_M_dry_b17 (iz f) (iz w) (iz er) (ar g) (ar kd) (ar a) s.1 s.2.1 s.2.2.1 s.2.2.2)
    (fun k z => ∃ pw st opn, z = (iz k, pw, st, opn)) _ (fnd (dryP w er g kd a f) 0 10) (by omega)
    (fun k z hk => by
      rintro ⟨pw, st, opn, rfl⟩
      have hno : dryP w er g kd a f k = false := fnd_no (dryP w er g kd a f) 10 0 k (by omega) hk
      unfold dryP at hno
      obtain ⟨st', e3, h3⟩ := z_layHeard (u := k) (er := er) hD (by omega) her hf pw st
      obtain ⟨opn', e4, h4⟩ := z_markOpen hw h3 opn
      have e5 := z_isPassable hw h4
      simp only [f_M_dry_b17]
      rw [if_neg (by rw [l_9, iz_lt (by omega) (by omega)]; omega), e3]
      simp only [Option.bind_some]
      rw [e4]
      simp only [Option.bind_some]
      rw [e5]
      simp only [Option.bind_some]
      rw [hno, if_pos bz_F, iz_succ]
      exact ⟨_, rfl, _, _, _, rfl⟩)
    (fun z => by
      rintro ⟨pw, st, opn, rfl⟩
      simp only [f_M_dry_b17]
      by_cases c : fnd (dryP w er g kd a f) 0 10 < 10
      · have hyes := fnd_yes (dryP w er g kd a f) 10 0 (by omega)
        generalize fnd (dryP w er g kd a f) 0 10 = y at c hyes ⊢
        unfold dryP at hyes
        obtain ⟨st', e3, h3⟩ := z_layHeard (u := y) (er := er) hD (by omega) her hf pw st
        obtain ⟨opn', e4, h4⟩ := z_markOpen hw h3 opn
        have e5 := z_isPassable hw h4
        rw [if_neg (by rw [l_9, iz_lt (by omega) (by omega)]; omega), e3]
        simp only [Option.bind_some]
        rw [e4]
        simp only [Option.bind_some]
        rw [e5]
        simp only [Option.bind_some]
        rw [hyes, if_neg (by decide)]
        exact ⟨_, rfl, fun _ => ⟨_, rfl⟩, fun z => absurd c z⟩
      · rw [if_pos (by rw [l_9, iz_lt (by omega) (by omega)]; omega)]
        exact ⟨_, rfl, fun z => absurd z c, fun _ => ⟨_, rfl⟩⟩)
    (0, pw, st, opn) ⟨pw, st, opn, rfl⟩
def dryA (P : Nat → Bool) (u : Nat) : Int := if fnd P u (10 - u) < 10 then ((fnd P u (10 - u) : Nat) : Int) else -1
theorem dryA_s (P : Nat → Bool) (u : Nat) (h : u < 10) : dryA P u = if P u = true then (u : Int) else dryA P (u + 1) := by
  unfold dryA
  rw [show 10 - u = (10 - (u + 1)) + 1 by omega, fnd_s]
  by_cases c : P u = true
  · rw [if_pos c, if_pos c, if_pos h]
  · rw [if_neg c, if_neg c]
theorem y_dryL {f : Nat} (hD : Dr w rn m g kd a) (her : 1 ≤ er ∧ er ≤ 99) (hf : f < m) (cr : Int32) (cost may rest : Nat → Int32) :
    ∃ r, f_R_dry_l26 (iz f) (iz w) (iz er) (ar g) (ar kd) (ar a) (-1) 9 cr cost may rest = some r ∧ r.1 = iz (dryA (dryP w er g kd a f) 0) := by
  obtain ⟨hw, hrn, hm, hg, hkd, ha⟩ := id hD
  exact loopI (body := fun s : Int32 × Int32 × Int32 × (Nat → Int32) × (Nat → Int32) × (Nat → Int32) => f_R_dry_b26 (iz f) (iz w) (iz er) (ar g) (ar kd) (ar a) s.1 s.2.1 s.2.2.1 s.2.2.2.1 s.2.2.2.2.1 s.2.2.2.2.2)
    (fun k z => ∃ cr cost may rest, z = (iz (dryA (dryP w er g kd a f) (10 - k)), iz (9 - (k : Int)), cr, cost, may, rest)) _ 10 (by omega)
    (fun k z hk => by
      rintro ⟨cr, cost, may, rest, rfl⟩
      obtain ⟨u, e1, e2⟩ : ∃ u : Nat, 10 - k = u + 1 ∧ 9 - (k : Int) = u := ⟨9 - k, by omega, by omega⟩
      obtain ⟨s, e⟩ := y_isSo (W := true) (hD.wet (u := u) (by omega)) her hf cost may rest
      simp only [f_R_dry_b26]
      rw [e2, e1, if_neg (by rw [l_0, iz_lt (by omega) (by omega)]; omega), show f_R_isSo (iz f) 1 (iz w) (iz u) (iz er) (ar g) (ar kd) (ar a) cost may rest = _ from e]
      simp only [Option.bind_some]
      have e3 := dryA_s (dryP w er g kd a f) u (by omega)
      have e4 : iz (u : Int) + -1 = iz (9 - ((k + 1 : Nat) : Int)) := by rw [l_m1, iz_add]; congr 1; omega
      rw [e4, show 10 - (k + 1) = u by omega, e3]
      cases q : dryP w er g kd a f u with
      | false =>
        have q2 : pw w (nhr w u er g kd a f) = false := q
        rw [q2, if_pos (show bz (false == true) = 0 from rfl), if_neg (by decide)]
        exact ⟨_, rfl, _, _, _, _, rfl⟩
      | true =>
        have q2 : pw w (nhr w u er g kd a f) = true := q
        rw [q2, if_neg (by decide), if_pos rfl]
        exact ⟨_, rfl, _, _, _, _, rfl⟩)
    (fun z => by
      rintro ⟨cr, cost, may, rest, rfl⟩
      simp only [f_R_dry_b26]
      rw [if_pos (by rw [l_0, iz_lt (by omega) (by omega)]; omega)]
      exact ⟨_, rfl, rfl⟩)
    (-1, 9, cr, cost, may, rest) ⟨cr, cost, may, rest, rfl⟩
theorem q_dry {rm rr : Nat → Int32} (hD : Dr w rn m g kd a) (her : 1 ≤ er ∧ er ≤ 99) (hr : RF rm rr) (v1 pw : Int32) (st opn cost may yrest : Nat → Int32) :
    ∃ x y, f_M_dry v1 (iz w) (iz er) (iz m) (ar g) (ar kd) (ar a) pw st opn rm = some x ∧ f_R_dry v1 (iz w) (iz rn) (iz er) (iz m) (ar g) (ar kd) (ar a) rr cost may yrest = some y ∧ x.1 = y.1 ∧ y.2.1 = iz rn ∧ RF x.2.2.2.2 y.2.2.1 := by
  obtain ⟨hw, hrn, hm, hg, hkd, ha⟩ := id hD
  obtain ⟨x, hx, rfl⟩ := anyI v1
  obtain ⟨rm2, rr2, e1, e2, hr2⟩ := z_ref (why := -2) (by omega) hr
  unfold f_M_dry f_R_dry
  by_cases c1 : 0 ≤ x ∧ x < m
  · obtain ⟨f, hf, rfl⟩ := natZ (n := m) c1
    obtain ⟨r, e3, h3, h4⟩ := z_dryL hD her hf pw st opn
    obtain ⟨s, e5, h5⟩ := y_dryL hD her hf (iz rn) cost may yrest
    rw [z_isFeet (by omega) hm, y_isFeet (by omega) hm]
    simp only [Option.bind_some, b1_0]
    rw [if_neg (show ¬ ¬ (0 ≤ (f : Int) ∧ (f : Int) < m) by omega), if_neg (show ¬ ¬ (0 ≤ (f : Int) ∧ (f : Int) < m) by omega), e3, e5]
    simp only [Option.bind_some]
    unfold dryA at h5
    rw [Nat.sub_zero] at h5
    by_cases c : fnd (dryP w er g kd a f) 0 10 < 10
    · obtain ⟨t, rfl⟩ := h3 c
      rw [if_pos c] at h5
      exact ⟨_, _, rfl, rfl, h5.symm, rfl, hr⟩
    · obtain ⟨t, rfl⟩ := h4 c
      rw [if_neg c] at h5
      exact ⟨_, _, rfl, rfl, h5.symm, rfl, hr⟩
  · simp (disch := omega) only [l_0, l_1, l_2, l_3, l_4, l_5, l_6, l_7, l_8, l_9, l_10, l_12, l_16, l_32, l_35, l_36, l_40, l_48, l_59, l_57, l_60, l_97, l_99, l_100, l_122, l_250, l_255, l_1000, l_10000, l_20000, l_1000000, l_12345, l_1103515245, iz_neg, iz_add, iz_sub, iz_mul, iz_lt, iz_le, iz_eq, Option.bind_some, b1_i0, b1_i1, zr_b1, Classical.not_not, if_pos, if_neg, z_isFeet, y_isFeet, e1, e2]
    exact ⟨_, _, rfl, rfl, rfl, rfl, hr2⟩
end

/-! arrays of ints -/
def ar (g : Nat → Int) : Nat → Int32 := fun j => iz (g j)
theorem ar_at (g : Nat → Int) (j : Nat) : ar g j = iz (g j) := rfl
def upz (g : Nat → Int) (k : Nat) (v : Int) : Nat → Int := fun j => if j = k then v else g j
theorem upz_same {g : Nat → Int} {k : Nat} {v : Int} : upz g k v k = v := if_pos rfl
theorem upz_ne {g : Nat → Int} {k j : Nat} {v : Int} (h : j ≠ k) : upz g k v j = g j := if_neg h
theorem upd_ar (g : Nat → Int) (k : Nat) (v : Int) : upd (ar g) k (iz v) = ar (upz g k v) := by
  funext j
  unfold upd ar upz
  split <;> rfl
theorem anyI (x : Int32) : ∃ v : Int, (-2147483648 ≤ v ∧ v < 2147483648) ∧ x = iz v :=
  ⟨x.toInt, ⟨Int32.le_toInt x, Int32.toInt_lt x⟩, (toInt_iz x).symm⟩
theorem arOf (f : Nat → Int32) : ∃ g : Nat → Int, (∀ j, -2147483648 ≤ g j ∧ g j < 2147483648) ∧ f = ar g :=
  ⟨fun j => (f j).toInt, fun j => ⟨Int32.le_toInt _, Int32.toInt_lt _⟩, funext fun j => (toInt_iz (f j)).symm⟩
/-! tests -/
theorem z_within (v lo hi : Int32) : f_M_isWithin v lo hi = some (b1 (lo ≤ v ∧ v ≤ hi)) := by
  unfold f_M_isWithin b1
  by_cases h1 : v < lo
  · rw [if_pos h1, if_neg (fun q => absurd h1 (Int32.not_lt.mpr q.1))]
  · rw [if_neg h1]
    by_cases h2 : hi < v
    · rw [if_pos h2, if_neg (fun q => absurd h2 (Int32.not_lt.mpr q.2))]
    · rw [if_neg h2, if_pos ⟨Int32.not_lt.mp h1, Int32.not_lt.mp h2⟩]
theorem z_withinI {v lo hi : Int} (hv : -2147483648 ≤ v ∧ v < 2147483648) (hlo : -2147483648 ≤ lo ∧ lo < 2147483648) (hhi : -2147483648 ≤ hi ∧ hi < 2147483648) : f_M_isWithin (iz v) (iz lo) (iz hi) = some (b1 (lo ≤ v ∧ v ≤ hi)) := by
  rw [z_within]
  congr 1
  exact b1_c (by rw [iz_le hlo hv, iz_le hv hhi])
theorem y_within (v lo hi : Int32) : f_R_within v lo hi = f_M_isWithin v lo hi := rfl
theorem y_withinI {v lo hi : Int} (hv : -2147483648 ≤ v ∧ v < 2147483648) (hlo : -2147483648 ≤ lo ∧ lo < 2147483648) (hhi : -2147483648 ≤ hi ∧ hi < 2147483648) : f_R_within (iz v) (iz lo) (iz hi) = some (b1 (lo ≤ v ∧ v ≤ hi)) := z_withinI hv hlo hhi
theorem z_isShelf {v : Int} (hv : -2147483648 ≤ v ∧ v < 2147483648) : f_M_isShelf (iz v) = some (b1 (0 ≤ v ∧ v < 8)) := by
  unfold f_M_isShelf
  rw [l_0, l_8]
  simp only [iz_lt hv (show (-2147483648:Int) ≤ 0 ∧ (0:Int) < 2147483648 by omega), iz_le (show (-2147483648:Int) ≤ 8 ∧ (8:Int) < 2147483648 by omega) hv]
  by_cases h1 : v < 0
  · rw [if_pos h1, b1_F (by omega)]; rfl
  · rw [if_neg h1]
    by_cases h2 : 8 ≤ v
    · rw [if_pos h2, b1_F (by omega)]; rfl
    · rw [if_neg h2, b1_T (by omega)]
theorem y_isShelf {v : Int} (hv : -2147483648 ≤ v ∧ v < 2147483648) : f_R_isShelf (iz v) = some (b1 (0 ≤ v ∧ v < 8)) := by
  unfold f_R_isShelf
  rw [l_0, l_7, y_withinI hv (by omega) (by omega)]
  simp only [Option.bind_some, zr_b1]
  exact congrArg some (b1_c (by omega))
theorem z_count {m : Nat} (hm : m ≤ 8) : f_D_count (iz m) = some (iz m) := by
  unfold f_D_count
  rw [l_8, iz_min (by omega) (by omega)]
  exact congrArg (fun q => some (iz q)) (by omega)
theorem z_isFeet {v : Int} {m : Nat} (hv : -2147483648 ≤ v ∧ v < 2147483648) (hm : m ≤ 8) : f_M_isFeet (iz v) (iz m) = some (b1 (0 ≤ v ∧ v < m)) := by
  unfold f_M_isFeet
  rw [z_count hm]
  simp only [Option.bind_some]
  rw [l_0, l_1, iz_sub, z_withinI hv (by omega) (by omega)]
  simp only [Option.bind_some, zr_b1]
  exact congrArg some (b1_c (by omega))
theorem y_isFeet {v : Int} {m : Nat} (hv : -2147483648 ≤ v ∧ v < 2147483648) (hm : m ≤ 8) : f_R_isFeet (iz v) (iz m) = some (b1 (0 ≤ v ∧ v < m)) := by
  unfold f_R_isFeet
  rw [l_0, l_1, iz_sub, y_withinI hv (by omega) (by omega)]
  simp only [Option.bind_some, zr_b1]
  exact congrArg some (b1_c (by omega))
/-! what is refused -/
def RF (rm rr : Nat → Int32) : Prop := ∀ j, j < 5 → rm j = rr (j + 2)
theorem z_ref {why : Int} (h : -6 ≤ why ∧ why ≤ -2) {rm rr : Nat → Int32} (hr : RF rm rr) : ∃ rm' rr', f_M_refuse (iz why) rm = some (iz why, rm') ∧ f_R_no (iz why) rr = some (iz why, rr') ∧ RF rm' rr' := by
  refine ⟨upd rm (-2 - why).toNat (rm (-2 - why).toNat + 1), upd rr (-why).toNat (rr (-why).toNat + 1), ?_, ?_, ?_⟩
  · unfold f_M_refuse
    rw [l_m2, l_0, l_4, l_1, iz_sub, z_withinI (by omega) (by omega) (by omega)]
    simp only [Option.bind_some]
    have e : ¬ b1 (0 ≤ -2 - why ∧ -2 - why ≤ 4) = iz 0 := by rw [← l_0, b1_0]; omega
    rw [if_neg e, rd_iz (by omega) (by omega)]
    simp only [Option.bind_some]
    rw [wr_iz (by omega) (by omega)]
    rfl
  · unfold f_R_no
    rw [iz_neg, l_1, rd_iz (by omega) (by omega)]
    simp only [Option.bind_some]
    rw [wr_iz (by omega) (by omega)]
    rfl
  · intro j hj
    have hz : (-why).toNat = (-2 - why).toNat + 2 := by omega
    unfold upd
    by_cases e : j = (-2 - why).toNat
    · rw [if_pos e, if_pos (by omega), hr _ (by omega), hz]
    · rw [if_neg e, if_neg (by omega), hr j hj]
/-! steps -/
def crn (kd a wet : Int) (k : Nat) : Int :=
  if wet ≤ 0 then 0 else if kd = 1 then 2 * (wet + a) else if kd = 2 then max 0 (wet + a - 3) else if kd = 3 then 2 * (wet + a) + (k % 2 : Nat) else if kd = 4 then (if 4 < wet then max 0 (wet + a - 3) else 0) else if kd = 5 then (if k % 2 = 0 then wet + a else (wet + a) / 2) else wet + a
theorem crn_bd {kd a wet : Int} {k : Nat} (ha : 0 ≤ a ∧ a ≤ 9) (hw : wet ≤ 9) : 0 ≤ crn kd a wet k ∧ crn kd a wet k ≤ 37 := by
  unfold crn
  split
  · omega
  · split
    · omega
    · split
      · omega
      · split
        · omega
        · split
          · split <;> omega
          · split
            · split <;> omega
            · omega
theorem odd6 : ∀ k : Nat, k < 6 → ((iz k &&& 1) = 1 ↔ k % 2 = 1) := by decide
theorem z_stepBy {kd a wet : Int} {k : Nat} (hk : k < 6) (hd : 0 ≤ kd ∧ kd ≤ 5) (ha : 0 ≤ a ∧ a ≤ 9) (hw : wet ≤ 9 ∧ -1000 ≤ wet) : f_D_stepBy (iz kd) (iz a) (iz wet) (iz k) = some (iz (crn kd a wet k)) := by
  unfold f_D_stepBy
  rw [l_0]
  simp (disch := omega) only [iz_lt]
  by_cases h0 : 0 < wet
  · rw [if_pos h0]
    have key : ∀ t : Int, t = ((k % 2 : Nat) : Int) → f_D_stepBy_j18 (iz kd) (iz a) (iz wet) (iz t) = some (iz (crn kd a wet k)) := by
      intro t ht
      unfold f_D_stepBy_j18 crn
      rw [if_neg (show ¬ wet ≤ 0 by omega)]
      simp (disch := omega) only [l_0, l_1, l_2, l_3, l_4, l_5, iz_eq, iz_add, iz_sub, iz_mul, iz_lt, iz_max, dv_iz, Option.bind_some]
      by_cases c1 : kd = 1
      · rw [if_pos c1, if_pos c1]
      · rw [if_neg c1, if_neg c1]
        by_cases c2 : kd = 2
        · rw [if_pos c2, if_pos c2]
        · rw [if_neg c2, if_neg c2]
          by_cases c3 : kd = 3
          · rw [if_pos c3, if_pos c3]
            split
            · congr 2; omega
            · congr 2; omega
          · rw [if_neg c3, if_neg c3]
            by_cases c4 : kd = 4
            · rw [if_pos c4, if_pos c4]
              split <;> rfl
            · rw [if_neg c4, if_neg c4]
              by_cases c5 : kd = 5
              · rw [if_pos c5, if_pos c5]
                by_cases e : t = 0
                · rw [if_pos e, if_pos (by omega)]
                · rw [if_neg e, if_neg (by omega)]
              · rw [if_neg c5, if_neg c5]
    by_cases ho : k % 2 = 1
    · rw [if_pos ((odd6 k hk).mpr ho)]
      exact key 1 (by omega)
    · rw [if_neg (fun q => ho ((odd6 k hk).mp q))]
      exact key 0 (by omega)
  · rw [if_neg h0]
    unfold crn
    rw [if_pos (show wet ≤ 0 by omega)]
/-- the crunch of feet f on a cell as the k-th -/
def cz (rn : Int) (g kd a : Nat → Int) (f cell k : Nat) : Int := crn (kd f) (a f) (max 0 (g cell - rn)) k
theorem z_kindOf {kd : Nat → Int} {f : Nat} (hf : f < 8) : f_D_kindOf (iz f) (ar kd) = some (iz (kd f)) := by
  unfold f_D_kindOf
  rw [l_0, l_7, z_withinI (by omega) (by omega) (by omega)]
  simp only [Option.bind_some]
  rw [← l_0, if_neg (by rw [b1_0]; omega), rdn f (by omega) hf]
  rfl
theorem z_weightOf {a : Nat → Int} {f : Nat} (hf : f < 8) : f_D_weightOf (iz f) (ar a) = some (iz (a f)) := by
  unfold f_D_weightOf
  rw [l_0, l_7, z_withinI (by omega) (by omega) (by omega)]
  simp only [Option.bind_some]
  rw [← l_0, if_neg (by rw [b1_0]; omega), rdn f (by omega) hf]
  rfl
theorem z_chanceOf {l : Nat → Int} {f : Nat} (hf : f < 8) : f_D_chanceOf (iz f) (ar l) = some (iz (l f)) := by
  unfold f_D_chanceOf
  rw [l_0, l_7, z_withinI (by omega) (by omega) (by omega)]
  simp only [Option.bind_some]
  rw [← l_0, if_neg (by rw [b1_0]; omega), rdn f (by omega) hf]
  rfl
theorem z_stonesOn {g : Nat → Int} {c : Nat} (hc : c < 36) : f_D_stonesOn (iz c) (ar g) = some (iz (g c)) := by
  unfold f_D_stonesOn
  rw [l_0, l_36]
  simp (disch := omega) only [iz_lt, iz_le]
  rw [if_neg (by omega), if_neg (by omega), rdn c (by omega) hc]
  rfl
theorem z_wetOn {g : Nat → Int} {c : Nat} {u : Int} (hc : c < 36) (hu : 0 ≤ u ∧ u ≤ 9) (hg : ∀ j, 0 ≤ g j ∧ g j ≤ 9) : f_D_wetOn (iz c) (iz u) (ar g) = some (iz (max 0 (g c - u))) := by
  unfold f_D_wetOn
  have := hg c
  rw [z_stonesOn hc]
  simp only [Option.bind_some]
  rw [iz_sub, l_0, iz_max (by omega) (by omega)]
theorem z_stepUnder {g kd a : Nat → Int} {f c k : Nat} {u : Int} (hf : f < 8) (hc : c < 36) (hk : k < 6) (hu : 0 ≤ u ∧ u ≤ 9) (hg : ∀ j, 0 ≤ g j ∧ g j ≤ 9) (hd : ∀ j, 0 ≤ kd j ∧ kd j ≤ 5) (ha : ∀ j, 0 ≤ a j ∧ a j ≤ 9) :
    f_D_stepUnder (iz f) (iz c) (iz k) (iz u) (ar g) (ar kd) (ar a) = some (iz (cz u g kd a f c k)) := by
  unfold f_D_stepUnder
  have := hg c
  rw [z_kindOf hf, z_weightOf hf, z_wetOn hc hu hg]
  simp only [Option.bind_some]
  rw [z_stepBy hk (hd f) (ha f) (by omega)]
  rfl
theorem cz_bd {rn : Int} {g kd a : Nat → Int} {f c k : Nat} (hg : ∀ j, 0 ≤ g j ∧ g j ≤ 9) (ha : ∀ j, 0 ≤ a j ∧ a j ≤ 9) (hr : 0 ≤ rn) : 0 ≤ cz rn g kd a f c k ∧ cz rn g kd a f c k ≤ 37 := by
  have := hg c
  exact crn_bd (ha f) (by omega)
theorem z_stepAs {g kd a : Nat → Int} {f c k : Nat} {u : Int} (hf : f < 8) (hc : c < 36) (hk : k < 6) (hu : 0 ≤ u ∧ u ≤ 9) (hg : ∀ j, 0 ≤ g j ∧ g j ≤ 9) (hd : ∀ j, 0 ≤ kd j ∧ kd j ≤ 5) (ha : ∀ j, 0 ≤ a j ∧ a j ≤ 9) :
    f_D_stepAs (iz f) (iz c) (iz k) (iz u) (ar g) (ar kd) (ar a) = some (iz (cz u g kd a f c k)) := by
  unfold f_D_stepAs
  rw [z_stepUnder hf hc hk hu hg hd ha]
  rfl
theorem div_lt6 {c w : Nat} (hw : 2 ≤ w ∧ w ≤ 6) (hc : c < w * w) : c / w < w := (Nat.div_lt_iff_lt_mul (by omega)).mpr hc
theorem sq_le {w : Nat} (hw : 2 ≤ w ∧ w ≤ 6) : w * w ≤ 36 := Nat.mul_le_mul hw.2 hw.2
theorem z_rowOf {c w : Nat} (hw : 2 ≤ w ∧ w ≤ 6) (hc : c < w * w) : f_D_rowOf (iz c) (iz w) = some (iz ((c / w : Nat) : Int)) := by
  unfold f_D_rowOf
  have := sq_le hw
  simp (disch := omega) only [l_0, iz_le, iz_lt, dv_iz, Option.bind_some]
  first
    | rw [if_pos (by omega)]
    | rw [if_neg (by omega)]
  rfl
theorem z_stepOn {g kd a : Nat → Int} {f c w : Nat} {u : Int} (hw : 2 ≤ w ∧ w ≤ 6) (hf : f < 8) (hc : c < w * w) (hu : 0 ≤ u ∧ u ≤ 9) (hg : ∀ j, 0 ≤ g j ∧ g j ≤ 9) (hd : ∀ j, 0 ≤ kd j ∧ kd j ≤ 5) (ha : ∀ j, 0 ≤ a j ∧ a j ≤ 9) :
    f_D_stepOn (iz f) (iz c) (iz w) (iz u) (ar g) (ar kd) (ar a) = some (iz (cz u g kd a f c (c / w))) := by
  unfold f_D_stepOn
  have h1 := sq_le hw
  have h2 := div_lt6 hw hc
  rw [z_rowOf hw hc]
  simp only [Option.bind_some]
  rw [z_stepUnder hf (by omega) (by omega) hu hg hd ha]
  rfl
theorem y_wet {g : Nat → Int} {c : Nat} {u : Int} (hc : c < 36) (hu : 0 ≤ u ∧ u ≤ 9) (hg : ∀ j, 0 ≤ g j ∧ g j ≤ 9) : f_R_wet (iz c) (iz u) (ar g) = some (iz (max 0 (g c - u))) := by
  unfold f_R_wet
  have := hg c
  rw [rdn c (by omega) hc]
  simp only [Option.bind_some]
  rw [ar_at, iz_sub, l_0, iz_max (by omega) (by omega)]
theorem y_crunches {g kd a : Nat → Int} {f c k : Nat} {u : Int} (hf : f < 8) (hc : c < 36) (hk : k < 6) (hu : 0 ≤ u ∧ u ≤ 9) (hg : ∀ j, 0 ≤ g j ∧ g j ≤ 9) (hd : ∀ j, 0 ≤ kd j ∧ kd j ≤ 5) (ha : ∀ j, 0 ≤ a j ∧ a j ≤ 9) :
    f_R_crunches (iz f) (iz c) (iz k) (iz u) (ar g) (ar kd) (ar a) = some (iz (cz u g kd a f c k)) := by
  unfold f_R_crunches cz
  have h1 := hg c
  have h2 := hd f
  have h3 := ha f
  rw [y_wet hc hu hg, rdn f (by omega) hf, rdn f (by omega) hf]
  simp only [Option.bind_some, ar_at]
  generalize hwt : max 0 (g c - u) = wet
  have hw : 0 ≤ wet ∧ wet ≤ 9 := by omega
  unfold crn
  simp (disch := omega) only [l_0, l_1, l_2, l_3, l_4, l_5, iz_eq, iz_add, iz_sub, iz_mul, iz_lt, iz_le, iz_max, dv_iz, rm_iz, Option.bind_some]
  by_cases h0 : wet = 0
  · rw [if_pos h0, if_pos (show wet ≤ 0 by omega)]
  · rw [if_neg h0, if_neg (show ¬ wet ≤ 0 by omega)]
    by_cases c1 : kd f = 1
    · rw [if_pos c1, if_pos c1]
    · rw [if_neg c1, if_neg c1]
      by_cases c2 : kd f = 2
      · rw [if_pos c2, if_pos c2]
      · rw [if_neg c2, if_neg c2]
        by_cases c3 : kd f = 3
        · rw [if_pos c3, if_pos c3]
          rfl
        · rw [if_neg c3, if_neg c3]
          by_cases c4 : kd f = 4
          · rw [if_pos c4, if_pos c4]
            by_cases e : 4 < wet
            · rw [if_pos e, if_pos (by omega)]
            · rw [if_neg e, if_neg (by omega)]
          · rw [if_neg c4, if_neg c4]
            by_cases c5 : kd f = 5
            · rw [if_pos c5, if_pos c5]
              by_cases e : k % 2 = 0
              · rw [if_pos e, if_pos (by omega)]
              · rw [if_neg e, if_neg (by omega)]
            · rw [if_neg c5, if_neg c5]
theorem y_stepOn {g kd a : Nat → Int} {f c w : Nat} {u : Int} (hw : 2 ≤ w ∧ w ≤ 6) (hf : f < 8) (hc : c < w * w) (hu : 0 ≤ u ∧ u ≤ 9) (hg : ∀ j, 0 ≤ g j ∧ g j ≤ 9) (hd : ∀ j, 0 ≤ kd j ∧ kd j ≤ 5) (ha : ∀ j, 0 ≤ a j ∧ a j ≤ 9) :
    f_R_stepOn (iz f) (iz c) (iz w) (iz u) (ar g) (ar kd) (ar a) = some (iz (cz u g kd a f c (c / w))) := by
  unfold f_R_stepOn
  have h1 := sq_le hw
  have h2 := div_lt6 hw hc
  rw [dv_iz (by omega) (by omega)]
  simp only [Option.bind_some]
  have e : ((c : Int) / (w : Int)) = ((c / w : Nat) : Int) := rfl
  rw [e, y_crunches hf (by omega) (by omega) hu hg hd ha]
  rfl

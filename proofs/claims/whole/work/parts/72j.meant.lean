/-! meant, two -/
def alb (P : Nat → Bool) : Nat → Bool
  | 0 => true
  | k + 1 => alb P k && P k
theorem alb_T {P : Nat → Bool} : ∀ {n : Nat}, alb P n = true → ∀ j, j < n → P j = true
  | 0, _, j, hj => by omega
  | n + 1, h, j, hj => by
    unfold alb at h
    rw [Bool.and_eq_true] at h
    by_cases e : j = n
    · rw [e]; exact h.2
    · exact alb_T h.1 j (by omega)
theorem alb_I {P : Nat → Bool} : ∀ {n : Nat}, (∀ j, j < n → P j = true) → alb P n = true
  | 0, _ => rfl
  | n + 1, h => by
    unfold alb
    rw [Bool.and_eq_true]
    exact ⟨alb_I (fun j hj => h j (by omega)), h n (by omega)⟩
theorem alb_fnd (P : Nat → Bool) (n : Nat) : (fnd (fun k => !P k) 0 n < n) = (alb P n = false) := propext (by
  constructor
  · intro h
    by_cases c : alb P n = true
    · have h1 := fnd_yes (fun k => !P k) n 0 (by omega)
      have h2 := alb_T c _ h
      rw [h2] at h1
      cases h1
    · simpa using c
  · intro h
    by_cases c : fnd (fun k => !P k) 0 n < n
    · exact c
    · have h2 : alb P n = true := alb_I (fun j hj => by
        have := fnd_no (fun k => !P k) n 0 j (by omega) (by omega)
        simpa using this)
      rw [h2] at h
      cases h)
def mt (w : Nat) (rn : Int) (g T : Nat → Int) (c : Nat) (x y : Int) (k : Nat) : Bool := decide (crn x y (max 0 (g (k * w + c) - rn)) k = T k)
section
variable {w m : Nat} {rn er : Int} {g kd a' : Nat → Int} {sz : Nat → Int} {el ro : Nat → Int64} {a f c n : Nat} {T : Nat → Int} {x y : Int}
theorem z_isToldSo (hw : 2 ≤ w ∧ w ≤ 6) (hrn : 0 ≤ rn ∧ rn ≤ 9) (hg : ∀ j, 0 ≤ g j ∧ g j ≤ 9) (hT : TL sz el ro a T) (hz : (n : Int) ≤ sz a) (hn : n ≤ w) (hc : c < w) (hx : 0 ≤ x ∧ x ≤ 5) (hy : 0 ≤ y ∧ y ≤ 9) :
    f_M_isToldSo (iz a) (iz x) (iz y) (iz c) (iz n) (iz w) (iz rn) (ar g) (ar sz) el = some (if alb (mt w rn g T c x y) n = false then 0 else 1) := by
  have ww := sq_le hw
  have h := loopE (body := fun s : Int32 => f_M_isToldSo_b3 (iz a) (iz x) (iz y) (iz c) (iz n) (iz w) (iz rn) (ar g) (ar sz) el s) (fun k => iz k) (fun k => !mt w rn g T c x y k) (fun _ => .inl ()) (.inr ()) n (by omega)
    (fun k h hP => by
      have hi := idx_lt (show k < w by omega) hc
      have hgb := hg (k * w + c)
      have b := crn_bd (kd := x) (a := y) (wet := max 0 (g (k * w + c) - rn)) (k := k) hy (by omega)
      have tb := (hT.2.2 k (by omega)).1
      have hP2 : crn x y (max 0 (g (k * w + c) - rn)) k = T k := by simpa [mt] using hP
      simp only [f_M_isToldSo_b3, z_cellAt, Option.bind_some]
      rw [z_wetOn (by omega) hrn hg]
      simp only [Option.bind_some]
      rw [z_stepBy (by omega) hx hy (by omega)]
      simp only [Option.bind_some]
      rw [z_told hT (by omega)]
      simp only [Option.bind_some]
      rw [iz_long (by omega), if_neg (by rw [iz_le (by omega) (by omega)]; omega), if_pos (by rw [lg_eq (by omega) tb]; exact hP2), iz_succ])
    (fun k h hP => by
      have hi := idx_lt (show k < w by omega) hc
      have hgb := hg (k * w + c)
      have b := crn_bd (kd := x) (a := y) (wet := max 0 (g (k * w + c) - rn)) (k := k) hy (by omega)
      have tb := (hT.2.2 k (by omega)).1
      have hP2 : ¬ crn x y (max 0 (g (k * w + c) - rn)) k = T k := by simpa [mt] using hP
      simp only [f_M_isToldSo_b3, z_cellAt, Option.bind_some]
      rw [z_wetOn (by omega) hrn hg]
      simp only [Option.bind_some]
      rw [z_stepBy (by omega) hx hy (by omega)]
      simp only [Option.bind_some]
      rw [z_told hT (by omega)]
      simp only [Option.bind_some]
      rw [iz_long (by omega), if_neg (by rw [iz_le (by omega) (by omega)]; omega), if_neg (by rw [lg_eq (by omega) tb]; exact hP2)])
    (by
      simp only [f_M_isToldSo_b3]
      simp (disch := omega) only [iz_le, if_pos])
  unfold f_M_isToldSo
  rw [show f_M_isToldSo_l3 (iz a) (iz x) (iz y) (iz c) (iz n) (iz w) (iz rn) (ar g) (ar sz) el 0 = _ from h]
  simp only [Option.bind_some, alb_fnd]
  by_cases q : alb (mt w rn g T c x y) n = false
  · rw [if_pos q, if_pos q]; rfl
  · rw [if_neg q, if_neg q]; rfl
theorem y_fits (hD : Dr w rn m g kd a') (hT : TL sz el ro a T) (hz : (w : Int) ≤ sz a) (hf : f < m) (hc : c < w) :
    f_R_fits (iz a) (iz f) (iz c) (iz w) (iz rn) (ar g) (ar kd) (ar a') ro = some (iz ((fnd (fun k => !mt w rn g T c (kd f) (a' f) k) 0 w : Nat) : Int)) := by
  obtain ⟨hw, hrn, hm, hg, hkd, ha⟩ := id hD
  have ww := sq_le hw
  have hle := fnd_le (fun k => !mt w rn g T c (kd f) (a' f) k) w 0
  have h := loopE (body := fun s : Int32 => f_R_fits_b3 (iz a) (iz f) (iz c) (iz w) (iz rn) (ar g) (ar kd) (ar a') ro s) (fun k => iz k) (fun k => !mt w rn g T c (kd f) (a' f) k) (fun k => iz k) (iz w) w (by omega)
    (fun k h hP => by
      have b := cst_bd (w := w) (kd := kd) (f := f) (c := c) (r := k) hg ha hrn.1
      have tb := (hT.2.2 k (by omega)).1
      have hP2 : cst w rn g kd a' f c k = T k := by
        have q : crn (kd f) (a' f) (max 0 (g (k * w + c) - rn)) k = T k := by simpa [mt] using hP
        exact q
      simp only [f_R_fits_b3, idz]
      rw [y_told hT (by omega), y_crC hD hf h hc]
      simp only [Option.bind_some]
      rw [iz_long (by omega), if_neg (by rw [iz_le (by omega) (by omega)]; omega), if_pos (by rw [lg_eq tb (by omega)]; omega), iz_succ])
    (fun k h hP => by
      have b := cst_bd (w := w) (kd := kd) (f := f) (c := c) (r := k) hg ha hrn.1
      have tb := (hT.2.2 k (by omega)).1
      have hP2 : ¬ cst w rn g kd a' f c k = T k := by
        have q : ¬ crn (kd f) (a' f) (max 0 (g (k * w + c) - rn)) k = T k := by simpa [mt] using hP
        exact q
      simp only [f_R_fits_b3, idz]
      rw [y_told hT (by omega), y_crC hD hf h hc]
      simp only [Option.bind_some]
      rw [iz_long (by omega), if_neg (by rw [iz_le (by omega) (by omega)]; omega), if_neg (by rw [lg_eq tb (by omega)]; omega)])
    (by
      simp only [f_R_fits_b3]
      simp (disch := omega) only [iz_le, if_pos])
  unfold f_R_fits
  rw [show f_R_fits_l3 (iz a) (iz f) (iz c) (iz w) (iz rn) (ar g) (ar kd) (ar a') ro 0 = _ from h]
  simp only [Option.bind_some]
  split
  · rfl
  · congr 3; omega
theorem upz_bd {g : Nat → Int} {k : Nat} {v lo hi : Int} (h : ∀ j, lo ≤ g j ∧ g j ≤ hi) (hv : lo ≤ v ∧ v ≤ hi) : ∀ j, lo ≤ upz g k v j ∧ upz g k v j ≤ hi := by
  intro j
  unfold upz
  split
  · exact hv
  · exact h j
theorem upz_upz {g : Nat → Int} {k : Nat} {u v : Int} : upz (upz g k u) k v = upz g k v := by
  funext j
  unfold upz
  split <;> rfl
theorem upz_own {g : Nat → Int} {k : Nat} : upz g k (g k) = g := by
  funext j
  unfold upz
  split
  · rename_i h; rw [h]
  · rfl
def kbit (P : Nat → Bool) (k : Nat) (b : Int32) : Int32 := if P k = false then b else b ||| (1 <<< (iz k &&& 31))
theorem z_kindsMeant (hw : 2 ≤ w ∧ w ≤ 6) (hrn : 0 ≤ rn ∧ rn ≤ 9) (hg : ∀ j, 0 ≤ g j ∧ g j ≤ 9) (ha : ∀ j, 0 ≤ a' j ∧ a' j ≤ 9) (hT : TL sz el ro a T) (hz : (w : Int) ≤ sz a) (hc : c < w) (hf : f < 8) :
    f_M_kindsMeant (iz a) (iz f) (iz c) (iz w) (iz rn) (ar g) (ar a') (ar sz) el = some (fo (kbit (fun k => alb (mt w rn g T c k (a' f)) w)) 6 0) := by
  have h := loopF (body := fun s : Int32 × Int32 => f_M_kindsMeant_b6 (iz a) (iz f) (iz c) (iz w) (iz rn) (ar g) (ar a') (ar sz) el s.1 s.2) (fun b k => (b, iz k)) (kbit (fun k => alb (mt w rn g T c k (a' f)) w)) (fun b => b) 0 6 (by omega)
    (fun k b hk => by
      simp only [f_M_kindsMeant_b6, z_weightOf hf, Option.bind_some]
      rw [z_isToldSo hw hrn hg hT hz (Nat.le_refl w) hc (by omega) (ha f)]
      simp only [Option.bind_some]
      unfold kbit
      rw [l_6, if_neg (by rw [iz_le (by omega) (by omega)]; omega), iz_succ]
      by_cases q : alb (mt w rn g T c k (a' f)) w = false
      · rw [if_pos q, if_pos rfl, if_pos q]
      · rw [if_neg q, if_neg (by decide), if_neg q])
    (fun b => by
      simp only [f_M_kindsMeant_b6]
      exact if_pos (by decide))
  unfold f_M_kindsMeant
  rw [show f_M_kindsMeant_l6 (iz a) (iz f) (iz c) (iz w) (iz rn) (ar g) (ar a') (ar sz) el 0 0 = _ from h]
  rfl
theorem z_leastWeight (hw : 2 ≤ w ∧ w ≤ 6) (hrn : 0 ≤ rn ∧ rn ≤ 9) (hg : ∀ j, 0 ≤ g j ∧ g j ≤ 9) (hkd : ∀ j, 0 ≤ kd j ∧ kd j ≤ 5) (hT : TL sz el ro a T) (hz : (w : Int) ≤ sz a) (hc : c < w) (hf : f < 8) :
    f_M_leastWeightMeant (iz a) (iz f) (iz c) (iz w) (iz rn) (ar g) (ar kd) (ar sz) el = some (iz (if fnd (fun k => alb (mt w rn g T c (kd f) k) w) 0 10 < 10 then (fnd (fun k => alb (mt w rn g T c (kd f) k) w) 0 10 : Nat) else -1)) := by
  have h := loopE (body := fun s : Int32 => f_M_leastWeightMeant_b3 (iz a) (iz f) (iz c) (iz w) (iz rn) (ar g) (ar kd) (ar sz) el s) (fun k => iz k) (fun k => alb (mt w rn g T c (kd f) k) w) (fun k => .inl (iz k)) (.inr ()) 10 (by omega)
    (fun k h hP => by
      simp only [f_M_leastWeightMeant_b3, z_kindOf hf, Option.bind_some]
      rw [z_isToldSo hw hrn hg hT hz (Nat.le_refl w) hc (hkd f) (by omega)]
      simp only [Option.bind_some]
      rw [l_9, if_neg (by rw [iz_lt (by omega) (by omega)]; omega), iz_succ, if_pos hP, if_pos rfl])
    (fun k h hP => by
      simp only [f_M_leastWeightMeant_b3, z_kindOf hf, Option.bind_some]
      rw [z_isToldSo hw hrn hg hT hz (Nat.le_refl w) hc (hkd f) (by omega)]
      simp only [Option.bind_some]
      rw [l_9, if_neg (by rw [iz_lt (by omega) (by omega)]; omega), if_neg (by rw [hP]; decide)])
    (by
      simp only [f_M_leastWeightMeant_b3]
      exact if_pos (by decide))
  unfold f_M_leastWeightMeant
  rw [show f_M_leastWeightMeant_l3 (iz a) (iz f) (iz c) (iz w) (iz rn) (ar g) (ar kd) (ar sz) el 0 = _ from h]
  simp only [Option.bind_some]
  split <;> rfl
theorem y_meantK (hD : Dr w rn m g kd a') (hT : TL sz el ro a T) (hz : (w : Int) ≤ sz a) (hf : f < m) (hc : c < w) :
    ∃ kd2, f_R_meant_l84 (iz a) (iz f) (iz c) (iz w) (iz rn) (ar g) (ar a') ro (iz 0) (iz 0) (ar kd) = some (fo (kbit (fun k => alb (mt w rn g T c k (a' f)) w)) 6 0, ar kd2) ∧ upz kd2 f (kd f) = kd := by
  obtain ⟨hw, hrn, hm, hg, hkd, ha⟩ := id hD
  refine ⟨upz kd f 5, ?_, by rw [upz_upz, upz_own]⟩
  exact loopS (body := fun s : Int32 × Int32 × (Nat → Int32) => f_R_meant_b84 (iz a) (iz f) (iz c) (iz w) (iz rn) (ar g) (ar a') ro s.1 s.2.1 s.2.2) (fun k => (fo (kbit (fun k => alb (mt w rn g T c k (a' f)) w)) k 0, iz k, if k = 0 then ar kd else ar (upz kd f ((k : Int) - 1)))) _ 6 (by omega)
    (fun k hk => by
      have hu : wr (if k = 0 then ar kd else ar (upz kd f ((k : Int) - 1))) 8 (iz f) (iz k) = some (ar (upz kd f k)) := by
        by_cases q : k = 0
        · rw [if_pos q, wrn f (by omega) (by omega), upd_ar]
        · rw [if_neg q, wrn f (by omega) (by omega), upd_ar, upz_upz]
      have hD2 : Dr w rn m g (upz kd f k) a' := ⟨hw, hrn, hm, hg, upz_bd hkd (by omega), ha⟩
      have hle := fnd_le (fun j => !mt w rn g T c k (a' f) j) w 0
      have ha := alb_fnd (mt w rn g T c k (a' f)) w
      simp only [f_R_meant_b84]
      rw [hu]
      simp only [Option.bind_some]
      rw [y_fits hD2 hT hz hf hc, upz_same]
      simp only [Option.bind_some]
      rw [l_6, if_neg (by rw [iz_le (by omega) (by omega)]; omega), iz_succ, if_neg (show ¬ k + 1 = 0 by omega), show (((k + 1 : Nat) : Int) - 1) = k by omega]
      rw [show fo (kbit (fun k => alb (mt w rn g T c k (a' f)) w)) (k + 1) 0 = kbit (fun k => alb (mt w rn g T c k (a' f)) w) k (fo (kbit (fun k => alb (mt w rn g T c k (a' f)) w)) k 0) from rfl]
      generalize fo (kbit (fun k => alb (mt w rn g T c k (a' f)) w)) k 0 = b
      unfold kbit
      by_cases q : alb (mt w rn g T c k (a' f)) w = false
      · rw [if_pos q, if_neg (by rw [iz_eq (by omega) (by omega)]; rw [← ha] at q; omega)]
      · rw [if_neg q, if_pos (by rw [iz_eq (by omega) (by omega)]; rw [← ha] at q; omega)])
    (by
      simp only [f_R_meant_b84]
      exact if_pos (by decide))
theorem y_meantW (hD : Dr w rn m g kd a') (hT : TL sz el ro a T) (hz : (w : Int) ≤ sz a) (hf : f < m) (hc : c < w) :
    ∃ a2, f_R_meant_l140 (iz a) (iz f) (iz c) (iz w) (iz rn) (ar g) (ar kd) ro (iz (-1)) (iz 9) (ar a') = some (iz (if fnd (fun k => alb (mt w rn g T c (kd f) k) w) 0 10 < 10 then (fnd (fun k => alb (mt w rn g T c (kd f) k) w) 0 10 : Nat) else -1), ar a2) ∧ upz a2 f (a' f) = a' := by
  obtain ⟨hw, hrn, hm, hg, hkd, ha⟩ := id hD
  refine ⟨upz a' f 0, ?_, by rw [upz_upz, upz_own]⟩
  exact loopS (body := fun s : Int32 × Int32 × (Nat → Int32) => f_R_meant_b140 (iz a) (iz f) (iz c) (iz w) (iz rn) (ar g) (ar kd) ro s.1 s.2.1 s.2.2) (fun k => (iz (if fnd (fun k => alb (mt w rn g T c (kd f) k) w) (10 - k) k < 10 then (fnd (fun k => alb (mt w rn g T c (kd f) k) w) (10 - k) k : Nat) else -1), iz (9 - (k : Int)), if k = 0 then ar a' else ar (upz a' f (10 - (k : Int))))) _ 10 (by omega)
    (fun k hk => by
      obtain ⟨j, hj⟩ : ∃ j, 10 - k = j + 1 := ⟨9 - k, by omega⟩
      have e1 : (9 - (k : Int)) = (j : Int) := by omega
      have e2 : 10 - (k + 1) = j := by omega
      have e3 : (9 - ((k + 1 : Nat) : Int)) = (j : Int) + -1 := by omega
      have e4 : (10 - ((k + 1 : Nat) : Int)) = (j : Int) := by omega
      have hu : wr (if k = 0 then ar a' else ar (upz a' f (10 - (k : Int)))) 8 (iz f) (iz j) = some (ar (upz a' f j)) := by
        by_cases q : k = 0
        · rw [if_pos q, wrn f (by omega) (by omega), upd_ar]
        · rw [if_neg q, wrn f (by omega) (by omega), upd_ar, upz_upz]
      have hD2 : Dr w rn m g kd (upz a' f j) := ⟨hw, hrn, hm, hg, hkd, upz_bd ha (by omega)⟩
      have hle := fnd_le (fun i => !mt w rn g T c (kd f) j i) w 0
      have ha := alb_fnd (mt w rn g T c (kd f) j) w
      simp only [f_R_meant_b140]
      rw [e1, hu]
      simp only [Option.bind_some]
      rw [y_fits hD2 hT hz hf hc, upz_same]
      simp only [Option.bind_some]
      rw [l_0, if_neg (by rw [iz_lt (by omega) (by omega)]; omega), e2, e3, e4, hj, fnd_s, if_neg (show ¬ k + 1 = 0 by omega), show (-1 : Int32) = iz (-1) from rfl, iz_add]
      by_cases q : alb (mt w rn g T c (kd f) j) w = false
      · rw [if_neg (by rw [iz_eq (by omega) (by omega)]; rw [← ha] at q; omega), if_neg (show ¬ alb (mt w rn g T c (kd f) (j : Int)) w = true by rw [q]; decide)]
      · rw [if_pos (by rw [iz_eq (by omega) (by omega)]; rw [← ha] at q; omega), if_pos (show alb (mt w rn g T c (kd f) (j : Int)) w = true by simpa using q), if_pos (show j < 10 by omega)])
    (by
      simp only [f_R_meant_b140]
      exact if_pos (by decide))
end
theorem q_meant {w m : Nat} {rn : Int} {g kd a : Nat → Int} {mk sz rl : Nat → Int} {el ro : Nat → Int64} {rm rr : Nat → Int32} (hD : Dr w rn m g kd a) (hsi : SI m mk sz rl el ro) (hr : RF rm rr) (v1 v2 v3 v4 : Int32) :
    ∃ ans rm' rr', f_M_meant v1 v2 v3 v4 (iz w) (iz rn) (iz m) (ar g) (ar kd) (ar a) (ar mk) (ar sz) el rm = some (ans, rm') ∧ f_R_meant v1 v2 v3 v4 (iz w) (iz rn) (iz m) (ar g) (ar kd) (ar a) (ar mk) (ar rl) ro rr = some (ans, ar kd, ar a, rr') ∧ RF rm' rr' := by
  obtain ⟨hw, hrn, hm, hg, hkd, ha⟩ := id hD
  obtain ⟨s, hs, rfl⟩ := anyI v1
  obtain ⟨t, ht, rfl⟩ := anyI v2
  obtain ⟨x, hx, rfl⟩ := anyI v3
  obtain ⟨y, hy, rfl⟩ := anyI v4
  obtain ⟨m2, r2, e1, e2, hr2⟩ := z_ref (why := -2) (by omega) hr
  unfold f_M_meant f_R_meant f_M_meant_j33 f_R_meant_j33
  by_cases c1 : 0 ≤ s ∧ s < 8
  · obtain ⟨b, hb, rfl⟩ := natZ (n := 8) c1
    by_cases c2 : 0 ≤ t ∧ t < m
    · obtain ⟨f, hf, rfl⟩ := natZ (n := m) c2
      by_cases c3 : 0 ≤ x ∧ x < w
      · obtain ⟨c, hc, rfl⟩ := natZ (n := w) c3
        by_cases c4 : 0 ≤ y ∧ y ≤ 1
        · have wb := wo_bd mk sz b w
          by_cases c5 : wo mk sz b w = 0
          · obtain ⟨hrow, hsz⟩ := wo_row hsi hb c5
            obtain ⟨_, _, T, hT⟩ := hsi.told hb hrow
            obtain ⟨kd2, k1, k2⟩ := y_meantK hD hT hsz hf hc
            obtain ⟨a2, k3, k4⟩ := y_meantW hD hT hsz hf hc
            have w1 : wr (ar kd2) 8 (iz f) (iz (kd f)) = some (ar kd) := by rw [wrn f (by omega) (by omega), upd_ar, k2]
            have w2 : wr (ar a2) 8 (iz f) (iz (a f)) = some (ar a) := by rw [wrn f (by omega) (by omega), upd_ar, k4]
            simp (disch := omega) only [l_0, l_1, l_2, l_3, l_4, l_5, l_6, l_7, l_8, l_9, l_10, l_12, l_16, l_32, l_35, l_36, l_40, l_48, l_59, l_57, l_60, l_97, l_99, l_100, l_122, l_250, l_255, l_1000, l_10000, l_20000, l_1000000, l_12345, l_1103515245, iz_neg, iz_add, iz_sub, iz_mul, iz_lt, iz_le, iz_eq, Option.bind_some, b1_i0, b1_i1, zr_b1, Classical.not_not, if_pos, if_neg, z_isShelf, y_isShelf, z_withinI, y_withinI, z_isFeet, y_isFeet, z_isColumn, y_isColumn, z_whyNoRowOf hm hsi hb, y_noHeard hm hsi hb, rdn, ar_at, k1, k3, w1, w2, z_kindsMeant hw hrn hg ha hT hsz hc, z_leastWeight hw hrn hg hkd hT hsz hc]
            by_cases c6 : y = 0
            · simp (disch := omega) only [l_0, l_1, l_2, l_3, l_4, l_5, l_6, l_7, l_8, l_9, l_10, l_12, l_16, l_32, l_35, l_36, l_40, l_48, l_59, l_57, l_60, l_97, l_99, l_100, l_122, l_250, l_255, l_1000, l_10000, l_20000, l_1000000, l_12345, l_1103515245, iz_neg, iz_add, iz_sub, iz_mul, iz_lt, iz_le, iz_eq, Option.bind_some, b1_i0, b1_i1, zr_b1, Classical.not_not, if_pos, if_neg]
              exact ⟨_, _, _, rfl, rfl, hr⟩
            · simp (disch := omega) only [l_0, l_1, l_2, l_3, l_4, l_5, l_6, l_7, l_8, l_9, l_10, l_12, l_16, l_32, l_35, l_36, l_40, l_48, l_59, l_57, l_60, l_97, l_99, l_100, l_122, l_250, l_255, l_1000, l_10000, l_20000, l_1000000, l_12345, l_1103515245, iz_neg, iz_add, iz_sub, iz_mul, iz_lt, iz_le, iz_eq, Option.bind_some, b1_i0, b1_i1, zr_b1, Classical.not_not, if_pos, if_neg]
              exact ⟨_, _, _, rfl, rfl, hr⟩
          · have wr := wo_ref c5
            obtain ⟨m3, r3, e3, e4, hr3⟩ := z_ref (why := wo mk sz b w) (by omega) hr
            simp (disch := omega) only [l_0, l_1, l_2, l_3, l_4, l_5, l_6, l_7, l_8, l_9, l_10, l_12, l_16, l_32, l_35, l_36, l_40, l_48, l_59, l_57, l_60, l_97, l_99, l_100, l_122, l_250, l_255, l_1000, l_10000, l_20000, l_1000000, l_12345, l_1103515245, iz_neg, iz_add, iz_sub, iz_mul, iz_lt, iz_le, iz_eq, Option.bind_some, b1_i0, b1_i1, zr_b1, Classical.not_not, if_pos, if_neg, z_isShelf, y_isShelf, z_withinI, y_withinI, z_isFeet, y_isFeet, z_isColumn, y_isColumn, z_whyNoRowOf hm hsi hb, y_noHeard hm hsi hb, e3, e4]
            exact ⟨_, _, _, rfl, rfl, hr3⟩
        · simp (disch := omega) only [l_0, l_1, l_2, l_3, l_4, l_5, l_6, l_7, l_8, l_9, l_10, l_12, l_16, l_32, l_35, l_36, l_40, l_48, l_59, l_57, l_60, l_97, l_99, l_100, l_122, l_250, l_255, l_1000, l_10000, l_20000, l_1000000, l_12345, l_1103515245, iz_neg, iz_add, iz_sub, iz_mul, iz_lt, iz_le, iz_eq, Option.bind_some, b1_i0, b1_i1, zr_b1, Classical.not_not, if_pos, if_neg, z_isShelf, y_isShelf, z_withinI, y_withinI, z_isFeet, y_isFeet, z_isColumn, y_isColumn, e1, e2]
          exact ⟨_, _, _, rfl, rfl, hr2⟩
      · simp (disch := omega) only [l_0, l_1, l_2, l_3, l_4, l_5, l_6, l_7, l_8, l_9, l_10, l_12, l_16, l_32, l_35, l_36, l_40, l_48, l_59, l_57, l_60, l_97, l_99, l_100, l_122, l_250, l_255, l_1000, l_10000, l_20000, l_1000000, l_12345, l_1103515245, iz_neg, iz_add, iz_sub, iz_mul, iz_lt, iz_le, iz_eq, Option.bind_some, b1_i0, b1_i1, zr_b1, Classical.not_not, if_pos, if_neg, z_isShelf, y_isShelf, z_isFeet, y_isFeet, z_isColumn, y_isColumn, e1, e2]
        exact ⟨_, _, _, rfl, rfl, hr2⟩
    · simp (disch := omega) only [l_0, l_1, l_2, l_3, l_4, l_5, l_6, l_7, l_8, l_9, l_10, l_12, l_16, l_32, l_35, l_36, l_40, l_48, l_59, l_57, l_60, l_97, l_99, l_100, l_122, l_250, l_255, l_1000, l_10000, l_20000, l_1000000, l_12345, l_1103515245, iz_neg, iz_add, iz_sub, iz_mul, iz_lt, iz_le, iz_eq, Option.bind_some, b1_i0, b1_i1, zr_b1, Classical.not_not, if_pos, if_neg, z_isShelf, y_isShelf, z_isFeet, y_isFeet, e1, e2]
      exact ⟨_, _, _, rfl, rfl, hr2⟩
  · simp (disch := omega) only [l_0, l_1, l_2, l_3, l_4, l_5, l_6, l_7, l_8, l_9, l_10, l_12, l_16, l_32, l_35, l_36, l_40, l_48, l_59, l_57, l_60, l_97, l_99, l_100, l_122, l_250, l_255, l_1000, l_10000, l_20000, l_1000000, l_12345, l_1103515245, iz_neg, iz_add, iz_sub, iz_mul, iz_lt, iz_le, iz_eq, Option.bind_some, b1_i0, b1_i1, zr_b1, Classical.not_not, if_pos, if_neg, z_isShelf, y_isShelf, e1, e2]
    exact ⟨_, _, _, rfl, rfl, hr2⟩

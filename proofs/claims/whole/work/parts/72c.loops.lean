/-! side -/
def fill3 (k : Nat) (g : Nat → Int) : Nat → Int := fun j => if j < k then 3 else g j
theorem fill3_step (k : Nat) (g : Nat → Int) : upz (fill3 k g) k 3 = fill3 (k + 1) g := by
  funext j
  unfold upz fill3
  by_cases e : j = k
  · rw [if_pos e, if_pos (by omega)]
  · rw [if_neg e]
    by_cases e2 : j < k
    · rw [if_pos e2, if_pos (by omega)]
    · rw [if_neg e2, if_neg (by omega)]
theorem fill3_0 (g : Nat → Int) : fill3 0 g = g := by funext j; unfold fill3; rw [if_neg (by omega)]
theorem z_layOutL (g : Nat → Int) : f_D_layOut_l7 (iz 0) (ar g) = some (ar (fill3 36 g)) := by
  have h := loopS (body := fun q : Int32 × (Nat → Int32) => f_D_layOut_b7 q.1 q.2) (fun k => (iz k, ar (fill3 k g))) (ar (fill3 36 g)) 36 (by omega)
    (fun k hk => by
      simp only [f_D_layOut_b7]
      simp (disch := omega) only [l_0, l_1, l_2, l_3, l_4, l_5, l_6, l_7, l_8, l_9, l_10, l_12, l_16, l_32, l_35, l_36, l_40, l_48, l_59, l_57, l_60, l_97, l_99, l_100, l_122, l_250, l_255, l_1000, l_10000, l_20000, l_1000000, l_12345, l_1103515245, iz_neg, iz_add, iz_sub, iz_mul, iz_lt, iz_le, iz_eq, Option.bind_some, b1_i0, b1_i1, zr_b1, Classical.not_not, if_pos, if_neg, wrn, upd_ar, fill3_step]
      rfl)
    (by
      simp only [f_D_layOut_b7]
      simp (disch := omega) only [l_0, l_1, l_2, l_3, l_4, l_5, l_6, l_7, l_8, l_9, l_10, l_12, l_16, l_32, l_35, l_36, l_40, l_48, l_59, l_57, l_60, l_97, l_99, l_100, l_122, l_250, l_255, l_1000, l_10000, l_20000, l_1000000, l_12345, l_1103515245, iz_neg, iz_add, iz_sub, iz_mul, iz_lt, iz_le, iz_eq, Option.bind_some, b1_i0, b1_i1, zr_b1, Classical.not_not, if_pos, if_neg])
  rw [fill3_0] at h
  exact h
theorem y_sidesL (g : Nat → Int) : f_R_sides_l12 (iz 0) (ar g) = some (ar (fill3 36 g)) := z_layOutL g
theorem q_side {w : Nat} {g : Nat → Int} {rm rr : Nat → Int32} (hw : 2 ≤ w ∧ w ≤ 6) (hg : ∀ j, 0 ≤ g j ∧ g j ≤ 9) (hg0 : ∀ j, 36 ≤ j → g j = 0) (hr : RF rm rr) (v1 : Int32) :
    ∃ (ans : Int32) (w' : Nat) (g' : Nat → Int) (rm' rr' : Nat → Int32), f_M_side v1 (iz w) (ar g) rm = some (ans, iz w', ar g', rm') ∧ f_R_side v1 (iz w) (ar g) rr = some (ans, iz w', ar g', rr') ∧ (2 ≤ w' ∧ w' ≤ 6) ∧ (∀ j, 0 ≤ g' j ∧ g' j ≤ 9) ∧ (∀ j, 36 ≤ j → g' j = 0) ∧ RF rm' rr' := by
  obtain ⟨x, hx, rfl⟩ := anyI v1
  obtain ⟨rm2, rr2, e1, e2, hr2⟩ := z_ref (why := -2) (by omega) hr
  unfold f_M_side f_R_side f_D_layOut f_R_sides
  by_cases c1 : 2 ≤ x ∧ x ≤ 6
  · obtain ⟨n, hn, rfl⟩ := natZ (v := x) (n := 7) (by omega)
    simp (disch := omega) only [l_0, l_1, l_2, l_3, l_4, l_5, l_6, l_7, l_8, l_9, l_10, l_12, l_16, l_32, l_35, l_36, l_40, l_48, l_59, l_57, l_60, l_97, l_99, l_100, l_122, l_250, l_255, l_1000, l_10000, l_20000, l_1000000, l_12345, l_1103515245, iz_neg, iz_add, iz_sub, iz_mul, iz_lt, iz_le, iz_eq, Option.bind_some, b1_i0, b1_i1, zr_b1, Classical.not_not, if_pos, if_neg, z_withinI, y_withinI, z_layOutL, y_sidesL]
    refine ⟨_, n, _, _, _, rfl, rfl, by omega, fun j => ?_, fun j hj => ?_, hr⟩
    · unfold fill3; split
      · omega
      · exact hg j
    · unfold fill3; rw [if_neg (by omega)]; exact hg0 j hj
  · simp (disch := omega) only [l_0, l_1, l_2, l_3, l_4, l_5, l_6, l_7, l_8, l_9, l_10, l_12, l_16, l_32, l_35, l_36, l_40, l_48, l_59, l_57, l_60, l_97, l_99, l_100, l_122, l_250, l_255, l_1000, l_10000, l_20000, l_1000000, l_12345, l_1103515245, iz_neg, iz_add, iz_sub, iz_mul, iz_lt, iz_le, iz_eq, Option.bind_some, b1_i0, b1_i1, zr_b1, Classical.not_not, if_pos, if_neg, z_withinI, y_withinI, e1, e2]
    exact ⟨_, w, g, _, _, rfl, rfl, hw, hg, hg0, hr2⟩
/-! sums -/
theorem z_allStones {w : Nat} {g : Nat → Int} (hw : 2 ≤ w ∧ w ≤ 6) : f_D_allStones (iz w) (ar g) = some (fo (fun k s => s + iz (g k)) (w * w) 0) := by
  unfold f_D_allStones
  have h36 := sq_le hw
  have h : f_D_allStones_l4 (iz w) (ar g) 0 0 = _ := loopF (body := fun s : Int32 × Int32 => f_D_allStones_b4 (iz w) (ar g) s.1 s.2) (fun c k => (c, iz k)) (fun k s => s + iz (g k)) (fun c => c) 0 (w * w) (by omega)
    (fun k c hk => by
      simp only [f_D_allStones_b4, z_cells hw, Option.bind_some]
      rw [rdn k (by omega) (by omega), ← iz_succ]
      simp (disch := omega) only [iz_le, if_neg, Option.bind_some]
      rfl)
    (fun c => by
      simp only [f_D_allStones_b4, z_cells hw, Option.bind_some]
      simp (disch := omega) only [iz_le, if_pos])
  rw [h]
  rfl
theorem y_allGravel {w : Nat} {g : Nat → Int} (hw : 2 ≤ w ∧ w ≤ 6) : f_R_allGravel (iz w) (ar g) = some (fo (fun k s => s + iz (g k)) (w * w) 0) := by
  unfold f_R_allGravel
  have h36 := sq_le hw
  have h : f_R_allGravel_l4 (iz w) (ar g) 0 0 = _ := loopF (body := fun s : Int32 × Int32 => f_R_allGravel_b4 (iz w) (ar g) s.1 s.2) (fun c k => (c, iz k)) (fun k s => s + iz (g k)) (fun c => c) 0 (w * w) (by omega)
    (fun k c hk => by
      simp only [f_R_allGravel_b4, sqz]
      rw [rdn k (by omega) (by omega), ← iz_succ]
      simp (disch := omega) only [iz_le, if_neg, Option.bind_some]
      rfl)
    (fun c => by
      simp only [f_R_allGravel_b4, sqz]
      simp (disch := omega) only [iz_le, if_pos])
  rw [h]
  rfl
theorem fo_sm (l : Nat → Int) : ∀ n, fo (fun k s => s + iz (l k)) n 0 = iz (sm l n)
  | 0 => rfl
  | n + 1 => by
    unfold fo sm
    rw [fo_sm l n, iz_add]
theorem z_allChances {m : Nat} {l : Nat → Int} (hm : m ≤ 8) : f_D_allChances (iz m) (ar l) = some (iz (sm l m)) := by
  unfold f_D_allChances
  have h : f_D_allChances_l4 (iz m) (ar l) 0 0 = _ := loopF (body := fun s : Int32 × Int32 => f_D_allChances_b4 (iz m) (ar l) s.1 s.2) (fun c k => (c, iz k)) (fun k s => s + iz (l k)) (fun c => c) 0 m (by omega)
    (fun k c hk => by
      simp only [f_D_allChances_b4, z_count hm, Option.bind_some]
      rw [z_chanceOf (by omega), ← iz_succ]
      simp (disch := omega) only [iz_le, if_neg, Option.bind_some])
    (fun c => by
      simp only [f_D_allChances_b4, z_count hm, Option.bind_some]
      simp (disch := omega) only [iz_le, if_pos])
  rw [h, fo_sm]
  rfl
theorem y_allLikely {m : Nat} {l : Nat → Int} (hm : m ≤ 8) : f_R_allLikely (iz m) (ar l) = some (iz (sm l m)) := by
  unfold f_R_allLikely
  have h : f_R_allLikely_l4 (iz m) (ar l) 0 0 = _ := loopF (body := fun s : Int32 × Int32 => f_R_allLikely_b4 (iz m) (ar l) s.1 s.2) (fun c k => (c, iz k)) (fun k s => s + iz (l k)) (fun c => c) 0 m (by omega)
    (fun k c hk => by
      simp only [f_R_allLikely_b4]
      rw [rdn k (by omega) (by omega), ← iz_succ]
      simp (disch := omega) only [iz_le, if_neg, Option.bind_some]
      rfl)
    (fun c => by
      simp only [f_R_allLikely_b4]
      simp (disch := omega) only [iz_le, if_pos])
  rw [h, fo_sm]
  rfl
theorem sm_ge {l : Nat → Int} : ∀ n, (∀ j, 0 ≤ l j) → ∀ f, f < n → l f ≤ sm l n
  | 0, _, f, h => by omega
  | n + 1, h0, f, h => by
    unfold sm
    have h1 : 0 ≤ sm l n := by
      clear h
      induction n with
      | zero => exact Int.le_refl 0
      | succ n ih => unfold sm; have := h0 n; omega
    by_cases e : f = n
    · subst e; omega
    · have := sm_ge n h0 f (by omega)
      have := h0 n
      omega
theorem z_thousandths {p q : Int} (hp : 0 ≤ p ∧ p ≤ 1000000) (hq : 0 < q ∧ q ≤ 1000000) : f_M_thousandths (iz p) (iz q) = some (iz (1000 * p / q)) := by
  unfold f_M_thousandths
  simp (disch := omega) only [l_0, l_1, l_2, l_3, l_4, l_5, l_6, l_7, l_8, l_9, l_10, l_12, l_16, l_32, l_35, l_36, l_40, l_48, l_59, l_57, l_60, l_97, l_99, l_100, l_122, l_250, l_255, l_1000, l_10000, l_20000, l_1000000, l_12345, l_1103515245, iz_neg, iz_add, iz_sub, iz_mul, iz_lt, iz_le, iz_eq, Option.bind_some, b1_i0, b1_i1, zr_b1, Classical.not_not, if_pos, if_neg, dv_iz]
theorem q_odds {m : Nat} {l : Nat → Int} {rm rr : Nat → Int32} (hm : m ≤ 8) (hl : ∀ j, 0 ≤ l j ∧ l j ≤ 99) (hl1 : ∀ j, j < m → 1 ≤ l j) (hr : RF rm rr) (v1 : Int32) :
    ∃ ans rm' rr', f_M_odds v1 (iz m) (ar l) rm = some (ans, rm') ∧ f_R_odds v1 (iz m) (ar l) rr = some (ans, rr') ∧ RF rm' rr' := by
  obtain ⟨x, hx, rfl⟩ := anyI v1
  obtain ⟨rm2, rr2, e1, e2, hr2⟩ := z_ref (why := -2) (by omega) hr
  unfold f_M_odds f_R_odds
  by_cases c1 : 0 ≤ x ∧ x < m
  · obtain ⟨f, hf, rfl⟩ := natZ (n := m) c1
    have h1 := hl f
    have h2 := hl1 f hf
    have h3 := sm_ge m (fun j => (hl j).1) f hf
    have h4 := (sm_bd (g := l) (b := 99) m (fun k _ => hl k)).2
    have h5 : 0 < sm l m ∧ sm l m ≤ 1000000 := by omega
    simp (disch := omega) only [l_0, l_1, l_2, l_3, l_4, l_5, l_6, l_7, l_8, l_9, l_10, l_12, l_16, l_32, l_35, l_36, l_40, l_48, l_59, l_57, l_60, l_97, l_99, l_100, l_122, l_250, l_255, l_1000, l_10000, l_20000, l_1000000, l_12345, l_1103515245, iz_neg, iz_add, iz_sub, iz_mul, iz_lt, iz_le, iz_eq, Option.bind_some, b1_i0, b1_i1, zr_b1, Classical.not_not, if_pos, if_neg, z_isFeet, y_isFeet, z_chanceOf, z_allChances, y_allLikely, rdn, ar_at, dv_iz]
    rw [z_thousandths (by omega) h5]
    exact ⟨_, _, _, rfl, rfl, hr⟩
  · simp (disch := omega) only [l_0, l_1, l_2, l_3, l_4, l_5, l_6, l_7, l_8, l_9, l_10, l_12, l_16, l_32, l_35, l_36, l_40, l_48, l_59, l_57, l_60, l_97, l_99, l_100, l_122, l_250, l_255, l_1000, l_10000, l_20000, l_1000000, l_12345, l_1103515245, iz_neg, iz_add, iz_sub, iz_mul, iz_lt, iz_le, iz_eq, Option.bind_some, b1_i0, b1_i1, zr_b1, Classical.not_not, if_pos, if_neg, z_isFeet, y_isFeet, e1, e2]
    exact ⟨_, _, _, rfl, rfl, hr2⟩
/-! heardOn, heardBy -/
theorem q_heardOn {w m : Nat} {rn er : Int} {g kd a : Nat → Int} {rm rr : Nat → Int32} (hw : 2 ≤ w ∧ w ≤ 6) (hrn : 0 ≤ rn ∧ rn ≤ 9) (her : 1 ≤ er ∧ er ≤ 99) (hm : m ≤ 8) (hg : ∀ j, 0 ≤ g j ∧ g j ≤ 9) (hkd : ∀ j, 0 ≤ kd j ∧ kd j ≤ 5) (ha : ∀ j, 0 ≤ a j ∧ a j ≤ 9) (hr : RF rm rr) (v1 : Int32) :
    ∃ ans rm' rr', f_M_heardOn v1 (iz w) (iz rn) (iz er) (iz m) (ar g) (ar kd) (ar a) rm = some (ans, rm') ∧ f_R_heardOn v1 (iz w) (iz rn) (iz er) (iz m) (ar g) (ar kd) (ar a) rr = some (ans, rr') ∧ RF rm' rr' := by
  obtain ⟨x, hx, rfl⟩ := anyI v1
  obtain ⟨rm2, rr2, e1, e2, hr2⟩ := z_ref (why := -2) (by omega) hr
  have h36 := sq_le hw
  unfold f_M_heardOn f_R_heardOn
  by_cases c1 : 0 ≤ x ∧ x < ((w * w : Nat) : Int)
  · obtain ⟨k, hk, rfl⟩ := natZ (n := w * w) c1
    have h1 : f_M_heardOn_l19 (iz k) (iz w) (iz rn) (iz er) (iz m) (ar g) (ar kd) (ar a) (iz 0) (iz 0) = _ := loopF (body := fun s : Int32 × Int32 => f_M_heardOn_b19 (iz k) (iz w) (iz rn) (iz er) (iz m) (ar g) (ar kd) (ar a) s.1 s.2) (fun c f => (c, iz f)) (fun f b => if cz rn g kd a f k (k / w) < er then b else b ||| (1 <<< (iz f &&& 31))) (fun c => c) (iz 0) m (by omega)
      (fun f c hf => by
        have hb := cz_bd (rn := rn) (g := g) (kd := kd) (a := a) (f := f) (c := k) (k := k / w) hg ha hrn.1
        simp only [f_M_heardOn_b19, z_count hm, Option.bind_some]
        rw [z_stepOn hw (by omega) hk hrn hg hkd ha, ← iz_succ]
        simp (disch := omega) only [iz_le, iz_lt, if_neg, Option.bind_some]
        split <;> rfl)
      (fun c => by
        simp only [f_M_heardOn_b19, z_count hm, Option.bind_some]
        simp (disch := omega) only [iz_le, if_pos])
    have h2 : f_R_heardOn_l19 (iz k) (iz w) (iz rn) (iz er) (iz m) (ar g) (ar kd) (ar a) (iz 0) (iz 0) = _ := loopF (body := fun s : Int32 × Int32 => f_R_heardOn_b19 (iz k) (iz w) (iz rn) (iz er) (iz m) (ar g) (ar kd) (ar a) s.1 s.2) (fun c f => (c, iz f)) (fun f b => if cz rn g kd a f k (k / w) < er then b else b ||| (1 <<< (iz f &&& 31))) (fun c => c) (iz 0) m (by omega)
      (fun f c hf => by
        have hb := cz_bd (rn := rn) (g := g) (kd := kd) (a := a) (f := f) (c := k) (k := k / w) hg ha hrn.1
        simp only [f_R_heardOn_b19]
        rw [y_stepOn hw (by omega) hk hrn hg hkd ha, ← iz_succ]
        simp (disch := omega) only [iz_le, iz_lt, if_neg, Option.bind_some]
        split <;> rfl)
      (fun c => by
        simp only [f_R_heardOn_b19]
        simp (disch := omega) only [iz_le, if_pos])
    simp (disch := omega) only [l_0, l_1, l_2, l_3, l_4, l_5, l_6, l_7, l_8, l_9, l_10, l_12, l_16, l_32, l_35, l_36, l_40, l_48, l_59, l_57, l_60, l_97, l_99, l_100, l_122, l_250, l_255, l_1000, l_10000, l_20000, l_1000000, l_12345, l_1103515245, iz_neg, iz_add, iz_sub, iz_mul, iz_lt, iz_le, iz_eq, Option.bind_some, b1_i0, b1_i1, zr_b1, Classical.not_not, if_pos, if_neg, z_isCell, y_isCell, h1, h2]
    exact ⟨_, _, _, rfl, rfl, hr⟩
  · simp (disch := omega) only [l_0, l_1, l_2, l_3, l_4, l_5, l_6, l_7, l_8, l_9, l_10, l_12, l_16, l_32, l_35, l_36, l_40, l_48, l_59, l_57, l_60, l_97, l_99, l_100, l_122, l_250, l_255, l_1000, l_10000, l_20000, l_1000000, l_12345, l_1103515245, iz_neg, iz_add, iz_sub, iz_mul, iz_lt, iz_le, iz_eq, Option.bind_some, b1_i0, b1_i1, zr_b1, Classical.not_not, if_pos, if_neg, z_isCell, y_isCell, e1, e2]
    exact ⟨_, _, _, rfl, rfl, hr2⟩
theorem q_heardBy {w m : Nat} {rn er : Int} {g kd a : Nat → Int} {rm rr : Nat → Int32} (hw : 2 ≤ w ∧ w ≤ 6) (hrn : 0 ≤ rn ∧ rn ≤ 9) (her : 1 ≤ er ∧ er ≤ 99) (hm : m ≤ 8) (hg : ∀ j, 0 ≤ g j ∧ g j ≤ 9) (hkd : ∀ j, 0 ≤ kd j ∧ kd j ≤ 5) (ha : ∀ j, 0 ≤ a j ∧ a j ≤ 9) (hr : RF rm rr) (v1 : Int32) :
    ∃ ans rm' rr', f_M_heardBy v1 (iz w) (iz rn) (iz er) (iz m) (ar g) (ar kd) (ar a) rm = some (ans, rm') ∧ f_R_heardBy v1 (iz w) (iz rn) (iz er) (iz m) (ar g) (ar kd) (ar a) rr = some (ans, rr') ∧ RF rm' rr' := by
  obtain ⟨x, hx, rfl⟩ := anyI v1
  obtain ⟨rm2, rr2, e1, e2, hr2⟩ := z_ref (why := -2) (by omega) hr
  have h36 := sq_le hw
  unfold f_M_heardBy f_R_heardBy
  by_cases c1 : 0 ≤ x ∧ x < m
  · obtain ⟨f, hf, rfl⟩ := natZ (n := m) c1
    have h1 : f_M_heardBy_l19 (iz f) (iz w) (iz rn) (iz er) (ar g) (ar kd) (ar a) (iz 0) (iz 0) = _ := loopF (body := fun s : Int32 × Int32 => f_M_heardBy_b19 (iz f) (iz w) (iz rn) (iz er) (ar g) (ar kd) (ar a) s.1 s.2) (fun c k => (c, iz k)) (fun k b => if cz rn g kd a f k (k / w) < er then b else b + 1) (fun c => c) (iz 0) (w * w) (by omega)
      (fun k c hk => by
        have hb := cz_bd (rn := rn) (g := g) (kd := kd) (a := a) (f := f) (c := k) (k := k / w) hg ha hrn.1
        simp only [f_M_heardBy_b19, z_cells hw, Option.bind_some]
        rw [z_stepOn hw (by omega) hk hrn hg hkd ha, ← iz_succ]
        simp (disch := omega) only [iz_le, iz_lt, if_neg, Option.bind_some]
        split <;> rfl)
      (fun c => by
        simp only [f_M_heardBy_b19, z_cells hw, Option.bind_some]
        simp (disch := omega) only [iz_le, if_pos])
    have h2 : f_R_heardBy_l19 (iz f) (iz w) (iz rn) (iz er) (ar g) (ar kd) (ar a) (iz 0) (iz 0) = _ := loopF (body := fun s : Int32 × Int32 => f_R_heardBy_b19 (iz f) (iz w) (iz rn) (iz er) (ar g) (ar kd) (ar a) s.1 s.2) (fun c k => (c, iz k)) (fun k b => if cz rn g kd a f k (k / w) < er then b else b + 1) (fun c => c) (iz 0) (w * w) (by omega)
      (fun k c hk => by
        have hb := cz_bd (rn := rn) (g := g) (kd := kd) (a := a) (f := f) (c := k) (k := k / w) hg ha hrn.1
        simp only [f_R_heardBy_b19, sqz]
        rw [y_stepOn hw (by omega) hk hrn hg hkd ha, ← iz_succ]
        simp (disch := omega) only [iz_le, iz_lt, if_neg, Option.bind_some]
        split <;> rfl)
      (fun c => by
        simp only [f_R_heardBy_b19, sqz]
        simp (disch := omega) only [iz_le, if_pos])
    simp (disch := omega) only [l_0, l_1, l_2, l_3, l_4, l_5, l_6, l_7, l_8, l_9, l_10, l_12, l_16, l_32, l_35, l_36, l_40, l_48, l_59, l_57, l_60, l_97, l_99, l_100, l_122, l_250, l_255, l_1000, l_10000, l_20000, l_1000000, l_12345, l_1103515245, iz_neg, iz_add, iz_sub, iz_mul, iz_lt, iz_le, iz_eq, Option.bind_some, b1_i0, b1_i1, zr_b1, Classical.not_not, if_pos, if_neg, z_isFeet, y_isFeet, h1, h2]
    exact ⟨_, _, _, rfl, rfl, hr⟩
  · simp (disch := omega) only [l_0, l_1, l_2, l_3, l_4, l_5, l_6, l_7, l_8, l_9, l_10, l_12, l_16, l_32, l_35, l_36, l_40, l_48, l_59, l_57, l_60, l_97, l_99, l_100, l_122, l_250, l_255, l_1000, l_10000, l_20000, l_1000000, l_12345, l_1103515245, iz_neg, iz_add, iz_sub, iz_mul, iz_lt, iz_le, iz_eq, Option.bind_some, b1_i0, b1_i1, zr_b1, Classical.not_not, if_pos, if_neg, z_isFeet, y_isFeet, e1, e2]
    exact ⟨_, _, _, rfl, rfl, hr2⟩
/-! status -/
theorem z_taken {mk : Nat → Int} (hb : ∀ s, s < 8 → -1 ≤ mk s ∧ mk s < 18) : ∃ r, f_S_taken_l4 (ar mk) (iz 0) (iz 0) = some r := by
  refine ⟨_, loopF (body := fun s : Int32 × Int32 => f_S_taken_b4 (ar mk) s.1 s.2) (fun c k => (c, iz k)) (fun k c => if mk k = -1 then c else c + 1) (fun c => c) (iz 0) 8 (by omega)
    (fun k c hk => by
      have := hb k hk
      simp only [f_S_taken_b4]
      rw [rdn k (by omega) hk, ← iz_succ]
      simp (disch := omega) only [l_0, l_1, l_2, l_3, l_4, l_5, l_6, l_7, l_8, l_9, l_10, l_12, l_16, l_32, l_35, l_36, l_40, l_48, l_59, l_57, l_60, l_97, l_99, l_100, l_122, l_250, l_255, l_1000, l_10000, l_20000, l_1000000, l_12345, l_1103515245, iz_neg, iz_add, iz_sub, iz_mul, iz_lt, iz_le, iz_eq, Option.bind_some, b1_i0, b1_i1, zr_b1, Classical.not_not, if_pos, if_neg, ar_at]
      split <;> rfl)
    (fun c => by
      simp only [f_S_taken_b4]
      simp (disch := omega) only [l_0, l_1, l_2, l_3, l_4, l_5, l_6, l_7, l_8, l_9, l_10, l_12, l_16, l_32, l_35, l_36, l_40, l_48, l_59, l_57, l_60, l_97, l_99, l_100, l_122, l_250, l_255, l_1000, l_10000, l_20000, l_1000000, l_12345, l_1103515245, iz_neg, iz_add, iz_sub, iz_mul, iz_lt, iz_le, iz_eq, Option.bind_some, b1_i0, b1_i1, zr_b1, Classical.not_not, if_pos, if_neg])⟩
theorem y_taken (cm : Nat → Int32) (a b : Int32) : f_R_status_l94 cm a b = f_S_taken_l4 cm a b := rfl
theorem q_status {w m n : Nat} {rn er : Int} {sd : Int32} {g l mk : Nat → Int} {rm rr : Nat → Int32} (hw : 2 ≤ w ∧ w ≤ 6) (hm : m ≤ 8) (hb : ∀ s, s < 8 → -1 ≤ mk s ∧ mk s < 18) (hr : RF rm rr) (v1 : Int32) :
    ∃ x, f_M_status v1 (iz w) (iz rn) (iz er) (iz m) sd (ar g) (ar l) (ar mk) (iz n) rm = some x ∧ f_R_status v1 (iz w) (iz rn) (iz er) (iz m) sd (iz n) (ar g) (ar l) (ar mk) rr = some x := by
  obtain ⟨r, ht⟩ := z_taken hb
  obtain ⟨x, hx, rfl⟩ := anyI v1
  unfold f_M_status f_R_status f_S_taken
  simp only [z_count hm, y_taken, z_allStones hw, y_allGravel hw, z_allChances hm, y_allLikely hm, Option.bind_some]
  have ht0 : f_S_taken_l4 (ar mk) 0 0 = some r := ht
  simp only [ht0, Option.bind_some]
  by_cases h0 : iz x = (0 : Int32)
  · simp only [if_pos h0]
    first | exact ⟨_, rfl, rfl⟩ | exact ⟨_, rfl⟩
  simp only [if_neg h0]
  by_cases h1 : iz x = (1 : Int32)
  · simp only [if_pos h1]
    first | exact ⟨_, rfl, rfl⟩ | exact ⟨_, rfl⟩
  simp only [if_neg h1]
  by_cases h2 : iz x = (2 : Int32)
  · simp only [if_pos h2]
    first | exact ⟨_, rfl, rfl⟩ | exact ⟨_, rfl⟩
  simp only [if_neg h2]
  by_cases h3 : iz x = (3 : Int32)
  · simp only [if_pos h3]
    first | exact ⟨_, rfl, rfl⟩ | exact ⟨_, rfl⟩
  simp only [if_neg h3]
  by_cases h4 : iz x = (4 : Int32)
  · simp only [if_pos h4]
    first | exact ⟨_, rfl, rfl⟩ | exact ⟨_, rfl⟩
  simp only [if_neg h4]
  by_cases h5 : iz x = (5 : Int32)
  · simp only [if_pos h5]
    first | exact ⟨_, rfl, rfl⟩ | exact ⟨_, rfl⟩
  simp only [if_neg h5]
  by_cases h6 : iz x = (6 : Int32)
  · simp only [if_pos h6]
    first | exact ⟨_, rfl, rfl⟩ | exact ⟨_, rfl⟩
  simp only [if_neg h6]
  by_cases h7 : iz x = (7 : Int32)
  · simp only [if_pos h7]
    first | exact ⟨_, rfl, rfl⟩ | exact ⟨_, rfl⟩
  simp only [if_neg h7]
  by_cases h8 : iz x = (8 : Int32)
  · simp only [if_pos h8]
    first | exact ⟨_, rfl, rfl⟩ | exact ⟨_, rfl⟩
  simp only [if_neg h8]
  simp (disch := omega) only [l_0, l_1, l_2, l_3, l_4, l_5, l_6, l_7, l_8, l_9, l_10, l_12, l_16, l_32, l_35, l_36, l_40, l_48, l_59, l_57, l_60, l_97, l_99, l_100, l_122, l_250, l_255, l_1000, l_10000, l_20000, l_1000000, l_12345, l_1103515245, iz_neg, iz_add, iz_sub, iz_mul, iz_lt, iz_le, iz_eq, Option.bind_some, b1_i0, b1_i1, zr_b1, Classical.not_not, z_withinI, y_withinI]
  by_cases c : 12 ≤ x ∧ x ≤ 16
  rotate_left
  · simp only [if_pos c]
    first | exact ⟨_, rfl, rfl⟩ | exact ⟨_, rfl⟩
  simp (disch := omega) only [iz_add, iz_sub, iz_mul, iz_lt, iz_le, iz_eq, Option.bind_some, b1_i0, b1_i1, zr_b1, Classical.not_not, if_pos, if_neg]
  obtain ⟨j, hj, he⟩ := natZ (v := x - 12) (n := 5) (by omega)
  have he2 : x - 10 = ((j + 2 : Nat) : Int) := by omega
  rw [he, he2, rdn j (by omega) (by omega), rdn (j + 2) (by omega) (by omega), hr j hj]
  exact ⟨_, rfl, rfl⟩

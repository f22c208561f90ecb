/-! rake -/
def rk (k : Nat) (g : Nat → Int) : Nat → Int := if g k = 0 then g else upz g k (min 9 (g k + 1))
theorem rk_bd {k : Nat} {g : Nat → Int} (hg : ∀ j, 0 ≤ g j ∧ g j ≤ 9) : ∀ j, 0 ≤ rk k g j ∧ rk k g j ≤ 9 := by
  intro j
  have := hg k
  unfold rk
  split
  · exact hg j
  · unfold upz
    split
    · omega
    · exact hg j
theorem rk_36 {k : Nat} {g : Nat → Int} (hk : k < 36) (hg : ∀ j, 36 ≤ j → g j = 0) : ∀ j, 36 ≤ j → rk k g j = 0 := by
  intro j hj
  unfold rk
  split
  · exact hg j hj
  · unfold upz
    rw [if_neg (by omega)]
    exact hg j hj
theorem upz_self {g : Nat → Int} {k : Nat} {v : Int} (h : v = g k) : upz g k v = g := by
  funext j
  unfold upz
  split
  · rename_i e; rw [e, h]
  · rfl
theorem z_rakeAll {w : Nat} {g : Nat → Int} (hw : 2 ≤ w ∧ w ≤ 6) (hg : ∀ j, 0 ≤ g j ∧ g j ≤ 9) (hg0 : ∀ j, 36 ≤ j → g j = 0) : f_D_rakeAll (iz w) (ar g) = some (ar (fo rk (w * w) g)) ∧ f_R_rakes (iz w) (ar g) = some (ar (fo rk (w * w) g)) ∧ (∀ j, 0 ≤ fo rk (w * w) g j ∧ fo rk (w * w) g j ≤ 9) ∧ ∀ j, 36 ≤ j → fo rk (w * w) g j = 0 := by
  have h36 := sq_le hw
  have h1 : f_D_rakeAll_l2 (iz w) (iz 0) (ar g) = some (ar (fo rk (w * w) g)) ∧ _ := loopFI (body := fun s : Int32 × (Nat → Int32) => f_D_rakeAll_b2 (iz w) s.1 s.2) (fun _ g => (∀ j, 0 ≤ g j ∧ g j ≤ 9) ∧ ∀ j, 36 ≤ j → g j = 0) (fun g k => (iz k, ar g)) rk ar g (w * w) (by omega) ⟨hg, hg0⟩ (fun k g hk h => ⟨rk_bd h.1, rk_36 (by omega) h.2⟩)
    (fun k g hk h => by
      have := h.1 k
      simp only [f_D_rakeAll_b2, z_cells hw, Option.bind_some]
      rw [rdn k (by omega) (by omega), ← iz_succ]
      unfold rk
      by_cases c : g k = 0
      · simp (disch := omega) only [l_0, l_1, l_2, l_3, l_4, l_5, l_6, l_7, l_8, l_9, l_10, l_12, l_16, l_32, l_35, l_36, l_40, l_48, l_59, l_57, l_60, l_97, l_99, l_100, l_122, l_250, l_255, l_1000, l_10000, l_20000, l_1000000, l_12345, l_1103515245, iz_neg, iz_add, iz_sub, iz_mul, iz_lt, iz_le, iz_eq, Option.bind_some, b1_i0, b1_i1, zr_b1, Classical.not_not, if_pos, if_neg, ar_at]
      · simp (disch := omega) only [l_0, l_1, l_2, l_3, l_4, l_5, l_6, l_7, l_8, l_9, l_10, l_12, l_16, l_32, l_35, l_36, l_40, l_48, l_59, l_57, l_60, l_97, l_99, l_100, l_122, l_250, l_255, l_1000, l_10000, l_20000, l_1000000, l_12345, l_1103515245, iz_neg, iz_add, iz_sub, iz_mul, iz_lt, iz_le, iz_eq, Option.bind_some, b1_i0, b1_i1, zr_b1, Classical.not_not, if_pos, if_neg, ar_at, iz_min, wrn, upd_ar])
    (fun g h => by
      simp only [f_D_rakeAll_b2, z_cells hw, Option.bind_some]
      simp (disch := omega) only [iz_le, if_pos])
  have h2 : f_R_rakes_l2 (iz w) (iz 0) (ar g) = some (ar (fo rk (w * w) g)) ∧ _ := loopFI (body := fun s : Int32 × (Nat → Int32) => f_R_rakes_b2 (iz w) s.1 s.2) (fun _ g => (∀ j, 0 ≤ g j ∧ g j ≤ 9) ∧ ∀ j, 36 ≤ j → g j = 0) (fun g k => (iz k, ar g)) rk ar g (w * w) (by omega) ⟨hg, hg0⟩ (fun k g hk h => ⟨rk_bd h.1, rk_36 (by omega) h.2⟩)
    (fun k g hk h => by
      have := h.1 k
      simp only [f_R_rakes_b2, sqz]
      rw [rdn k (by omega) (by omega), ← iz_succ]
      unfold rk
      by_cases c : g k = 0
      · simp (disch := omega) only [l_0, l_1, l_2, l_3, l_4, l_5, l_6, l_7, l_8, l_9, l_10, l_12, l_16, l_32, l_35, l_36, l_40, l_48, l_59, l_57, l_60, l_97, l_99, l_100, l_122, l_250, l_255, l_1000, l_10000, l_20000, l_1000000, l_12345, l_1103515245, iz_neg, iz_add, iz_sub, iz_mul, iz_lt, iz_le, iz_eq, Option.bind_some, b1_i0, b1_i1, zr_b1, Classical.not_not, if_pos, if_neg, ar_at]
      · by_cases c9 : g k = 9
        · simp (disch := omega) only [l_0, l_1, l_2, l_3, l_4, l_5, l_6, l_7, l_8, l_9, l_10, l_12, l_16, l_32, l_35, l_36, l_40, l_48, l_59, l_57, l_60, l_97, l_99, l_100, l_122, l_250, l_255, l_1000, l_10000, l_20000, l_1000000, l_12345, l_1103515245, iz_neg, iz_add, iz_sub, iz_mul, iz_lt, iz_le, iz_eq, Option.bind_some, b1_i0, b1_i1, zr_b1, Classical.not_not, if_pos, if_neg, ar_at]
          rw [upz_self (by omega)]
        · have e : min 9 (g k + 1) = g k + 1 := by omega
          simp (disch := omega) only [l_0, l_1, l_2, l_3, l_4, l_5, l_6, l_7, l_8, l_9, l_10, l_12, l_16, l_32, l_35, l_36, l_40, l_48, l_59, l_57, l_60, l_97, l_99, l_100, l_122, l_250, l_255, l_1000, l_10000, l_20000, l_1000000, l_12345, l_1103515245, iz_neg, iz_add, iz_sub, iz_mul, iz_lt, iz_le, iz_eq, Option.bind_some, b1_i0, b1_i1, zr_b1, Classical.not_not, if_pos, if_neg, ar_at, wrn, upd_ar, e])
    (fun g h => by
      simp only [f_R_rakes_b2, sqz]
      simp (disch := omega) only [iz_le, if_pos])
  refine ⟨?_, ?_, h1.2.1, h1.2.2⟩
  · unfold f_D_rakeAll
    rw [show f_D_rakeAll_l2 (iz w) 0 (ar g) = _ from h1.1]
    rfl
  · unfold f_R_rakes
    rw [show f_R_rakes_l2 (iz w) 0 (ar g) = _ from h2.1]
    rfl
theorem q_rake {w : Nat} {g : Nat → Int} (hw : 2 ≤ w ∧ w ≤ 6) (hg : ∀ j, 0 ≤ g j ∧ g j ≤ 9) (hg0 : ∀ j, 36 ≤ j → g j = 0) :
    ∃ (ans : Int32) (g' : Nat → Int), f_M_rake (iz w) (ar g) = some (ans, ar g') ∧ f_R_rake (iz w) (ar g) = some (ans, ar g') ∧ (∀ j, 0 ≤ g' j ∧ g' j ≤ 9) ∧ (∀ j, 36 ≤ j → g' j = 0) := by
  obtain ⟨h1, h2, h3, h4⟩ := z_rakeAll hw hg hg0
  unfold f_M_rake f_R_rake
  rw [h1, h2]
  simp only [Option.bind_some, z_allStones hw, y_allGravel hw]
  exact ⟨_, _, rfl, rfl, h3, h4⟩
/-! sweep -/
theorem idx_lt {r c w : Nat} (hr : r < w) (hc : c < w) : r * w + c < w * w := by
  have h := Nat.mul_le_mul_right w (show r + 1 ≤ w from hr)
  rw [Nat.add_mul, Nat.one_mul] at h
  omega
theorem idx_div {r c w : Nat} (hc : c < w) : (r * w + c) / w = r := by
  rw [Nat.mul_comm, Nat.mul_add_div (by omega), Nat.div_eq_of_lt hc, Nat.add_zero]
theorem idx_mod {r c w : Nat} (hc : c < w) : (r * w + c) % w = c := by
  rw [Nat.mul_comm, Nat.mul_add_mod, Nat.mod_eq_of_lt hc]
theorem idz (r c w : Nat) : iz (r : Int) * iz (w : Int) + iz (c : Int) = iz ((r * w + c : Nat) : Int) := by
  rw [iz_mul, iz_add, Int.natCast_add, Int.natCast_mul]
theorem z_cellAt (r c w : Nat) : f_D_cellAt (iz r) (iz c) (iz w) = some (iz ((r * w + c : Nat) : Int)) := by
  unfold f_D_cellAt
  rw [idz]
def sw1 (w c : Nat) (k : Nat) (q : Int32 × (Nat → Int)) : Int32 × (Nat → Int) := (q.1 + iz (q.2 (k * w + c)), upz q.2 (k * w + c) 0)
theorem q_sweep {w : Nat} {g : Nat → Int} {rm rr : Nat → Int32} (hw : 2 ≤ w ∧ w ≤ 6) (hg : ∀ j, 0 ≤ g j ∧ g j ≤ 9) (hg0 : ∀ j, 36 ≤ j → g j = 0) (hr : RF rm rr) (v1 : Int32) :
    ∃ (ans : Int32) (g' : Nat → Int) (rm' rr' : Nat → Int32), f_M_sweep v1 (iz w) (ar g) rm = some (ans, ar g', rm') ∧ f_R_sweep v1 (iz w) (ar g) rr = some (ans, ar g', rr') ∧ (∀ j, 0 ≤ g' j ∧ g' j ≤ 9) ∧ (∀ j, 36 ≤ j → g' j = 0) ∧ RF rm' rr' := by
  obtain ⟨x, hx, rfl⟩ := anyI v1
  obtain ⟨rm2, rr2, e1, e2, hr2⟩ := z_ref (why := -2) (by omega) hr
  have h36 := sq_le hw
  unfold f_M_sweep f_R_sweep
  by_cases c1 : 0 ≤ x ∧ x < w
  · obtain ⟨c, hc, rfl⟩ := natZ (n := w) c1
    have h1 : f_M_sweep_l19 (iz c) (iz w) (iz 0) (iz 0) (ar g) = some ((fo (sw1 w c) w (iz 0, g)).1, ar (fo (sw1 w c) w (iz 0, g)).2) ∧ _ := loopFI (body := fun s : Int32 × Int32 × (Nat → Int32) => f_M_sweep_b19 (iz c) (iz w) s.1 s.2.1 s.2.2) (fun (_ : Nat) (q : Int32 × (Nat → Int)) => (∀ j, 0 ≤ q.2 j ∧ q.2 j ≤ 9) ∧ ∀ j, 36 ≤ j → q.2 j = 0) (fun (q : Int32 × (Nat → Int)) (k : Nat) => (q.1, iz k, ar q.2)) (sw1 w c) (fun q => (q.1, ar q.2)) (iz 0, g) w (by omega) ⟨hg, hg0⟩
      (fun k q hk h => by
        have hi := idx_lt hk hc
        refine ⟨fun j => ?_, fun j hj => ?_⟩
        · show 0 ≤ upz q.2 (k * w + c) 0 j ∧ upz q.2 (k * w + c) 0 j ≤ 9
          unfold upz
          split
          · omega
          · exact h.1 j
        · show upz q.2 (k * w + c) 0 j = 0
          unfold upz
          split
          · rfl
          · exact h.2 j hj)
      (fun k q hk h => by
        have hi := idx_lt hk hc
        simp only [f_M_sweep_b19]
        rw [z_cellAt, ← iz_succ]
        simp only [Option.bind_some]
        rw [z_stonesOn (by omega), show (0 : Int32) = iz 0 from rfl, z_pour (by omega)]
        simp (disch := omega) only [iz_le, if_neg, Option.bind_some, sw1])
      (fun q h => by
        simp only [f_M_sweep_b19]
        simp (disch := omega) only [iz_le, if_pos])
    have h2 : f_R_sweep_l19 (iz c) (iz w) (iz 0) (iz 0) (ar g) = some ((fo (sw1 w c) w (iz 0, g)).1, ar (fo (sw1 w c) w (iz 0, g)).2) := loopF (body := fun s : Int32 × Int32 × (Nat → Int32) => f_R_sweep_b19 (iz c) (iz w) s.1 s.2.1 s.2.2) (fun (q : Int32 × (Nat → Int)) (k : Nat) => (q.1, iz k, ar q.2)) (sw1 w c) (fun q => (q.1, ar q.2)) (iz 0, g) w (by omega)
      (fun k q hk => by
        have hi := idx_lt hk hc
        simp only [f_R_sweep_b19, idz]
        rw [rdn (k * w + c) (by omega) (by omega), show (0 : Int32) = iz 0 from rfl, wrn (k * w + c) (by omega) (by omega), ← iz_succ]
        simp (disch := omega) only [iz_le, if_neg, Option.bind_some, sw1, upd_ar]
        rfl)
      (fun q => by
        simp only [f_R_sweep_b19]
        simp (disch := omega) only [iz_le, if_pos])
    simp (disch := omega) only [l_0, l_1, l_2, l_3, l_4, l_5, l_6, l_7, l_8, l_9, l_10, l_12, l_16, l_32, l_35, l_36, l_40, l_48, l_59, l_57, l_60, l_97, l_99, l_100, l_122, l_250, l_255, l_1000, l_10000, l_20000, l_1000000, l_12345, l_1103515245, iz_neg, iz_add, iz_sub, iz_mul, iz_lt, iz_le, iz_eq, Option.bind_some, b1_i0, b1_i1, zr_b1, Classical.not_not, if_pos, if_neg, z_isColumn, y_isColumn, h1.1, h2]
    exact ⟨_, _, _, _, rfl, rfl, h1.2.1, h1.2.2, hr⟩
  · simp (disch := omega) only [l_0, l_1, l_2, l_3, l_4, l_5, l_6, l_7, l_8, l_9, l_10, l_12, l_16, l_32, l_35, l_36, l_40, l_48, l_59, l_57, l_60, l_97, l_99, l_100, l_122, l_250, l_255, l_1000, l_10000, l_20000, l_1000000, l_12345, l_1103515245, iz_neg, iz_add, iz_sub, iz_mul, iz_lt, iz_le, iz_eq, Option.bind_some, b1_i0, b1_i1, zr_b1, Classical.not_not, if_pos, if_neg, z_isColumn, y_isColumn, e1, e2]
    exact ⟨_, _, _, _, rfl, rfl, hg, hg0, hr2⟩
/-! keep and again -/
theorem cpy_all {f g : Nat → Int} {n : Nat} (hn : n ≤ 1000) (hf : ∀ j, n ≤ j → f j = 0) (hg : ∀ j, n ≤ j → g j = 0) {d : Int32} (hd : d = iz n) : cpy (ar f) (ar g) n n 0 0 d = some (ar f) := by
  subst hd
  unfold cpy
  have e0 : (0 : Int32).toNatClampNeg = 0 := rfl
  have e1 : (iz (n : Int)).toNatClampNeg = n := by rw [iz_clamp (by omega)]; omega
  have e2 : ¬ (0 : Int32) < 0 := by decide
  have e3 : ¬ iz (n : Int) < 0 := by rw [l_0, iz_lt (by omega) (by omega)]; omega
  rw [if_neg (by rw [e0, e1]; simp only [e2, e3, false_or]; omega)]
  congr 1
  funext j
  unfold va_cpy ar
  rw [e0, e1]
  by_cases c : j < n
  · rw [if_pos (by omega)]
    congr 2
    omega
  · rw [if_neg (by omega), hf j (by omega), hg j (by omega)]
theorem z_takeFrom {sd sd' : Int32} {cw cr ce ck : Int32} {w m : Nat} {rn er : Int} {g' kd' a' l' g kd a l : Nat → Int} (h1 : ∀ j, 36 ≤ j → g' j = 0) (h2 : ∀ j, 8 ≤ j → kd' j = 0 ∧ a' j = 0 ∧ l' j = 0) (h3 : ∀ j, 36 ≤ j → g j = 0) (h4 : ∀ j, 8 ≤ j → kd j = 0 ∧ a j = 0 ∧ l j = 0) :
    f_D_takeFrom cw cr ce ck sd' (ar g') (ar kd') (ar a') (ar l') (iz w) (iz rn) (iz er) (iz m) sd (ar g) (ar kd) (ar a) (ar l) = some (iz w, iz rn, iz er, iz m, sd, ar g, ar kd, ar a, ar l) := by
  have e1 : cpy (ar g) (ar g') 36 36 0 0 36 = some (ar g) := cpy_all (n := 36) (d := 36) (by omega) h3 h1 rfl
  have e2 : cpy (ar kd) (ar kd') 8 8 0 0 8 = some (ar kd) := cpy_all (n := 8) (d := 8) (by omega) (fun j h => (h4 j h).1) (fun j h => (h2 j h).1) rfl
  have e3 : cpy (ar a) (ar a') 8 8 0 0 8 = some (ar a) := cpy_all (n := 8) (d := 8) (by omega) (fun j h => (h4 j h).2.1) (fun j h => (h2 j h).2.1) rfl
  have e4 : cpy (ar l) (ar l') 8 8 0 0 8 = some (ar l) := cpy_all (n := 8) (d := 8) (by omega) (fun j h => (h4 j h).2.2) (fun j h => (h2 j h).2.2) rfl
  unfold f_D_takeFrom
  rw [e1, e2, e3, e4]
  rfl
def kp1 (g : Nat → Int) (o : Nat → Int32) (k : Nat) : Nat → Int32 := fun j => if j < k then iz (g j) else o j
theorem kp1_step (g : Nat → Int) (o : Nat → Int32) (k : Nat) : upd (kp1 g o k) k (iz (g k)) = kp1 g o (k + 1) := by
  funext j
  rw [upd_at]
  unfold kp1
  by_cases e : j = k
  · rw [if_pos e, if_pos (by omega), e]
  · rw [if_neg e]
    by_cases e2 : j < k
    · rw [if_pos e2, if_pos (by omega)]
    · rw [if_neg e2, if_neg (by omega)]
theorem kp1_0 (g : Nat → Int) (o : Nat → Int32) : kp1 g o 0 = o := by funext j; unfold kp1; rw [if_neg (by omega)]
def kp2 (kd a l : Nat → Int) (o : Nat → Int32) (k : Nat) : Nat → Int32 := fun j => if 36 ≤ j ∧ j < 36 + k then iz (kd (j - 36)) else if 44 ≤ j ∧ j < 44 + k then iz (a (j - 44)) else if 52 ≤ j ∧ j < 52 + k then iz (l (j - 52)) else o j
theorem kp2_step (kd a l : Nat → Int) (o : Nat → Int32) (k : Nat) (hk : k < 8) : upd (upd (upd (kp2 kd a l o k) (36 + k) (iz (kd k))) (44 + k) (iz (a k))) (52 + k) (iz (l k)) = kp2 kd a l o (k + 1) := by
  funext j
  simp only [upd_at]
  unfold kp2
  by_cases c1 : j = 52 + k
  · subst c1
    rw [if_pos rfl, if_neg (by omega), if_neg (by omega), if_pos (by omega)]
    congr 2; omega
  · rw [if_neg c1]
    by_cases c2 : j = 44 + k
    · subst c2
      rw [if_pos rfl, if_neg (by omega), if_pos (by omega)]
      congr 2; omega
    · rw [if_neg c2]
      by_cases c3 : j = 36 + k
      · subst c3
        rw [if_pos rfl, if_pos (by omega)]
        congr 2; omega
      · rw [if_neg c3]
        by_cases d1 : 36 ≤ j ∧ j < 36 + k
        · rw [if_pos d1, if_pos (by omega)]
        · rw [if_neg d1, if_neg (show ¬ (36 ≤ j ∧ j < 36 + (k + 1)) by omega)]
          by_cases d2 : 44 ≤ j ∧ j < 44 + k
          · rw [if_pos d2, if_pos (by omega)]
          · rw [if_neg d2, if_neg (show ¬ (44 ≤ j ∧ j < 44 + (k + 1)) by omega)]
            by_cases d3 : 52 ≤ j ∧ j < 52 + k
            · rw [if_pos d3, if_pos (by omega)]
            · rw [if_neg d3, if_neg (by omega)]
theorem kp2_0 (kd a l : Nat → Int) (o : Nat → Int32) : kp2 kd a l o 0 = o := by funext j; unfold kp2; rw [if_neg (by omega), if_neg (by omega), if_neg (by omega)]
theorem i36 (k : Nat) : (36 : Int32) + iz k = iz ((36 + k : Nat) : Int) := by rw [l_36, iz_add]; rfl
theorem i44 (k : Nat) : (44 : Int32) + iz k = iz ((44 + k : Nat) : Int) := by rw [show (44 : Int32) = iz 44 from rfl, iz_add]; rfl
theorem i52 (k : Nat) : (52 : Int32) + iz k = iz ((52 + k : Nat) : Int) := by rw [show (52 : Int32) = iz 52 from rfl, iz_add]; rfl
theorem y_keep1 (g : Nat → Int) (old : Nat → Int32) : f_R_keep_l2 (ar g) (iz 0) old = some (kp1 g old 36) := by
  have h := loopS (body := fun s : Int32 × (Nat → Int32) => f_R_keep_b2 (ar g) s.1 s.2) (fun k => (iz k, kp1 g old k)) (kp1 g old 36) 36 (by omega)
    (fun k hk => by
      simp only [f_R_keep_b2]
      rw [rdn k (by omega) hk]
      simp only [Option.bind_some, ar_at]
      rw [wrn k (by omega) (by omega), ← iz_succ, kp1_step, l_36]
      simp (disch := omega) only [iz_le, if_neg, Option.bind_some])
    (by
      simp only [f_R_keep_b2, l_36]
      simp (disch := omega) only [iz_le, if_pos])
  rw [kp1_0] at h
  exact h
theorem y_keep2 (kd a l : Nat → Int) (o : Nat → Int32) : f_R_keep_l25 (ar kd) (ar a) (ar l) (iz 0) o = some (kp2 kd a l o 8) := by
  have h := loopS (body := fun s : Int32 × (Nat → Int32) => f_R_keep_b25 (ar kd) (ar a) (ar l) s.1 s.2) (fun k => (iz k, kp2 kd a l o k)) (kp2 kd a l o 8) 8 (by omega)
    (fun k hk => by
      simp only [f_R_keep_b25]
      rw [rdn k (by omega) hk, rdn k (by omega) hk, rdn k (by omega) hk, i36, i44, i52]
      simp only [Option.bind_some, ar_at]
      rw [wrn (36 + k) (by omega) (by omega)]
      simp only [Option.bind_some]
      rw [wrn (44 + k) (by omega) (by omega)]
      simp only [Option.bind_some]
      rw [wrn (52 + k) (by omega) (by omega), ← iz_succ, kp2_step kd a l o k hk, l_8]
      simp (disch := omega) only [iz_le, if_neg, Option.bind_some])
    (by
      simp only [f_R_keep_b25, l_8]
      simp (disch := omega) only [iz_le, if_pos])
  rw [kp2_0] at h
  exact h
theorem y_keep {sd : Int32} {w m : Nat} {rn er : Int} {g kd a l : Nat → Int} (old : Nat → Int32) : ∃ old', f_R_keep (iz w) (iz rn) (iz er) (iz m) sd (ar g) (ar kd) (ar a) (ar l) old = some old' ∧ RO old' w rn er m sd g kd a l := by
  unfold f_R_keep
  rw [show f_R_keep_l2 (ar g) 0 old = _ from y_keep1 g old]
  simp only [Option.bind_some]
  rw [show f_R_keep_l25 (ar kd) (ar a) (ar l) 0 (kp1 g old 36) = _ from y_keep2 kd a l _]
  simp only [Option.bind_some]
  rw [show (60 : Int32) = iz ((60 : Nat) : Int) from rfl, show (61 : Int32) = iz ((61 : Nat) : Int) from rfl, show (62 : Int32) = iz ((62 : Nat) : Int) from rfl, show (63 : Int32) = iz ((63 : Nat) : Int) from rfl, show (64 : Int32) = iz ((64 : Nat) : Int) from rfl]
  simp only [wrn 60 (show 65 ≤ 2147483648 by omega) (show 60 < 65 by omega), wrn 61 (show 65 ≤ 2147483648 by omega) (show 61 < 65 by omega), wrn 62 (show 65 ≤ 2147483648 by omega) (show 62 < 65 by omega), wrn 63 (show 65 ≤ 2147483648 by omega) (show 63 < 65 by omega), wrn 64 (show 65 ≤ 2147483648 by omega) (show 64 < 65 by omega), Option.bind_some]
  refine ⟨_, rfl, ?_, ?_, ?_, ?_, ?_, ?_, ?_⟩
  · intro j hj
    simp (disch := omega) only [upd_at, if_neg]
    unfold kp2 kp1
    rw [if_neg (by omega), if_neg (by omega), if_neg (by omega), if_pos hj]
  · intro j hj
    simp (disch := omega) only [upd_at, if_neg]
    unfold kp2
    refine ⟨?_, ?_, ?_⟩
    · rw [if_pos (by omega)]
      congr 2; omega
    · rw [if_neg (by omega), if_pos (by omega)]
      congr 2; omega
    · rw [if_neg (by omega), if_neg (by omega), if_pos (by omega)]
      congr 2; omega
  · rfl
  · rfl
  · rfl
  · rfl
  · rfl

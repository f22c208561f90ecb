/-! as, ways, through -/
section
variable {w m : Nat} {rn : Int} {g kd a : Nat → Int} {op : Nat → Bool} {st may : Nat → Int32}
theorem z_layNothing (hw : 2 ≤ w ∧ w ≤ 6) (pw : Int32) (st : Nat → Int32) : ∃ st', f_M_layNothing (iz w) pw st = some (iz w, st') ∧ Agr st' (s01 (fun _ => true)) 0 (w * w) := by
  have h36 := sq_le hw
  obtain ⟨st', e, h⟩ := loopI (body := fun s : Int32 × (Nat → Int32) => f_M_layNothing_b16 (iz w) s.1 s.2) (fun k z => ∃ st, z = (iz k, st) ∧ Agr st (s01 (fun _ => true)) 0 k) (fun st => Agr st (s01 (fun _ => true)) 0 (w * w)) (w * w) (by omega)
    (fun k z hk => by
      rintro ⟨st, rfl, h1⟩
      simp only [f_M_layNothing_b16, z_cells hw, Option.bind_some]
      rw [if_neg (by rw [iz_le (by omega) (by omega)]; omega), z_putStep (by omega), iz_succ]
      exact ⟨_, rfl, upd st k (iz (s01 (fun _ => true) k)), rfl, agr_nx h1⟩)
    (fun z => by
      rintro ⟨st, rfl, h1⟩
      simp only [f_M_layNothing_b16, z_cells hw, Option.bind_some]
      rw [if_pos (by rw [iz_le (by omega) (by omega)]; omega)]
      exact ⟨_, rfl, h1⟩)
    (iz 0, st) ⟨st, rfl, agr_no⟩
  unfold f_M_layNothing
  rw [show f_M_layNothing_l16 (iz w) 0 st = some st' from e]
  exact ⟨_, rfl, h⟩
theorem z_ow (hw : 2 ≤ w ∧ w ≤ 6) (hs : Agr st (s01 op) 0 (w * w)) (counts : Nat → Int32) : ∃ counts', f_P_openWays (iz w) st counts = some (iz (nw w op), counts') :=
  z_openWays hw hs (fun j _ => by have := s01_bd op j; omega) (fun j _ => s01_0 op j) counts
theorem z_ways (hw : 2 ≤ w ∧ w ≤ 6) (pw : Int32) (st counts : Nat → Int32) : ∃ st' counts', f_M_ways (iz w) pw st counts = some (iz (nw w (fun _ => true)), iz w, st', counts') := by
  obtain ⟨st', e1, h1⟩ := z_layNothing hw pw st
  obtain ⟨counts', e2⟩ := z_ow hw h1 counts
  unfold f_M_ways
  rw [e1]
  simp only [Option.bind_some]
  rw [e2]
  exact ⟨_, _, rfl⟩
theorem y_ways (hw : 2 ≤ w ∧ w ≤ 6) (may rest : Nat → Int32) : ∃ may' rest', f_R_ways (iz w) may rest = some (iz (nw w (fun _ => true)), may', rest') := by
  have h36 := sq_le hw
  obtain ⟨may', e, h⟩ := loopI (body := fun s : Int32 × (Nat → Int32) => f_R_ways_b2 (iz w) s.1 s.2) (fun k z => ∃ may, z = (iz k, may) ∧ ∀ j, j < k → may j = if (fun _ : Nat => true) j then 1 else 0) (fun may => May w may (fun _ => true)) (w * w) (by omega)
    (fun k z hk => by
      rintro ⟨may, rfl, h1⟩
      simp only [f_R_ways_b2]
      rw [sqz, if_neg (by rw [iz_le (by omega) (by omega)]; omega), wrn _ (by omega) (by omega)]
      simp only [Option.bind_some]
      rw [iz_succ]
      exact ⟨_, rfl, _, rfl, may_nx (op := fun _ => true) h1 rfl⟩)
    (fun z => by
      rintro ⟨may, rfl, h1⟩
      simp only [f_R_ways_b2]
      rw [sqz, if_pos (by rw [iz_le (by omega) (by omega)]; omega)]
      exact ⟨_, rfl, h1⟩)
    (iz 0, may) ⟨may, rfl, fun j hj => by omega⟩
  obtain ⟨rest', e2, _⟩ := y_count (ρ := rest) hw h (Nb_eq hw (fun _ => true))
  unfold f_R_ways
  rw [show f_R_ways_l2 (iz w) 0 may = some may' from e]
  simp only [Option.bind_some]
  rw [e2]
  exact ⟨_, _, rfl⟩
theorem q_ways (hw : 2 ≤ w ∧ w ≤ 6) (pw : Int32) (st counts may rest : Nat → Int32) : ∃ x y, f_M_ways (iz w) pw st counts = some x ∧ f_R_ways (iz w) may rest = some y ∧ x.1 = y.1 := by
  obtain ⟨st', counts', e1⟩ := z_ways hw pw st counts
  obtain ⟨may', rest', e2⟩ := y_ways hw may rest
  exact ⟨_, _, e1, e2, rfl⟩
def opt (w cell : Nat) (j : Nat) : Bool := decide (¬ j / w = cell / w ∨ j = cell)
theorem y_throughL {cell : Nat} (hw : 2 ≤ w ∧ w ≤ 6) (hc : cell < w * w) (may : Nat → Int32) : ∃ may', f_R_through_l17 (iz cell) (iz w) 0 may = some may' ∧ May w may' (opt w cell) := by
  have h36 := sq_le hw
  have hdc := div_lt6 hw hc
  exact loopI (body := fun s : Int32 × (Nat → Int32) => f_R_through_b17 (iz cell) (iz w) s.1 s.2) (fun k z => ∃ may, z = (iz k, may) ∧ ∀ j, j < k → may j = if opt w cell j then 1 else 0) (fun may => May w may (opt w cell)) (w * w) (by omega)
    (fun k z hk => by
      rintro ⟨may, rfl, h1⟩
      have hdk := div_lt6 hw hk
      simp only [f_R_through_b17, f_R_through_j55, f_R_through_j60]
      rw [sqz, if_neg (by rw [iz_le (by omega) (by omega)]; omega), dv_iz (by omega) (by omega), dv_iz (by omega) (by omega), wrn _ (by omega) (by omega), wrn _ (by omega) (by omega)]
      simp only [Option.bind_some]
      have d1 : ((k : Int) / (w : Int)) = ((k / w : Nat) : Int) := rfl
      have d2 : ((cell : Int) / (w : Int)) = ((cell / w : Nat) : Int) := rfl
      rw [d1, d2, iz_succ]
      have hopt : opt w cell k = decide (¬ k / w = cell / w ∨ k = cell) := rfl
      generalize k / w = kw at hdk hopt ⊢
      generalize cell / w = cw at hdc hopt ⊢
      by_cases c : kw = cw
      · rw [if_pos (by rw [c])]
        by_cases c2 : k = cell
        · rw [if_pos (by rw [c2])]
          exact ⟨_, rfl, _, rfl, may_nx h1 (by rw [hopt, if_pos (decide_eq_true (Or.inr c2))]; rfl)⟩
        · rw [if_neg (by rw [iz_eq (by omega) (by omega)]; omega)]
          exact ⟨_, rfl, _, rfl, may_nx h1 (by rw [hopt, if_neg (fun z => by have := of_decide_eq_true z; omega)]; rfl)⟩
      · rw [if_neg (by rw [iz_eq (by omega) (by omega)]; omega)]
        exact ⟨_, rfl, _, rfl, may_nx h1 (by rw [hopt, if_pos (decide_eq_true (Or.inl c))]; rfl)⟩)
    (fun z => by
      rintro ⟨may, rfl, h1⟩
      simp only [f_R_through_b17]
      rw [sqz, if_pos (by rw [iz_le (by omega) (by omega)]; omega)]
      exact ⟨_, rfl, h1⟩)
    (0, may) ⟨may, rfl, fun j hj => by omega⟩
theorem z_throughL {r c : Nat} (hw : 2 ≤ w ∧ w ≤ 6) (hr : r < w) (hcw : c < w) (hst : Agr st (s01 (fun _ => true)) 0 (w * w)) :
    ∃ st', f_M_through_l32 (iz ((r * w + c : Nat) : Int)) (iz ((r * w : Nat) : Int)) (iz w) (iz ((r * w : Nat) : Int)) st = some st' ∧ Agr st' (s01 (opt w (r * w + c))) 0 (w * w) := by
  have h36 := sq_le hw
  have hi := idx_lt hr hcw
  have hrr := row_le hr
  have hsc : (r + 1) * w = r * w + w := Nat.succ_mul r w
  have hin : ∀ j, r * w ≤ j → j < r * w + w → s01 (opt w (r * w + c)) j = if j = r * w + c then 0 else 1 := fun j h1 h2 => by
    have e1 : j / w = r := (div_is (by omega)).mpr ⟨h1, h2⟩
    have e2 : (r * w + c) / w = r := idx_div hcw
    unfold s01 opt
    rw [e1, e2]
    by_cases q : j = r * w + c
    · rw [if_pos (decide_eq_true (Or.inr q)), if_pos q]
    · rw [if_neg (fun z => by have := of_decide_eq_true z; omega), if_neg q]
  have hout : ∀ j, j < w * w → ¬ (r * w ≤ j ∧ j < r * w + w) → s01 (opt w (r * w + c)) j = 0 := fun j h0 h1 => by
    refine (s01_0 _ j).mp (decide_eq_true (Or.inl ?_))
    rw [idx_div hcw]
    intro z
    exact h1 ((div_is (by omega)).mp z)
  exact loopI (body := fun s : Int32 × (Nat → Int32) => f_M_through_b32 (iz ((r * w + c : Nat) : Int)) (iz ((r * w : Nat) : Int)) (iz w) s.1 s.2) (fun k z => ∃ st, z = (iz ((r * w + k : Nat) : Int), st) ∧ ∀ j, j < w * w → st j = if r * w ≤ j ∧ j < r * w + k then iz (s01 (opt w (r * w + c)) j) else iz 0) _ w (by omega)
    (fun k z hk => by
      rintro ⟨st, rfl, h1⟩
      have hik := idx_lt hr hk
      have hnx : ∀ v : Int, s01 (opt w (r * w + c)) (r * w + k) = v → ∀ j, j < w * w → upd st (r * w + k) (iz v) j = if r * w ≤ j ∧ j < r * w + (k + 1) then iz (s01 (opt w (r * w + c)) j) else iz 0 := fun v hv j hj => by
        by_cases q : j = r * w + k
        · rw [q, upd_same, if_pos ⟨by omega, by omega⟩, hv]
        · rw [upd_ne q, h1 j hj]
          by_cases q2 : r * w ≤ j ∧ j < r * w + k
          · rw [if_pos q2, if_pos ⟨by omega, by omega⟩]
          · rw [if_neg q2, if_neg (by omega)]
      have hv := hin (r * w + k) (by omega) (by omega)
      simp only [f_M_through_b32, f_M_through_j60]
      rw [iz_add, if_neg (by rw [iz_le (by omega) (by omega)]; omega), z_putStep (by omega), z_putStep (by omega), iz_succ]
      simp only [Option.bind_some]
      by_cases q : k = c
      · rw [if_pos (by rw [q])]
        exact ⟨_, rfl, _, rfl, hnx 0 (by rw [hv, if_pos (by omega)])⟩
      · rw [if_neg (by rw [iz_eq (by omega) (by omega)]; omega)]
        exact ⟨_, rfl, _, rfl, hnx 1 (by rw [hv, if_neg (by omega)])⟩)
    (fun z => by
      rintro ⟨st, rfl, h1⟩
      simp only [f_M_through_b32]
      rw [iz_add, if_pos (by rw [iz_le (by omega) (by omega)]; omega)]
      refine ⟨_, rfl, fun j _ hj => ?_⟩
      rw [h1 j hj]
      by_cases q : r * w ≤ j ∧ j < r * w + w
      · rw [if_pos q]
      · rw [if_neg q, hout j hj q])
    (iz ((r * w : Nat) : Int), st) ⟨st, rfl, fun j hj => by
      rw [if_neg (by omega), hst j (by omega) hj]
      rfl⟩
theorem q_through {rm rr : Nat → Int32} (hw : 2 ≤ w ∧ w ≤ 6) (hr : RF rm rr) (v1 pw : Int32) (st counts may rest : Nat → Int32) :
    ∃ x y, f_M_through v1 (iz w) pw st counts rm = some x ∧ f_R_through v1 (iz w) rr may rest = some y ∧ x.1 = y.1 ∧ RF x.2.2.2.2 y.2.1 := by
  obtain ⟨x, hx, rfl⟩ := anyI v1
  have h36 := sq_le hw
  obtain ⟨rm2, rr2, e1, e2, hr2⟩ := z_ref (why := -2) (by omega) hr
  unfold f_M_through f_R_through
  by_cases c1 : 0 ≤ x ∧ x < ((w * w : Nat) : Int)
  · obtain ⟨cell, hc, rfl⟩ := natZ (n := w * w) c1
    obtain ⟨r, c, hr2, hcw, ec⟩ := cell_rc hw hc
    obtain ⟨st', e3, h3⟩ := z_layNothing hw pw st
    obtain ⟨st2, e4, h4⟩ := z_throughL hw hr2 hcw h3
    obtain ⟨counts', e5⟩ := z_ow hw h4 counts
    obtain ⟨may', e6, h6⟩ := y_throughL hw hc may
    obtain ⟨rest', e7, _⟩ := y_count (ρ := rest) hw h6 (Nb_eq hw (opt w cell))
    rw [← ec] at e4 h4 e5
    have e8 : f_D_columnOf (iz cell) (iz w) = some (iz (c : Int)) := by
      unfold f_D_columnOf
      rw [if_neg (by rw [l_0, iz_le (by omega) (by omega)]; omega), rm_iz (by omega) (by omega)]
      have : ((cell : Int) % (w : Int)) = ((cell % w : Nat) : Int) := rfl
      rw [this, ec, idx_mod hcw]
      rfl
    have e9 : iz (cell : Int) - iz (c : Int) = iz ((r * w : Nat) : Int) := by
      rw [iz_sub]; congr 1; omega
    simp (disch := omega) only [l_0, l_1, l_2, l_3, l_4, l_5, l_6, l_7, l_8, l_9, l_10, l_12, l_16, l_32, l_35, l_36, l_40, l_48, l_59, l_57, l_60, l_97, l_99, l_100, l_122, l_250, l_255, l_1000, l_10000, l_20000, l_1000000, l_12345, l_1103515245, iz_neg, iz_add, iz_sub, iz_mul, iz_lt, iz_le, iz_eq, Option.bind_some, b1_i0, b1_i1, zr_b1, Classical.not_not, if_pos, if_neg, z_isCell, y_isCell]
    rw [e3]
    simp only [Option.bind_some]
    rw [e8]
    simp only [Option.bind_some]
    rw [e9, e4]
    simp only [Option.bind_some]
    rw [e5, show f_R_through_l17 (iz cell) (iz w) (iz 0) may = _ from e6]
    simp only [Option.bind_some]
    rw [e7]
    exact ⟨_, _, rfl, rfl, rfl, hr⟩
  · simp (disch := omega) only [l_0, l_1, l_2, l_3, l_4, l_5, l_6, l_7, l_8, l_9, l_10, l_12, l_16, l_32, l_35, l_36, l_40, l_48, l_59, l_57, l_60, l_97, l_99, l_100, l_122, l_250, l_255, l_1000, l_10000, l_20000, l_1000000, l_12345, l_1103515245, iz_neg, iz_add, iz_sub, iz_mul, iz_lt, iz_le, iz_eq, Option.bind_some, b1_i0, b1_i1, zr_b1, Classical.not_not, if_pos, if_neg, z_isCell, y_isCell, e1, e2]
    exact ⟨_, _, rfl, rfl, rfl, hr2⟩
def oas (w : Nat) (rn : Int) (g kd a : Nat → Int) (f h col j : Nat) : Bool := decide (stp w rn g kd a f j = cst w rn g kd a h col (j / w))
theorem s01_n {op : Nat → Bool} {j : Nat} (h : ¬ op j = true) : s01 op j = 1 := if_neg h
theorem oas_T {f h col k : Nat} (c : stp w rn g kd a f k = cst w rn g kd a h col (k / w)) : oas w rn g kd a f h col k = true := decide_eq_true c
theorem oas_F {f h col k : Nat} (c : ¬ stp w rn g kd a f k = cst w rn g kd a h col (k / w)) : ¬ oas w rn g kd a f h col k = true := fun z => c (of_decide_eq_true z)
theorem iz_stp {f k : Nat} : iz (cz rn g kd a f k (k / w)) = iz (stp w rn g kd a f k) := rfl
theorem z_asB {f h col k : Nat} {st : Nat → Int32} (hD : Dr w rn m g kd a) (hf : f < m) (hh : h < m) (hcol : col < w) (hk : k < w * w) :
    f_M_as_b50 (iz f) (iz h) (iz col) (iz w) (iz rn) (ar g) (ar kd) (ar a) (iz k) st = some (.inl (iz ((k + 1 : Nat) : Int), upd st k (iz (s01 (oas w rn g kd a f h col) k)))) := by
  obtain ⟨hw, hrn, hm, hg, hkd, ha⟩ := id hD
  have h36 := sq_le hw
  have hd := div_lt6 hw hk
  have b1 := stp_bd (w := w) (kd := kd) (f := f) hg ha hrn.1 k
  have b2 := cst_bd (w := w) (kd := kd) (f := h) (c := col) (r := k / w) hg ha hrn.1
  have e1 : f_D_stepOn (iz f) (iz k) (iz w) (iz rn) (ar g) (ar kd) (ar a) = some (iz (stp w rn g kd a f k)) := z_stepOn hw (by omega) hk hrn hg hkd ha
  simp only [f_M_as_b50, f_M_as_j115, z_cells hw, Option.bind_some]
  rw [if_neg (by clear b1 b2 e1 hd; rw [iz_le (by omega) (by omega)]; omega)]
  rw [z_rowOf hw hk, Option.bind_some, z_cellAt, Option.bind_some, e1, Option.bind_some]
  rw [z_stepC hD hh hd hcol, z_putStep (by omega), z_putStep (by omega), iz_succ]
  simp only [Option.bind_some]
  by_cases c : stp w rn g kd a f k = cst w rn g kd a h col (k / w)
  · rw [if_pos (congrArg iz c), (s01_0 _ k).mp (oas_T c)]
    rfl
  · rw [if_neg (by rw [iz_eq (by omega) (by omega)]; exact c), s01_n (oas_F c)]
    rfl
theorem z_asL {f h col : Nat} (hD : Dr w rn m g kd a) (hf : f < m) (hh : h < m) (hcol : col < w) (st : Nat → Int32) :
    ∃ st', f_M_as_l50 (iz f) (iz h) (iz col) (iz w) (iz rn) (ar g) (ar kd) (ar a) 0 st = some st' ∧ Agr st' (s01 (oas w rn g kd a f h col)) 0 (w * w) := by
  obtain ⟨hw, hrn, hm, hg, hkd, ha⟩ := id hD
  have h36 := sq_le hw
  exact loopI (body := fun s : Int32 × (Nat → Int32) => f_M_as_b50 (iz f) (iz h) (iz col) (iz w) (iz rn) (ar g) (ar kd) (ar a) s.1 s.2) (fun k z => ∃ st, z = (iz k, st) ∧ Agr st (s01 (oas w rn g kd a f h col)) 0 k) (fun st' => Agr st' (s01 (oas w rn g kd a f h col)) 0 (w * w)) (w * w) (by omega)
    (fun k z hk => by
      rintro ⟨st, rfl, h1⟩
      exact ⟨_, z_asB hD hf hh hcol hk, _, rfl, agr_nx h1⟩)
    (fun z => by
      rintro ⟨st, rfl, h1⟩
      simp only [f_M_as_b50, z_cells hw, Option.bind_some]
      rw [if_pos (by rw [iz_le (by omega) (by omega)]; omega)]
      exact ⟨_, rfl, h1⟩)
    (0, st) ⟨st, rfl, agr_no⟩
theorem y_asL {f h col : Nat} (hD : Dr w rn m g kd a) (hf : f < m) (hh : h < m) (hcol : col < w) (may : Nat → Int32) :
    ∃ may', f_R_as_l36 (iz f) (iz h) (iz col) (iz w) (iz rn) (ar g) (ar kd) (ar a) 0 may = some may' ∧ May w may' (oas w rn g kd a f h col) := by
  obtain ⟨hw, hrn, hm, hg, hkd, ha⟩ := id hD
  have h36 := sq_le hw
  exact loopI (body := fun s : Int32 × (Nat → Int32) => f_R_as_b36 (iz f) (iz h) (iz col) (iz w) (iz rn) (ar g) (ar kd) (ar a) s.1 s.2) (fun k z => ∃ may, z = (iz k, may) ∧ ∀ j, j < k → may j = if oas w rn g kd a f h col j then 1 else 0) (fun may => May w may (oas w rn g kd a f h col)) (w * w) (by omega)
    (fun k z hk => by
      rintro ⟨may, rfl, h1⟩
      have hd := div_lt6 hw hk
      have b1 := stp_bd (w := w) (kd := kd) (f := f) hg ha hrn.1 k
      have b2 := cst_bd (w := w) (kd := kd) (f := h) (c := col) (r := k / w) hg ha hrn.1
      have d1 : ((k : Int) / (w : Int)) = ((k / w : Nat) : Int) := rfl
      simp only [f_R_as_b36, f_R_as_j97]
      rw [sqz, if_neg (by rw [iz_le (by omega) (by omega)]; omega), y_stepOn hw (by omega) hk hrn hg hkd ha, dv_iz (by omega) (by omega), d1]
      simp only [Option.bind_some]
      rw [idz, y_crC hD hh hd hcol, wrn _ (by omega) (by omega), wrn _ (by omega) (by omega), iz_succ]
      simp only [Option.bind_some]
      by_cases c : stp w rn g kd a f k = cst w rn g kd a h col (k / w)
      · rw [if_pos (show iz (cz rn g kd a f k (k / w)) = iz (cst w rn g kd a h col (k / w)) from congrArg iz c)]
        exact ⟨_, rfl, _, rfl, may_nx h1 (by rw [if_pos (show oas w rn g kd a f h col k = true from decide_eq_true c)]; rfl)⟩
      · rw [if_neg (by show ¬ iz (stp w rn g kd a f k) = iz (cst w rn g kd a h col (k / w)); rw [iz_eq (by omega) (by omega)]; exact c)]
        exact ⟨_, rfl, _, rfl, may_nx h1 (by rw [if_neg (show ¬ oas w rn g kd a f h col k = true from fun z => c (of_decide_eq_true z))]; rfl)⟩)
    (fun z => by
      rintro ⟨may, rfl, h1⟩
      simp only [f_R_as_b36]
      rw [sqz, if_pos (by rw [iz_le (by omega) (by omega)]; omega)]
      exact ⟨_, rfl, h1⟩)
    (0, may) ⟨may, rfl, fun j hj => by omega⟩
theorem q_as {rm rr : Nat → Int32} (hD : Dr w rn m g kd a) (hr : RF rm rr) (v1 v2 v3 v4 pw : Int32) (st rest counts way may yrest yway : Nat → Int32) :
    ∃ x y, f_M_as v1 v2 v3 v4 (iz w) (iz rn) (iz m) (ar g) (ar kd) (ar a) pw st rest counts way rm = some x ∧ f_R_as v1 v2 v3 v4 (iz w) (iz rn) (iz m) (ar g) (ar kd) (ar a) rr may yrest yway = some y ∧ x.1 = y.1 ∧ RF x.2.2.2.2.2.2 y.2.1 := by
  obtain ⟨hw, hrn, hm, hg, hkd, ha⟩ := id hD
  obtain ⟨x, hx, rfl⟩ := anyI v1
  obtain ⟨y, hy, rfl⟩ := anyI v2
  obtain ⟨z, hz, rfl⟩ := anyI v3
  obtain ⟨v, hv, rfl⟩ := anyI v4
  obtain ⟨rm2, rr2, e1, e2, hr2⟩ := z_ref (why := -2) (by omega) hr
  obtain ⟨rm5, rr5, e15, e25, hr5⟩ := z_ref (why := -5) (by omega) hr
  unfold f_M_as f_R_as f_M_as_j26 f_R_as_j26
  by_cases c1 : (0 ≤ x ∧ x < m) ∧ (0 ≤ y ∧ y < m) ∧ ¬ x = y
  · obtain ⟨f, hf, rfl⟩ := natZ (n := m) c1.1
    obtain ⟨h, hh, rfl⟩ := natZ (n := m) c1.2.1
    by_cases c2 : 0 ≤ z ∧ z < w
    · obtain ⟨col, hcol, rfl⟩ := natZ (n := w) c2
      by_cases c2 : -1 ≤ v ∧ v < w
      · obtain ⟨st', e3, h3⟩ := z_asL hD hf hh hcol st
        obtain ⟨may', e4, h4⟩ := y_asL hD hf hh hcol may
        obtain ⟨yrest', e8, _⟩ := y_count (ρ := yrest) hw h4 (Nb_eq hw (oas w rn g kd a f h col))
        have hn := nw_bd hw (oas w rn g kd a f h col)
        change _ = some (iz (nw w (oas w rn g kd a f h col)), yrest') at e8
        simp (disch := omega) only [l_0, l_1, l_2, l_3, l_4, l_5, l_6, l_7, l_8, l_9, l_10, l_12, l_16, l_32, l_35, l_36, l_40, l_48, l_59, l_57, l_60, l_97, l_99, l_100, l_122, l_250, l_255, l_1000, l_10000, l_20000, l_1000000, l_12345, l_1103515245, iz_neg, iz_add, iz_sub, iz_mul, iz_lt, iz_le, iz_eq, Option.bind_some, b1_i0, b1_i1, zr_b1, Classical.not_not, if_pos, if_neg, z_isPair, y_areTwo, z_isColumn, y_isColumn, z_isStepOrNone, y_isPlace]
        rw [show f_M_as_l50 (iz f) (iz h) (iz col) (iz w) (iz rn) (ar g) (ar kd) (ar a) (iz 0) st = _ from e3, show f_R_as_l36 (iz f) (iz h) (iz col) (iz w) (iz rn) (ar g) (ar kd) (ar a) (iz 0) may = _ from e4]
        simp only [Option.bind_some]
        rw [e8]
        simp only [Option.bind_some]
        by_cases c3 : v = -1
        · subst c3
          obtain ⟨counts', e5⟩ := z_tow1 hw h3 rest counts way rm
          rw [e5]
          simp (disch := omega) only [l_0, l_1, l_2, l_3, l_4, l_5, l_6, l_7, l_8, l_9, l_10, l_12, l_16, l_32, l_35, l_36, l_40, l_48, l_59, l_57, l_60, l_97, l_99, l_100, l_122, l_250, l_255, l_1000, l_10000, l_20000, l_1000000, l_12345, l_1103515245, iz_neg, iz_add, iz_sub, iz_mul, iz_lt, iz_le, iz_eq, Option.bind_some, b1_i0, b1_i1, zr_b1, Classical.not_not, if_pos, if_neg]
          exact ⟨_, _, rfl, rfl, rfl, hr⟩
        · obtain ⟨k, hk, rfl⟩ := natZ (v := v) (n := w) (by omega)
          by_cases c4 : nw w (oas w rn g kd a f h col) = 0
          · obtain ⟨rest', way', e5⟩ := z_tow2 hw hk h3 c4 e15 rest counts way
            rw [e5]
            simp (disch := omega) only [l_0, l_1, l_2, l_3, l_4, l_5, l_6, l_7, l_8, l_9, l_10, l_12, l_16, l_32, l_35, l_36, l_40, l_48, l_59, l_57, l_60, l_97, l_99, l_100, l_122, l_250, l_255, l_1000, l_10000, l_20000, l_1000000, l_12345, l_1103515245, iz_neg, iz_add, iz_sub, iz_mul, iz_lt, iz_le, iz_eq, Option.bind_some, b1_i0, b1_i1, zr_b1, Classical.not_not, if_pos, if_neg]
            rw [e25]
            exact ⟨_, _, rfl, rfl, rfl, hr5⟩
          · obtain ⟨rest', way', e5⟩ := z_tow3 (rm := rm) hw hk h3 c4 rest counts way
            obtain ⟨yrest2, yway2, e6, h6⟩ := y_first hw h4 c4 yrest' yway
            rw [e5]
            simp (disch := omega) only [l_0, l_1, l_2, l_3, l_4, l_5, l_6, l_7, l_8, l_9, l_10, l_12, l_16, l_32, l_35, l_36, l_40, l_48, l_59, l_57, l_60, l_97, l_99, l_100, l_122, l_250, l_255, l_1000, l_10000, l_20000, l_1000000, l_12345, l_1103515245, iz_neg, iz_add, iz_sub, iz_mul, iz_lt, iz_le, iz_eq, Option.bind_some, b1_i0, b1_i1, zr_b1, Classical.not_not, if_pos, if_neg]
            rw [e6]
            simp only [Option.bind_some]
            rw [rdn _ (by omega) (by omega), h6 k hk]
            exact ⟨_, _, rfl, rfl, rfl, hr⟩
      · simp (disch := omega) only [l_0, l_1, l_2, l_3, l_4, l_5, l_6, l_7, l_8, l_9, l_10, l_12, l_16, l_32, l_35, l_36, l_40, l_48, l_59, l_57, l_60, l_97, l_99, l_100, l_122, l_250, l_255, l_1000, l_10000, l_20000, l_1000000, l_12345, l_1103515245, iz_neg, iz_add, iz_sub, iz_mul, iz_lt, iz_le, iz_eq, Option.bind_some, b1_i0, b1_i1, zr_b1, Classical.not_not, if_pos, if_neg, z_isPair, y_areTwo, z_isColumn, y_isColumn, z_isStepOrNone, y_isPlace, e1, e2]
        exact ⟨_, _, rfl, rfl, rfl, hr2⟩
    · simp (disch := omega) only [l_0, l_1, l_2, l_3, l_4, l_5, l_6, l_7, l_8, l_9, l_10, l_12, l_16, l_32, l_35, l_36, l_40, l_48, l_59, l_57, l_60, l_97, l_99, l_100, l_122, l_250, l_255, l_1000, l_10000, l_20000, l_1000000, l_12345, l_1103515245, iz_neg, iz_add, iz_sub, iz_mul, iz_lt, iz_le, iz_eq, Option.bind_some, b1_i0, b1_i1, zr_b1, Classical.not_not, if_pos, if_neg, z_isPair, y_areTwo, z_isColumn, y_isColumn, e1, e2]
      exact ⟨_, _, rfl, rfl, rfl, hr2⟩
  · simp (disch := omega) only [l_0, l_1, l_2, l_3, l_4, l_5, l_6, l_7, l_8, l_9, l_10, l_12, l_16, l_32, l_35, l_36, l_40, l_48, l_59, l_57, l_60, l_97, l_99, l_100, l_122, l_250, l_255, l_1000, l_10000, l_20000, l_1000000, l_12345, l_1103515245, iz_neg, iz_add, iz_sub, iz_mul, iz_lt, iz_le, iz_eq, Option.bind_some, b1_i0, b1_i1, zr_b1, Classical.not_not, if_pos, if_neg, z_isPair, y_areTwo, e1, e2]
    exact ⟨_, _, rfl, rfl, rfl, hr2⟩
end

/-! open ways told: unheard, as, ways, through; softest -/
section
variable {w m : Nat} {rn er : Int} {g kd a : Nat → Int} {op : Nat → Bool} {st may : Nat → Int32}
theorem z_tow1 (hw : 2 ≤ w ∧ w ≤ 6) (hs : Agr st (s01 op) 0 (w * w)) (rest counts way rm : Nat → Int32) :
    ∃ counts', f_M_toldOfOpenWays (iz (-1)) (iz w) st rest counts way rm = some (iz (nw w op), rest, counts', way, rm) := by
  obtain ⟨counts', e⟩ := z_openWays hw hs (fun j _ => by have := s01_bd op j; omega) (fun j _ => s01_0 op j) counts
  unfold f_M_toldOfOpenWays
  rw [if_pos (show iz (-1) = -1 from rfl), e]
  exact ⟨_, rfl⟩
theorem z_towE (hw : 2 ≤ w ∧ w ≤ 6) (op : Nat → Bool) : ls w (s01 op) = 0 ↔ ¬ nw w op = 0 := by
  have h0 : ∀ j, 0 ≤ Nb w op j := fun j => (Nb_bd hw op j).1
  have h := NTa hw (L01 hw op) (Nb_eq hw op) h0
  obtain ⟨z, _, e2⟩ := mnf_is (LTb w (s01 op)) 0 (w - 1)
  have h7 : 0 ≤ LTb w (s01 op) (0 + z) := Tv_ge (op := opA) (fun a b h1 h2 => by show 0 ≤ a + b; omega) (fun j => (s01_bd op j).1) _ _
  have h8 : 0 ≤ ls w (s01 op) := by show 0 ≤ mnf _ _ _; omega
  constructor
  · intro q
    exact h.mpr (by show ls w (s01 op) ≤ 0; omega)
  · intro q
    have : ls w (s01 op) ≤ 0 := h.mp q
    omega
theorem z_tow2 {k : Nat} {rm rm2 : Nat → Int32} (hw : 2 ≤ w ∧ w ≤ 6) (hk : k < w) (hs : Agr st (s01 op) 0 (w * w)) (h0 : nw w op = 0) (he : f_M_refuse (iz (-5)) rm = some (iz (-5), rm2)) (rest counts way : Nat → Int32) :
    ∃ rest' way', f_M_toldOfOpenWays (iz k) (iz w) st rest counts way rm = some (iz (-5), rest', counts, way', rm2) := by
  have hb : ∀ j, -37 ≤ s01 op j ∧ s01 op j ≤ 37 := fun j => by have := s01_bd op j; omega
  obtain ⟨rest', way', e, _⟩ := z_ls hw hs hb rest way
  have hl := ls_bd hw hb
  have hn : ¬ ls w (s01 op) = 0 := fun z => (z_towE hw op).mp z h0
  unfold f_M_toldOfOpenWays
  rw [if_neg (by rw [l_m1, iz_eq (by omega) (by omega)]; omega), e]
  simp only [Option.bind_some]
  rw [if_neg (by rw [l_0, iz_eq (by omega) (by omega)]; exact hn), show (-5 : Int32) = iz (-5) from rfl, he]
  exact ⟨_, _, rfl⟩
theorem z_tow3 {k : Nat} {rm : Nat → Int32} (hw : 2 ≤ w ∧ w ≤ 6) (hk : k < w) (hs : Agr st (s01 op) 0 (w * w)) (h0 : ¬ nw w op = 0) (rest counts way : Nat → Int32) :
    ∃ rest' way', f_M_toldOfOpenWays (iz k) (iz w) st rest counts way rm = some (iz ((k * w + qd w (pN (Nb w op)) k : Nat) : Int), rest', counts, way', rm) := by
  have hb : ∀ j, -37 ≤ s01 op j ∧ s01 op j ≤ 37 := fun j => by have := s01_bd op j; omega
  obtain ⟨rest', way', e, h⟩ := z_ls hw hs hb rest way
  have hn : ls w (s01 op) = 0 := (z_towE hw op).mpr h0
  unfold f_M_toldOfOpenWays
  rw [if_neg (by rw [l_m1, iz_eq (by omega) (by omega)]; omega), e]
  simp only [Option.bind_some]
  rw [hn, if_pos (show iz 0 = 0 from rfl), z_cellOnWay (by omega), h k hk, qL_qN hw op h0 k hk]
  exact ⟨_, _, rfl⟩
/-- what is not heard -/
def nhr (w : Nat) (u er : Int) (g kd a : Nat → Int) (f j : Nat) : Bool := decide (stp w u g kd a f j ≤ er - 1)
theorem z_layHeard {f : Nat} {u : Int} (hD : Dr w rn m g kd a) (hu : 0 ≤ u ∧ u ≤ 9) (her : 1 ≤ er ∧ er ≤ 99) (hf : f < m) (pw : Int32) (st : Nat → Int32) :
    ∃ st', f_M_layHeard (iz f) (iz u) (iz w) (iz er) (ar g) (ar kd) (ar a) pw st = some (iz w, st') ∧ Agr st' (s01 (nhr w u er g kd a f)) 0 (w * w) := by
  obtain ⟨hw, hrn, hm, hg, hkd, ha⟩ := id hD
  have h36 := sq_le hw
  obtain ⟨st', e, h⟩ := loopI (body := fun s : Int32 × (Nat → Int32) => f_M_layHeard_b16 (iz f) (iz u) (iz w) (iz er) (ar g) (ar kd) (ar a) s.1 s.2) (fun k z => ∃ st, z = (iz k, st) ∧ Agr st (s01 (nhr w u er g kd a f)) 0 k) (fun st => Agr st (s01 (nhr w u er g kd a f)) 0 (w * w)) (w * w) (by omega)
    (fun k z hk => by
      rintro ⟨st, rfl, h1⟩
      have hd := div_lt6 hw hk
      have hb := stp_bd (w := w) (u := u) (kd := kd) (f := f) hg ha hu.1 k
      simp only [f_M_layHeard_b16, f_M_layHeard_j69, z_cells hw, Option.bind_some]
      rw [if_neg (by rw [iz_le (by omega) (by omega)]; omega), z_rowOf hw hk]
      simp only [Option.bind_some]
      rw [z_stepUnder (by omega) (by omega) (by omega) hu hg hkd ha, z_putStep (by omega), z_putStep (by omega)]
      simp only [Option.bind_some]
      by_cases c : stp w u g kd a f k < er
      · have e0 : s01 (nhr w u er g kd a f) k = 0 := if_pos (decide_eq_true (by omega))
        rw [if_pos (by show iz (stp w u g kd a f k) < iz er; rw [iz_lt (by omega) (by omega)]; exact c), iz_succ]
        exact ⟨_, rfl, upd st k (iz (s01 (nhr w u er g kd a f) k)), by rw [e0]; rfl, agr_nx h1⟩
      · have e0 : s01 (nhr w u er g kd a f) k = 1 := if_neg (by intro z; have := of_decide_eq_true z; omega)
        rw [if_neg (by show ¬ iz (stp w u g kd a f k) < iz er; rw [iz_lt (by omega) (by omega)]; exact c), iz_succ]
        exact ⟨_, rfl, upd st k (iz (s01 (nhr w u er g kd a f) k)), by rw [e0]; rfl, agr_nx h1⟩)
    (fun z => by
      rintro ⟨st, rfl, h1⟩
      simp only [f_M_layHeard_b16, z_cells hw, Option.bind_some]
      rw [if_pos (by rw [iz_le (by omega) (by omega)]; omega)]
      exact ⟨_, rfl, h1⟩)
    (iz 0, st) ⟨st, rfl, agr_no⟩
  unfold f_M_layHeard
  rw [show f_M_layHeard_l16 (iz f) (iz u) (iz w) (iz er) (ar g) (ar kd) (ar a) 0 st = some st' from e]
  exact ⟨_, rfl, h⟩
def opl (s : Nat → Int) (lim : Int) (j : Nat) : Bool := decide (s j ≤ lim)
theorem may_nx {k : Nat} {v : Int32} (hk : ∀ j, j < k → may j = if op j then 1 else 0) (hv : v = if op k then 1 else 0) : ∀ j, j < k + 1 → upd may k v j = if op j then 1 else 0 := fun j hj => by
  by_cases c : j = k
  · subst c; rw [upd_same]; exact hv
  · rw [upd_ne c]; exact hk j (by omega)
theorem y_upTo {s : Nat → Int} {lim : Int} {cost : Nat → Int32} (hw : 2 ≤ w ∧ w ≤ 6) (hs : ∀ j, -500 ≤ s j ∧ s j ≤ 500) (hl : -1000 ≤ lim ∧ lim ≤ 1000) (hc : Agr cost s 0 (w * w)) (may rest : Nat → Int32) :
    ∃ may' rest', f_R_upTo (iz lim) (iz w) cost may rest = some (iz (nw w (opl s lim)), may', rest') ∧ May w may' (opl s lim) := by
  have h36 := sq_le hw
  obtain ⟨may', e, h⟩ := loopI (body := fun s : Int32 × (Nat → Int32) => f_R_upTo_b2 (iz lim) (iz w) cost s.1 s.2) (fun k z => ∃ may, z = (iz k, may) ∧ ∀ j, j < k → may j = if opl s lim j then 1 else 0) (fun may => May w may (opl s lim)) (w * w) (by omega)
    (fun k z hk => by
      rintro ⟨may, rfl, h1⟩
      have hb := hs k
      simp only [f_R_upTo_b2, f_R_upTo_j35]
      rw [sqz, if_neg (by rw [iz_le (by omega) (by omega)]; omega), rdn _ (by omega) (by omega), hc _ (by omega) hk, wrn _ (by omega) (by omega), wrn _ (by omega) (by omega)]
      simp only [Option.bind_some]
      by_cases c : s k ≤ lim
      · rw [if_neg (by rw [iz_lt (by omega) (by omega)]; omega), iz_succ]
        exact ⟨_, rfl, _, rfl, may_nx h1 (by rw [if_pos (show opl s lim k = true from decide_eq_true c)]; rfl)⟩
      · rw [if_pos (by rw [iz_lt (by omega) (by omega)]; omega), iz_succ]
        exact ⟨_, rfl, _, rfl, may_nx h1 (by rw [if_neg (show ¬ opl s lim k = true from fun z => c (of_decide_eq_true z))]; rfl)⟩)
    (fun z => by
      rintro ⟨may, rfl, h1⟩
      simp only [f_R_upTo_b2]
      rw [sqz, if_pos (by rw [iz_le (by omega) (by omega)]; omega)]
      exact ⟨_, rfl, h1⟩)
    (iz 0, may) ⟨may, rfl, fun j hj => by omega⟩
  obtain ⟨rest', e2, _⟩ := y_count (ρ := rest) hw h (Nb_eq hw (opl s lim))
  unfold f_R_upTo
  rw [show f_R_upTo_l2 (iz lim) (iz w) cost 0 may = some may' from e]
  simp only [Option.bind_some]
  rw [e2]
  exact ⟨_, _, rfl, h⟩
theorem y_unheardBy {f : Nat} (hD : Dr w rn m g kd a) (her : 1 ≤ er ∧ er ≤ 99) (hf : f < m) (cost may rest : Nat → Int32) :
    ∃ cost' may' rest', f_R_unheardBy (iz f) (iz w) (iz rn) (iz er) (ar g) (ar kd) (ar a) cost may rest = some (iz (nw w (nhr w rn er g kd a f)), cost', may', rest') ∧ May w may' (nhr w rn er g kd a f) := by
  obtain ⟨hw, hrn, hm, hg, hkd, ha⟩ := id hD
  obtain ⟨cost', may', e1, h1⟩ := y_costs hD hf cost may
  obtain ⟨may2, rest2, e2, h2⟩ := y_upTo (lim := er - 1) hw (fun j => by have := stp_bd (w := w) (kd := kd) (f := f) hg ha hrn.1 j; omega) (by omega) h1 may' rest
  unfold f_R_unheardBy
  rw [e1]
  simp only [Option.bind_some]
  rw [l_1, iz_sub, e2]
  exact ⟨_, _, _, rfl, h2⟩
theorem q_unheard {rm rr : Nat → Int32} (hD : Dr w rn m g kd a) (her : 1 ≤ er ∧ er ≤ 99) (hr : RF rm rr) (v1 v2 pw : Int32) (st rest counts way cost may yrest yway : Nat → Int32) :
    ∃ x y, f_M_unheard v1 v2 (iz w) (iz rn) (iz er) (iz m) (ar g) (ar kd) (ar a) pw st rest counts way rm = some x ∧ f_R_unheard v1 v2 (iz w) (iz rn) (iz er) (iz m) (ar g) (ar kd) (ar a) rr cost may yrest yway = some y ∧ x.1 = y.1 ∧ RF x.2.2.2.2.2.2 y.2.1 := by
  obtain ⟨hw, hrn, hm, hg, hkd, ha⟩ := id hD
  obtain ⟨x, hx, rfl⟩ := anyI v1
  obtain ⟨v, hv, rfl⟩ := anyI v2
  obtain ⟨rm2, rr2, e1, e2, hr2⟩ := z_ref (why := -2) (by omega) hr
  obtain ⟨rm5, rr5, e15, e25, hr5⟩ := z_ref (why := -5) (by omega) hr
  unfold f_M_unheard f_R_unheard f_M_unheard_j16 f_R_unheard_j16
  by_cases c1 : 0 ≤ x ∧ x < m
  · obtain ⟨f, hf, rfl⟩ := natZ (n := m) c1
    by_cases c2 : -1 ≤ v ∧ v < w
    · obtain ⟨st', e3, h3⟩ := z_layHeard (er := er) hD hrn her hf pw st
      obtain ⟨cost', may', yrest', e4, h4⟩ := y_unheardBy hD her hf cost may yrest
      have hn := nw_bd hw (nhr w rn er g kd a f)
      simp (disch := omega) only [l_0, l_1, l_2, l_3, l_4, l_5, l_6, l_7, l_8, l_9, l_10, l_12, l_16, l_32, l_35, l_36, l_40, l_48, l_59, l_57, l_60, l_97, l_99, l_100, l_122, l_250, l_255, l_1000, l_10000, l_20000, l_1000000, l_12345, l_1103515245, iz_neg, iz_add, iz_sub, iz_mul, iz_lt, iz_le, iz_eq, Option.bind_some, b1_i0, b1_i1, zr_b1, Classical.not_not, if_pos, if_neg, z_isFeet, y_isFeet, z_isStepOrNone, y_isPlace]
      rw [e3, e4]
      simp only [Option.bind_some]
      by_cases c3 : v = -1
      · subst c3
        obtain ⟨counts', e5⟩ := z_tow1 hw h3 rest counts way rm
        rw [e5]
        simp (disch := omega) only [l_0, l_1, l_2, l_3, l_4, l_5, l_6, l_7, l_8, l_9, l_10, l_12, l_16, l_32, l_35, l_36, l_40, l_48, l_59, l_57, l_60, l_97, l_99, l_100, l_122, l_250, l_255, l_1000, l_10000, l_20000, l_1000000, l_12345, l_1103515245, iz_neg, iz_add, iz_sub, iz_mul, iz_lt, iz_le, iz_eq, Option.bind_some, b1_i0, b1_i1, zr_b1, Classical.not_not, if_pos, if_neg]
        exact ⟨_, _, rfl, rfl, rfl, hr⟩
      · obtain ⟨k, hk, rfl⟩ := natZ (v := v) (n := w) (by omega)
        by_cases c4 : nw w (nhr w rn er g kd a f) = 0
        · obtain ⟨rest', way', e5⟩ := z_tow2 hw hk h3 c4 e15 rest counts way
          rw [e5]
          simp (disch := omega) only [l_0, l_1, l_2, l_3, l_4, l_5, l_6, l_7, l_8, l_9, l_10, l_12, l_16, l_32, l_35, l_36, l_40, l_48, l_59, l_57, l_60, l_97, l_99, l_100, l_122, l_250, l_255, l_1000, l_10000, l_20000, l_1000000, l_12345, l_1103515245, iz_neg, iz_add, iz_sub, iz_mul, iz_lt, iz_le, iz_eq, Option.bind_some, b1_i0, b1_i1, zr_b1, Classical.not_not, if_pos, if_neg]
          rw [e25]
          exact ⟨_, _, rfl, rfl, rfl, hr5⟩
        · obtain ⟨rest', way', e5⟩ := z_tow3 (rm := rm) hw hk h3 c4 rest counts way
          obtain ⟨yrest2, yway2, e6, h6⟩ := y_first hw h4 c4 yrest' yway
          rw [e5]
          simp (disch := omega) only [l_0, l_1, l_2, l_3, l_4, l_5, l_6, l_7, l_8, l_9, l_10, l_12, l_16, l_32, l_35, l_36, l_40, l_48, l_59, l_57, l_60, l_97, l_99, l_100, l_122, l_250, l_255, l_1000, l_10000, l_20000, l_1000000, l_12345, l_1103515245, iz_neg, iz_add, iz_sub, iz_mul, iz_lt, iz_le, iz_eq, Option.bind_some, b1_i0, b1_i1, zr_b1, Classical.not_not, if_pos, if_neg]
          rw [e6]
          simp only [Option.bind_some]
          rw [rdn _ (by omega) (by omega), h6 k hk]
          exact ⟨_, _, rfl, rfl, rfl, hr⟩
    · simp (disch := omega) only [l_0, l_1, l_2, l_3, l_4, l_5, l_6, l_7, l_8, l_9, l_10, l_12, l_16, l_32, l_35, l_36, l_40, l_48, l_59, l_57, l_60, l_97, l_99, l_100, l_122, l_250, l_255, l_1000, l_10000, l_20000, l_1000000, l_12345, l_1103515245, iz_neg, iz_add, iz_sub, iz_mul, iz_lt, iz_le, iz_eq, Option.bind_some, b1_i0, b1_i1, zr_b1, Classical.not_not, if_pos, if_neg, z_isFeet, y_isFeet, z_isStepOrNone, y_isPlace, e1, e2]
      exact ⟨_, _, rfl, rfl, rfl, hr2⟩
  · simp (disch := omega) only [l_0, l_1, l_2, l_3, l_4, l_5, l_6, l_7, l_8, l_9, l_10, l_12, l_16, l_32, l_35, l_36, l_40, l_48, l_59, l_57, l_60, l_97, l_99, l_100, l_122, l_250, l_255, l_1000, l_10000, l_20000, l_1000000, l_12345, l_1103515245, iz_neg, iz_add, iz_sub, iz_mul, iz_lt, iz_le, iz_eq, Option.bind_some, b1_i0, b1_i1, zr_b1, Classical.not_not, if_pos, if_neg, z_isFeet, y_isFeet, e1, e2]
    exact ⟨_, _, rfl, rfl, rfl, hr2⟩
/-! softest -/
theorem GTb_ge {s : Nat → Int} (hs : ∀ j, 0 ≤ s j) (j : Nat) : 0 ≤ Tb w opX s j := Tv_ge (op := opX) (fun a b h1 h2 => by show 0 ≤ max a b; omega) hs _ _
abbrev gs (w : Nat) (s : Nat → Int) : Int := mnf (Tb w opX s) 0 (w - 1)
theorem gs_ne {s : Nat → Int} {lim : Int} (hw : 2 ≤ w ∧ w ≤ 6) (hl : 0 ≤ lim) : ¬ nw w (opl s lim) = 0 ↔ gs w s ≤ lim :=
  NTa (op := opl s lim) hw (fun r c hr hc => G01 hw hl r c hr hc) (Nb_eq hw _) (fun j => (Nb_bd hw _ j).1)
theorem qG_qN {s : Nat → Int} {lim : Int} (hw : 2 ≤ w ∧ w ≤ 6) (hl : 0 ≤ lim) (k : Nat) (hk : k < w) : qd w (pG (Tb w opX s) lim) k = qd w (pN (Nb w (opl s lim))) k := by
  have hq := qd_lt hw (pN (Nb w (opl s lim)))
  refine qd_congr (fun k x hk hx => ?_) k hk
  have hlo := wlo_le hw hq k
  have hcell : k * w + wlo (qd w (pN (Nb w (opl s lim)))) k + x < w * w := by
    rw [Nat.add_assoc]
    exact idx_lt hk (by omega)
  have hkey := NTc (op := opl s lim) hw (fun r c hr hc => G01 (s := s) hw hl r c hr hc) (Nb_eq hw _) (fun j => (Nb_bd hw _ j).1) _ hcell
  show decide (Tb w opX s (k * w + wlo (qd w (pN (Nb w (opl s lim)))) k + x) ≤ lim) = decide (¬ Nb w (opl s lim) (k * w + wlo (qd w (pN (Nb w (opl s lim)))) k + x) = 0)
  exact (decide_eq_decide.mpr hkey).symm
theorem q_softest {rm rr : Nat → Int32} (hD : Dr w rn m g kd a) (hr : RF rm rr) (v1 v2 pw : Int32) (st rest way cost may yrest yway : Nat → Int32) :
    ∃ x y, f_M_softest v1 v2 (iz w) (iz rn) (iz m) (ar g) (ar kd) (ar a) pw st rest way rm = some x ∧ f_R_softest v1 v2 (iz w) (iz rn) (iz m) (ar g) (ar kd) (ar a) rr cost may yrest yway = some y ∧ x.1 = y.1 ∧ RF x.2.2.2.2.2 y.2.1 := by
  obtain ⟨hw, hrn, hm, hg, hkd, ha⟩ := id hD
  obtain ⟨x, hx, rfl⟩ := anyI v1
  obtain ⟨v, hv, rfl⟩ := anyI v2
  obtain ⟨rm2, rr2, e1, e2, hr2⟩ := z_ref (why := -2) (by omega) hr
  unfold f_M_softest f_R_softest f_M_softest_j16 f_R_softest_j16
  by_cases c1 : 0 ≤ x ∧ x < m
  · obtain ⟨f, hf, rfl⟩ := natZ (n := m) c1
    by_cases c2 : -1 ≤ v ∧ v < w
    · have hs := fun j => stp_bd (w := w) (kd := kd) (f := f) hg ha hrn.1 j
      have hp : w ≤ w * w := by have := Nat.mul_le_mul_right w (show 1 ≤ w by omega); omega
      have hB := Tb_bd (s := stp w rn g kd a f) hw hopX (fun j => by have := hs j; omega)
      have hgb : 0 ≤ gs w (stp w rn g kd a f) ∧ gs w (stp w rn g kd a f) ≤ 500 := by
        obtain ⟨z, hz, e⟩ := mnf_is (Tb w opX (stp w rn g kd a f)) 0 (w - 1)
        have h5 := GTb_ge (w := w) (fun j => (hs j).1) (0 + z)
        have h6 := hB (0 + z) (by omega)
        show 0 ≤ mnf _ _ _ ∧ mnf _ _ _ ≤ 500
        omega
      obtain ⟨lim, hlim, elim⟩ := natZ (v := gs w (stp w rn g kd a f)) (n := 501) (by omega)
      obtain ⟨st', e3, h3⟩ := z_layCrunches (t := 1) hD hf pw st
      obtain ⟨rest', way', e4, h4⟩ := z_leastGreatest hw (agr_congr h3 (fun j _ _ => Int.one_mul _)) (fun j _ => by have := hs j; omega) (fun _ _ hr hc => Tb_eq hw opX (stp w rn g kd a f) hr hc) hB rest way
      obtain ⟨cost', may', e5, h5⟩ := y_costs hD hf cost may
      have hl := loopI (body := fun s : Int32 × (Nat → Int32) × (Nat → Int32) => f_R_softest_b30 (iz w) cost' s.1 s.2.1 s.2.2) (fun k z => ∃ may rest, z = (iz k, may, rest)) (fun r => r.1 = iz lim ∧ May w r.2.1 (opl (stp w rn g kd a f) lim)) lim (by omega)
        (fun k z hk => by
          rintro ⟨may, rest, rfl⟩
          obtain ⟨may2, rest2, e6, h6⟩ := y_upTo (lim := k) hw (fun j => by have := hs j; omega) (by omega) h5 may rest
          have hn : nw w (opl (stp w rn g kd a f) k) = 0 := by
            apply Classical.byContradiction
            intro z
            have := (gs_ne (s := stp w rn g kd a f) hw (show (0 : Int) ≤ k by omega)).mp z
            omega
          simp only [f_R_softest_b30]
          rw [e6]
          simp only [Option.bind_some]
          rw [hn, if_pos (show iz 0 = 0 from rfl), iz_succ]
          exact ⟨_, rfl, _, _, rfl⟩)
        (fun z => by
          rintro ⟨may, rest, rfl⟩
          obtain ⟨may2, rest2, e6, h6⟩ := y_upTo (lim := lim) hw (fun j => by have := hs j; omega) (by omega) h5 may rest
          have hn := (gs_ne (s := stp w rn g kd a f) hw (show (0 : Int) ≤ lim by omega)).mpr (by omega)
          have hnb := nw_bd hw (opl (stp w rn g kd a f) lim)
          simp only [f_R_softest_b30]
          rw [e6]
          simp only [Option.bind_some]
          rw [if_neg (by rw [l_0, iz_eq (by omega) (by omega)]; exact hn)]
          exact ⟨_, rfl, rfl, h6⟩)
        (0, may', yrest) ⟨may', yrest, rfl⟩
      obtain ⟨r, e7, e8, h8⟩ := hl
      obtain ⟨yrest2, yway2, e9, h9⟩ := y_first hw h8 ((gs_ne (s := stp w rn g kd a f) hw (show (0 : Int) ≤ lim by omega)).mpr (by omega)) r.2.2 yway
      rw [show mnf (Tb w opX (stp w rn g kd a f)) 0 (w - 1) = lim from elim] at e4 h4
      simp (disch := omega) only [l_0, l_1, l_2, l_3, l_4, l_5, l_6, l_7, l_8, l_9, l_10, l_12, l_16, l_32, l_35, l_36, l_40, l_48, l_59, l_57, l_60, l_97, l_99, l_100, l_122, l_250, l_255, l_1000, l_10000, l_20000, l_1000000, l_12345, l_1103515245, iz_neg, iz_add, iz_sub, iz_mul, iz_lt, iz_le, iz_eq, Option.bind_some, b1_i0, b1_i1, zr_b1, Classical.not_not, if_pos, if_neg, z_isFeet, y_isFeet, z_isStepOrNone, y_isPlace]
      rw [show f_M_layCrunches (iz f) (iz 1) (iz w) (iz rn) (ar g) (ar kd) (ar a) pw st = _ from e3, e5]
      simp only [Option.bind_some]
      rw [e4, show f_R_softest_l30 (iz w) cost' (iz 0) may' yrest = some r from e7]
      simp only [Option.bind_some]
      rw [e9]
      simp only [Option.bind_some]
      by_cases c3 : v = -1
      · simp (disch := omega) only [l_0, l_1, l_2, l_3, l_4, l_5, l_6, l_7, l_8, l_9, l_10, l_12, l_16, l_32, l_35, l_36, l_40, l_48, l_59, l_57, l_60, l_97, l_99, l_100, l_122, l_250, l_255, l_1000, l_10000, l_20000, l_1000000, l_12345, l_1103515245, iz_neg, iz_add, iz_sub, iz_mul, iz_lt, iz_le, iz_eq, Option.bind_some, b1_i0, b1_i1, zr_b1, Classical.not_not, if_pos, if_neg]
        exact ⟨_, _, rfl, rfl, e8.symm, hr⟩
      · obtain ⟨k, hk, rfl⟩ := natZ (v := v) (n := w) (by omega)
        simp (disch := omega) only [l_0, l_1, l_2, l_3, l_4, l_5, l_6, l_7, l_8, l_9, l_10, l_12, l_16, l_32, l_35, l_36, l_40, l_48, l_59, l_57, l_60, l_97, l_99, l_100, l_122, l_250, l_255, l_1000, l_10000, l_20000, l_1000000, l_12345, l_1103515245, iz_neg, iz_add, iz_sub, iz_mul, iz_lt, iz_le, iz_eq, Option.bind_some, b1_i0, b1_i1, zr_b1, Classical.not_not, if_pos, if_neg]
        rw [z_cellOnWay (by omega), rdn _ (by omega) (by omega), h4 k hk, h9 k hk, qG_qN hw (by omega) k hk]
        exact ⟨_, _, rfl, rfl, rfl, hr⟩
    · simp (disch := omega) only [l_0, l_1, l_2, l_3, l_4, l_5, l_6, l_7, l_8, l_9, l_10, l_12, l_16, l_32, l_35, l_36, l_40, l_48, l_59, l_57, l_60, l_97, l_99, l_100, l_122, l_250, l_255, l_1000, l_10000, l_20000, l_1000000, l_12345, l_1103515245, iz_neg, iz_add, iz_sub, iz_mul, iz_lt, iz_le, iz_eq, Option.bind_some, b1_i0, b1_i1, zr_b1, Classical.not_not, if_pos, if_neg, z_isFeet, y_isFeet, z_isStepOrNone, y_isPlace, e1, e2]
      exact ⟨_, _, rfl, rfl, rfl, hr2⟩
  · simp (disch := omega) only [l_0, l_1, l_2, l_3, l_4, l_5, l_6, l_7, l_8, l_9, l_10, l_12, l_16, l_32, l_35, l_36, l_40, l_48, l_59, l_57, l_60, l_97, l_99, l_100, l_122, l_250, l_255, l_1000, l_10000, l_20000, l_1000000, l_12345, l_1103515245, iz_neg, iz_add, iz_sub, iz_mul, iz_lt, iz_le, iz_eq, Option.bind_some, b1_i0, b1_i1, zr_b1, Classical.not_not, if_pos, if_neg, z_isFeet, y_isFeet, e1, e2]
    exact ⟨_, _, rfl, rfl, rfl, hr2⟩
end

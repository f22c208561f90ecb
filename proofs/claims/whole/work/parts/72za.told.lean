/-! the tape: statements told on both sides -/
def StO (n : Nat) (lt : Nat → Int) (i m0 : Nat) (c : Option (Int32 × Int32 × Int32 × Int32 × Int32 × Int32 × Int32 × Int32 × (Nat → Int32) × (Nat → Int32) × (Nat → Int32) × (Nat → Int32))) (r : Option (Int32 × Int32 × Int32 × Int32 × Int32 × Int32 × Int32 × Int32 × Int32 × (Nat → Int32) × (Nat → Int32) × (Nat → Int32) × (Nat → Int32))) : Prop :=
  ∃ (ok : Bool) (i' t' w' : Nat) (rn' er' : Int) (m' : Nat) (g' kd' a' l' : Nat → Int) (f' tok' v' : Int32),
    c = some (bz ok, iz (tk n lt i'), iz i', iz ((en n lt i' : Nat) : Int), iz w', iz rn', iz er', iz m', ar g', ar kd', ar a', ar l') ∧
    r = some (bz ok, iz w', iz rn', iz er', iz m', f', iz t', tok', v', ar g', ar kd', ar a', ar l') ∧
    Iv w' rn' er' m' g' kd' a' l' ∧ t' ≤ n ∧ i' ≤ n ∧ m0 ≤ m' ∧ (ok = true → i < t' ∧ i' = sk n lt t') ∧ (ok = false → f' = iz i')
section
variable {n : Nat} {lt : Nat → Int} {w m : Nat} {rn er : Int} {g kd a l : Nat → Int}
abbrev cSt (n : Nat) (lt : Nat → Int) (i w : Nat) (rn er : Int) (m : Nat) (g kd a l : Nat → Int) := f_T_isStatement (iz n) (iz (tk n lt i)) (iz i) (iz ((en n lt i : Nat) : Int)) (ar lt) (iz w) (iz rn) (iz er) (iz m) (ar g) (ar kd) (ar a) (ar l)
abbrev rSt (n : Nat) (lt : Nat → Int) (i w : Nat) (rn er : Int) (m : Nat) (g kd a l : Nat → Int) (v : Int32) := f_R_statement (iz w) (iz rn) (iz er) (iz m) (iz n) (iz i) (iz ((en n lt i : Nat) : Int)) (iz (rtok n lt i)) v (ar g) (ar kd) (ar a) (ar l) (ar lt)
theorem cells1 (w : Nat) : iz ((w * w : Nat) : Int) - 1 = iz (((w * w : Nat) : Int) - 1) := by rw [l_1, iz_sub]
theorem z_nT {i : Nat} {lo hi : Int} {clo chi : Int32} (elo : clo = iz lo) (ehi : chi = iz hi) (hn : n ≤ 250) (hl : ∀ j, 0 ≤ lt j ∧ lt j ≤ 255) (hi2 : i ≤ n) (hlo : 0 ≤ lo ∧ lo ≤ 100) (hhi : 0 ≤ hi ∧ hi ≤ 100) (h : nbk n lt i lo hi = true) : f_T_number clo chi (iz n) (iz (tk n lt i)) (iz i) (iz ((en n lt i : Nat) : Int)) (ar lt) = some (iz (val n lt i), iz (tk n lt (nxt n lt i)), iz ((nxt n lt i : Nat) : Int), iz ((en n lt (nxt n lt i) : Nat) : Int)) := by
  rw [elo, ehi]
  exact z_numT hn hl hi2 hlo hhi h
theorem z_nF {i : Nat} {lo hi : Int} {clo chi : Int32} (elo : clo = iz lo) (ehi : chi = iz hi) (hn : n ≤ 250) (hi2 : i ≤ n) (hlo : 0 ≤ lo ∧ lo ≤ 100) (hhi : 0 ≤ hi ∧ hi ≤ 100) (h : nbk n lt i lo hi = false) : f_T_number clo chi (iz n) (iz (tk n lt i)) (iz i) (iz ((en n lt i : Nat) : Int)) (ar lt) = some (-1, iz (tk n lt i), iz i, iz ((en n lt i : Nat) : Int)) := by
  rw [elo, ehi]
  exact z_numF hn hi2 hlo hhi h
theorem y_nT {i p : Nat} {lo hi : Int} {clo chi : Int32} (elo : clo = iz lo) (ehi : chi = iz hi) (hn : n ≤ 250) (hl : ∀ j, 0 ≤ lt j ∧ lt j ≤ 255) (hp : p ≤ n) (hip : sk n lt p = i) (hlo : 0 ≤ lo ∧ lo ≤ 100) (hhi : 0 ≤ hi ∧ hi ≤ 100) (h : nbk n lt i lo hi = true) (f t v : Int32) : f_R_number clo chi (iz n) f (iz p) t v (ar lt) = some (iz (val n lt i), iz i, iz ((en n lt i : Nat) : Int), iz (rtok n lt i), iz (val n lt i)) := by
  subst hip
  rw [elo, ehi]
  exact y_numT hn hl hp hlo hhi h f t v
theorem y_nF {i p : Nat} {lo hi : Int} {clo chi : Int32} (elo : clo = iz lo) (ehi : chi = iz hi) (hn : n ≤ 250) (hl : ∀ j, 0 ≤ lt j ∧ lt j ≤ 255) (hp : p ≤ n) (hip : sk n lt p = i) (hlo : 0 ≤ lo ∧ lo ≤ 100) (hhi : 0 ≤ hi ∧ hi ≤ 100) (h : nbk n lt i lo hi = false) (f t v : Int32) : ∃ v', f_R_number clo chi (iz n) f (iz p) t v (ar lt) = some (-1, iz i, iz ((en n lt i : Nat) : Int), iz (rtok n lt i), v') := by
  subst hip
  rw [elo, ehi]
  exact y_numF hn hl hp hlo hhi h f t v
theorem z_sideT {cw : Int32} {i : Nat} (hn : n ≤ 250) (hl : ∀ j, 0 ≤ lt j ∧ lt j ≤ 255) (hi : i ≤ n) (h : nbk n lt i 2 6 = true) : f_T_isSideTold (iz n) (iz (tk n lt i)) (iz ((i : Nat) : Int)) (iz ((en n lt i : Nat) : Int)) (ar lt) cw (ar g) = some (1, iz (tk n lt (nxt n lt i)), iz ((nxt n lt i : Nat) : Int), iz ((en n lt (nxt n lt i) : Nat) : Int), iz (val n lt i), ar (fill3 36 g)) := by
  obtain ⟨v1, v2, v3⟩ := nbk_v h
  unfold f_T_isSideTold f_D_layOut
  rw [z_nT (i := i) l_2 l_6 hn hl hi (show (0 : Int) ≤ 2 ∧ (2 : Int) ≤ 100 by omega) (show (0 : Int) ≤ 6 ∧ (6 : Int) ≤ 100 by omega) h, Option.bind_some]
  dsimp only
  rw [if_neg (ne_m1 (by omega))]
  rw [show f_D_layOut_l7 0 (ar g) = _ from z_layOutL g, Option.bind_some, Option.bind_some]
theorem z_sideF {cw : Int32} {i : Nat} (hn : n ≤ 250) (hl : ∀ j, 0 ≤ lt j ∧ lt j ≤ 255) (hi : i ≤ n) (h : nbk n lt i 2 6 = false) : f_T_isSideTold (iz n) (iz (tk n lt i)) (iz ((i : Nat) : Int)) (iz ((en n lt i : Nat) : Int)) (ar lt) cw (ar g) = some (0, iz (tk n lt i), iz i, iz ((en n lt i : Nat) : Int), cw, ar g) := by
  unfold f_T_isSideTold
  rw [z_nF (i := i) l_2 l_6 hn hi (show (0 : Int) ≤ 2 ∧ (2 : Int) ≤ 100 by omega) (show (0 : Int) ≤ 6 ∧ (6 : Int) ≤ 100 by omega) h, Option.bind_some]
  dsimp only
  rw [if_pos rfl]
theorem z_rainT {c : Int32} {i : Nat} (hn : n ≤ 250) (hl : ∀ j, 0 ≤ lt j ∧ lt j ≤ 255) (hi : i ≤ n) (h : nbk n lt i 0 9 = true) : f_T_isRainTold (iz n) (iz (tk n lt i)) (iz ((i : Nat) : Int)) (iz ((en n lt i : Nat) : Int)) (ar lt) c = some (1, iz (tk n lt (nxt n lt i)), iz ((nxt n lt i : Nat) : Int), iz ((en n lt (nxt n lt i) : Nat) : Int), iz (val n lt i)) := by
  obtain ⟨v1, v2, v3⟩ := nbk_v h
  unfold f_T_isRainTold
  rw [z_nT (i := i) l_0 l_9 hn hl hi (show (0 : Int) ≤ 0 ∧ (0 : Int) ≤ 100 by omega) (show (0 : Int) ≤ 9 ∧ (9 : Int) ≤ 100 by omega) h, Option.bind_some]
  dsimp only
  rw [if_neg (ne_m1 (by omega))]
theorem z_rainF {c : Int32} {i : Nat} (hn : n ≤ 250) (hl : ∀ j, 0 ≤ lt j ∧ lt j ≤ 255) (hi : i ≤ n) (h : nbk n lt i 0 9 = false) : f_T_isRainTold (iz n) (iz (tk n lt i)) (iz ((i : Nat) : Int)) (iz ((en n lt i : Nat) : Int)) (ar lt) c = some (0, iz (tk n lt i), iz i, iz ((en n lt i : Nat) : Int), c) := by
  unfold f_T_isRainTold
  rw [z_nF (i := i) l_0 l_9 hn hi (show (0 : Int) ≤ 0 ∧ (0 : Int) ≤ 100 by omega) (show (0 : Int) ≤ 9 ∧ (9 : Int) ≤ 100 by omega) h, Option.bind_some]
  dsimp only
  rw [if_pos rfl]
theorem z_earT {c : Int32} {i : Nat} (hn : n ≤ 250) (hl : ∀ j, 0 ≤ lt j ∧ lt j ≤ 255) (hi : i ≤ n) (h : nbk n lt i 1 99 = true) : f_T_isEarTold (iz n) (iz (tk n lt i)) (iz ((i : Nat) : Int)) (iz ((en n lt i : Nat) : Int)) (ar lt) c = some (1, iz (tk n lt (nxt n lt i)), iz ((nxt n lt i : Nat) : Int), iz ((en n lt (nxt n lt i) : Nat) : Int), iz (val n lt i)) := by
  obtain ⟨v1, v2, v3⟩ := nbk_v h
  unfold f_T_isEarTold
  rw [z_nT (i := i) l_1 l_99 hn hl hi (show (0 : Int) ≤ 1 ∧ (1 : Int) ≤ 100 by omega) (show (0 : Int) ≤ 99 ∧ (99 : Int) ≤ 100 by omega) h, Option.bind_some]
  dsimp only
  rw [if_neg (ne_m1 (by omega))]
theorem z_earF {c : Int32} {i : Nat} (hn : n ≤ 250) (hl : ∀ j, 0 ≤ lt j ∧ lt j ≤ 255) (hi : i ≤ n) (h : nbk n lt i 1 99 = false) : f_T_isEarTold (iz n) (iz (tk n lt i)) (iz ((i : Nat) : Int)) (iz ((en n lt i : Nat) : Int)) (ar lt) c = some (0, iz (tk n lt i), iz i, iz ((en n lt i : Nat) : Int), c) := by
  unfold f_T_isEarTold
  rw [z_nF (i := i) l_1 l_99 hn hi (show (0 : Int) ≤ 1 ∧ (1 : Int) ≤ 100 by omega) (show (0 : Int) ≤ 99 ∧ (99 : Int) ≤ 100 by omega) h, Option.bind_some]
  dsimp only
  rw [if_pos rfl]
theorem z_plankT {i c : Nat} (hw : 2 ≤ w ∧ w ≤ 6) (hn : n ≤ 250) (hl : ∀ j, 0 ≤ lt j ∧ lt j ≤ 255) (hi : i ≤ n) (h : nbk n lt i 0 (((w * w : Nat) : Int) - 1) = true) (ec : val n lt i = (c : Int)) : f_T_isPlankTold (iz n) (iz (tk n lt i)) (iz ((i : Nat) : Int)) (iz ((en n lt i : Nat) : Int)) (ar lt) (iz w) (ar g) = some (1, iz (tk n lt (nxt n lt i)), iz ((nxt n lt i : Nat) : Int), iz ((en n lt (nxt n lt i) : Nat) : Int), ar (upz g c 0)) := by
  obtain ⟨v1, v2, v3⟩ := nbk_v h
  have h36 := sq_le hw
  have hp : 0 < w * w := Nat.mul_pos (by omega) (by omega)
  unfold f_T_isPlankTold
  rw [z_cells hw, Option.bind_some, cells1]
  rw [z_nT l_0 rfl hn hl hi (show (0 : Int) ≤ 0 ∧ (0 : Int) ≤ 100 by omega) (show 0 ≤ ((w * w : Nat) : Int) - 1 ∧ ((w * w : Nat) : Int) - 1 ≤ 100 by omega) h, Option.bind_some]
  dsimp only
  rw [if_neg (ne_m1 (by omega))]
  rw [ec, show f_D_pour (iz c) 0 (ar g) = _ from z_pour (v := 0) (by omega), Option.bind_some]
theorem z_plankF {i : Nat} (hw : 2 ≤ w ∧ w ≤ 6) (hn : n ≤ 250) (hl : ∀ j, 0 ≤ lt j ∧ lt j ≤ 255) (hi : i ≤ n) (h : nbk n lt i 0 (((w * w : Nat) : Int) - 1) = false) : f_T_isPlankTold (iz n) (iz (tk n lt i)) (iz ((i : Nat) : Int)) (iz ((en n lt i : Nat) : Int)) (ar lt) (iz w) (ar g) = some (0, iz (tk n lt i), iz i, iz ((en n lt i : Nat) : Int), ar g) := by
  have h36 := sq_le hw
  have hp : 0 < w * w := Nat.mul_pos (by omega) (by omega)
  unfold f_T_isPlankTold
  rw [z_cells hw, Option.bind_some, cells1]
  rw [z_nF l_0 rfl hn hi (show (0 : Int) ≤ 0 ∧ (0 : Int) ≤ 100 by omega) (show 0 ≤ ((w * w : Nat) : Int) - 1 ∧ ((w * w : Nat) : Int) - 1 ≤ 100 by omega) h, Option.bind_some]
  dsimp only
  rw [if_pos rfl]
theorem z_gravelT {i c : Nat} (hw : 2 ≤ w ∧ w ≤ 6) (hn : n ≤ 250) (hl : ∀ j, 0 ≤ lt j ∧ lt j ≤ 255) (hi : i ≤ n) (h : nbk n lt i 0 (((w * w : Nat) : Int) - 1) = true) (ec : val n lt i = (c : Int)) (h2 : nbk n lt (nxt n lt i) 0 9 = true) : f_T_isGravelTold (iz n) (iz (tk n lt i)) (iz ((i : Nat) : Int)) (iz ((en n lt i : Nat) : Int)) (ar lt) (iz w) (ar g) = some (1, iz (tk n lt (nxt n lt (nxt n lt i))), iz ((nxt n lt (nxt n lt i) : Nat) : Int), iz ((en n lt (nxt n lt (nxt n lt i)) : Nat) : Int), ar (upz g c (val n lt (nxt n lt i)))) := by
  obtain ⟨v1, v2, v3⟩ := nbk_v h
  obtain ⟨v4, v5, v6⟩ := nbk_v h2
  obtain ⟨e1, e2, e3⟩ := en_bd (lt := lt) hi
  obtain ⟨d1, d2⟩ := sk_bd (lt := lt) e2
  have h36 := sq_le hw
  have hp : 0 < w * w := Nat.mul_pos (by omega) (by omega)
  unfold f_T_isGravelTold
  rw [z_cells hw, Option.bind_some, cells1]
  rw [z_nT l_0 rfl hn hl hi (show (0 : Int) ≤ 0 ∧ (0 : Int) ≤ 100 by omega) (show 0 ≤ ((w * w : Nat) : Int) - 1 ∧ ((w * w : Nat) : Int) - 1 ≤ 100 by omega) h, Option.bind_some]
  dsimp only
  rw [if_neg (ne_m1 (by omega))]
  rw [z_nT (i := (nxt n lt i)) l_0 l_9 hn hl d2 (show (0 : Int) ≤ 0 ∧ (0 : Int) ≤ 100 by omega) (show (0 : Int) ≤ 9 ∧ (9 : Int) ≤ 100 by omega) h2, Option.bind_some]
  dsimp only
  rw [if_neg (ne_m1 (by omega))]
  rw [ec, z_pour (by omega), Option.bind_some]
theorem z_gravelF2 {i : Nat} (hw : 2 ≤ w ∧ w ≤ 6) (hn : n ≤ 250) (hl : ∀ j, 0 ≤ lt j ∧ lt j ≤ 255) (hi : i ≤ n) (h : nbk n lt i 0 (((w * w : Nat) : Int) - 1) = true) (h2 : nbk n lt (nxt n lt i) 0 9 = false) : f_T_isGravelTold (iz n) (iz (tk n lt i)) (iz ((i : Nat) : Int)) (iz ((en n lt i : Nat) : Int)) (ar lt) (iz w) (ar g) = some (0, iz (tk n lt (nxt n lt i)), iz ((nxt n lt i : Nat) : Int), iz ((en n lt (nxt n lt i) : Nat) : Int), ar g) := by
  obtain ⟨v1, v2, v3⟩ := nbk_v h
  obtain ⟨e1, e2, e3⟩ := en_bd (lt := lt) hi
  obtain ⟨d1, d2⟩ := sk_bd (lt := lt) e2
  have h36 := sq_le hw
  have hp : 0 < w * w := Nat.mul_pos (by omega) (by omega)
  unfold f_T_isGravelTold
  rw [z_cells hw, Option.bind_some, cells1]
  rw [z_nT l_0 rfl hn hl hi (show (0 : Int) ≤ 0 ∧ (0 : Int) ≤ 100 by omega) (show 0 ≤ ((w * w : Nat) : Int) - 1 ∧ ((w * w : Nat) : Int) - 1 ≤ 100 by omega) h, Option.bind_some]
  dsimp only
  rw [if_neg (ne_m1 (by omega))]
  rw [z_nF (i := (nxt n lt i)) l_0 l_9 hn d2 (show (0 : Int) ≤ 0 ∧ (0 : Int) ≤ 100 by omega) (show (0 : Int) ≤ 9 ∧ (9 : Int) ≤ 100 by omega) h2, Option.bind_some]
  dsimp only
  rw [if_pos rfl]
theorem z_gravelF {i : Nat} (hw : 2 ≤ w ∧ w ≤ 6) (hn : n ≤ 250) (hl : ∀ j, 0 ≤ lt j ∧ lt j ≤ 255) (hi : i ≤ n) (h : nbk n lt i 0 (((w * w : Nat) : Int) - 1) = false) : f_T_isGravelTold (iz n) (iz (tk n lt i)) (iz ((i : Nat) : Int)) (iz ((en n lt i : Nat) : Int)) (ar lt) (iz w) (ar g) = some (0, iz (tk n lt i), iz i, iz ((en n lt i : Nat) : Int), ar g) := by
  have h36 := sq_le hw
  have hp : 0 < w * w := Nat.mul_pos (by omega) (by omega)
  unfold f_T_isGravelTold
  rw [z_cells hw, Option.bind_some, cells1]
  rw [z_nF l_0 rfl hn hi (show (0 : Int) ≤ 0 ∧ (0 : Int) ≤ 100 by omega) (show 0 ≤ ((w * w : Nat) : Int) - 1 ∧ ((w * w : Nat) : Int) - 1 ≤ 100 by omega) h, Option.bind_some]
  dsimp only
  rw [if_pos rfl]
theorem z_footF1 {i : Nat} (hn : n ≤ 250) (hl : ∀ j, 0 ≤ lt j ∧ lt j ≤ 255) (hi : i ≤ n) (h : nbk n lt (nxt n lt i) 0 5 = false) : f_T_isFootTold (iz n) (iz (tk n lt i)) (iz ((i : Nat) : Int)) (iz ((en n lt i : Nat) : Int)) (ar lt) (iz m) (ar kd) (ar a) (ar l) = some (0, iz (tk n lt (nxt n lt i)), iz (((nxt n lt i) : Nat) : Int), iz ((en n lt (nxt n lt i) : Nat) : Int), iz m, ar kd, ar a, ar l) := by
  obtain ⟨e1, e2, e3⟩ := en_bd (lt := lt) hi
  obtain ⟨d1, d2⟩ := sk_bd (lt := lt) e2
  unfold f_T_isFootTold
  rw [z_next hn hl e2, Option.bind_some]
  dsimp only
  rw [z_nF (i := (nxt n lt i)) l_0 l_5 hn d2 (show (0 : Int) ≤ 0 ∧ (0 : Int) ≤ 100 by omega) (show (0 : Int) ≤ 5 ∧ (5 : Int) ≤ 100 by omega) h, Option.bind_some]
  dsimp only
  rw [if_pos rfl]
theorem z_footF2 {i : Nat} (hn : n ≤ 250) (hl : ∀ j, 0 ≤ lt j ∧ lt j ≤ 255) (hi : i ≤ n) (h : nbk n lt (nxt n lt i) 0 5 = true) (h2 : nbk n lt (nxt n lt (nxt n lt i)) 0 9 = false) : f_T_isFootTold (iz n) (iz (tk n lt i)) (iz ((i : Nat) : Int)) (iz ((en n lt i : Nat) : Int)) (ar lt) (iz m) (ar kd) (ar a) (ar l) = some (0, iz (tk n lt (nxt n lt (nxt n lt i))), iz (((nxt n lt (nxt n lt i)) : Nat) : Int), iz ((en n lt (nxt n lt (nxt n lt i)) : Nat) : Int), iz m, ar kd, ar a, ar l) := by
  obtain ⟨v1, v2, v3⟩ := nbk_v h
  obtain ⟨e1, e2, e3⟩ := en_bd (lt := lt) hi
  obtain ⟨d1, d2⟩ := sk_bd (lt := lt) e2
  obtain ⟨e4, e5, e6⟩ := en_bd (lt := lt) d2
  obtain ⟨d3, d4⟩ := sk_bd (lt := lt) e5
  unfold f_T_isFootTold
  rw [z_next hn hl e2, Option.bind_some]
  dsimp only
  rw [z_nT (i := (nxt n lt i)) l_0 l_5 hn hl d2 (show (0 : Int) ≤ 0 ∧ (0 : Int) ≤ 100 by omega) (show (0 : Int) ≤ 5 ∧ (5 : Int) ≤ 100 by omega) h, Option.bind_some]
  dsimp only
  rw [if_neg (ne_m1 (by omega))]
  rw [z_nF (i := (nxt n lt (nxt n lt i))) l_0 l_9 hn d4 (show (0 : Int) ≤ 0 ∧ (0 : Int) ≤ 100 by omega) (show (0 : Int) ≤ 9 ∧ (9 : Int) ≤ 100 by omega) h2, Option.bind_some]
  dsimp only
  rw [if_pos rfl]
theorem z_footF3 {i : Nat} (hn : n ≤ 250) (hl : ∀ j, 0 ≤ lt j ∧ lt j ≤ 255) (hi : i ≤ n) (h : nbk n lt (nxt n lt i) 0 5 = true) (h2 : nbk n lt (nxt n lt (nxt n lt i)) 0 9 = true) (h3 : nbk n lt (nxt n lt (nxt n lt (nxt n lt i))) 1 99 = false) : f_T_isFootTold (iz n) (iz (tk n lt i)) (iz ((i : Nat) : Int)) (iz ((en n lt i : Nat) : Int)) (ar lt) (iz m) (ar kd) (ar a) (ar l) = some (0, iz (tk n lt (nxt n lt (nxt n lt (nxt n lt i)))), iz (((nxt n lt (nxt n lt (nxt n lt i))) : Nat) : Int), iz ((en n lt (nxt n lt (nxt n lt (nxt n lt i))) : Nat) : Int), iz m, ar kd, ar a, ar l) := by
  obtain ⟨v1, v2, v3⟩ := nbk_v h
  obtain ⟨v4, v5, v6⟩ := nbk_v h2
  obtain ⟨e1, e2, e3⟩ := en_bd (lt := lt) hi
  obtain ⟨d1, d2⟩ := sk_bd (lt := lt) e2
  obtain ⟨e4, e5, e6⟩ := en_bd (lt := lt) d2
  obtain ⟨d3, d4⟩ := sk_bd (lt := lt) e5
  obtain ⟨e7, e8, e9⟩ := en_bd (lt := lt) d4
  obtain ⟨d5, d6⟩ := sk_bd (lt := lt) e8
  unfold f_T_isFootTold
  rw [z_next hn hl e2, Option.bind_some]
  dsimp only
  rw [z_nT (i := (nxt n lt i)) l_0 l_5 hn hl d2 (show (0 : Int) ≤ 0 ∧ (0 : Int) ≤ 100 by omega) (show (0 : Int) ≤ 5 ∧ (5 : Int) ≤ 100 by omega) h, Option.bind_some]
  dsimp only
  rw [if_neg (ne_m1 (by omega))]
  rw [z_nT (i := (nxt n lt (nxt n lt i))) l_0 l_9 hn hl d4 (show (0 : Int) ≤ 0 ∧ (0 : Int) ≤ 100 by omega) (show (0 : Int) ≤ 9 ∧ (9 : Int) ≤ 100 by omega) h2, Option.bind_some]
  dsimp only
  rw [if_neg (ne_m1 (by omega))]
  rw [z_nF (i := (nxt n lt (nxt n lt (nxt n lt i)))) l_1 l_99 hn d6 (show (0 : Int) ≤ 1 ∧ (1 : Int) ≤ 100 by omega) (show (0 : Int) ≤ 99 ∧ (99 : Int) ≤ 100 by omega) h3, Option.bind_some]
  dsimp only
  rw [if_pos rfl]
theorem z_welcome {x y z : Int} (hm : m < 8) : f_D_welcome (iz x) (iz y) (iz z) (iz m) (ar kd) (ar a) (ar l) = some (iz m, iz ((m + 1 : Nat) : Int), ar (upz kd m x), ar (upz a m y), ar (upz l m z)) := by
  unfold f_D_welcome
  simp (disch := omega) only [l_0, l_1, l_2, l_3, l_4, l_5, l_6, l_7, l_8, l_9, l_10, l_12, l_16, l_32, l_35, l_36, l_40, l_48, l_59, l_57, l_60, l_97, l_99, l_100, l_122, l_250, l_255, l_1000, l_10000, l_20000, l_1000000, l_12345, l_1103515245, iz_neg, iz_add, iz_sub, iz_mul, iz_lt, iz_le, iz_eq, Option.bind_some, b1_i0, b1_i1, zr_b1, Classical.not_not, if_pos, if_neg, z_withinI, wrn, upd_ar]
  rfl
theorem y_newFeet {x y z : Int} (hm : m < 8) : f_R_newFeet (iz x) (iz y) (iz z) (iz m) (ar kd) (ar a) (ar l) = some (iz m, iz ((m + 1 : Nat) : Int), ar (upz kd m x), ar (upz a m y), ar (upz l m z)) := by
  unfold f_R_newFeet
  simp (disch := omega) only [l_0, l_1, l_2, l_3, l_4, l_5, l_6, l_7, l_8, l_9, l_10, l_12, l_16, l_32, l_35, l_36, l_40, l_48, l_59, l_57, l_60, l_97, l_99, l_100, l_122, l_250, l_255, l_1000, l_10000, l_20000, l_1000000, l_12345, l_1103515245, iz_neg, iz_add, iz_sub, iz_mul, iz_lt, iz_le, iz_eq, Option.bind_some, b1_i0, b1_i1, zr_b1, Classical.not_not, if_pos, if_neg, wrn, upd_ar]
  rfl
theorem z_footT {i : Nat} (hn : n ≤ 250) (hl : ∀ j, 0 ≤ lt j ∧ lt j ≤ 255) (hi : i ≤ n) (hm : m < 8) (h : nbk n lt (nxt n lt i) 0 5 = true) (h2 : nbk n lt (nxt n lt (nxt n lt i)) 0 9 = true) (h3 : nbk n lt (nxt n lt (nxt n lt (nxt n lt i))) 1 99 = true) : f_T_isFootTold (iz n) (iz (tk n lt i)) (iz ((i : Nat) : Int)) (iz ((en n lt i : Nat) : Int)) (ar lt) (iz m) (ar kd) (ar a) (ar l) = some (1, iz (tk n lt (nxt n lt (nxt n lt (nxt n lt (nxt n lt i))))), iz (((nxt n lt (nxt n lt (nxt n lt (nxt n lt i)))) : Nat) : Int), iz ((en n lt (nxt n lt (nxt n lt (nxt n lt (nxt n lt i)))) : Nat) : Int), iz ((m + 1 : Nat) : Int), ar (upz kd m (val n lt (nxt n lt i))), ar (upz a m (val n lt (nxt n lt (nxt n lt i)))), ar (upz l m (val n lt (nxt n lt (nxt n lt (nxt n lt i)))))) := by
  obtain ⟨v1, v2, v3⟩ := nbk_v h
  obtain ⟨v4, v5, v6⟩ := nbk_v h2
  obtain ⟨v7, v8, v9⟩ := nbk_v h3
  obtain ⟨e1, e2, e3⟩ := en_bd (lt := lt) hi
  obtain ⟨d1, d2⟩ := sk_bd (lt := lt) e2
  obtain ⟨e4, e5, e6⟩ := en_bd (lt := lt) d2
  obtain ⟨d3, d4⟩ := sk_bd (lt := lt) e5
  obtain ⟨e7, e8, e9⟩ := en_bd (lt := lt) d4
  obtain ⟨d5, d6⟩ := sk_bd (lt := lt) e8
  unfold f_T_isFootTold
  rw [z_next hn hl e2, Option.bind_some]
  dsimp only
  rw [z_nT (i := (nxt n lt i)) l_0 l_5 hn hl d2 (show (0 : Int) ≤ 0 ∧ (0 : Int) ≤ 100 by omega) (show (0 : Int) ≤ 5 ∧ (5 : Int) ≤ 100 by omega) h, Option.bind_some]
  dsimp only
  rw [if_neg (ne_m1 (by omega))]
  rw [z_nT (i := (nxt n lt (nxt n lt i))) l_0 l_9 hn hl d4 (show (0 : Int) ≤ 0 ∧ (0 : Int) ≤ 100 by omega) (show (0 : Int) ≤ 9 ∧ (9 : Int) ≤ 100 by omega) h2, Option.bind_some]
  dsimp only
  rw [if_neg (ne_m1 (by omega))]
  rw [z_nT (i := (nxt n lt (nxt n lt (nxt n lt i)))) l_1 l_99 hn hl d6 (show (0 : Int) ≤ 1 ∧ (1 : Int) ≤ 100 by omega) (show (0 : Int) ≤ 99 ∧ (99 : Int) ≤ 100 by omega) h3, Option.bind_some]
  dsimp only
  rw [if_neg (ne_m1 (by omega))]
  rw [z_welcome hm, Option.bind_some]
end

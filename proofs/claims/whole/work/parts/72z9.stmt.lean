/-! the tape: statements -/
section
variable {n : Nat} {lt : Nat → Int} {cw cr ce ck : Int32} {cs ckd ca cl : Nat → Int32}
theorem ne10 : ¬ (1 : Int32) = 0 := by decide
theorem bzT : ¬ bz true = 0 := by decide
theorem zr1 : zr 1 = some 1 := rfl
theorem zr0 : zr 0 = some 0 := rfl
theorem wd_in {k i : Nat} (hi : i ≤ n) (h : wd n lt k i = true) : i < n ∧ i < en n lt i ∧ en n lt i ≤ n := by
  obtain ⟨a1, _, _⟩ := wd_T h
  have hin : i < n := by
    apply Classical.byContradiction
    intro z
    rw [tk_n (by omega)] at a1
    exact absurd a1 (by decide)
  obtain ⟨e1, e2, e3⟩ := en_bd (lt := lt) hi
  exact ⟨hin, e3 hin, e2⟩
theorem nbk_v {i : Nat} {lo hi : Int} (h : nbk n lt i lo hi = true) : i < n ∧ lo ≤ val n lt i ∧ val n lt i ≤ hi := by
  obtain ⟨h1, h2, h3⟩ := of_decide_eq_true h
  exact ⟨tk2_lt h1, h3⟩
theorem ne_m1 {v : Int} (h : 0 ≤ v ∧ v ≤ 1000) : ¬ iz v = -1 := by
  rw [l_m1, iz_eq (by omega) (by omega)]; omega
/-- a pending token, told -/
abbrev pd (n : Nat) (lt : Nat → Int) (i : Nat) : Int32 × Int32 × Int32 := (iz (tk n lt i), iz i, iz ((en n lt i : Nat) : Int))
abbrev nxt (n : Nat) (lt : Nat → Int) (i : Nat) : Nat := sk n lt (en n lt i)
theorem c_foot {i : Nat} (hn : n ≤ 250) (hl : ∀ j, 0 ≤ lt j ∧ lt j ≤ 255) (hi : i ≤ n) (h : wd n lt 0 i = true) : f_T_isStatement (iz n) (iz (tk n lt i)) (iz ((i : Nat) : Int)) (iz ((en n lt i : Nat) : Int)) (ar lt) cw cr ce ck cs ckd ca cl = ((f_D_isFull ck).bind fun x18 => if x18 = 0 then (f_T_isFootTold (iz n) (iz (tk n lt i)) (iz ((i : Nat) : Int)) (iz ((en n lt i : Nat) : Int)) (ar lt) ck ckd ca cl).bind fun x19 => if x19.1 = 0 then some (0, x19.2.1, x19.2.2.1, x19.2.2.2.1, cw, cr, ce, x19.2.2.2.2.1, cs, x19.2.2.2.2.2.1, x19.2.2.2.2.2.2.1, x19.2.2.2.2.2.2.2) else some (1, x19.2.1, x19.2.2.1, x19.2.2.2.1, cw, cr, ce, x19.2.2.2.2.1, cs, x19.2.2.2.2.2.1, x19.2.2.2.2.2.2.1, x19.2.2.2.2.2.2.2) else some (0, iz (tk n lt i), iz i, iz ((en n lt i : Nat) : Int), cw, cr, ce, ck, cs, ckd, ca, cl)) := by
  unfold f_T_isStatement
  rw [z_isSpelt hn hl (show 0 < 7 by omega) hi, Option.bind_some]
  rw [h, if_neg bzT]
theorem c_rake {i : Nat} (hn : n ≤ 250) (hl : ∀ j, 0 ≤ lt j ∧ lt j ≤ 255) (hi : i ≤ n) (h : wd n lt 1 i = true) : f_T_isStatement (iz n) (iz (tk n lt i)) (iz ((i : Nat) : Int)) (iz ((en n lt i : Nat) : Int)) (ar lt) cw cr ce ck cs ckd ca cl = ((f_D_rakeAll cw cs).bind fun x17 => some (1, iz (tk n lt (nxt n lt i)), iz (((nxt n lt i) : Nat) : Int), iz ((en n lt (nxt n lt i) : Nat) : Int), cw, cr, ce, ck, x17, ckd, ca, cl)) := by
  have hF : ∀ q, q < 7 → 1 ≠ q → wd n lt q i = false := fun q hq hne => wd_one (by omega) hq h hne
  unfold f_T_isStatement
  rw [z_isSpelt hn hl (show 0 < 7 by omega) hi, Option.bind_some]
  rw [hF 0 (by omega) (by omega), if_pos bz_F]
  rw [z_takenT hn hl (show 1 < 7 by omega) hi h, Option.bind_some]
  dsimp only
  rw [if_neg ne10]
theorem c_side {i : Nat} (hn : n ≤ 250) (hl : ∀ j, 0 ≤ lt j ∧ lt j ≤ 255) (hi : i ≤ n) (h : wd n lt 2 i = true) : f_T_isStatement (iz n) (iz (tk n lt i)) (iz ((i : Nat) : Int)) (iz ((en n lt i : Nat) : Int)) (ar lt) cw cr ce ck cs ckd ca cl = ((f_T_isSideTold (iz n) (iz (tk n lt (nxt n lt i))) (iz (((nxt n lt i) : Nat) : Int)) (iz ((en n lt (nxt n lt i) : Nat) : Int)) (ar lt) cw cs).bind fun x15 => (zr x15.1).bind fun x16 => some (x16, x15.2.1, x15.2.2.1, x15.2.2.2.1, x15.2.2.2.2.1, cr, ce, ck, x15.2.2.2.2.2, ckd, ca, cl)) := by
  have hF : ∀ q, q < 7 → 2 ≠ q → wd n lt q i = false := fun q hq hne => wd_one (by omega) hq h hne
  unfold f_T_isStatement
  rw [z_isSpelt hn hl (show 0 < 7 by omega) hi, Option.bind_some]
  rw [hF 0 (by omega) (by omega), if_pos bz_F]
  rw [z_takenF hn hl (show 1 < 7 by omega) hi (hF 1 (by omega) (by omega)), Option.bind_some]
  dsimp only
  rw [if_pos rfl]
  rw [z_takenT hn hl (show 2 < 7 by omega) hi h, Option.bind_some]
  dsimp only
  rw [if_neg ne10]
theorem c_gravel {i : Nat} (hn : n ≤ 250) (hl : ∀ j, 0 ≤ lt j ∧ lt j ≤ 255) (hi : i ≤ n) (h : wd n lt 3 i = true) : f_T_isStatement (iz n) (iz (tk n lt i)) (iz ((i : Nat) : Int)) (iz ((en n lt i : Nat) : Int)) (ar lt) cw cr ce ck cs ckd ca cl = ((f_T_isGravelTold (iz n) (iz (tk n lt (nxt n lt i))) (iz (((nxt n lt i) : Nat) : Int)) (iz ((en n lt (nxt n lt i) : Nat) : Int)) (ar lt) cw cs).bind fun x13 => (zr x13.1).bind fun x14 => some (x14, x13.2.1, x13.2.2.1, x13.2.2.2.1, cw, cr, ce, ck, x13.2.2.2.2, ckd, ca, cl)) := by
  have hF : ∀ q, q < 7 → 3 ≠ q → wd n lt q i = false := fun q hq hne => wd_one (by omega) hq h hne
  unfold f_T_isStatement
  rw [z_isSpelt hn hl (show 0 < 7 by omega) hi, Option.bind_some]
  rw [hF 0 (by omega) (by omega), if_pos bz_F]
  rw [z_takenF hn hl (show 1 < 7 by omega) hi (hF 1 (by omega) (by omega)), Option.bind_some]
  dsimp only
  rw [if_pos rfl]
  rw [z_takenF hn hl (show 2 < 7 by omega) hi (hF 2 (by omega) (by omega)), Option.bind_some]
  dsimp only
  rw [if_pos rfl]
  rw [z_takenT hn hl (show 3 < 7 by omega) hi h, Option.bind_some]
  dsimp only
  rw [if_neg ne10]
theorem c_plank {i : Nat} (hn : n ≤ 250) (hl : ∀ j, 0 ≤ lt j ∧ lt j ≤ 255) (hi : i ≤ n) (h : wd n lt 4 i = true) : f_T_isStatement (iz n) (iz (tk n lt i)) (iz ((i : Nat) : Int)) (iz ((en n lt i : Nat) : Int)) (ar lt) cw cr ce ck cs ckd ca cl = ((f_T_isPlankTold (iz n) (iz (tk n lt (nxt n lt i))) (iz (((nxt n lt i) : Nat) : Int)) (iz ((en n lt (nxt n lt i) : Nat) : Int)) (ar lt) cw cs).bind fun x11 => (zr x11.1).bind fun x12 => some (x12, x11.2.1, x11.2.2.1, x11.2.2.2.1, cw, cr, ce, ck, x11.2.2.2.2, ckd, ca, cl)) := by
  have hF : ∀ q, q < 7 → 4 ≠ q → wd n lt q i = false := fun q hq hne => wd_one (by omega) hq h hne
  unfold f_T_isStatement
  rw [z_isSpelt hn hl (show 0 < 7 by omega) hi, Option.bind_some]
  rw [hF 0 (by omega) (by omega), if_pos bz_F]
  rw [z_takenF hn hl (show 1 < 7 by omega) hi (hF 1 (by omega) (by omega)), Option.bind_some]
  dsimp only
  rw [if_pos rfl]
  rw [z_takenF hn hl (show 2 < 7 by omega) hi (hF 2 (by omega) (by omega)), Option.bind_some]
  dsimp only
  rw [if_pos rfl]
  rw [z_takenF hn hl (show 3 < 7 by omega) hi (hF 3 (by omega) (by omega)), Option.bind_some]
  dsimp only
  rw [if_pos rfl]
  rw [z_takenT hn hl (show 4 < 7 by omega) hi h, Option.bind_some]
  dsimp only
  rw [if_neg ne10]
theorem c_rain {i : Nat} (hn : n ≤ 250) (hl : ∀ j, 0 ≤ lt j ∧ lt j ≤ 255) (hi : i ≤ n) (h : wd n lt 5 i = true) : f_T_isStatement (iz n) (iz (tk n lt i)) (iz ((i : Nat) : Int)) (iz ((en n lt i : Nat) : Int)) (ar lt) cw cr ce ck cs ckd ca cl = ((f_T_isRainTold (iz n) (iz (tk n lt (nxt n lt i))) (iz (((nxt n lt i) : Nat) : Int)) (iz ((en n lt (nxt n lt i) : Nat) : Int)) (ar lt) cr).bind fun x9 => (zr x9.1).bind fun x10 => some (x10, x9.2.1, x9.2.2.1, x9.2.2.2.1, cw, x9.2.2.2.2, ce, ck, cs, ckd, ca, cl)) := by
  have hF : ∀ q, q < 7 → 5 ≠ q → wd n lt q i = false := fun q hq hne => wd_one (by omega) hq h hne
  unfold f_T_isStatement
  rw [z_isSpelt hn hl (show 0 < 7 by omega) hi, Option.bind_some]
  rw [hF 0 (by omega) (by omega), if_pos bz_F]
  rw [z_takenF hn hl (show 1 < 7 by omega) hi (hF 1 (by omega) (by omega)), Option.bind_some]
  dsimp only
  rw [if_pos rfl]
  rw [z_takenF hn hl (show 2 < 7 by omega) hi (hF 2 (by omega) (by omega)), Option.bind_some]
  dsimp only
  rw [if_pos rfl]
  rw [z_takenF hn hl (show 3 < 7 by omega) hi (hF 3 (by omega) (by omega)), Option.bind_some]
  dsimp only
  rw [if_pos rfl]
  rw [z_takenF hn hl (show 4 < 7 by omega) hi (hF 4 (by omega) (by omega)), Option.bind_some]
  dsimp only
  rw [if_pos rfl]
  rw [z_takenT hn hl (show 5 < 7 by omega) hi h, Option.bind_some]
  dsimp only
  rw [if_neg ne10]
theorem c_ear {i : Nat} (hn : n ≤ 250) (hl : ∀ j, 0 ≤ lt j ∧ lt j ≤ 255) (hi : i ≤ n) (h : wd n lt 6 i = true) : f_T_isStatement (iz n) (iz (tk n lt i)) (iz ((i : Nat) : Int)) (iz ((en n lt i : Nat) : Int)) (ar lt) cw cr ce ck cs ckd ca cl = ((f_T_isEarTold (iz n) (iz (tk n lt (nxt n lt i))) (iz (((nxt n lt i) : Nat) : Int)) (iz ((en n lt (nxt n lt i) : Nat) : Int)) (ar lt) ce).bind fun x8 => if x8.1 = 0 then some (0, x8.2.1, x8.2.2.1, x8.2.2.2.1, cw, cr, x8.2.2.2.2, ck, cs, ckd, ca, cl) else some (1, x8.2.1, x8.2.2.1, x8.2.2.2.1, cw, cr, x8.2.2.2.2, ck, cs, ckd, ca, cl)) := by
  have hF : ∀ q, q < 7 → 6 ≠ q → wd n lt q i = false := fun q hq hne => wd_one (by omega) hq h hne
  unfold f_T_isStatement
  rw [z_isSpelt hn hl (show 0 < 7 by omega) hi, Option.bind_some]
  rw [hF 0 (by omega) (by omega), if_pos bz_F]
  rw [z_takenF hn hl (show 1 < 7 by omega) hi (hF 1 (by omega) (by omega)), Option.bind_some]
  dsimp only
  rw [if_pos rfl]
  rw [z_takenF hn hl (show 2 < 7 by omega) hi (hF 2 (by omega) (by omega)), Option.bind_some]
  dsimp only
  rw [if_pos rfl]
  rw [z_takenF hn hl (show 3 < 7 by omega) hi (hF 3 (by omega) (by omega)), Option.bind_some]
  dsimp only
  rw [if_pos rfl]
  rw [z_takenF hn hl (show 4 < 7 by omega) hi (hF 4 (by omega) (by omega)), Option.bind_some]
  dsimp only
  rw [if_pos rfl]
  rw [z_takenF hn hl (show 5 < 7 by omega) hi (hF 5 (by omega) (by omega)), Option.bind_some]
  dsimp only
  rw [if_pos rfl]
  rw [z_takenT hn hl (show 6 < 7 by omega) hi h, Option.bind_some]
  dsimp only
  rw [if_neg ne10]
theorem c_none {i : Nat} (hn : n ≤ 250) (hl : ∀ j, 0 ≤ lt j ∧ lt j ≤ 255) (hi : i ≤ n) (hF : ∀ q, q < 7 → wd n lt q i = false) : f_T_isStatement (iz n) (iz (tk n lt i)) (iz ((i : Nat) : Int)) (iz ((en n lt i : Nat) : Int)) (ar lt) cw cr ce ck cs ckd ca cl = some (0, iz (tk n lt i), iz i, iz ((en n lt i : Nat) : Int), cw, cr, ce, ck, cs, ckd, ca, cl) := by
  unfold f_T_isStatement
  rw [z_isSpelt hn hl (show 0 < 7 by omega) hi, Option.bind_some, hF 0 (by omega), if_pos bz_F]
  rw [z_takenF hn hl (show 1 < 7 by omega) hi (hF 1 (by omega)), Option.bind_some]
  dsimp only
  rw [if_pos rfl]
  rw [z_takenF hn hl (show 2 < 7 by omega) hi (hF 2 (by omega)), Option.bind_some]
  dsimp only
  rw [if_pos rfl]
  rw [z_takenF hn hl (show 3 < 7 by omega) hi (hF 3 (by omega)), Option.bind_some]
  dsimp only
  rw [if_pos rfl]
  rw [z_takenF hn hl (show 4 < 7 by omega) hi (hF 4 (by omega)), Option.bind_some]
  dsimp only
  rw [if_pos rfl]
  rw [z_takenF hn hl (show 5 < 7 by omega) hi (hF 5 (by omega)), Option.bind_some]
  dsimp only
  rw [if_pos rfl]
  rw [z_takenF hn hl (show 6 < 7 by omega) hi (hF 6 (by omega)), Option.bind_some]
  dsimp only
  rw [if_pos rfl]
theorem r_side {i : Nat} {v : Int32} (hn : n ≤ 250) (hl : ∀ j, 0 ≤ lt j ∧ lt j ≤ 255) (hi : i ≤ n) (h : wd n lt 2 i = true) : f_R_statement cw cr ce ck (iz n) (iz i) (iz ((en n lt i : Nat) : Int)) (iz (rtok n lt i)) v cs ckd ca cl (ar lt) = ((f_R_number 2 6 (iz n) (iz i) (iz ((en n lt i : Nat) : Int)) (iz (rtok n lt i)) v (ar lt)).bind fun x20 => if x20.1 = -1 then some (0, cw, cr, ce, ck, x20.2.1, x20.2.2.1, x20.2.2.2.1, x20.2.2.2.2, cs, ckd, ca, cl) else (f_R_sides x20.1 cw cs).bind fun x21 => some (1, x21.2.1, cr, ce, ck, x20.2.1, x20.2.2.1, x20.2.2.2.1, x20.2.2.2.2, x21.2.2, ckd, ca, cl)) := by
  unfold f_R_statement
  rw [y_isWord hn hl (show 2 < 7 by omega) hi, Option.bind_some, h, if_neg bzT]
theorem r_gravel {i : Nat} {v : Int32} (hn : n ≤ 250) (hl : ∀ j, 0 ≤ lt j ∧ lt j ≤ 255) (hi : i ≤ n) (h : wd n lt 3 i = true) : f_R_statement cw cr ce ck (iz n) (iz i) (iz ((en n lt i : Nat) : Int)) (iz (rtok n lt i)) v cs ckd ca cl (ar lt) = ((f_R_number 0 ((cw * cw) - 1) (iz n) (iz i) (iz ((en n lt i : Nat) : Int)) (iz (rtok n lt i)) v (ar lt)).bind fun x17 => if x17.1 = -1 then f_R_statement_j74 x17.1 (-1) cw cr ce ck x17.2.1 x17.2.2.1 x17.2.2.2.1 x17.2.2.2.2 cs ckd ca cl else (f_R_number 0 9 (iz n) x17.2.1 x17.2.2.1 x17.2.2.2.1 x17.2.2.2.2 (ar lt)).bind fun x18 => f_R_statement_j74 x17.1 x18.1 cw cr ce ck x18.2.1 x18.2.2.1 x18.2.2.2.1 x18.2.2.2.2 cs ckd ca cl) := by
  have hF : ∀ q, q < 7 → 3 ≠ q → wd n lt q i = false := fun q hq hne => wd_one (by omega) hq h hne
  unfold f_R_statement
  rw [y_isWord hn hl (show 2 < 7 by omega) hi, Option.bind_some, hF 2 (by omega) (by omega), if_pos bz_F]
  rw [y_isWord hn hl (show 3 < 7 by omega) hi, Option.bind_some, h, if_neg bzT]
theorem r_plank {i : Nat} {v : Int32} (hn : n ≤ 250) (hl : ∀ j, 0 ≤ lt j ∧ lt j ≤ 255) (hi : i ≤ n) (h : wd n lt 4 i = true) : f_R_statement cw cr ce ck (iz n) (iz i) (iz ((en n lt i : Nat) : Int)) (iz (rtok n lt i)) v cs ckd ca cl (ar lt) = ((f_R_number 0 ((cw * cw) - 1) (iz n) (iz i) (iz ((en n lt i : Nat) : Int)) (iz (rtok n lt i)) v (ar lt)).bind fun x15 => if x15.1 = -1 then some (0, cw, cr, ce, ck, x15.2.1, x15.2.2.1, x15.2.2.2.1, x15.2.2.2.2, cs, ckd, ca, cl) else (wr cs 36 x15.1 0).bind fun x16 => some (1, cw, cr, ce, ck, x15.2.1, x15.2.2.1, x15.2.2.2.1, x15.2.2.2.2, x16, ckd, ca, cl)) := by
  have hF : ∀ q, q < 7 → 4 ≠ q → wd n lt q i = false := fun q hq hne => wd_one (by omega) hq h hne
  unfold f_R_statement
  rw [y_isWord hn hl (show 2 < 7 by omega) hi, Option.bind_some, hF 2 (by omega) (by omega), if_pos bz_F]
  rw [y_isWord hn hl (show 3 < 7 by omega) hi, Option.bind_some, hF 3 (by omega) (by omega), if_pos bz_F]
  rw [y_isWord hn hl (show 4 < 7 by omega) hi, Option.bind_some, h, if_neg bzT]
theorem r_rake {i : Nat} {v : Int32} (hn : n ≤ 250) (hl : ∀ j, 0 ≤ lt j ∧ lt j ≤ 255) (hi : i ≤ n) (h : wd n lt 1 i = true) : f_R_statement cw cr ce ck (iz n) (iz i) (iz ((en n lt i : Nat) : Int)) (iz (rtok n lt i)) v cs ckd ca cl (ar lt) = ((f_R_rakes cw cs).bind fun x14 => some (1, cw, cr, ce, ck, iz i, iz ((en n lt i : Nat) : Int), iz (rtok n lt i), v, x14, ckd, ca, cl)) := by
  have hF : ∀ q, q < 7 → 1 ≠ q → wd n lt q i = false := fun q hq hne => wd_one (by omega) hq h hne
  unfold f_R_statement
  rw [y_isWord hn hl (show 2 < 7 by omega) hi, Option.bind_some, hF 2 (by omega) (by omega), if_pos bz_F]
  rw [y_isWord hn hl (show 3 < 7 by omega) hi, Option.bind_some, hF 3 (by omega) (by omega), if_pos bz_F]
  rw [y_isWord hn hl (show 4 < 7 by omega) hi, Option.bind_some, hF 4 (by omega) (by omega), if_pos bz_F]
  rw [y_isWord hn hl (show 1 < 7 by omega) hi, Option.bind_some, h, if_neg bzT]
theorem r_foot {i : Nat} {v : Int32} (hn : n ≤ 250) (hl : ∀ j, 0 ≤ lt j ∧ lt j ≤ 255) (hi : i ≤ n) (h : wd n lt 0 i = true) : f_R_statement cw cr ce ck (iz n) (iz i) (iz ((en n lt i : Nat) : Int)) (iz (rtok n lt i)) v cs ckd ca cl (ar lt) = (if ck = 8 then some (0, cw, cr, ce, ck, iz i, iz ((en n lt i : Nat) : Int), iz (rtok n lt i), v, cs, ckd, ca, cl) else (f_R_number 0 5 (iz n) (iz i) (iz ((en n lt i : Nat) : Int)) (iz (rtok n lt i)) v (ar lt)).bind fun x10 => if x10.1 = -1 then f_R_statement_j191 x10.1 (-1) cw cr ce ck (iz n) x10.2.1 x10.2.2.1 x10.2.2.2.1 x10.2.2.2.2 cs ckd ca cl (ar lt) else (f_R_number 0 9 (iz n) x10.2.1 x10.2.2.1 x10.2.2.2.1 x10.2.2.2.2 (ar lt)).bind fun x11 => f_R_statement_j191 x10.1 x11.1 cw cr ce ck (iz n) x11.2.1 x11.2.2.1 x11.2.2.2.1 x11.2.2.2.2 cs ckd ca cl (ar lt)) := by
  have hF : ∀ q, q < 7 → 0 ≠ q → wd n lt q i = false := fun q hq hne => wd_one (by omega) hq h hne
  unfold f_R_statement
  rw [y_isWord hn hl (show 2 < 7 by omega) hi, Option.bind_some, hF 2 (by omega) (by omega), if_pos bz_F]
  rw [y_isWord hn hl (show 3 < 7 by omega) hi, Option.bind_some, hF 3 (by omega) (by omega), if_pos bz_F]
  rw [y_isWord hn hl (show 4 < 7 by omega) hi, Option.bind_some, hF 4 (by omega) (by omega), if_pos bz_F]
  rw [y_isWord hn hl (show 1 < 7 by omega) hi, Option.bind_some, hF 1 (by omega) (by omega), if_pos bz_F]
  rw [y_isWord hn hl (show 0 < 7 by omega) hi, Option.bind_some, h, if_neg bzT]
theorem r_rain {i : Nat} {v : Int32} (hn : n ≤ 250) (hl : ∀ j, 0 ≤ lt j ∧ lt j ≤ 255) (hi : i ≤ n) (h : wd n lt 5 i = true) : f_R_statement cw cr ce ck (iz n) (iz i) (iz ((en n lt i : Nat) : Int)) (iz (rtok n lt i)) v cs ckd ca cl (ar lt) = ((f_R_number 0 9 (iz n) (iz i) (iz ((en n lt i : Nat) : Int)) (iz (rtok n lt i)) v (ar lt)).bind fun x9 => if x9.1 = -1 then some (0, cw, cr, ce, ck, x9.2.1, x9.2.2.1, x9.2.2.2.1, x9.2.2.2.2, cs, ckd, ca, cl) else some (1, cw, x9.1, ce, ck, x9.2.1, x9.2.2.1, x9.2.2.2.1, x9.2.2.2.2, cs, ckd, ca, cl)) := by
  have hF : ∀ q, q < 7 → 5 ≠ q → wd n lt q i = false := fun q hq hne => wd_one (by omega) hq h hne
  unfold f_R_statement
  rw [y_isWord hn hl (show 2 < 7 by omega) hi, Option.bind_some, hF 2 (by omega) (by omega), if_pos bz_F]
  rw [y_isWord hn hl (show 3 < 7 by omega) hi, Option.bind_some, hF 3 (by omega) (by omega), if_pos bz_F]
  rw [y_isWord hn hl (show 4 < 7 by omega) hi, Option.bind_some, hF 4 (by omega) (by omega), if_pos bz_F]
  rw [y_isWord hn hl (show 1 < 7 by omega) hi, Option.bind_some, hF 1 (by omega) (by omega), if_pos bz_F]
  rw [y_isWord hn hl (show 0 < 7 by omega) hi, Option.bind_some, hF 0 (by omega) (by omega), if_pos bz_F]
  rw [y_isWord hn hl (show 5 < 7 by omega) hi, Option.bind_some, h, if_neg bzT]
theorem r_ear {i : Nat} {v : Int32} (hn : n ≤ 250) (hl : ∀ j, 0 ≤ lt j ∧ lt j ≤ 255) (hi : i ≤ n) (h : wd n lt 6 i = true) : f_R_statement cw cr ce ck (iz n) (iz i) (iz ((en n lt i : Nat) : Int)) (iz (rtok n lt i)) v cs ckd ca cl (ar lt) = ((f_R_number 1 99 (iz n) (iz i) (iz ((en n lt i : Nat) : Int)) (iz (rtok n lt i)) v (ar lt)).bind fun x8 => if x8.1 = -1 then some (0, cw, cr, ce, ck, x8.2.1, x8.2.2.1, x8.2.2.2.1, x8.2.2.2.2, cs, ckd, ca, cl) else some (1, cw, cr, x8.1, ck, x8.2.1, x8.2.2.1, x8.2.2.2.1, x8.2.2.2.2, cs, ckd, ca, cl)) := by
  have hF : ∀ q, q < 7 → 6 ≠ q → wd n lt q i = false := fun q hq hne => wd_one (by omega) hq h hne
  unfold f_R_statement
  rw [y_isWord hn hl (show 2 < 7 by omega) hi, Option.bind_some, hF 2 (by omega) (by omega), if_pos bz_F]
  rw [y_isWord hn hl (show 3 < 7 by omega) hi, Option.bind_some, hF 3 (by omega) (by omega), if_pos bz_F]
  rw [y_isWord hn hl (show 4 < 7 by omega) hi, Option.bind_some, hF 4 (by omega) (by omega), if_pos bz_F]
  rw [y_isWord hn hl (show 1 < 7 by omega) hi, Option.bind_some, hF 1 (by omega) (by omega), if_pos bz_F]
  rw [y_isWord hn hl (show 0 < 7 by omega) hi, Option.bind_some, hF 0 (by omega) (by omega), if_pos bz_F]
  rw [y_isWord hn hl (show 5 < 7 by omega) hi, Option.bind_some, hF 5 (by omega) (by omega), if_pos bz_F]
  rw [y_isWord hn hl (show 6 < 7 by omega) hi, Option.bind_some, h, if_neg bzT]
theorem r_none {i : Nat} {v : Int32} (hn : n ≤ 250) (hl : ∀ j, 0 ≤ lt j ∧ lt j ≤ 255) (hi : i ≤ n) (hF : ∀ q, q < 7 → wd n lt q i = false) : f_R_statement cw cr ce ck (iz n) (iz i) (iz ((en n lt i : Nat) : Int)) (iz (rtok n lt i)) v cs ckd ca cl (ar lt) = some (0, cw, cr, ce, ck, iz i, iz ((en n lt i : Nat) : Int), iz (rtok n lt i), v, cs, ckd, ca, cl) := by
  unfold f_R_statement
  rw [y_isWord hn hl (show 2 < 7 by omega) hi, Option.bind_some, hF 2 (by omega), if_pos bz_F]
  rw [y_isWord hn hl (show 3 < 7 by omega) hi, Option.bind_some, hF 3 (by omega), if_pos bz_F]
  rw [y_isWord hn hl (show 4 < 7 by omega) hi, Option.bind_some, hF 4 (by omega), if_pos bz_F]
  rw [y_isWord hn hl (show 1 < 7 by omega) hi, Option.bind_some, hF 1 (by omega), if_pos bz_F]
  rw [y_isWord hn hl (show 0 < 7 by omega) hi, Option.bind_some, hF 0 (by omega), if_pos bz_F]
  rw [y_isWord hn hl (show 5 < 7 by omega) hi, Option.bind_some, hF 5 (by omega), if_pos bz_F]
  rw [y_isWord hn hl (show 6 < 7 by omega) hi, Option.bind_some, hF 6 (by omega), if_pos bz_F]
end

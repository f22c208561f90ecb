/-! the tape: a statement on both sides -/
section
variable {n : Nat} {lt : Nat → Int} {w m : Nat} {rn er : Int} {g kd a l : Nat → Int}
theorem bd26 : (0 : Int) ≤ 2 ∧ (2 : Int) ≤ 100 := by decide
theorem bd6 : (0 : Int) ≤ 6 ∧ (6 : Int) ≤ 100 := by decide
theorem bd0 : (0 : Int) ≤ 0 ∧ (0 : Int) ≤ 100 := by decide
theorem bd1 : (0 : Int) ≤ 1 ∧ (1 : Int) ≤ 100 := by decide
theorem bd5 : (0 : Int) ≤ 5 ∧ (5 : Int) ≤ 100 := by decide
theorem bd9 : (0 : Int) ≤ 9 ∧ (9 : Int) ≤ 100 := by decide
theorem bd99 : (0 : Int) ≤ 99 ∧ (99 : Int) ≤ 100 := by decide
theorem st_side {i : Nat} (hn : n ≤ 250) (hl : ∀ j, 0 ≤ lt j ∧ lt j ≤ 255) (hi : i ≤ n) (hI : Iv w rn er m g kd a l) (v : Int32) (h : wd n lt 2 i = true) : StO n lt i m (cSt n lt i w rn er m g kd a l) (rSt n lt i w rn er m g kd a l v) := by
  obtain ⟨b1, b2, b3⟩ := wd_in hi h
  obtain ⟨hw, hrn, her, hm, hg, hkd, ha, hll, hl1, hg0, h80⟩ := id hI
  obtain ⟨c1, c2⟩ : en n lt i ≤ nxt n lt i ∧ nxt n lt i ≤ n := sk_bd (lt := lt) b3
  obtain ⟨e1, e2, e3⟩ := en_bd (lt := lt) c2
  obtain ⟨d1, d2⟩ : en n lt (nxt n lt i) ≤ nxt n lt (nxt n lt i) ∧ nxt n lt (nxt n lt i) ≤ n := sk_bd (lt := lt) e2
  cases hb : nbk n lt (nxt n lt i) 2 6 with
  | true =>
    obtain ⟨v1, v2, v3⟩ := nbk_v hb
    obtain ⟨nv, hnv, env⟩ := natZ (v := val n lt (nxt n lt i)) (n := 7) (by omega)
    refine ⟨true, nxt n lt (nxt n lt i), en n lt (nxt n lt i), nv, rn, er, m, fill3 36 g, kd, a, l, iz ((nxt n lt i : Nat) : Int), iz (rtok n lt (nxt n lt i)), iz (val n lt (nxt n lt i)), ?_, ?_, ⟨by omega, hrn, her, hm, fun j => ?_, hkd, ha, hll, hl1, fun j hj => ?_, h80⟩, e2, d2, Nat.le_refl m, fun _ => ⟨by omega, rfl⟩, fun z => by cases z⟩
    · unfold cSt
      rw [c_side hn hl hi h, z_sideT hn hl c2 hb, Option.bind_some]
      dsimp only
      rw [zr1, Option.bind_some, env]
      rfl
    · unfold rSt
      rw [r_side hn hl hi h, y_nT (i := nxt n lt i) l_2 l_6 hn hl b3 rfl bd26 bd6 hb, Option.bind_some]
      dsimp only
      rw [if_neg (ne_m1 (by omega))]
      unfold f_R_sides
      rw [show f_R_sides_l12 0 (ar g) = _ from y_sidesL g, Option.bind_some, Option.bind_some, env]
      rfl
    · unfold fill3; split
      · omega
      · exact hg j
    · unfold fill3; rw [if_neg (by omega)]; exact hg0 j hj
  | false =>
    obtain ⟨v', e'⟩ := y_nF (i := nxt n lt i) l_2 l_6 hn hl b3 rfl bd26 bd6 hb (iz i) (iz (rtok n lt i)) v
    refine ⟨false, nxt n lt i, en n lt (nxt n lt i), w, rn, er, m, g, kd, a, l, iz ((nxt n lt i : Nat) : Int), iz (rtok n lt (nxt n lt i)), v', ?_, ?_, hI, e2, c2, Nat.le_refl m, fun z => by (cases z), fun _ => rfl⟩
    · unfold cSt
      rw [c_side hn hl hi h, z_sideF hn hl c2 hb, Option.bind_some]
      dsimp only
      rw [zr0, Option.bind_some]
      rfl
    · unfold rSt
      rw [r_side hn hl hi h, e', Option.bind_some]
      dsimp only
      rw [if_pos rfl]
      rfl
theorem st_rain {i : Nat} (hn : n ≤ 250) (hl : ∀ j, 0 ≤ lt j ∧ lt j ≤ 255) (hi : i ≤ n) (hI : Iv w rn er m g kd a l) (v : Int32) (h : wd n lt 5 i = true) : StO n lt i m (cSt n lt i w rn er m g kd a l) (rSt n lt i w rn er m g kd a l v) := by
  obtain ⟨b1, b2, b3⟩ := wd_in hi h
  obtain ⟨hw, hrn, her, hm, hg, hkd, ha, hll, hl1, hg0, h80⟩ := id hI
  obtain ⟨c1, c2⟩ : en n lt i ≤ nxt n lt i ∧ nxt n lt i ≤ n := sk_bd (lt := lt) b3
  obtain ⟨e1, e2, e3⟩ := en_bd (lt := lt) c2
  obtain ⟨d1, d2⟩ : en n lt (nxt n lt i) ≤ nxt n lt (nxt n lt i) ∧ nxt n lt (nxt n lt i) ≤ n := sk_bd (lt := lt) e2
  cases hb : nbk n lt (nxt n lt i) 0 9 with
  | true =>
    obtain ⟨v1, v2, v3⟩ := nbk_v hb
    refine ⟨true, nxt n lt (nxt n lt i), en n lt (nxt n lt i), w, val n lt (nxt n lt i), er, m, g, kd, a, l, iz ((nxt n lt i : Nat) : Int), iz (rtok n lt (nxt n lt i)), iz (val n lt (nxt n lt i)), ?_, ?_, ⟨hw, by omega, her, hm, hg, hkd, ha, hll, hl1, hg0, h80⟩, e2, d2, Nat.le_refl m, fun _ => ⟨by omega, rfl⟩, fun z => by cases z⟩
    · unfold cSt
      rw [c_rain hn hl hi h, z_rainT hn hl c2 hb, Option.bind_some]
      dsimp only
      rw [zr1, Option.bind_some]
      rfl
    · unfold rSt
      rw [r_rain hn hl hi h, y_nT (i := nxt n lt i) l_0 l_9 hn hl b3 rfl bd0 bd9 hb, Option.bind_some]
      dsimp only
      rw [if_neg (ne_m1 (by omega))]
      rfl
  | false =>
    obtain ⟨v', e'⟩ := y_nF (i := nxt n lt i) l_0 l_9 hn hl b3 rfl bd0 bd9 hb (iz i) (iz (rtok n lt i)) v
    refine ⟨false, nxt n lt i, en n lt (nxt n lt i), w, rn, er, m, g, kd, a, l, iz ((nxt n lt i : Nat) : Int), iz (rtok n lt (nxt n lt i)), v', ?_, ?_, hI, e2, c2, Nat.le_refl m, fun z => by (cases z), fun _ => rfl⟩
    · unfold cSt
      rw [c_rain hn hl hi h, z_rainF hn hl c2 hb, Option.bind_some]
      dsimp only
      rw [zr0, Option.bind_some]
      rfl
    · unfold rSt
      rw [r_rain hn hl hi h, e', Option.bind_some]
      dsimp only
      rw [if_pos rfl]
      rfl
theorem st_ear {i : Nat} (hn : n ≤ 250) (hl : ∀ j, 0 ≤ lt j ∧ lt j ≤ 255) (hi : i ≤ n) (hI : Iv w rn er m g kd a l) (v : Int32) (h : wd n lt 6 i = true) : StO n lt i m (cSt n lt i w rn er m g kd a l) (rSt n lt i w rn er m g kd a l v) := by
  obtain ⟨b1, b2, b3⟩ := wd_in hi h
  obtain ⟨hw, hrn, her, hm, hg, hkd, ha, hll, hl1, hg0, h80⟩ := id hI
  obtain ⟨c1, c2⟩ : en n lt i ≤ nxt n lt i ∧ nxt n lt i ≤ n := sk_bd (lt := lt) b3
  obtain ⟨e1, e2, e3⟩ := en_bd (lt := lt) c2
  obtain ⟨d1, d2⟩ : en n lt (nxt n lt i) ≤ nxt n lt (nxt n lt i) ∧ nxt n lt (nxt n lt i) ≤ n := sk_bd (lt := lt) e2
  cases hb : nbk n lt (nxt n lt i) 1 99 with
  | true =>
    obtain ⟨v1, v2, v3⟩ := nbk_v hb
    refine ⟨true, nxt n lt (nxt n lt i), en n lt (nxt n lt i), w, rn, val n lt (nxt n lt i), m, g, kd, a, l, iz ((nxt n lt i : Nat) : Int), iz (rtok n lt (nxt n lt i)), iz (val n lt (nxt n lt i)), ?_, ?_, ⟨hw, hrn, by omega, hm, hg, hkd, ha, hll, hl1, hg0, h80⟩, e2, d2, Nat.le_refl m, fun _ => ⟨by omega, rfl⟩, fun z => by cases z⟩
    · unfold cSt
      rw [c_ear hn hl hi h, z_earT hn hl c2 hb, Option.bind_some]
      dsimp only
      rw [if_neg ne10]
      rfl
    · unfold rSt
      rw [r_ear hn hl hi h, y_nT (i := nxt n lt i) l_1 l_99 hn hl b3 rfl bd1 bd99 hb, Option.bind_some]
      dsimp only
      rw [if_neg (ne_m1 (by omega))]
      rfl
  | false =>
    obtain ⟨v', e'⟩ := y_nF (i := nxt n lt i) l_1 l_99 hn hl b3 rfl bd1 bd99 hb (iz i) (iz (rtok n lt i)) v
    refine ⟨false, nxt n lt i, en n lt (nxt n lt i), w, rn, er, m, g, kd, a, l, iz ((nxt n lt i : Nat) : Int), iz (rtok n lt (nxt n lt i)), v', ?_, ?_, hI, e2, c2, Nat.le_refl m, fun z => by (cases z), fun _ => rfl⟩
    · unfold cSt
      rw [c_ear hn hl hi h, z_earF hn hl c2 hb, Option.bind_some]
      dsimp only
      rw [if_pos rfl]
      rfl
    · unfold rSt
      rw [r_ear hn hl hi h, e', Option.bind_some]
      dsimp only
      rw [if_pos rfl]
      rfl
theorem st_plank {i : Nat} (hn : n ≤ 250) (hl : ∀ j, 0 ≤ lt j ∧ lt j ≤ 255) (hi : i ≤ n) (hI : Iv w rn er m g kd a l) (v : Int32) (h : wd n lt 4 i = true) : StO n lt i m (cSt n lt i w rn er m g kd a l) (rSt n lt i w rn er m g kd a l v) := by
  obtain ⟨b1, b2, b3⟩ := wd_in hi h
  obtain ⟨hw, hrn, her, hm, hg, hkd, ha, hll, hl1, hg0, h80⟩ := id hI
  obtain ⟨c1, c2⟩ : en n lt i ≤ nxt n lt i ∧ nxt n lt i ≤ n := sk_bd (lt := lt) b3
  obtain ⟨e1, e2, e3⟩ := en_bd (lt := lt) c2
  obtain ⟨d1, d2⟩ : en n lt (nxt n lt i) ≤ nxt n lt (nxt n lt i) ∧ nxt n lt (nxt n lt i) ≤ n := sk_bd (lt := lt) e2
  have h36 := sq_le hw
  have hp : 0 < w * w := Nat.mul_pos (by omega) (by omega)
  have hcb : 0 ≤ ((w * w : Nat) : Int) - 1 ∧ ((w * w : Nat) : Int) - 1 ≤ 100 := by omega
  cases hb : nbk n lt (nxt n lt i) 0 (((w * w : Nat) : Int) - 1) with
  | true =>
    obtain ⟨v1, v2, v3⟩ := nbk_v hb
    obtain ⟨c, hc, ec⟩ := natZ (v := val n lt (nxt n lt i)) (n := w * w) (by omega)
    refine ⟨true, nxt n lt (nxt n lt i), en n lt (nxt n lt i), w, rn, er, m, upz g c 0, kd, a, l, iz ((nxt n lt i : Nat) : Int), iz (rtok n lt (nxt n lt i)), iz (val n lt (nxt n lt i)), ?_, ?_, ⟨hw, hrn, her, hm, upz_bd hg (by omega), hkd, ha, hll, hl1, fun j hj => by rw [upz_ne (by omega)]; exact hg0 j hj, h80⟩, e2, d2, Nat.le_refl m, fun _ => ⟨by omega, rfl⟩, fun z => by cases z⟩
    · unfold cSt
      rw [c_plank hn hl hi h, z_plankT hw hn hl c2 hb ec, Option.bind_some]
      dsimp only
      rw [zr1, Option.bind_some]
      rfl
    · unfold rSt
      rw [r_plank hn hl hi h, sqz, cells1, y_nT (i := nxt n lt i) l_0 rfl hn hl b3 rfl bd0 hcb hb, Option.bind_some]
      dsimp only
      rw [if_neg (ne_m1 (by omega)), ec, wrn _ (by omega) (by omega), l_0, upd_ar, Option.bind_some]
      rfl
  | false =>
    obtain ⟨v', e'⟩ := y_nF (i := nxt n lt i) l_0 rfl hn hl b3 rfl bd0 hcb hb (iz i) (iz (rtok n lt i)) v
    refine ⟨false, nxt n lt i, en n lt (nxt n lt i), w, rn, er, m, g, kd, a, l, iz ((nxt n lt i : Nat) : Int), iz (rtok n lt (nxt n lt i)), v', ?_, ?_, hI, e2, c2, Nat.le_refl m, fun z => by (cases z), fun _ => rfl⟩
    · unfold cSt
      rw [c_plank hn hl hi h, z_plankF hw hn hl c2 hb, Option.bind_some]
      dsimp only
      rw [zr0, Option.bind_some]
      rfl
    · unfold rSt
      rw [r_plank hn hl hi h, sqz, cells1, e', Option.bind_some]
      dsimp only
      rw [if_pos rfl]
      rfl
theorem st_rake {i : Nat} (hn : n ≤ 250) (hl : ∀ j, 0 ≤ lt j ∧ lt j ≤ 255) (hi : i ≤ n) (hI : Iv w rn er m g kd a l) (v : Int32) (h : wd n lt 1 i = true) : StO n lt i m (cSt n lt i w rn er m g kd a l) (rSt n lt i w rn er m g kd a l v) := by
  obtain ⟨b1, b2, b3⟩ := wd_in hi h
  obtain ⟨hw, hrn, her, hm, hg, hkd, ha, hll, hl1, hg0, h80⟩ := id hI
  obtain ⟨c1, c2⟩ : en n lt i ≤ nxt n lt i ∧ nxt n lt i ≤ n := sk_bd (lt := lt) b3
  obtain ⟨r1, r2, r3, r4⟩ := z_rakeAll hw hg hg0
  refine ⟨true, nxt n lt i, en n lt i, w, rn, er, m, fo rk (w * w) g, kd, a, l, iz i, iz (rtok n lt i), v, ?_, ?_, ⟨hw, hrn, her, hm, r3, hkd, ha, hll, hl1, r4, h80⟩, b3, c2, Nat.le_refl m, fun _ => ⟨by omega, rfl⟩, fun z => by cases z⟩
  · unfold cSt
    rw [c_rake hn hl hi h, r1, Option.bind_some]
    rfl
  · unfold rSt
    rw [r_rake hn hl hi h, r2, Option.bind_some]
    rfl
theorem st_gravel {i : Nat} (hn : n ≤ 250) (hl : ∀ j, 0 ≤ lt j ∧ lt j ≤ 255) (hi : i ≤ n) (hI : Iv w rn er m g kd a l) (v : Int32) (h : wd n lt 3 i = true) : StO n lt i m (cSt n lt i w rn er m g kd a l) (rSt n lt i w rn er m g kd a l v) := by
  obtain ⟨b1, b2, b3⟩ := wd_in hi h
  obtain ⟨hw, hrn, her, hm, hg, hkd, ha, hll, hl1, hg0, h80⟩ := id hI
  obtain ⟨c1, c2⟩ : en n lt i ≤ nxt n lt i ∧ nxt n lt i ≤ n := sk_bd (lt := lt) b3
  obtain ⟨e1, e2, e3⟩ := en_bd (lt := lt) c2
  obtain ⟨d1, d2⟩ : en n lt (nxt n lt i) ≤ nxt n lt (nxt n lt i) ∧ nxt n lt (nxt n lt i) ≤ n := sk_bd (lt := lt) e2
  obtain ⟨e4, e5, e6⟩ := en_bd (lt := lt) d2
  obtain ⟨d3, d4⟩ : en n lt (nxt n lt (nxt n lt i)) ≤ nxt n lt (nxt n lt (nxt n lt i)) ∧ nxt n lt (nxt n lt (nxt n lt i)) ≤ n := sk_bd (lt := lt) e5
  have h36 := sq_le hw
  have hp : 0 < w * w := Nat.mul_pos (by omega) (by omega)
  have hcb : 0 ≤ ((w * w : Nat) : Int) - 1 ∧ ((w * w : Nat) : Int) - 1 ≤ 100 := by omega
  cases hb : nbk n lt (nxt n lt i) 0 (((w * w : Nat) : Int) - 1) with
  | true =>
    obtain ⟨v1, v2, v3⟩ := nbk_v hb
    obtain ⟨c, hc, ec⟩ := natZ (v := val n lt (nxt n lt i)) (n := w * w) (by omega)
    cases hb2 : nbk n lt (nxt n lt (nxt n lt i)) 0 9 with
    | true =>
      obtain ⟨v4, v5, v6⟩ := nbk_v hb2
      refine ⟨true, nxt n lt (nxt n lt (nxt n lt i)), en n lt (nxt n lt (nxt n lt i)), w, rn, er, m, upz g c (val n lt (nxt n lt (nxt n lt i))), kd, a, l, iz ((nxt n lt (nxt n lt i) : Nat) : Int), iz (rtok n lt (nxt n lt (nxt n lt i))), iz (val n lt (nxt n lt (nxt n lt i))), ?_, ?_, ⟨hw, hrn, her, hm, upz_bd hg (by omega), hkd, ha, hll, hl1, fun j hj => by rw [upz_ne (by omega)]; exact hg0 j hj, h80⟩, e5, d4, Nat.le_refl m, fun _ => ⟨by omega, rfl⟩, fun z => by cases z⟩
      · unfold cSt
        rw [c_gravel hn hl hi h, z_gravelT hw hn hl c2 hb ec hb2, Option.bind_some]
        dsimp only
        rw [zr1, Option.bind_some]
        rfl
      · unfold rSt
        rw [r_gravel hn hl hi h, sqz, cells1, y_nT (i := nxt n lt i) l_0 rfl hn hl b3 rfl bd0 hcb hb, Option.bind_some]
        dsimp only
        rw [if_neg (ne_m1 (by omega)), y_nT (i := nxt n lt (nxt n lt i)) l_0 l_9 hn hl e2 rfl bd0 bd9 hb2, Option.bind_some]
        dsimp only
        unfold f_R_statement_j74
        rw [if_neg (ne_m1 (by omega)), ec, wrn _ (by omega) (by omega), upd_ar, Option.bind_some]
        rfl
    | false =>
      obtain ⟨v', e'⟩ := y_nF (i := nxt n lt (nxt n lt i)) l_0 l_9 hn hl e2 rfl bd0 bd9 hb2 (iz ((nxt n lt i : Nat) : Int)) (iz (rtok n lt (nxt n lt i))) (iz (val n lt (nxt n lt i)))
      refine ⟨false, nxt n lt (nxt n lt i), en n lt (nxt n lt (nxt n lt i)), w, rn, er, m, g, kd, a, l, iz ((nxt n lt (nxt n lt i) : Nat) : Int), iz (rtok n lt (nxt n lt (nxt n lt i))), v', ?_, ?_, hI, e5, d2, Nat.le_refl m, fun z => by (cases z), fun _ => rfl⟩
      · unfold cSt
        rw [c_gravel hn hl hi h, z_gravelF2 hw hn hl c2 hb hb2, Option.bind_some]
        dsimp only
        rw [zr0, Option.bind_some]
        rfl
      · unfold rSt
        rw [r_gravel hn hl hi h, sqz, cells1, y_nT (i := nxt n lt i) l_0 rfl hn hl b3 rfl bd0 hcb hb, Option.bind_some]
        dsimp only
        rw [if_neg (ne_m1 (by omega)), e', Option.bind_some]
        dsimp only
        unfold f_R_statement_j74
        rw [if_pos rfl]
        rfl
  | false =>
    obtain ⟨v', e'⟩ := y_nF (i := nxt n lt i) l_0 rfl hn hl b3 rfl bd0 hcb hb (iz i) (iz (rtok n lt i)) v
    refine ⟨false, nxt n lt i, en n lt (nxt n lt i), w, rn, er, m, g, kd, a, l, iz ((nxt n lt i : Nat) : Int), iz (rtok n lt (nxt n lt i)), v', ?_, ?_, hI, e2, c2, Nat.le_refl m, fun z => by (cases z), fun _ => rfl⟩
    · unfold cSt
      rw [c_gravel hn hl hi h, z_gravelF hw hn hl c2 hb, Option.bind_some]
      dsimp only
      rw [zr0, Option.bind_some]
      rfl
    · unfold rSt
      rw [r_gravel hn hl hi h, sqz, cells1, e', Option.bind_some]
      dsimp only
      rw [if_pos rfl]
      unfold f_R_statement_j74
      rw [if_pos rfl]
      rfl
theorem st_foot {i : Nat} (hn : n ≤ 250) (hl : ∀ j, 0 ≤ lt j ∧ lt j ≤ 255) (hi : i ≤ n) (hI : Iv w rn er m g kd a l) (v : Int32) (h : wd n lt 0 i = true) : StO n lt i m (cSt n lt i w rn er m g kd a l) (rSt n lt i w rn er m g kd a l v) := by
  obtain ⟨b1, b2, b3⟩ := wd_in hi h
  obtain ⟨hw, hrn, her, hm, hg, hkd, ha, hll, hl1, hg0, h80⟩ := id hI
  obtain ⟨c1, c2⟩ : en n lt i ≤ nxt n lt i ∧ nxt n lt i ≤ n := sk_bd (lt := lt) b3
  obtain ⟨e1, e2, e3⟩ := en_bd (lt := lt) c2
  obtain ⟨d1, d2⟩ : en n lt (nxt n lt i) ≤ nxt n lt (nxt n lt i) ∧ nxt n lt (nxt n lt i) ≤ n := sk_bd (lt := lt) e2
  obtain ⟨e4, e5, e6⟩ := en_bd (lt := lt) d2
  obtain ⟨d3, d4⟩ : en n lt (nxt n lt (nxt n lt i)) ≤ nxt n lt (nxt n lt (nxt n lt i)) ∧ nxt n lt (nxt n lt (nxt n lt i)) ≤ n := sk_bd (lt := lt) e5
  obtain ⟨e7, e8, e9⟩ := en_bd (lt := lt) d4
  obtain ⟨d5, d6⟩ : en n lt (nxt n lt (nxt n lt (nxt n lt i))) ≤ nxt n lt (nxt n lt (nxt n lt (nxt n lt i))) ∧ nxt n lt (nxt n lt (nxt n lt (nxt n lt i))) ≤ n := sk_bd (lt := lt) e8
  by_cases h8 : m = 8
  · have ef : f_D_isFull (iz m) = some 1 := by
      unfold f_D_isFull
      rw [if_neg (by rw [l_8, iz_lt (by omega) (by omega)]; omega)]
    refine ⟨false, i, en n lt i, w, rn, er, m, g, kd, a, l, iz i, iz (rtok n lt i), v, ?_, ?_, hI, b3, hi, Nat.le_refl m, fun z => by (cases z), fun _ => rfl⟩
    · unfold cSt
      rw [c_foot hn hl hi h, ef, Option.bind_some, if_neg ne10]
      rfl
    · unfold rSt
      rw [r_foot hn hl hi h, if_pos (by rw [h8]; rfl)]
      rfl
  · have ef : f_D_isFull (iz m) = some 0 := by
      unfold f_D_isFull
      rw [if_pos (by rw [l_8, iz_lt (by omega) (by omega)]; omega)]
    have e8n : ¬ iz (m : Int) = 8 := by rw [l_8, iz_eq (by omega) (by omega)]; omega
    cases hb : nbk n lt (nxt n lt i) 0 5 with
    | true =>
      obtain ⟨v1, v2, v3⟩ := nbk_v hb
      cases hb2 : nbk n lt (nxt n lt (nxt n lt i)) 0 9 with
      | true =>
        obtain ⟨v4, v5, v6⟩ := nbk_v hb2
        cases hb3 : nbk n lt (nxt n lt (nxt n lt (nxt n lt i))) 1 99 with
        | true =>
          obtain ⟨v7, v8, v9⟩ := nbk_v hb3
          refine ⟨true, nxt n lt (nxt n lt (nxt n lt (nxt n lt i))), en n lt (nxt n lt (nxt n lt (nxt n lt i))), w, rn, er, m + 1, g, upz kd m (val n lt (nxt n lt i)), upz a m (val n lt (nxt n lt (nxt n lt i))), upz l m (val n lt (nxt n lt (nxt n lt (nxt n lt i)))), iz ((nxt n lt (nxt n lt (nxt n lt i)) : Nat) : Int), iz (rtok n lt (nxt n lt (nxt n lt (nxt n lt i)))), iz (val n lt (nxt n lt (nxt n lt (nxt n lt i)))), ?_, ?_, ⟨hw, hrn, her, by omega, hg, upz_bd hkd (by omega), upz_bd ha (by omega), upz_bd hll (by omega), fun j hj => ?_, hg0, fun j hj => ?_⟩, e8, d6, Nat.le_succ m, fun _ => ⟨by omega, rfl⟩, fun z => by cases z⟩
          · unfold cSt
            rw [c_foot hn hl hi h, ef, Option.bind_some, if_pos rfl, z_footT hn hl hi (by omega) hb hb2 hb3, Option.bind_some]
            dsimp only
            rw [if_neg ne10]
            rfl
          · unfold rSt
            rw [r_foot hn hl hi h, if_neg e8n, y_nT (i := nxt n lt i) l_0 l_5 hn hl b3 rfl bd0 bd5 hb, Option.bind_some]
            dsimp only
            rw [if_neg (ne_m1 (by omega)), y_nT (i := nxt n lt (nxt n lt i)) l_0 l_9 hn hl e2 rfl bd0 bd9 hb2, Option.bind_some]
            dsimp only
            unfold f_R_statement_j191
            rw [if_neg (ne_m1 (by omega)), y_nT (i := nxt n lt (nxt n lt (nxt n lt i))) l_1 l_99 hn hl e5 rfl bd1 bd99 hb3, Option.bind_some]
            dsimp only
            unfold f_R_statement_j208
            rw [if_neg (ne_m1 (by omega)), y_newFeet (by omega), Option.bind_some]
            rfl
          · by_cases q : j = m
            · rw [q, upz_same]; omega
            · rw [upz_ne q]; exact hl1 j (by omega)
          · rw [upz_ne (by omega), upz_ne (by omega), upz_ne (by omega)]; exact h80 j hj
        | false =>
          obtain ⟨v', e'⟩ := y_nF (i := nxt n lt (nxt n lt (nxt n lt i))) l_1 l_99 hn hl e5 rfl bd1 bd99 hb3 (iz ((nxt n lt (nxt n lt i) : Nat) : Int)) (iz (rtok n lt (nxt n lt (nxt n lt i)))) (iz (val n lt (nxt n lt (nxt n lt i))))
          refine ⟨false, nxt n lt (nxt n lt (nxt n lt i)), en n lt (nxt n lt (nxt n lt (nxt n lt i))), w, rn, er, m, g, kd, a, l, iz ((nxt n lt (nxt n lt (nxt n lt i)) : Nat) : Int), iz (rtok n lt (nxt n lt (nxt n lt (nxt n lt i)))), v', ?_, ?_, hI, e8, d4, Nat.le_refl m, fun z => by (cases z), fun _ => rfl⟩
          · unfold cSt
            rw [c_foot hn hl hi h, ef, Option.bind_some, if_pos rfl, z_footF3 hn hl hi hb hb2 hb3, Option.bind_some]
            dsimp only
            rw [if_pos rfl]
            rfl
          · unfold rSt
            rw [r_foot hn hl hi h, if_neg e8n, y_nT (i := nxt n lt i) l_0 l_5 hn hl b3 rfl bd0 bd5 hb, Option.bind_some]
            dsimp only
            rw [if_neg (ne_m1 (by omega)), y_nT (i := nxt n lt (nxt n lt i)) l_0 l_9 hn hl e2 rfl bd0 bd9 hb2, Option.bind_some]
            dsimp only
            unfold f_R_statement_j191
            rw [if_neg (ne_m1 (by omega)), e', Option.bind_some]
            dsimp only
            unfold f_R_statement_j208
            rw [if_pos rfl]
            rfl
      | false =>
        obtain ⟨v', e'⟩ := y_nF (i := nxt n lt (nxt n lt i)) l_0 l_9 hn hl e2 rfl bd0 bd9 hb2 (iz ((nxt n lt i : Nat) : Int)) (iz (rtok n lt (nxt n lt i))) (iz (val n lt (nxt n lt i)))
        refine ⟨false, nxt n lt (nxt n lt i), en n lt (nxt n lt (nxt n lt i)), w, rn, er, m, g, kd, a, l, iz ((nxt n lt (nxt n lt i) : Nat) : Int), iz (rtok n lt (nxt n lt (nxt n lt i))), v', ?_, ?_, hI, e5, d2, Nat.le_refl m, fun z => by (cases z), fun _ => rfl⟩
        · unfold cSt
          rw [c_foot hn hl hi h, ef, Option.bind_some, if_pos rfl, z_footF2 hn hl hi hb hb2, Option.bind_some]
          dsimp only
          rw [if_pos rfl]
          rfl
        · unfold rSt
          rw [r_foot hn hl hi h, if_neg e8n, y_nT (i := nxt n lt i) l_0 l_5 hn hl b3 rfl bd0 bd5 hb, Option.bind_some]
          dsimp only
          rw [if_neg (ne_m1 (by omega)), e', Option.bind_some]
          dsimp only
          unfold f_R_statement_j191 f_R_statement_j208
          rw [if_pos rfl, if_pos rfl]
          rfl
    | false =>
      obtain ⟨v', e'⟩ := y_nF (i := nxt n lt i) l_0 l_5 hn hl b3 rfl bd0 bd5 hb (iz i) (iz (rtok n lt i)) v
      refine ⟨false, nxt n lt i, en n lt (nxt n lt i), w, rn, er, m, g, kd, a, l, iz ((nxt n lt i : Nat) : Int), iz (rtok n lt (nxt n lt i)), v', ?_, ?_, hI, e2, c2, Nat.le_refl m, fun z => by (cases z), fun _ => rfl⟩
      · unfold cSt
        rw [c_foot hn hl hi h, ef, Option.bind_some, if_pos rfl, z_footF1 hn hl hi hb, Option.bind_some]
        dsimp only
        rw [if_pos rfl]
        rfl
      · unfold rSt
        rw [r_foot hn hl hi h, if_neg e8n, e', Option.bind_some]
        dsimp only
        rw [if_pos rfl]
        unfold f_R_statement_j191 f_R_statement_j208
        rw [if_pos rfl, if_pos rfl]
        rfl
theorem st_all {i : Nat} (hn : n ≤ 250) (hl : ∀ j, 0 ≤ lt j ∧ lt j ≤ 255) (hi : i ≤ n) (hI : Iv w rn er m g kd a l) (v : Int32) : StO n lt i m (cSt n lt i w rn er m g kd a l) (rSt n lt i w rn er m g kd a l v) := by
  by_cases h0 : wd n lt 0 i = true
  · exact st_foot hn hl hi hI v h0
  by_cases h1 : wd n lt 1 i = true
  · exact st_rake hn hl hi hI v h1
  by_cases h2 : wd n lt 2 i = true
  · exact st_side hn hl hi hI v h2
  by_cases h3 : wd n lt 3 i = true
  · exact st_gravel hn hl hi hI v h3
  by_cases h4 : wd n lt 4 i = true
  · exact st_plank hn hl hi hI v h4
  by_cases h5 : wd n lt 5 i = true
  · exact st_rain hn hl hi hI v h5
  by_cases h6 : wd n lt 6 i = true
  · exact st_ear hn hl hi hI v h6
  have hF : ∀ q, q < 7 → wd n lt q i = false := fun q hq => by
    have hc : q = 0 ∨ q = 1 ∨ q = 2 ∨ q = 3 ∨ q = 4 ∨ q = 5 ∨ q = 6 := by omega
    rcases hc with rfl | rfl | rfl | rfl | rfl | rfl | rfl <;> exact Bool.eq_false_iff.mpr (by assumption)
  obtain ⟨e1, e2, e3⟩ := en_bd (lt := lt) hi
  refine ⟨false, i, en n lt i, w, rn, er, m, g, kd, a, l, iz i, iz (rtok n lt i), v, ?_, ?_, hI, e2, hi, Nat.le_refl m, fun z => by (cases z), fun _ => rfl⟩
  · exact c_none hn hl hi hF
  · exact r_none hn hl hi hF
end

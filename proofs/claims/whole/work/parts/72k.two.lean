/-! two -/
def tw (w : Nat) (rn : Int) (g kd a' T : Nat → Int) (c d f h : Nat) (k : Nat) : Bool := decide (cst w rn g kd a' f c k + cst w rn g kd a' h d k = T k)
def tg (w : Nat) (rn : Int) (g kd a' T : Nat → Int) (c d f h : Nat) : Bool := decide (¬ f = h) && alb (tw w rn g kd a' T c d f h) w
def pst (P : Nat → Nat → Bool) (f h : Nat) (s : Int × Int) : Int × Int := if P f h = true then (s.1 + 1, if s.1 = 0 then 10 * (f : Int) + h else s.2) else s
def PI (n : Nat) (s : Int × Int) : Prop := (0 ≤ s.1 ∧ s.1 ≤ n) ∧ ((s.1 = 0 ∧ s.2 = -1) ∨ (0 < s.1 ∧ 0 ≤ s.2 ∧ s.2 ≤ 100))
theorem PI_st {P : Nat → Nat → Bool} {f h n : Nat} {s : Int × Int} (hf : f < 8) (hh : h < 8) (hs : PI n s) : PI (n + 1) (pst P f h s) := by
  obtain ⟨h1, h2⟩ := hs
  unfold pst PI
  by_cases c : P f h = true
  · rw [if_pos c]
    refine ⟨by dsimp only; omega, Or.inr ⟨by dsimp only; omega, ?_⟩⟩
    dsimp only
    split <;> omega
  · rw [if_neg c]
    exact ⟨by omega, h2⟩
theorem PI_up {n k : Nat} {s : Int × Int} (hs : PI n s) (h : n ≤ k) : PI k s := ⟨by have := hs.1; omega, hs.2⟩
section
variable {w m : Nat} {rn : Int} {g kd a' : Nat → Int} {sz : Nat → Int} {el ro : Nat → Int64} {a f h c d : Nat} {T : Nat → Int}
theorem z_areTogether (hD : Dr w rn m g kd a') (hT : TL sz el ro a T) (hz : (w : Int) ≤ sz a) (hf : f < m) (hh : h < m) (hc : c < w) (hd : d < w) :
    f_M_areTogether (iz a) (iz f) (iz c) (iz h) (iz d) (iz w) (iz rn) (ar g) (ar kd) (ar a') (ar sz) el = some (if alb (tw w rn g kd a' T c d f h) w = false then 0 else 1) := by
  obtain ⟨hw, hrn, hm, hg, hkd, ha⟩ := id hD
  have hl := loopE (body := fun s : Int32 => f_M_areTogether_b3 (iz a) (iz f) (iz c) (iz h) (iz d) (iz w) (iz rn) (ar g) (ar kd) (ar a') (ar sz) el s) (fun k => iz k) (fun k => !tw w rn g kd a' T c d f h k) (fun _ => .inl ()) (.inr ()) w (by omega)
    (fun k hk hP => by
      have b1 := cst_bd (w := w) (kd := kd) (f := f) (c := c) (r := k) hg ha hrn.1
      have b2 := cst_bd (w := w) (kd := kd) (f := h) (c := d) (r := k) hg ha hrn.1
      have tb := (hT.2.2 k (by omega)).1
      have q : cst w rn g kd a' f c k + cst w rn g kd a' h d k = T k := by simpa [tw] using hP
      simp only [f_M_areTogether_b3, z_cellAt, Option.bind_some, z_stepC hD hf hk hc, z_stepC hD hh hk hd]
      rw [z_told hT (by omega), iz_add]
      simp only [Option.bind_some]
      rw [iz_long (by omega), if_neg (by rw [iz_le (by omega) (by omega)]; omega), if_pos (by rw [lg_eq (by omega) tb]; exact q), iz_succ])
    (fun k hk hP => by
      have b1 := cst_bd (w := w) (kd := kd) (f := f) (c := c) (r := k) hg ha hrn.1
      have b2 := cst_bd (w := w) (kd := kd) (f := h) (c := d) (r := k) hg ha hrn.1
      have tb := (hT.2.2 k (by omega)).1
      have q : ¬ cst w rn g kd a' f c k + cst w rn g kd a' h d k = T k := by simpa [tw] using hP
      simp only [f_M_areTogether_b3, z_cellAt, Option.bind_some, z_stepC hD hf hk hc, z_stepC hD hh hk hd]
      rw [z_told hT (by omega), iz_add]
      simp only [Option.bind_some]
      rw [iz_long (by omega), if_neg (by rw [iz_le (by omega) (by omega)]; omega), if_neg (by rw [lg_eq (by omega) tb]; exact q)])
    (by
      simp only [f_M_areTogether_b3]
      simp (disch := omega) only [iz_le, if_pos])
  unfold f_M_areTogether
  rw [show f_M_areTogether_l3 (iz a) (iz f) (iz c) (iz h) (iz d) (iz w) (iz rn) (ar g) (ar kd) (ar a') (ar sz) el 0 = _ from hl]
  simp only [Option.bind_some, alb_fnd]
  by_cases q : alb (tw w rn g kd a' T c d f h) w = false
  · rw [if_pos q, if_pos q]; rfl
  · rw [if_neg q, if_neg q]; rfl
theorem y_together (hD : Dr w rn m g kd a') (hT : TL sz el ro a T) (hz : (w : Int) ≤ sz a) (hf : f < m) (hh : h < m) (hc : c < w) (hd : d < w) (t0 : Int32) :
    f_R_two_l111 (iz a) (iz c) (iz d) (iz f) (iz h) (iz w) (iz rn) (ar g) (ar kd) (ar a') ro t0 (iz 0) = some (if alb (tw w rn g kd a' T c d f h) w = false then 0 else t0) := by
  obtain ⟨hw, hrn, hm, hg, hkd, ha⟩ := id hD
  exact loopS (body := fun s : Int32 × Int32 => f_R_two_b111 (iz a) (iz c) (iz d) (iz f) (iz h) (iz w) (iz rn) (ar g) (ar kd) (ar a') ro s.1 s.2) (fun k => (if alb (tw w rn g kd a' T c d f h) k = false then 0 else t0, iz k)) _ w (by omega)
    (fun k hk => by
      have b1 := cst_bd (w := w) (kd := kd) (f := f) (c := c) (r := k) hg ha hrn.1
      have b2 := cst_bd (w := w) (kd := kd) (f := h) (c := d) (r := k) hg ha hrn.1
      have tb := (hT.2.2 k (by omega)).1
      simp only [f_R_two_b111, idz]
      rw [y_told hT (by omega), y_crC hD hf hk hc, y_crC hD hh hk hd]
      simp only [Option.bind_some]
      rw [iz_add, iz_long (by omega), if_neg (by rw [iz_le (by omega) (by omega)]; omega), iz_succ]
      rw [show alb (tw w rn g kd a' T c d f h) (k + 1) = (alb (tw w rn g kd a' T c d f h) k && tw w rn g kd a' T c d f h k) from rfl]
      by_cases q : cst w rn g kd a' f c k + cst w rn g kd a' h d k = T k
      · rw [if_pos (by rw [lg_eq tb (by omega)]; omega), show tw w rn g kd a' T c d f h k = true from decide_eq_true q, Bool.and_true]
      · rw [if_neg (by rw [lg_eq tb (by omega)]; omega), show tw w rn g kd a' T c d f h k = false from decide_eq_false q, Bool.and_false, if_pos rfl])
    (by
      simp only [f_R_two_b111]
      simp (disch := omega) only [iz_le, if_pos])
theorem z_twoI (hD : Dr w rn m g kd a') (hT : TL sz el ro a T) (hz : (w : Int) ≤ sz a) (hf : f < m) (hc : c < w) (hd : d < w) (s : Int × Int) (n : Nat) (hn : n ≤ 100) (hs : PI n s) :
    f_M_two_l95 (iz a) (iz c) (iz d) (iz f) (iz w) (iz rn) (iz m) (ar g) (ar kd) (ar a') (ar sz) el (iz s.1) (iz s.2) (iz 0) = some (iz (fo (pst (tg w rn g kd a' T c d) f) m s).1, iz (fo (pst (tg w rn g kd a' T c d) f) m s).2) ∧ PI (n + m) (fo (pst (tg w rn g kd a' T c d) f) m s) := by
  obtain ⟨hw, hrn, hm, hg, hkd, ha⟩ := id hD
  exact loopFI (body := fun s : Int32 × Int32 × Int32 => f_M_two_b95 (iz a) (iz c) (iz d) (iz f) (iz w) (iz rn) (iz m) (ar g) (ar kd) (ar a') (ar sz) el s.1 s.2.1 s.2.2) (fun k s => PI (n + k) s) (fun (s : Int × Int) k => (iz s.1, iz s.2, iz k)) (pst (tg w rn g kd a' T c d) f) (fun s => (iz s.1, iz s.2)) s m (by omega) hs
    (fun k s hk hI => PI_st (by omega) (by omega) hI)
    (fun k s hk hI => by
      obtain ⟨i1, i2⟩ := hI
      simp only [f_M_two_b95, z_count hD.2.2.1, Option.bind_some]
      unfold pst tg
      rw [if_neg (by rw [iz_le (by omega) (by omega)]; omega), iz_succ, z_areTogether hD hT hz hf hk hc hd]
      simp only [Option.bind_some]
      by_cases e : f = k
      · rw [if_pos (by rw [e]), if_neg (by simp [e])]
      · rw [if_neg (by rw [iz_eq (by omega) (by omega)]; omega)]
        by_cases q : alb (tw w rn g kd a' T c d f k) w = false
        · rw [if_pos q, if_pos rfl, if_neg (by simp [q])]
        · have q2 : (decide (¬ f = k) && alb (tw w rn g kd a' T c d f k) w) = true := by simp [e]; simpa using q
          rw [if_neg q, if_neg (by decide), if_pos q2]
          dsimp only
          by_cases z : s.1 = 0
          · rw [if_pos (by rw [l_0, iz_eq (by omega) (by omega)]; exact z), if_pos z, l_1, l_10, iz_mul, iz_add, iz_add]
          · rw [if_neg (by rw [l_0, iz_eq (by omega) (by omega)]; exact z), if_neg z, l_1, iz_add])
    (fun s hI => by
      simp only [f_M_two_b95, z_count hD.2.2.1, Option.bind_some]
      simp (disch := omega) only [iz_le, if_pos])
theorem y_twoI (hD : Dr w rn m g kd a') (hT : TL sz el ro a T) (hz : (w : Int) ≤ sz a) (hf : f < m) (hc : c < w) (hd : d < w) (s : Int × Int) (n : Nat) (hn : n ≤ 100) (hs : PI n s) :
    f_R_two_l85 (iz a) (iz c) (iz d) (iz f) (iz w) (iz rn) (iz m) (ar g) (ar kd) (ar a') ro (iz s.1) (iz s.2) (iz 0) = some (iz (fo (pst (tg w rn g kd a' T c d) f) m s).1, iz (fo (pst (tg w rn g kd a' T c d) f) m s).2) := by
  obtain ⟨hw, hrn, hm, hg, hkd, ha⟩ := id hD
  exact (loopFI (body := fun s : Int32 × Int32 × Int32 => f_R_two_b85 (iz a) (iz c) (iz d) (iz f) (iz w) (iz rn) (iz m) (ar g) (ar kd) (ar a') ro s.1 s.2.1 s.2.2) (fun k s => PI (n + k) s) (fun (s : Int × Int) k => (iz s.1, iz s.2, iz k)) (pst (tg w rn g kd a' T c d) f) (fun s => (iz s.1, iz s.2)) s m (by omega) hs
    (fun k s hk hI => PI_st (by omega) (by omega) hI)
    (fun k s hk hI => by
      obtain ⟨i1, i2⟩ := hI
      simp only [f_R_two_b85, f_R_two_j106]
      unfold pst tg
      rw [if_neg (by rw [iz_le (by omega) (by omega)]; omega), iz_succ]
      rw [show f_R_two_l111 (iz a) (iz c) (iz d) (iz f) (iz k) (iz w) (iz rn) (ar g) (ar kd) (ar a') ro 0 0 = _ from y_together hD hT hz hf hk hc hd 0, show f_R_two_l111 (iz a) (iz c) (iz d) (iz f) (iz k) (iz w) (iz rn) (ar g) (ar kd) (ar a') ro 1 0 = _ from y_together hD hT hz hf hk hc hd 1]
      simp only [Option.bind_some]
      by_cases e : f = k
      · rw [if_pos (by rw [e]), ite_self, if_pos rfl, if_neg (by simp [e])]
      · rw [if_neg (by rw [iz_eq (by omega) (by omega)]; omega)]
        by_cases q : alb (tw w rn g kd a' T c d f k) w = false
        · rw [if_pos q, if_pos rfl, if_neg (by simp [q])]
        · have q2 : (decide (¬ f = k) && alb (tw w rn g kd a' T c d f k) w) = true := by simp [e]; simpa using q
          rw [if_neg q, if_neg (by decide), if_pos q2]
          dsimp only
          by_cases z : s.1 = 0
          · rw [if_pos (by rw [show (-1 : Int32) = iz (-1) from rfl, iz_eq (by omega) (by omega)]; omega), if_pos z, l_1, l_10, iz_mul, iz_add, iz_add]
          · rw [if_neg (by rw [show (-1 : Int32) = iz (-1) from rfl, iz_eq (by omega) (by omega)]; omega), if_neg z, l_1, iz_add])
    (fun s hI => by
      simp only [f_R_two_b85]
      simp (disch := omega) only [iz_le, if_pos])).1
def tws (P : Nat → Nat → Bool) (m : Nat) (f : Nat) (s : Int × Int) : Int × Int := fo (pst P f) m s
theorem z_twoL (hD : Dr w rn m g kd a') (hT : TL sz el ro a T) (hz : (w : Int) ≤ sz a) (hc : c < w) (hd : d < w) :
    f_M_two_l80 (iz a) (iz c) (iz d) (iz w) (iz rn) (iz m) (ar g) (ar kd) (ar a') (ar sz) el (iz 0) (iz (-1)) (iz 0) = some (iz (fo (tws (tg w rn g kd a' T c d) m) m (0, -1)).1, iz (fo (tws (tg w rn g kd a' T c d) m) m (0, -1)).2) := by
  obtain ⟨hw, hrn, hm, hg, hkd, ha⟩ := id hD
  exact (loopFI (body := fun s : Int32 × Int32 × Int32 => f_M_two_b80 (iz a) (iz c) (iz d) (iz w) (iz rn) (iz m) (ar g) (ar kd) (ar a') (ar sz) el s.1 s.2.1 s.2.2) (fun k s => PI (8 * k) s) (fun (s : Int × Int) k => (iz s.1, iz s.2, iz k)) (tws (tg w rn g kd a' T c d) m) (fun s => (iz s.1, iz s.2)) ((0, -1) : Int × Int) m (by omega) ⟨⟨by dsimp only; omega, by dsimp only; omega⟩, Or.inl ⟨rfl, rfl⟩⟩
    (fun k s hk hI => PI_up (z_twoI hD hT hz hk hc hd s (8 * k) (by omega) hI).2 (by omega))
    (fun k s hk hI => by
      simp only [f_M_two_b80, z_count hD.2.2.1, Option.bind_some]
      rw [show f_M_two_l95 (iz a) (iz c) (iz d) (iz k) (iz w) (iz rn) (iz m) (ar g) (ar kd) (ar a') (ar sz) el (iz s.1) (iz s.2) 0 = _ from (z_twoI hD hT hz hk hc hd s (8 * k) (by omega) hI).1]
      rw [if_neg (by rw [iz_le (by omega) (by omega)]; omega), iz_succ]
      rfl)
    (fun s hI => by
      simp only [f_M_two_b80, z_count hD.2.2.1, Option.bind_some]
      simp (disch := omega) only [iz_le, if_pos])).1
theorem y_twoL (hD : Dr w rn m g kd a') (hT : TL sz el ro a T) (hz : (w : Int) ≤ sz a) (hc : c < w) (hd : d < w) :
    f_R_two_l73 (iz a) (iz c) (iz d) (iz w) (iz rn) (iz m) (ar g) (ar kd) (ar a') ro (iz 0) (iz (-1)) (iz 0) = some (iz (fo (tws (tg w rn g kd a' T c d) m) m (0, -1)).1, iz (fo (tws (tg w rn g kd a' T c d) m) m (0, -1)).2) := by
  obtain ⟨hw, hrn, hm, hg, hkd, ha⟩ := id hD
  exact (loopFI (body := fun s : Int32 × Int32 × Int32 => f_R_two_b73 (iz a) (iz c) (iz d) (iz w) (iz rn) (iz m) (ar g) (ar kd) (ar a') ro s.1 s.2.1 s.2.2) (fun k s => PI (8 * k) s) (fun (s : Int × Int) k => (iz s.1, iz s.2, iz k)) (tws (tg w rn g kd a' T c d) m) (fun s => (iz s.1, iz s.2)) ((0, -1) : Int × Int) m (by omega) ⟨⟨by dsimp only; omega, by dsimp only; omega⟩, Or.inl ⟨rfl, rfl⟩⟩
    (fun k s hk hI => PI_up (z_twoI hD hT hz hk hc hd s (8 * k) (by omega) hI).2 (by omega))
    (fun k s hk hI => by
      simp only [f_R_two_b73]
      rw [show f_R_two_l85 (iz a) (iz c) (iz d) (iz k) (iz w) (iz rn) (iz m) (ar g) (ar kd) (ar a') ro (iz s.1) (iz s.2) 0 = _ from y_twoI hD hT hz hk hc hd s (8 * k) (by omega) hI]
      rw [if_neg (by rw [iz_le (by omega) (by omega)]; omega), iz_succ]
      rfl)
    (fun s hI => by
      simp only [f_R_two_b73]
      simp (disch := omega) only [iz_le, if_pos])).1
end
theorem q_two {w m : Nat} {rn : Int} {g kd a : Nat → Int} {mk sz rl : Nat → Int} {el ro : Nat → Int64} {rm rr : Nat → Int32} (hD : Dr w rn m g kd a) (hsi : SI m mk sz rl el ro) (hr : RF rm rr) (v1 v2 v3 v4 : Int32) :
    ∃ ans rm' rr', f_M_two v1 v2 v3 v4 (iz w) (iz rn) (iz m) (ar g) (ar kd) (ar a) (ar mk) (ar sz) el rm = some (ans, rm') ∧ f_R_two v1 v2 v3 v4 (iz w) (iz rn) (iz m) (ar g) (ar kd) (ar a) (ar mk) (ar rl) ro rr = some (ans, rr') ∧ RF rm' rr' := by
  obtain ⟨hw, hrn, hm, hg, hkd, ha⟩ := id hD
  obtain ⟨s, hs, rfl⟩ := anyI v1
  obtain ⟨t, ht, rfl⟩ := anyI v2
  obtain ⟨x, hx, rfl⟩ := anyI v3
  obtain ⟨y, hy, rfl⟩ := anyI v4
  obtain ⟨m2, r2, e1, e2, hr2⟩ := z_ref (why := -2) (by omega) hr
  unfold f_M_two f_R_two f_M_two_j38 f_R_two_j38
  by_cases c1 : 0 ≤ s ∧ s < 8
  · obtain ⟨b, hb, rfl⟩ := natZ (n := 8) c1
    by_cases c2 : 0 ≤ t ∧ t < w
    · obtain ⟨c, hc, rfl⟩ := natZ (n := w) c2
      by_cases c3 : 0 ≤ x ∧ x < w
      · obtain ⟨d, hd, rfl⟩ := natZ (n := w) c3
        by_cases c4 : 0 ≤ y ∧ y ≤ 1
        · by_cases c7 : c = d
          · simp (disch := omega) only [l_0, l_1, l_2, l_3, l_4, l_5, l_6, l_7, l_8, l_9, l_10, l_12, l_16, l_32, l_35, l_36, l_40, l_48, l_59, l_57, l_60, l_97, l_99, l_100, l_122, l_250, l_255, l_1000, l_10000, l_20000, l_1000000, l_12345, l_1103515245, iz_neg, iz_add, iz_sub, iz_mul, iz_lt, iz_le, iz_eq, Option.bind_some, b1_i0, b1_i1, zr_b1, Classical.not_not, if_pos, if_neg, z_isShelf, y_isShelf, z_withinI, y_withinI, z_isColumn, y_isColumn, e1, e2]
            exact ⟨_, _, _, rfl, rfl, hr2⟩
          · have wb := wo_bd mk sz b w
            by_cases c5 : wo mk sz b w = 0
            · obtain ⟨hrow, hsz⟩ := wo_row hsi hb c5
              obtain ⟨_, _, T, hT⟩ := hsi.told hb hrow
              simp (disch := omega) only [l_0, l_1, l_2, l_3, l_4, l_5, l_6, l_7, l_8, l_9, l_10, l_12, l_16, l_32, l_35, l_36, l_40, l_48, l_59, l_57, l_60, l_97, l_99, l_100, l_122, l_250, l_255, l_1000, l_10000, l_20000, l_1000000, l_12345, l_1103515245, iz_neg, iz_add, iz_sub, iz_mul, iz_lt, iz_le, iz_eq, Option.bind_some, b1_i0, b1_i1, zr_b1, Classical.not_not, if_pos, if_neg, z_isShelf, y_isShelf, z_withinI, y_withinI, z_isColumn, y_isColumn, z_whyNoRowOf hm hsi hb, y_noHeard hm hsi hb, z_twoL hD hT hsz hc hd, y_twoL hD hT hsz hc hd]
              by_cases c6 : y = 0
              · simp (disch := omega) only [l_0, l_1, l_2, l_3, l_4, l_5, l_6, l_7, l_8, l_9, l_10, l_12, l_16, l_32, l_35, l_36, l_40, l_48, l_59, l_57, l_60, l_97, l_99, l_100, l_122, l_250, l_255, l_1000, l_10000, l_20000, l_1000000, l_12345, l_1103515245, iz_neg, iz_add, iz_sub, iz_mul, iz_lt, iz_le, iz_eq, Option.bind_some, b1_i0, b1_i1, zr_b1, Classical.not_not, if_pos, if_neg]
                exact ⟨_, _, _, rfl, rfl, hr⟩
              · simp (disch := omega) only [l_0, l_1, l_2, l_3, l_4, l_5, l_6, l_7, l_8, l_9, l_10, l_12, l_16, l_32, l_35, l_36, l_40, l_48, l_59, l_57, l_60, l_97, l_99, l_100, l_122, l_250, l_255, l_1000, l_10000, l_20000, l_1000000, l_12345, l_1103515245, iz_neg, iz_add, iz_sub, iz_mul, iz_lt, iz_le, iz_eq, Option.bind_some, b1_i0, b1_i1, zr_b1, Classical.not_not, if_pos, if_neg]
                exact ⟨_, _, _, rfl, rfl, hr⟩
            · have wr := wo_ref c5
              obtain ⟨m3, r3, e3, e4, hr3⟩ := z_ref (why := wo mk sz b w) (by omega) hr
              simp (disch := omega) only [l_0, l_1, l_2, l_3, l_4, l_5, l_6, l_7, l_8, l_9, l_10, l_12, l_16, l_32, l_35, l_36, l_40, l_48, l_59, l_57, l_60, l_97, l_99, l_100, l_122, l_250, l_255, l_1000, l_10000, l_20000, l_1000000, l_12345, l_1103515245, iz_neg, iz_add, iz_sub, iz_mul, iz_lt, iz_le, iz_eq, Option.bind_some, b1_i0, b1_i1, zr_b1, Classical.not_not, if_pos, if_neg, z_isShelf, y_isShelf, z_withinI, y_withinI, z_isColumn, y_isColumn, z_whyNoRowOf hm hsi hb, y_noHeard hm hsi hb, e3, e4]
              exact ⟨_, _, _, rfl, rfl, hr3⟩
        · by_cases c7 : c = d
          · simp (disch := omega) only [l_0, l_1, l_2, l_3, l_4, l_5, l_6, l_7, l_8, l_9, l_10, l_12, l_16, l_32, l_35, l_36, l_40, l_48, l_59, l_57, l_60, l_97, l_99, l_100, l_122, l_250, l_255, l_1000, l_10000, l_20000, l_1000000, l_12345, l_1103515245, iz_neg, iz_add, iz_sub, iz_mul, iz_lt, iz_le, iz_eq, Option.bind_some, b1_i0, b1_i1, zr_b1, Classical.not_not, if_pos, if_neg, z_isShelf, y_isShelf, z_withinI, y_withinI, z_isColumn, y_isColumn, e1, e2]
            exact ⟨_, _, _, rfl, rfl, hr2⟩
          · simp (disch := omega) only [l_0, l_1, l_2, l_3, l_4, l_5, l_6, l_7, l_8, l_9, l_10, l_12, l_16, l_32, l_35, l_36, l_40, l_48, l_59, l_57, l_60, l_97, l_99, l_100, l_122, l_250, l_255, l_1000, l_10000, l_20000, l_1000000, l_12345, l_1103515245, iz_neg, iz_add, iz_sub, iz_mul, iz_lt, iz_le, iz_eq, Option.bind_some, b1_i0, b1_i1, zr_b1, Classical.not_not, if_pos, if_neg, z_isShelf, y_isShelf, z_withinI, y_withinI, z_isColumn, y_isColumn, e1, e2]
            exact ⟨_, _, _, rfl, rfl, hr2⟩
      · simp (disch := omega) only [l_0, l_1, l_2, l_3, l_4, l_5, l_6, l_7, l_8, l_9, l_10, l_12, l_16, l_32, l_35, l_36, l_40, l_48, l_59, l_57, l_60, l_97, l_99, l_100, l_122, l_250, l_255, l_1000, l_10000, l_20000, l_1000000, l_12345, l_1103515245, iz_neg, iz_add, iz_sub, iz_mul, iz_lt, iz_le, iz_eq, Option.bind_some, b1_i0, b1_i1, zr_b1, Classical.not_not, if_pos, if_neg, z_isShelf, y_isShelf, z_isColumn, y_isColumn, e1, e2]
        exact ⟨_, _, _, rfl, rfl, hr2⟩
    · simp (disch := omega) only [l_0, l_1, l_2, l_3, l_4, l_5, l_6, l_7, l_8, l_9, l_10, l_12, l_16, l_32, l_35, l_36, l_40, l_48, l_59, l_57, l_60, l_97, l_99, l_100, l_122, l_250, l_255, l_1000, l_10000, l_20000, l_1000000, l_12345, l_1103515245, iz_neg, iz_add, iz_sub, iz_mul, iz_lt, iz_le, iz_eq, Option.bind_some, b1_i0, b1_i1, zr_b1, Classical.not_not, if_pos, if_neg, z_isShelf, y_isShelf, z_isColumn, y_isColumn, e1, e2]
      exact ⟨_, _, _, rfl, rfl, hr2⟩
  · simp (disch := omega) only [l_0, l_1, l_2, l_3, l_4, l_5, l_6, l_7, l_8, l_9, l_10, l_12, l_16, l_32, l_35, l_36, l_40, l_48, l_59, l_57, l_60, l_97, l_99, l_100, l_122, l_250, l_255, l_1000, l_10000, l_20000, l_1000000, l_12345, l_1103515245, iz_neg, iz_add, iz_sub, iz_mul, iz_lt, iz_le, iz_eq, Option.bind_some, b1_i0, b1_i1, zr_b1, Classical.not_not, if_pos, if_neg, z_isShelf, y_isShelf, e1, e2]
    exact ⟨_, _, _, rfl, rfl, hr2⟩

/-! cells turned -/
def tog (op : Nat → Bool) (c : Nat) : Nat → Bool := fun j => if j = c then !op j else op j
theorem tog_tog (op : Nat → Bool) (c : Nat) : tog (tog op c) c = op := by
  funext j
  unfold tog
  by_cases h : j = c
  · rw [if_pos h, if_pos h, Bool.not_not]
  · rw [if_neg h, if_neg h]
section
variable {w : Nat} {op : Nat → Bool} {opn tn : Nat → Int32}
theorem z_turn {cell : Nat} (hw : 2 ≤ w ∧ w ≤ 6) (hc : cell < w * w) (ho : OM w opn op) : ∃ opn', f_P_turn (iz cell) (iz w) opn = some opn' ∧ OM w opn' (tog op cell) := by
  have h36 := sq_le hw
  obtain ⟨r, c, hr, hcw, ec⟩ := cell_rc hw hc
  have d1 : ((cell : Int) / (w : Int)) = (r : Int) := by
    have : ((cell : Int) / (w : Int)) = ((cell / w : Nat) : Int) := rfl
    rw [this, ec, idx_div hcw]
  have b1 := bn_lt6 (fun c => op (r * w + c)) hw.2
  have b2 := bn_lt6 (fun c => tog op cell (r * w + c)) hw.2
  obtain ⟨x1, x2, x3⟩ := d_xb _ b1 c (by omega)
  have ex : xb (bn (fun c => op (r * w + c)) w) c = bn (fun c => tog op cell (r * w + c)) w := by
    refine d_ext _ x2 _ b2 (fun i hi => ?_)
    rw [x3 i hi, bt_bn _ hw.2, bt_bn _ hw.2]
    show _ = (decide (i < w) && (if r * w + i = cell then !op (r * w + i) else op (r * w + i)))
    by_cases q : i = c
    · rw [if_pos q, if_pos (by omega), decide_eq_true (show i < w by omega), Bool.true_and, Bool.true_and]
    · rw [if_neg q, if_neg (by omega)]
  unfold f_P_turn f_P_turn_j17
  rw [z_len hw]
  simp only [Option.bind_some]
  rw [if_neg (by rw [l_0, iz_le (by omega) (by omega)]; omega), dv_iz (by omega) (by omega), d1]
  simp only [Option.bind_some]
  rw [show (0 : Int32) = iz 0 from rfl, l_5, z_withinI (by omega) (by omega) (by omega)]
  simp only [Option.bind_some]
  rw [if_neg (by rw [b1_i0]; omega), rdn _ (by omega) (by omega), ho r hr]
  simp only [Option.bind_some]
  rw [iz_mul, iz_sub, show (cell : Int) - (r : Int) * (w : Int) = (c : Int) by rw [ec, Int.natCast_add, Int.natCast_mul]; omega, x1, ex, wrn _ (by omega) (by omega)]
  refine ⟨_, rfl, fun r2 hr2 => ?_⟩
  by_cases q : r2 = r
  · subst q; exact upd_same
  · rw [upd_ne q, ho r2 hr2]
    congr 2
    refine bn_congr w (fun k hk => ?_)
    show _ = if r2 * w + k = cell then _ else _
    rw [if_neg (fun z => q (by rw [← idx_div (r := r2) hk, z, ec, idx_div hcw]))]
theorem z_cell0 {cell : Nat} (hw : 2 ≤ w ∧ w ≤ 6) (hc : cell < w * w) : f_P_cellIn 0 (iz cell) (iz w) = some (iz cell) := by
  have h2 := sq_le hw
  unfold f_P_cellIn
  rw [z_len hw]
  simp only [Option.bind_some]
  rw [show (0 : Int32) = iz ((0 : Nat) : Int) from rfl, idz, Nat.zero_mul, Nat.zero_add, l_35, show iz ((0 : Nat) : Int) = iz 0 from rfl, z_withinI (by omega) (by omega) (by omega)]
  simp only [Option.bind_some]
  rw [if_neg (by rw [b1_i0]; omega)]
def TM (w : Nat) (tn : Nat → Int32) (tb : Nat → Bool) : Prop := ∀ j, j < w * w → tn j = bz (tb j)
/-- one turned does it -/
def A1 (w : Nat) (W : Bool) (tb op : Nat → Bool) (c : Nat) : Bool := tb c && (pw w (tog op c) == W)
theorem z_itb {first : Nat} {W : Bool} {tb : Nat → Bool} (hw : 2 ≤ w ∧ w ≤ 6) (hf : first ≤ w * w) (ho : OM w opn op) (ht : TM w tn tb) :
    ∃ opn', OM w opn' op ∧ f_P_firstTurned (iz first) (bz W) (iz w) opn tn = if fnd (A1 w W tb op) first (w * w - first) < w * w then some (iz ((fnd (A1 w W tb op) first (w * w - first) : Nat) : Int), opn') else some (iz (-1), opn') := by
  have h36 := sq_le hw
  have hle := fnd_le (A1 w W tb op) (w * w - first) first
  have hge := fnd_ge (A1 w W tb op) (w * w - first) first
  obtain ⟨r, e, h⟩ := loopI (body := fun s : Int32 × (Nat → Int32) => f_P_firstTurned_b2 (bz W) (iz w) tn s.1 s.2) (fun k z => ∃ opn, z = (iz ((first + k : Nat) : Int), opn) ∧ OM w opn op)
    (fun r => ∃ opn', OM w opn' op ∧ r = if fnd (A1 w W tb op) first (w * w - first) < w * w then .inl (iz ((fnd (A1 w W tb op) first (w * w - first) : Nat) : Int), opn') else .inr opn') (fnd (A1 w W tb op) first (w * w - first) - first) (by omega)
    (fun k z hk => by
      rintro ⟨opn, rfl, h1⟩
      have hck : first + k < w * w := by omega
      have hno := fnd_no (A1 w W tb op) (w * w - first) first (first + k) (by omega) (by omega)
      simp only [f_P_firstTurned_b2, f_P_firstTurned_j47, z_len hw, Option.bind_some]
      rw [sqz, if_neg (by rw [iz_le (by omega) (by omega)]; omega), z_cell0 hw hck]
      simp only [Option.bind_some]
      rw [rdn _ (by omega) (by omega), ht _ hck]
      simp only [Option.bind_some]
      cases q : tb (first + k) with
      | false =>
        rw [if_pos (show bz false = 0 from rfl), iz_succ]
        exact ⟨_, rfl, opn, rfl, h1⟩
      | true =>
        have hne : ¬ pw w (tog op (first + k)) = W := fun z => by
          unfold A1 at hno
          rw [q, z] at hno
          simp at hno
        obtain ⟨o2, e2, h2⟩ := z_turn hw hck h1
        obtain ⟨o3, e3, h3⟩ := z_turn hw hck h2
        rw [tog_tog] at h3
        rw [if_neg (by decide), e2]
        simp only [Option.bind_some]
        rw [z_isPassable hw h2]
        simp only [Option.bind_some]
        rw [if_neg (by rw [bz_eq]; exact hne), e3]
        simp only [Option.bind_some]
        rw [if_pos trivial, iz_succ]
        exact ⟨_, rfl, o3, rfl, h3⟩)
    (fun z => by
      rintro ⟨opn, rfl, h1⟩
      rw [show first + (fnd (A1 w W tb op) first (w * w - first) - first) = fnd (A1 w W tb op) first (w * w - first) by omega]
      simp only [f_P_firstTurned_b2, f_P_firstTurned_j47, z_len hw, Option.bind_some]
      by_cases hck : fnd (A1 w W tb op) first (w * w - first) < w * w
      · have hyes := fnd_yes (A1 w W tb op) (w * w - first) first (by omega)
        generalize fnd (A1 w W tb op) first (w * w - first) = y at hck hyes ⊢
        unfold A1 at hyes
        rw [Bool.and_eq_true, beq_iff_eq] at hyes
        obtain ⟨o2, e2, h2⟩ := z_turn hw hck h1
        obtain ⟨o3, e3, h3⟩ := z_turn hw hck h2
        rw [tog_tog] at h3
        rw [sqz, if_neg (by rw [iz_le (by omega) (by omega)]; omega), z_cell0 hw hck]
        simp only [Option.bind_some]
        rw [rdn _ (by omega) (by omega), ht _ hck, hyes.1]
        simp only [Option.bind_some]
        rw [if_neg (by decide), e2]
        simp only [Option.bind_some]
        rw [z_isPassable hw h2]
        simp only [Option.bind_some]
        rw [if_pos (by rw [bz_eq]; exact hyes.2), e3]
        simp only [Option.bind_some]
        rw [if_neg (by decide)]
        exact ⟨_, rfl, o3, h3, (if_pos hck).symm⟩
      · rw [sqz, if_pos (by rw [iz_le (by omega) (by omega)]; omega)]
        exact ⟨_, rfl, opn, h1, (if_neg hck).symm⟩)
    (iz first, opn) ⟨opn, rfl, ho⟩
  obtain ⟨opn', h1, rfl⟩ := h
  refine ⟨opn', h1, ?_⟩
  unfold f_P_firstTurned
  rw [show f_P_firstTurned_l2 (bz W) (iz w) tn (iz first) opn = _ from e]
  simp only [Option.bind_some]
  by_cases hck : fnd (A1 w W tb op) first (w * w - first) < w * w
  · rw [if_pos hck, if_pos hck]
    rfl
  · rw [if_neg hck, if_neg hck]
    rfl
/-- two turned do it, the first of them -/
def A2 (w : Nat) (W : Bool) (tb op : Nat → Bool) (c : Nat) : Bool := tb c && decide (fnd (A1 w W tb (tog op c)) (c + 1) (w * w - (c + 1)) < w * w)
/-- how many and which: 0, 1, 2, or 3 for none -/
def few (w : Nat) (W : Bool) (B0 : Bool) (B1 : Nat → Bool) (B2 : Nat → Nat → Bool) : Nat × Nat × Nat :=
  if B0 = true then (0, 0, 0)
  else if fnd B1 0 (w * w) < w * w then (1, fnd B1 0 (w * w), 0)
  else if fnd (fun c => decide (fnd (B2 c) (c + 1) (w * w - (c + 1)) < w * w)) 0 (w * w) < w * w then
    (2, fnd (fun c => decide (fnd (B2 c) (c + 1) (w * w - (c + 1)) < w * w)) 0 (w * w), fnd (B2 (fnd (fun c => decide (fnd (B2 c) (c + 1) (w * w - (c + 1)) < w * w)) 0 (w * w))) (fnd (fun c => decide (fnd (B2 c) (c + 1) (w * w - (c + 1)) < w * w)) 0 (w * w) + 1) (w * w - (fnd (fun c => decide (fnd (B2 c) (c + 1) (w * w - (c + 1)) < w * w)) 0 (w * w) + 1)))
  else (3, 0, 0)
theorem wr1 {f : Nat → Int32} {x : Int32} : wr f 2 1 x = some (upd f 1 x) := wrn 1 (by omega) (by omega)
theorem rd1 {f : Nat → Int32} : rd f 2 1 = some (f 1) := rdn 1 (by omega) (by omega)
theorem wr0 {f : Nat → Int32} {x : Int32} : wr f 2 0 x = some (upd f 0 x) := wrn 0 (by omega) (by omega)
theorem rd0 {f : Nat → Int32} : rd f 2 0 = some (f 0) := rdn 0 (by omega) (by omega)
theorem z_ft24 {W : Bool} {tb : Nat → Bool} (hw : 2 ≤ w ∧ w ≤ 6) (ho : OM w opn op) (ht : TM w tn tb) (td : Nat → Int32) :
    ∃ r, f_P_fewestTurned_l36 (bz W) (iz w) tn 0 opn td = some r ∧ ((fnd (A2 w W tb op) 0 (w * w) < w * w → ∃ o t, r = .inl (iz ((fnd (A2 w W tb op) 0 (w * w) : Nat) : Int), o, t) ∧ t 1 = iz ((fnd (A1 w W tb (tog op (fnd (A2 w W tb op) 0 (w * w)))) (fnd (A2 w W tb op) 0 (w * w) + 1) (w * w - (fnd (A2 w W tb op) 0 (w * w) + 1)) : Nat) : Int)) ∧ (¬ fnd (A2 w W tb op) 0 (w * w) < w * w → ∃ o t, r = .inr (o, t))) := by
  have h36 := sq_le hw
  have hle := fnd_le (A2 w W tb op) (w * w) 0
  exact loopI (body := fun s : Int32 × (Nat → Int32) × (Nat → Int32) => f_P_fewestTurned_b36 (bz W) (iz w) tn s.1 s.2.1 s.2.2) (fun k z => ∃ opn td, z = (iz k, opn, td) ∧ OM w opn op) _ (fnd (A2 w W tb op) 0 (w * w)) (by omega)
    (fun k z hk => by
      rintro ⟨opn, td, rfl, h1⟩
      have hck : k < w * w := by omega
      have hno := fnd_no (A2 w W tb op) (w * w) 0 k (by omega) hk
      simp only [f_P_fewestTurned_b36, z_len hw, Option.bind_some]
      rw [sqz, if_neg (by rw [iz_le (by omega) (by omega)]; omega), z_cell0 hw hck]
      simp only [Option.bind_some]
      rw [rdn _ (by omega) (by omega), ht _ hck]
      simp only [Option.bind_some]
      cases q : tb k with
      | false =>
        rw [if_pos (show bz false = 0 from rfl), iz_succ]
        exact ⟨_, rfl, opn, td, rfl, h1⟩
      | true =>
        obtain ⟨o2, e2, h2⟩ := z_turn hw hck h1
        obtain ⟨o4, h4, e4⟩ := z_itb (first := k + 1) (W := W) hw (by omega) h2 ht
        obtain ⟨o3, e3, h3⟩ := z_turn hw hck h4
        rw [tog_tog] at h3
        have hn : ¬ fnd (A1 w W tb (tog op k)) (k + 1) (w * w - (k + 1)) < w * w := fun z => by
          unfold A2 at hno
          rw [q, decide_eq_true z] at hno
          cases hno
        rw [if_neg hn] at e4
        rw [if_neg (by decide), e2]
        simp only [Option.bind_some]
        rw [iz_succ, e4]
        simp only [Option.bind_some]
        rw [wr1, e3]
        simp only [Option.bind_some]
        rw [rd1, upd_same]
        simp only [Option.bind_some]
        rw [if_pos l_m1.symm]
        exact ⟨_, rfl, o3, _, rfl, h3⟩)
    (fun z => by
      rintro ⟨opn, td, rfl, h1⟩
      simp only [f_P_fewestTurned_b36, z_len hw, Option.bind_some]
      by_cases hck : fnd (A2 w W tb op) 0 (w * w) < w * w
      · have hyes := fnd_yes (A2 w W tb op) (w * w) 0 (by omega)
        generalize fnd (A2 w W tb op) 0 (w * w) = y at hck hyes ⊢
        unfold A2 at hyes
        rw [Bool.and_eq_true, decide_eq_true_iff] at hyes
        obtain ⟨o2, e2, h2⟩ := z_turn hw hck h1
        obtain ⟨o4, h4, e4⟩ := z_itb (first := y + 1) (W := W) hw (by omega) h2 ht
        obtain ⟨o3, e3, h3⟩ := z_turn hw hck h4
        rw [if_pos hyes.2] at e4
        rw [sqz, if_neg (by rw [iz_le (by omega) (by omega)]; omega), z_cell0 hw hck]
        simp only [Option.bind_some]
        rw [rdn _ (by omega) (by omega), ht _ hck, hyes.1]
        simp only [Option.bind_some]
        rw [if_neg (by decide), e2]
        simp only [Option.bind_some]
        have hy1 := fnd_ge (A1 w W tb (tog op y)) (w * w - (y + 1)) (y + 1)
        rw [iz_succ, e4]
        simp only [Option.bind_some]
        rw [wr1, e3]
        simp only [Option.bind_some]
        rw [rd1, upd_same]
        simp only [Option.bind_some]
        rw [if_neg (by rw [l_m1, iz_eq (by omega) (by omega)]; omega)]
        exact ⟨_, rfl, fun _ => ⟨_, _, rfl, upd_same⟩, fun z => absurd hck z⟩
      · rw [sqz, if_pos (by rw [iz_le (by omega) (by omega)]; omega)]
        exact ⟨_, rfl, fun z => absurd z hck, fun _ => ⟨_, _, rfl⟩⟩)
    (0, opn, td) ⟨opn, td, rfl, ho⟩
/-- what the class tells by its count -/
def cod (x : Nat × Nat × Nat) : Int := if x.1 = 3 then -1 else x.1
theorem z_few {W : Bool} {tb : Nat → Bool} {B1 : Nat → Bool} {B2 : Nat → Nat → Bool} (hw : 2 ≤ w ∧ w ≤ 6) (ho : OM w opn op) (ht : TM w tn tb) (td : Nat → Int32)
    (h1 : ¬ pw w op = W → ∀ c, c < w * w → A1 w W tb op c = B1 c)
    (h2 : ¬ pw w op = W → (∀ c, c < w * w → B1 c = false) → ∀ c, c < w * w → (tb c = true → ∀ d, c < d → d < w * w → A1 w W tb (tog op c) d = B2 c d) ∧ (tb c = false → ∀ d, c < d → d < w * w → B2 c d = false)) :
    ∃ o t, f_P_fewestTurned (bz W) (iz w) opn tn td = some (iz (cod (few w W (pw w op == W) B1 B2)), o, t) ∧ (0 < cod (few w W (pw w op == W) B1 B2) → t 0 = iz (((few w W (pw w op == W) B1 B2).2.1 : Nat) : Int)) ∧ (1 < cod (few w W (pw w op == W) B1 B2) → t 1 = iz (((few w W (pw w op == W) B1 B2).2.2 : Nat) : Int)) := by
  have h36 := sq_le hw
  unfold f_P_fewestTurned few
  rw [z_isPassable hw ho]
  simp only [Option.bind_some]
  by_cases c0 : pw w op = W
  · rw [if_pos (by rw [bz_eq]; exact c0), if_pos (beq_iff_eq.mpr c0)]
    exact ⟨_, _, rfl, fun z => absurd z (by decide), fun z => absurd z (by decide)⟩
  · rw [if_neg (by rw [bz_eq]; exact c0), if_neg (fun z => c0 (beq_iff_eq.mp z))]
    have e1 : fnd (A1 w W tb op) 0 (w * w) = fnd B1 0 (w * w) := fnd_congr _ 0 (fun k _ hk => h1 c0 k (by omega))
    obtain ⟨o1, ho1, e2⟩ := z_itb (first := 0) (W := W) hw (by omega) ho ht
    rw [Nat.sub_zero, e1] at e2
    by_cases c1 : fnd B1 0 (w * w) < w * w
    · rw [if_pos c1] at e2 ⊢
      rw [show f_P_firstTurned 0 (bz W) (iz w) opn tn = _ from e2]
      simp only [Option.bind_some]
      rw [wr0]
      simp only [Option.bind_some]
      rw [rd0, upd_same]
      simp only [Option.bind_some]
      rw [if_neg (by rw [l_m1, iz_eq (by omega) (by omega)]; omega)]
      exact ⟨_, _, rfl, fun _ => upd_same, fun z => absurd (show 1 < (1 : Int) from z) (by decide)⟩
    · rw [if_neg c1] at e2 ⊢
      rw [show f_P_firstTurned 0 (bz W) (iz w) opn tn = _ from e2]
      simp only [Option.bind_some]
      rw [wr0]
      simp only [Option.bind_some]
      rw [rd0, upd_same]
      simp only [Option.bind_some]
      rw [if_pos l_m1.symm]
      have hB1 : ∀ c, c < w * w → B1 c = false := fun c hc => fnd_no B1 (w * w) 0 c (by omega) (by have := fnd_le B1 (w * w) 0; omega)
      have hin : ∀ c, c < w * w → tb c = true → fnd (A1 w W tb (tog op c)) (c + 1) (w * w - (c + 1)) = fnd (B2 c) (c + 1) (w * w - (c + 1)) := fun c hc hb => fnd_congr _ _ (fun d hd hd2 => ((h2 c0 hB1 c hc).1 hb) d (by omega) (by omega))
      have e3 : fnd (A2 w W tb op) 0 (w * w) = fnd (fun c => decide (fnd (B2 c) (c + 1) (w * w - (c + 1)) < w * w)) 0 (w * w) := by
        refine fnd_congr _ 0 (fun c _ hc => ?_)
        unfold A2
        cases hb : tb c with
        | true => rw [hin c (by omega) hb, Bool.true_and]
        | false =>
          rw [Bool.false_and]
          refine (decide_eq_false (fun z => ?_)).symm
          have z2 := fnd_yes (B2 c) (w * w - (c + 1)) (c + 1) (by omega)
          have z3 := fnd_ge (B2 c) (w * w - (c + 1)) (c + 1)
          rw [((h2 c0 hB1 c (by omega)).2 hb) _ (by omega) z] at z2
          cases z2
      obtain ⟨r, e4, r1, r2⟩ := z_ft24 (W := W) hw ho1 ht (upd td 0 (iz (-1)))
      rw [e4]
      simp only [Option.bind_some]
      by_cases c2 : fnd (A2 w W tb op) 0 (w * w) < w * w
      · obtain ⟨o, t, rfl, ht1⟩ := r1 c2
        have hb : tb (fnd (A2 w W tb op) 0 (w * w)) = true := by
          have hyes := fnd_yes (A2 w W tb op) (w * w) 0 (by omega)
          unfold A2 at hyes
          rw [Bool.and_eq_true] at hyes
          exact hyes.1
        rw [hin _ c2 hb] at ht1
        rw [e3] at c2 ht1 ⊢
        rw [if_pos c2]
        simp only [Sum.elim_inl]
        rw [show (0 : Int32) = iz ((0 : Nat) : Int) from rfl, wrn _ (by omega) (by omega)]
        exact ⟨_, _, rfl, fun _ => upd_same, fun _ => by rw [upd_ne (by omega)]; exact ht1⟩
      · obtain ⟨o, t, rfl⟩ := r2 c2
        rw [e3] at c2
        rw [if_neg c2]
        exact ⟨_, _, rfl, fun z => absurd z (by decide), fun z => absurd z (by decide)⟩
end

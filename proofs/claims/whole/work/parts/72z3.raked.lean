/-! raked, planks -/
def st1 (op : Nat → Bool) (c : Nat) (u : Bool) : Nat → Bool := fun j => if j = c then u else op j
theorem st1_own (op : Nat → Bool) (c : Nat) : st1 op c (op c) = op := by
  funext j
  unfold st1
  by_cases h : j = c
  · rw [if_pos h, h]
  · rw [if_neg h]
theorem st1_not (op : Nat → Bool) (c : Nat) : st1 op c (!op c) = tog op c := by
  funext j
  unfold st1 tog
  by_cases h : j = c
  · rw [if_pos h, if_pos h, h]
  · rw [if_neg h, if_neg h]
theorem st1_at (op : Nat → Bool) (c d : Nat) (u : Bool) (h : d ≠ c) : st1 op c u d = op d := if_neg h
theorem st1_comm (op : Nat → Bool) {c d : Nat} (u v : Bool) (h : c ≠ d) : st1 (st1 op c u) d v = st1 (st1 op d v) c u := by
  funext j
  unfold st1
  by_cases h1 : j = c
  · rw [if_neg (by omega), if_pos h1, if_pos h1]
  · by_cases h2 : j = d
    · rw [if_pos h2, if_neg h1, if_pos h2]
    · rw [if_neg h2, if_neg h1, if_neg h1, if_neg h2]
theorem sm_mono {g h : Nat → Int} : ∀ n, (∀ k, k < n → g k ≤ h k) → sm g n ≤ sm h n
  | 0, _ => Int.le_refl 0
  | n + 1, q => by
    have h1 := sm_mono n (fun k hk => q k (by omega))
    have h2 := q n (by omega)
    show sm g n + g n ≤ sm h n + h n
    omega
theorem Nv_mono {w : Nat} {op op' : Nat → Bool} (h : ∀ j, op j = true → op' j = true) : ∀ d c : Nat, Nv w op d c ≤ Nv w op' d c
  | 0, c => by
    show (if op ((w - 1) * w + c) then (1 : Int) else 0) ≤ (if op' ((w - 1) * w + c) then (1 : Int) else 0)
    by_cases q : op ((w - 1) * w + c) = true
    · rw [if_pos q, if_pos (h _ q)]; exact Int.le_refl _
    · rw [if_neg q]; split <;> omega
  | d + 1, c => by
    have h1 := sm_mono (g := fun x => Nv w op d (c - 1 + x)) (h := fun x => Nv w op' d (c - 1 + x)) (hc w c + 1) (fun k _ => Nv_mono h d _)
    have h2 := (Nv_bd w op' (d + 1) c).1
    show (if op ((w - 2 - d) * w + c) then sm (fun x => Nv w op d (c - 1 + x)) (hc w c + 1) else 0) ≤ Nv w op' (d + 1) c
    by_cases q : op ((w - 2 - d) * w + c) = true
    · rw [if_pos q]
      show _ ≤ (if op' ((w - 2 - d) * w + c) then sm (fun x => Nv w op' d (c - 1 + x)) (hc w c + 1) else 0)
      rw [if_pos (h _ q)]
      exact h1
    · rw [if_neg q]; exact h2
theorem pw_mono {w : Nat} {op op' : Nat → Bool} (hw : 2 ≤ w ∧ w ≤ 6) (h : ∀ j, op j = true → op' j = true) (hp : pw w op = true) : pw w op' = true := by
  have h1 : nw w op ≤ nw w op' := sm_mono w (fun k _ => Nv_mono h _ _)
  have h2 := (nw_bd hw op).1
  have h3 := of_decide_eq_true hp
  exact decide_eq_true (by omega)
theorem pw_mon {w : Nat} {op : Nat → Bool} {W : Bool} {c : Nat} (hw : 2 ≤ w ∧ w ≤ 6) (h : pw w (st1 op c (!W)) = W) : pw w op = W := by
  cases W with
  | true =>
    refine pw_mono hw (fun j hj => ?_) h
    unfold st1 at hj
    by_cases q : j = c
    · rw [if_pos q] at hj; cases hj
    · rw [if_neg q] at hj; exact hj
  | false =>
    cases hp : pw w op with
    | false => rfl
    | true =>
      rw [pw_mono (op' := st1 op c (!false)) hw (fun j hj => by unfold st1; by_cases q : j = c; · rw [if_pos q]; rfl
                                                                · rw [if_neg q]; exact hj) hp] at h
      exact h
section
variable {w m : Nat} {rn er : Int} {g kd a : Nat → Int}
theorem nhr_up {f c : Nat} {v : Int} : nhr w rn er (upz g c v) kd a f = st1 (nhr w rn er g kd a f) c (nhr w rn er (upz g c v) kd a f c) := by
  funext j
  unfold st1
  by_cases h : j = c
  · rw [if_pos h, h]
  · rw [if_neg h]
    unfold nhr stp cz
    rw [upz_ne h]
theorem nhr_at {f c : Nat} {v : Int} (g' : Nat → Int) : nhr w rn er (upz g' c v) kd a f c = nhr w rn er (upz g c v) kd a f c := by
  unfold nhr stp cz
  rw [upz_same, upz_same]
theorem nhr_up2 {f c d : Nat} {v : Int} : nhr w rn er (upz (upz g c v) d v) kd a f = st1 (st1 (nhr w rn er g kd a f) c (nhr w rn er (upz g c v) kd a f c)) d (nhr w rn er (upz g d v) kd a f d) := by
  rw [nhr_up, nhr_at (g := g), ← nhr_up]
def B1g (w : Nat) (rn er : Int) (g kd a : Nat → Int) (f : Nat) (v : Int) (W : Bool) (c : Nat) : Bool := pw w (nhr w rn er (upz g c v) kd a f) == W
def B2g (w : Nat) (rn er : Int) (g kd a : Nat → Int) (f : Nat) (v : Int) (W : Bool) (c d : Nat) : Bool := pw w (nhr w rn er (upz (upz g c v) d v) kd a f) == W
abbrev fewg (w : Nat) (rn er : Int) (g kd a : Nat → Int) (f : Nat) (v : Int) (W : Bool) : Nat × Nat × Nat := few w W (pw w (nhr w rn er g kd a f) == W) (B1g w rn er g kd a f v W) (B2g w rn er g kd a f v W)
/-- what is turned and what has so much gravel -/
theorem E12 {f : Nat} {v : Int} {W : Bool} {tb : Nat → Bool} (hw : 2 ≤ w ∧ w ≤ 6)
    (h1 : ∀ c, c < w * w → tb c = true → nhr w rn er (upz g c v) kd a f c = !nhr w rn er g kd a f c)
    (h2 : ∀ c, c < w * w → tb c = false → nhr w rn er (upz g c v) kd a f c = nhr w rn er g kd a f c ∨ nhr w rn er (upz g c v) kd a f c = !W)
    (h0 : ¬ pw w (nhr w rn er g kd a f) = W) :
    (∀ c, c < w * w → A1 w W tb (nhr w rn er g kd a f) c = B1g w rn er g kd a f v W c) ∧
    ((∀ c, c < w * w → B1g w rn er g kd a f v W c = false) → ∀ c, c < w * w → (tb c = true → ∀ d, c < d → d < w * w → A1 w W tb (tog (nhr w rn er g kd a f) c) d = B2g w rn er g kd a f v W c d) ∧ (tb c = false → ∀ d, c < d → d < w * w → B2g w rn er g kd a f v W c d = false)) := by
  have key : ∀ (op' : Nat → Bool) c, c < w * w → tb c = false → op' c = nhr w rn er g kd a f c → pw w (st1 op' c (nhr w rn er (upz g c v) kd a f c)) = W → pw w op' = W := fun op' c hc hb ho hp => by
    rcases h2 c hc hb with e | e
    · rw [e, ← ho, st1_own] at hp; exact hp
    · rw [e] at hp; exact pw_mon hw hp
  refine ⟨fun c hc => ?_, fun hB c hc => ⟨fun hb d hd hd2 => ?_, fun hb d hd hd2 => ?_⟩⟩
  · unfold A1 B1g
    rw [nhr_up]
    cases hb : tb c with
    | true => rw [h1 c hc hb, st1_not, Bool.true_and]
    | false =>
      rw [Bool.false_and]
      refine (beq_eq_false_iff_ne.mpr (fun z => h0 ?_)).symm
      exact key _ c hc hb rfl z
  · have hBc := beq_eq_false_iff_ne.mp (hB c hc)
    rw [nhr_up, h1 c hc hb, st1_not] at hBc
    unfold A1 B2g
    rw [nhr_up2, h1 c hc hb, st1_not]
    have hdc : tog (nhr w rn er g kd a f) c d = nhr w rn er g kd a f d := if_neg (by omega)
    cases hb2 : tb d with
    | true => rw [h1 d hd2 hb2, ← hdc, st1_not, Bool.true_and]
    | false =>
      rw [Bool.false_and]
      refine (beq_eq_false_iff_ne.mpr (fun z => hBc ?_)).symm
      exact key _ d hd2 hb2 hdc z
  · have hBd := beq_eq_false_iff_ne.mp (hB d hd2)
    rw [nhr_up] at hBd
    unfold B2g
    rw [nhr_up2, st1_comm _ _ _ (by omega)]
    refine beq_eq_false_iff_ne.mpr (fun z => hBd ?_)
    exact key _ c hc hb (st1_at _ _ _ _ (by omega)) z
theorem few_bd {w : Nat} {W B0 : Bool} {B1 : Nat → Bool} {B2 : Nat → Nat → Bool} : (few w W B0 B1 B2).1 ≤ 3 ∧ ((few w W B0 B1 B2).1 = 0 → (few w W B0 B1 B2).2 = (0, 0)) ∧ ((few w W B0 B1 B2).1 = 1 → (few w W B0 B1 B2).2.1 < w * w ∧ (few w W B0 B1 B2).2.2 = 0) ∧ ((few w W B0 B1 B2).1 = 2 → (few w W B0 B1 B2).2.1 < w * w ∧ (few w W B0 B1 B2).2.2 < w * w) := by
  unfold few
  by_cases c0 : B0 = true
  · rw [if_pos c0]
    exact ⟨by decide, fun _ => rfl, fun z => absurd z (by decide), fun z => absurd z (by decide)⟩
  · rw [if_neg c0]
    by_cases c1 : fnd B1 0 (w * w) < w * w
    · rw [if_pos c1]
      exact ⟨by show 1 ≤ 3; decide, fun z => absurd (show 1 = 0 from z) (by decide), fun _ => ⟨c1, rfl⟩, fun z => absurd (show 1 = 2 from z) (by decide)⟩
    · rw [if_neg c1]
      by_cases c2 : fnd (fun c => decide (fnd (B2 c) (c + 1) (w * w - (c + 1)) < w * w)) 0 (w * w) < w * w
      · rw [if_pos c2]
        have h := of_decide_eq_true (fnd_yes (fun c => decide (fnd (B2 c) (c + 1) (w * w - (c + 1)) < w * w)) (w * w) 0 (by omega))
        exact ⟨by show 2 ≤ 3; decide, fun z => absurd (show 2 = 0 from z) (by decide), fun z => absurd (show 2 = 1 from z) (by decide), fun _ => ⟨c2, h⟩⟩
      · rw [if_neg c2]
        exact ⟨by decide, fun z => absurd z (by decide), fun z => absurd z (by decide), fun z => absurd z (by decide)⟩
def ycd (x : Nat × Nat × Nat) : Int := if x.1 = 3 then -1 else if x.1 = 0 then 0 else 10000 * x.1 + 100 * x.2.1 + x.2.2
theorem y_isSo {f : Nat} {W : Bool} (hD : Dr w rn m g kd a) (her : 1 ≤ er ∧ er ≤ 99) (hf : f < m) (cost may rest : Nat → Int32) :
    ∃ s, f_R_isSo (iz f) (bz W) (iz w) (iz rn) (iz er) (ar g) (ar kd) (ar a) cost may rest = some (bz (pw w (nhr w rn er g kd a f) == W), s) := by
  obtain ⟨hw, hrn, hm, hg, hkd, ha⟩ := id hD
  obtain ⟨cost', may', rest', e, _⟩ := y_unheardBy hD her hf cost may rest
  have hn := nw_bd hw (nhr w rn er g kd a f)
  unfold f_R_isSo f_R_isSo_j13
  rw [e]
  simp only [Option.bind_some]
  by_cases c : nw w (nhr w rn er g kd a f) = 0
  · rw [if_pos (by rw [l_0, iz_le (by omega) (by omega)]; omega), show pw w (nhr w rn er g kd a f) = false from decide_eq_false (fun z => z c)]
    cases W with
    | true => exact ⟨_, rfl⟩
    | false => exact ⟨_, rfl⟩
  · rw [if_neg (by rw [l_0, iz_le (by omega) (by omega)]; omega), show pw w (nhr w rn er g kd a f) = true from decide_eq_true c]
    cases W with
    | true => exact ⟨_, rfl⟩
    | false => exact ⟨_, rfl⟩
theorem upz_back {g : Nat → Int} {c d : Nat} {v : Int} : upz (upz (upz (upz g c v) d v) c (g c)) d (g d) = g := by
  funext j
  unfold upz
  by_cases h1 : j = d
  · rw [if_pos h1, h1]
  · rw [if_neg h1]
    by_cases h2 : j = c
    · rw [if_pos h2, h2]
    · rw [if_neg h2, if_neg h1, if_neg h2]
theorem bz_F : bz false = 0 := rfl
theorem y_few14 {f : Nat} {v : Int} {W : Bool} (hD : Dr w rn m g kd a) (her : 1 ≤ er ∧ er ≤ 99) (hf : f < m) (hv : 0 ≤ v ∧ v ≤ 9) (cost may rest : Nat → Int32) :
    ∃ r, f_R_fewest_l14 (iz f) (iz v) (bz W) (iz w) (iz rn) (iz er) (ar kd) (ar a) 0 (ar g) cost may rest = some r ∧ ((fnd (B1g w rn er g kd a f v W) 0 (w * w) < w * w → ∃ s, r = .inl (iz ((fnd (B1g w rn er g kd a f v W) 0 (w * w) : Nat) : Int), ar g, s)) ∧ (¬ fnd (B1g w rn er g kd a f v W) 0 (w * w) < w * w → ∃ s, r = .inr (ar g, s))) := by
  obtain ⟨hw, hrn, hm, hg, hkd, ha⟩ := id hD
  have h36 := sq_le hw
  have hle := fnd_le (B1g w rn er g kd a f v W) (w * w) 0
  exact loopI (body := fun s : Int32 × (Nat → Int32) × (Nat → Int32) × (Nat → Int32) × (Nat → Int32) => f_R_fewest_b14 (iz f) (iz v) (bz W) (iz w) (iz rn) (iz er) (ar kd) (ar a) s.1 s.2.1 s.2.2.1 s.2.2.2.1 s.2.2.2.2)
    (fun k z => ∃ cost may rest, z = (iz k, ar g, cost, may, rest)) _ (fnd (B1g w rn er g kd a f v W) 0 (w * w)) (by omega)
    (fun k z hk => by
      rintro ⟨cost, may, rest, rfl⟩
      have hno := fnd_no (B1g w rn er g kd a f v W) (w * w) 0 k (by omega) hk
      unfold B1g at hno
      obtain ⟨s, e⟩ := y_isSo (W := W) (hD.up k hv) her hf cost may rest
      simp only [f_R_fewest_b14]
      rw [sqz, if_neg (by rw [iz_le (by omega) (by omega)]; omega), rdn _ (by omega) (by omega), wrn _ (by omega) (by omega)]
      simp only [Option.bind_some]
      rw [upd_ar, e]
      simp only [Option.bind_some]
      rw [wrn _ (by omega) (by omega), ar_at, upd_ar, upz_upz, upz_own]
      simp only [Option.bind_some]
      rw [hno, if_pos bz_F, iz_succ]
      exact ⟨_, rfl, _, _, _, rfl⟩)
    (fun z => by
      rintro ⟨cost, may, rest, rfl⟩
      simp only [f_R_fewest_b14]
      by_cases c : fnd (B1g w rn er g kd a f v W) 0 (w * w) < w * w
      · have hyes := fnd_yes (B1g w rn er g kd a f v W) (w * w) 0 (by omega)
        generalize fnd (B1g w rn er g kd a f v W) 0 (w * w) = y at c hyes ⊢
        unfold B1g at hyes
        obtain ⟨s, e⟩ := y_isSo (W := W) (hD.up y hv) her hf cost may rest
        rw [sqz, if_neg (by rw [iz_le (by omega) (by omega)]; omega), rdn _ (by omega) (by omega), wrn _ (by omega) (by omega)]
        simp only [Option.bind_some]
        rw [upd_ar, e]
        simp only [Option.bind_some]
        rw [wrn _ (by omega) (by omega), ar_at, upd_ar, upz_upz, upz_own]
        simp only [Option.bind_some]
        rw [hyes, if_neg (by decide)]
        exact ⟨_, rfl, fun _ => ⟨_, rfl⟩, fun z => absurd c z⟩
      · rw [sqz, if_pos (by rw [iz_le (by omega) (by omega)]; omega)]
        exact ⟨_, rfl, fun z => absurd z c, fun _ => ⟨_, rfl⟩⟩)
    (0, ar g, cost, may, rest) ⟨cost, may, rest, rfl⟩
theorem y_few106 {f c : Nat} {v : Int} {W : Bool} (hD : Dr w rn m g kd a) (her : 1 ≤ er ∧ er ≤ 99) (hf : f < m) (hv : 0 ≤ v ∧ v ≤ 9) (hc : c < w * w) (cost may rest : Nat → Int32) :
    ∃ r, f_R_fewest_l106 (iz f) (iz v) (bz W) (iz c) (iz w) (iz rn) (iz er) (ar kd) (ar a) (iz ((c + 1 : Nat) : Int)) (ar g) cost may rest = some r ∧ ((fnd (B2g w rn er g kd a f v W c) (c + 1) (w * w - (c + 1)) < w * w → ∃ s, r = .inl (iz ((fnd (B2g w rn er g kd a f v W c) (c + 1) (w * w - (c + 1)) : Nat) : Int), ar g, s)) ∧ (¬ fnd (B2g w rn er g kd a f v W c) (c + 1) (w * w - (c + 1)) < w * w → ∃ s, r = .inr (ar g, s))) := by
  obtain ⟨hw, hrn, hm, hg, hkd, ha⟩ := id hD
  have h36 := sq_le hw
  have hle := fnd_le (B2g w rn er g kd a f v W c) (w * w - (c + 1)) (c + 1)
  have hge := fnd_ge (B2g w rn er g kd a f v W c) (w * w - (c + 1)) (c + 1)
  exact loopI (body := fun s : Int32 × (Nat → Int32) × (Nat → Int32) × (Nat → Int32) × (Nat → Int32) => f_R_fewest_b106 (iz f) (iz v) (bz W) (iz c) (iz w) (iz rn) (iz er) (ar kd) (ar a) s.1 s.2.1 s.2.2.1 s.2.2.2.1 s.2.2.2.2)
    (fun k z => ∃ cost may rest, z = (iz ((c + 1 + k : Nat) : Int), ar g, cost, may, rest)) _ (fnd (B2g w rn er g kd a f v W c) (c + 1) (w * w - (c + 1)) - (c + 1)) (by omega)
    (fun k z hk => by
      rintro ⟨cost, may, rest, rfl⟩
      have hck : c + 1 + k < w * w := by omega
      have hno := fnd_no (B2g w rn er g kd a f v W c) (w * w - (c + 1)) (c + 1) (c + 1 + k) (by omega) (by omega)
      unfold B2g at hno
      obtain ⟨s, e⟩ := y_isSo (W := W) ((hD.up c hv).up (c + 1 + k) hv) her hf cost may rest
      simp only [f_R_fewest_b106]
      rw [sqz, if_neg (by rw [iz_le (by omega) (by omega)]; omega), rdn _ (by omega) (by omega), rdn _ (by omega) (by omega), wrn _ (by omega) (by omega)]
      simp only [Option.bind_some]
      rw [upd_ar, wrn _ (by omega) (by omega)]
      simp only [Option.bind_some]
      rw [upd_ar, e]
      simp only [Option.bind_some]
      rw [wrn _ (by omega) (by omega), ar_at, upd_ar]
      simp only [Option.bind_some]
      rw [wrn _ (by omega) (by omega), ar_at, upd_ar, upz_back]
      simp only [Option.bind_some]
      rw [hno, if_pos bz_F, iz_succ]
      exact ⟨_, rfl, _, _, _, rfl⟩)
    (fun z => by
      rintro ⟨cost, may, rest, rfl⟩
      rw [show c + 1 + (fnd (B2g w rn er g kd a f v W c) (c + 1) (w * w - (c + 1)) - (c + 1)) = fnd (B2g w rn er g kd a f v W c) (c + 1) (w * w - (c + 1)) by omega]
      simp only [f_R_fewest_b106]
      by_cases q : fnd (B2g w rn er g kd a f v W c) (c + 1) (w * w - (c + 1)) < w * w
      · have hyes := fnd_yes (B2g w rn er g kd a f v W c) (w * w - (c + 1)) (c + 1) (by omega)
        generalize fnd (B2g w rn er g kd a f v W c) (c + 1) (w * w - (c + 1)) = y at q hyes ⊢
        unfold B2g at hyes
        obtain ⟨s, e⟩ := y_isSo (W := W) ((hD.up c hv).up y hv) her hf cost may rest
        rw [sqz, if_neg (by rw [iz_le (by omega) (by omega)]; omega), rdn _ (by omega) (by omega), rdn _ (by omega) (by omega), wrn _ (by omega) (by omega)]
        simp only [Option.bind_some]
        rw [upd_ar, wrn _ (by omega) (by omega)]
        simp only [Option.bind_some]
        rw [upd_ar, e]
        simp only [Option.bind_some]
        rw [wrn _ (by omega) (by omega), ar_at, upd_ar]
        simp only [Option.bind_some]
        rw [wrn _ (by omega) (by omega), ar_at, upd_ar, upz_back]
        simp only [Option.bind_some]
        rw [hyes, if_neg (by decide)]
        exact ⟨_, rfl, fun _ => ⟨_, rfl⟩, fun z => absurd q z⟩
      · rw [sqz, if_pos (by rw [iz_le (by omega) (by omega)]; omega)]
        exact ⟨_, rfl, fun z => absurd z q, fun _ => ⟨_, rfl⟩⟩)
    (iz ((c + 1 : Nat) : Int), ar g, cost, may, rest) ⟨cost, may, rest, rfl⟩
def anyD (w : Nat) (B2 : Nat → Nat → Bool) (c : Nat) : Bool := decide (fnd (B2 c) (c + 1) (w * w - (c + 1)) < w * w)
theorem y_few86 {f : Nat} {v : Int} {W : Bool} (hD : Dr w rn m g kd a) (her : 1 ≤ er ∧ er ≤ 99) (hf : f < m) (hv : 0 ≤ v ∧ v ≤ 9) (cost may rest : Nat → Int32) :
    ∃ r, f_R_fewest_l86 (iz f) (iz v) (bz W) (iz w) (iz rn) (iz er) (ar kd) (ar a) 0 (ar g) cost may rest = some r ∧ ((fnd (anyD w (B2g w rn er g kd a f v W)) 0 (w * w) < w * w → ∃ s, r = .inl (iz ((fnd (anyD w (B2g w rn er g kd a f v W)) 0 (w * w) : Nat) : Int), iz ((fnd (B2g w rn er g kd a f v W (fnd (anyD w (B2g w rn er g kd a f v W)) 0 (w * w))) (fnd (anyD w (B2g w rn er g kd a f v W)) 0 (w * w) + 1) (w * w - (fnd (anyD w (B2g w rn er g kd a f v W)) 0 (w * w) + 1)) : Nat) : Int), ar g, s)) ∧ (¬ fnd (anyD w (B2g w rn er g kd a f v W)) 0 (w * w) < w * w → ∃ s, r = .inr (ar g, s))) := by
  obtain ⟨hw, hrn, hm, hg, hkd, ha⟩ := id hD
  have h36 := sq_le hw
  have hle := fnd_le (anyD w (B2g w rn er g kd a f v W)) (w * w) 0
  exact loopI (body := fun s : Int32 × (Nat → Int32) × (Nat → Int32) × (Nat → Int32) × (Nat → Int32) => f_R_fewest_b86 (iz f) (iz v) (bz W) (iz w) (iz rn) (iz er) (ar kd) (ar a) s.1 s.2.1 s.2.2.1 s.2.2.2.1 s.2.2.2.2)
    (fun k z => ∃ cost may rest, z = (iz k, ar g, cost, may, rest)) _ (fnd (anyD w (B2g w rn er g kd a f v W)) 0 (w * w)) (by omega)
    (fun k z hk => by
      rintro ⟨cost, may, rest, rfl⟩
      have hno := of_decide_eq_false (fnd_no (anyD w (B2g w rn er g kd a f v W)) (w * w) 0 k (by omega) hk)
      obtain ⟨r, e, h1, h2⟩ := y_few106 (c := k) (W := W) hD her hf hv (by omega) cost may rest
      obtain ⟨s, rfl⟩ := h2 hno
      simp only [f_R_fewest_b86]
      rw [sqz, if_neg (by rw [iz_le (by omega) (by omega)]; omega), iz_succ, e]
      simp only [Option.bind_some, Sum.elim_inr]
      exact ⟨_, rfl, _, _, _, rfl⟩)
    (fun z => by
      rintro ⟨cost, may, rest, rfl⟩
      simp only [f_R_fewest_b86]
      by_cases c : fnd (anyD w (B2g w rn er g kd a f v W)) 0 (w * w) < w * w
      · have hyes := of_decide_eq_true (fnd_yes (anyD w (B2g w rn er g kd a f v W)) (w * w) 0 (by omega))
        generalize fnd (anyD w (B2g w rn er g kd a f v W)) 0 (w * w) = y at c hyes ⊢
        obtain ⟨r, e, h1, h2⟩ := y_few106 (c := y) (W := W) hD her hf hv c cost may rest
        obtain ⟨s, rfl⟩ := h1 hyes
        rw [sqz, if_neg (by rw [iz_le (by omega) (by omega)]; omega), iz_succ, e]
        simp only [Option.bind_some, Sum.elim_inl]
        exact ⟨_, rfl, fun _ => ⟨_, rfl⟩, fun z => absurd c z⟩
      · rw [sqz, if_pos (by rw [iz_le (by omega) (by omega)]; omega)]
        exact ⟨_, rfl, fun z => absurd z c, fun _ => ⟨_, rfl⟩⟩)
    (0, ar g, cost, may, rest) ⟨cost, may, rest, rfl⟩
theorem y_fewest {f : Nat} {v : Int} {W : Bool} (hD : Dr w rn m g kd a) (her : 1 ≤ er ∧ er ≤ 99) (hf : f < m) (hv : 0 ≤ v ∧ v ≤ 9) (cost may rest : Nat → Int32) :
    ∃ s, f_R_fewest (iz f) (iz v) (bz W) (iz w) (iz rn) (iz er) (ar g) (ar kd) (ar a) cost may rest = some (iz (ycd (fewg w rn er g kd a f v W)), ar g, s) := by
  obtain ⟨s, e⟩ := y_isSo (W := W) hD her hf cost may rest
  unfold f_R_fewest fewg few
  rw [e]
  simp only [Option.bind_some]
  by_cases c0 : (pw w (nhr w rn er g kd a f) == W) = true
  · rw [c0, if_neg (by decide), if_pos rfl]
    exact ⟨_, rfl⟩
  · rw [Bool.eq_false_iff.mpr c0, if_pos bz_F, if_neg (by decide)]
    obtain ⟨r, e2, h1, h2⟩ := y_few14 (W := W) hD her hf hv s.1 s.2.1 s.2.2
    rw [e2]
    simp only [Option.bind_some]
    by_cases c1 : fnd (B1g w rn er g kd a f v W) 0 (w * w) < w * w
    · obtain ⟨t, rfl⟩ := h1 c1
      rw [if_pos c1]
      refine ⟨t, ?_⟩
      show some ((10000 : Int32) + 100 * iz ((fnd (B1g w rn er g kd a f v W) 0 (w * w) : Nat) : Int), ar g, t) = some (iz (10000 * ((1 : Nat) : Int) + 100 * ((fnd (B1g w rn er g kd a f v W) 0 (w * w) : Nat) : Int) + ((0 : Nat) : Int)), ar g, t)
      rw [l_10000, l_100, iz_mul, iz_add]
      congr 3
    · obtain ⟨t, rfl⟩ := h2 c1
      rw [if_neg c1]
      obtain ⟨r, e3, h3, h4⟩ := y_few86 (W := W) hD her hf hv t.1 t.2.1 t.2.2
      simp only [Sum.elim_inr]
      rw [e3]
      simp only [Option.bind_some]
      by_cases c2 : fnd (anyD w (B2g w rn er g kd a f v W)) 0 (w * w) < w * w
      · obtain ⟨u, rfl⟩ := h3 c2
        rw [if_pos (show fnd (fun c => decide (fnd (B2g w rn er g kd a f v W c) (c + 1) (w * w - (c + 1)) < w * w)) 0 (w * w) < w * w from c2)]
        refine ⟨u, ?_⟩
        show some ((20000 : Int32) + 100 * iz ((fnd (anyD w (B2g w rn er g kd a f v W)) 0 (w * w) : Nat) : Int) + iz _, ar g, u) = some (iz (10000 * ((2 : Nat) : Int) + 100 * ((fnd (anyD w (B2g w rn er g kd a f v W)) 0 (w * w) : Nat) : Int) + _), ar g, u)
        rw [l_20000, l_100, iz_mul, iz_add, iz_add]
        rfl
      · obtain ⟨u, rfl⟩ := h4 c2
        rw [if_neg (show ¬ fnd (fun c => decide (fnd (B2g w rn er g kd a f v W c) (c + 1) (w * w - (c + 1)) < w * w)) 0 (w * w) < w * w from c2)]
        exact ⟨u, rfl⟩
end

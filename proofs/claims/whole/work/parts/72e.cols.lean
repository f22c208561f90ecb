def Dr (w : Nat) (rn : Int) (m : Nat) (g kd a : Nat → Int) : Prop := (2 ≤ w ∧ w ≤ 6) ∧ (0 ≤ rn ∧ rn ≤ 9) ∧ m ≤ 8 ∧ (∀ j, 0 ≤ g j ∧ g j ≤ 9) ∧ (∀ j, 0 ≤ kd j ∧ kd j ≤ 5) ∧ (∀ j, 0 ≤ a j ∧ a j ≤ 9)
/-! image, back -/
def mix (k : Nat) (g g' : Nat → Int) : Nat → Int := fun j => if j < k then g j else g' j
theorem mix_0 (g g' : Nat → Int) : mix 0 g g' = g' := by funext j; unfold mix; rw [if_neg (by omega)]
theorem mix_step (k : Nat) (g g' : Nat → Int) : upz (mix k g g') k (g k) = mix (k + 1) g g' := by
  funext j
  unfold upz mix
  by_cases e : j = k
  · rw [if_pos e, if_pos (by omega), e]
  · rw [if_neg e]
    by_cases e2 : j < k
    · rw [if_pos e2, if_pos (by omega)]
    · rw [if_neg e2, if_neg (by omega)]
theorem mix_all {k : Nat} {g g' : Nat → Int} (h : ∀ j, k ≤ j → g j = 0) (h' : ∀ j, k ≤ j → g' j = 0) : mix k g g' = g := by
  funext j
  unfold mix
  by_cases e : j < k
  · rw [if_pos e]
  · rw [if_neg e, h j (by omega), h' j (by omega)]
theorem y_again {old : Nat → Int32} {cn cr ce cm cs sd : Int32} {w m : Nat} {rn er : Int} {g kd a l g' kd' a' l' : Nat → Int} (ho : RO old w rn er m sd g kd a l) (h1 : ∀ j, 36 ≤ j → g' j = 0) (h2 : ∀ j, 8 ≤ j → kd' j = 0 ∧ a' j = 0 ∧ l' j = 0) (h3 : ∀ j, 36 ≤ j → g j = 0) (h4 : ∀ j, 8 ≤ j → kd j = 0 ∧ a j = 0 ∧ l j = 0) :
    f_R_again cn cr ce cm cs (ar g') (ar kd') (ar a') (ar l') old = some (iz w, iz rn, iz er, iz m, sd, ar g, ar kd, ar a, ar l) := by
  obtain ⟨o1, o2, o3, o4, o5, o6, o7⟩ := ho
  have e1 : f_R_again_l2 old (iz 0) (ar g') = some (ar (mix 36 g g')) := by
    have h := loopS (body := fun s : Int32 × (Nat → Int32) => f_R_again_b2 old s.1 s.2) (fun k => (iz k, ar (mix k g g'))) (ar (mix 36 g g')) 36 (by omega)
      (fun k hk => by
        simp only [f_R_again_b2, l_36]
        rw [rdn k (by omega) (by omega), o1 k hk, ← iz_succ]
        simp only [Option.bind_some]
        rw [wrn k (by omega) hk, upd_ar, mix_step]
        simp (disch := omega) only [iz_le, if_neg, Option.bind_some])
      (by
        simp only [f_R_again_b2, l_36]
        simp (disch := omega) only [iz_le, if_pos])
    rw [mix_0] at h
    exact h
  have e2 : f_R_again_l25 old (iz 0) (ar kd') (ar a') (ar l') = some (ar (mix 8 kd kd'), ar (mix 8 a a'), ar (mix 8 l l')) := by
    have h := loopS (body := fun s : Int32 × (Nat → Int32) × (Nat → Int32) × (Nat → Int32) => f_R_again_b25 old s.1 s.2.1 s.2.2.1 s.2.2.2) (fun k => (iz k, ar (mix k kd kd'), ar (mix k a a'), ar (mix k l l'))) (ar (mix 8 kd kd'), ar (mix 8 a a'), ar (mix 8 l l')) 8 (by omega)
      (fun k hk => by
        simp only [f_R_again_b25, i36, i44, i52, l_8]
        rw [rdn (36 + k) (by omega) (by omega), rdn (44 + k) (by omega) (by omega), rdn (52 + k) (by omega) (by omega), (o2 k hk).1, (o2 k hk).2.1, (o2 k hk).2.2, ← iz_succ]
        simp only [Option.bind_some]
        rw [wrn k (by omega) hk, wrn k (by omega) hk, wrn k (by omega) hk, upd_ar, upd_ar, upd_ar, mix_step, mix_step, mix_step]
        simp (disch := omega) only [iz_le, if_neg, Option.bind_some])
      (by
        simp only [f_R_again_b25, l_8]
        simp (disch := omega) only [iz_le, if_pos])
    rw [mix_0, mix_0, mix_0] at h
    exact h
  rw [mix_all h3 h1] at e1
  rw [mix_all (fun j h => (h4 j h).1) (fun j h => (h2 j h).1), mix_all (fun j h => (h4 j h).2.1) (fun j h => (h2 j h).2.1), mix_all (fun j h => (h4 j h).2.2) (fun j h => (h2 j h).2.2)] at e2
  unfold f_R_again
  rw [show f_R_again_l2 old 0 (ar g') = _ from e1, show f_R_again_l25 old 0 (ar kd') (ar a') (ar l') = _ from e2]
  simp only [Option.bind_some]
  rw [show (60 : Int32) = iz ((60 : Nat) : Int) from rfl, show (61 : Int32) = iz ((61 : Nat) : Int) from rfl, show (62 : Int32) = iz ((62 : Nat) : Int) from rfl, show (63 : Int32) = iz ((63 : Nat) : Int) from rfl, show (64 : Int32) = iz ((64 : Nat) : Int) from rfl]
  simp only [rdn 60 (show 65 ≤ 2147483648 by omega) (show 60 < 65 by omega), rdn 61 (show 65 ≤ 2147483648 by omega) (show 61 < 65 by omega), rdn 62 (show 65 ≤ 2147483648 by omega) (show 62 < 65 by omega), rdn 63 (show 65 ≤ 2147483648 by omega) (show 63 < 65 by omega), rdn 64 (show 65 ≤ 2147483648 by omega) (show 64 < 65 by omega), Option.bind_some, o3, o4, o5, o6, o7]
def drp (m : Nat) (k : Nat) (mk : Nat → Int) : Nat → Int := fun j => if j < k ∧ 10 + (m : Int) ≤ mk j then -1 else mk j
theorem z_drop {mk : Nat → Int} {m : Nat} (hm : m ≤ 8) (hb : ∀ s, s < 8 → -1 ≤ mk s ∧ mk s < 18) : f_S_dropFeetFrom_l2 (iz m) (iz 0) (ar mk) = some (ar (drp m 8 mk)) := by
  have h := loopS (body := fun s : Int32 × (Nat → Int32) => f_S_dropFeetFrom_b2 (iz m) s.1 s.2) (fun k => (iz k, ar (drp m k mk))) (ar (drp m 8 mk)) 8 (by omega)
    (fun k hk => by
      have hk2 := hb k hk
      have e : drp m k mk k = mk k := by unfold drp; rw [if_neg (by omega)]
      simp only [f_S_dropFeetFrom_b2]
      rw [rdn k (by omega) hk, ← iz_succ]
      by_cases c : mk k < 10 + m
      · simp (disch := omega) only [l_0, l_1, l_2, l_3, l_4, l_5, l_6, l_7, l_8, l_9, l_10, l_12, l_16, l_32, l_35, l_36, l_40, l_48, l_59, l_57, l_60, l_97, l_99, l_100, l_122, l_250, l_255, l_1000, l_10000, l_20000, l_1000000, l_12345, l_1103515245, iz_neg, iz_add, iz_sub, iz_mul, iz_lt, iz_le, iz_eq, Option.bind_some, b1_i0, b1_i1, zr_b1, Classical.not_not, if_pos, if_neg, ar_at, e]
        congr 3
        funext j
        unfold ar drp
        by_cases d : j < k ∧ 10 + (m : Int) ≤ mk j
        · rw [if_pos d, if_pos (by omega)]
        · rw [if_neg d, if_neg]
          intro d2
          by_cases d3 : j = k
          · subst d3; omega
          · exact d ⟨by omega, d2.2⟩
      · simp (disch := omega) only [l_0, l_1, l_2, l_3, l_4, l_5, l_6, l_7, l_8, l_9, l_10, l_12, l_16, l_32, l_35, l_36, l_40, l_48, l_59, l_57, l_60, l_97, l_99, l_100, l_122, l_250, l_255, l_1000, l_10000, l_20000, l_1000000, l_12345, l_1103515245, iz_neg, iz_add, iz_sub, iz_mul, iz_lt, iz_le, iz_eq, Option.bind_some, b1_i0, b1_i1, zr_b1, Classical.not_not, if_pos, if_neg, ar_at, e, wrn, upd_ar]
        congr 3
        funext j
        unfold ar upz drp
        by_cases d3 : j = k
        · subst d3
          rw [if_pos rfl, if_pos (by omega)]
        · rw [if_neg d3]
          by_cases d : j < k ∧ 10 + (m : Int) ≤ mk j
          · rw [if_pos d, if_pos (by omega)]
          · rw [if_neg d, if_neg (by omega)])
    (by
      simp only [f_S_dropFeetFrom_b2]
      simp (disch := omega) only [l_0, l_1, l_2, l_3, l_4, l_5, l_6, l_7, l_8, l_9, l_10, l_12, l_16, l_32, l_35, l_36, l_40, l_48, l_59, l_57, l_60, l_97, l_99, l_100, l_122, l_250, l_255, l_1000, l_10000, l_20000, l_1000000, l_12345, l_1103515245, iz_neg, iz_add, iz_sub, iz_mul, iz_lt, iz_le, iz_eq, Option.bind_some, b1_i0, b1_i1, zr_b1, Classical.not_not, if_pos, if_neg])
  have e0 : drp m 0 mk = mk := by funext j; unfold drp; rw [if_neg (by omega)]
  rw [e0] at h
  exact h
theorem SI.drop {m m' : Nat} {mk sz rl : Nat → Int} {el ro : Nat → Int64} (h : SI m mk sz rl el ro) : SI m' (drp m' 8 mk) sz rl el ro := by
  intro q hq
  unfold drp
  rcases h q hq with c | c | c
  · rw [if_neg (by omega)]
    exact Or.inl c
  · rw [if_neg (by omega)]
    exact Or.inr (Or.inl c)
  · by_cases d : 10 + (m' : Int) ≤ mk q
    · rw [if_pos ⟨hq, d⟩]
      exact Or.inl ⟨rfl, c.2.2⟩
    · rw [if_neg (by omega)]
      exact Or.inr (Or.inr ⟨c.1, by omega, c.2.2⟩)
/-! searches -/
theorem loopE {σ ρ : Type} {body : σ → Option (σ ⊕ ρ)} (mk : Nat → σ) (P : Nat → Bool) (yes : Nat → ρ) (no : ρ) (N : Nat) (hN : N < 100000) (hb : ∀ k, k < N → P k = false → body (mk k) = some (.inl (mk (k + 1)))) (hy : ∀ k, k < N → P k = true → body (mk k) = some (.inr (yes k))) (he : body (mk N) = some (.inr no)) : iter body FUEL (mk 0) = some (if fnd P 0 N < N then yes (fnd P 0 N) else no) := by
  have hle := fnd_le P N 0
  by_cases c : fnd P 0 N < N
  · rw [if_pos c]
    exact loopS mk _ (fnd P 0 N) (by omega) (fun k hk => hb k (by omega) (fnd_no P N 0 k (by omega) hk)) (hy _ c (fnd_yes P N 0 (by omega)))
  · have e : fnd P 0 N = N := by omega
    rw [if_neg c]
    exact loopS mk _ N hN (fun k hk => hb k hk (fnd_no P N 0 k (by omega) (by omega))) he
/-! the first least -/
def fl (v : Nat → Int) : Nat → Nat
  | 0 => 0
  | k + 1 => if v (k + 1) < v (fl v k) then k + 1 else fl v k
theorem fl_le (v : Nat → Int) : ∀ k, fl v k ≤ k
  | 0 => Nat.le_refl 0
  | k + 1 => by
    unfold fl
    split
    · omega
    · have := fl_le v k; omega
/-- steps straight up -/
def cst (w : Nat) (rn : Int) (g kd a : Nat → Int) (f c : Nat) (r : Nat) : Int := cz rn g kd a f (r * w + c) r
theorem cst_bd {w : Nat} {rn : Int} {g kd a : Nat → Int} {f c r : Nat} (hg : ∀ j, 0 ≤ g j ∧ g j ≤ 9) (ha : ∀ j, 0 ≤ a j ∧ a j ≤ 9) (hr : 0 ≤ rn) : 0 ≤ cst w rn g kd a f c r ∧ cst w rn g kd a f c r ≤ 37 := cz_bd hg ha hr
theorem z_stepC {w m : Nat} {rn : Int} {g kd a : Nat → Int} (hD : Dr w rn m g kd a) {f r c : Nat} (hf : f < m) (hr : r < w) (hc : c < w) : f_D_stepOn (iz f) (iz ((r * w + c : Nat) : Int)) (iz w) (iz rn) (ar g) (ar kd) (ar a) = some (iz (cst w rn g kd a f c r)) := by
  obtain ⟨hw, hrn, hm, hg, hkd, ha⟩ := hD
  rw [z_stepOn hw (by omega) (idx_lt hr hc) hrn hg hkd ha, idx_div hc]
  rfl
theorem y_crC {w m : Nat} {rn : Int} {g kd a : Nat → Int} (hD : Dr w rn m g kd a) {f r c : Nat} (hf : f < m) (hr : r < w) (hc : c < w) : f_R_crunches (iz f) (iz ((r * w + c : Nat) : Int)) (iz r) (iz rn) (ar g) (ar kd) (ar a) = some (iz (cst w rn g kd a f c r)) := by
  obtain ⟨hw, hrn, hm, hg, hkd, ha⟩ := hD
  have := idx_lt hr hc
  have := sq_le hw
  rw [y_crunches (by omega) (by omega) (by omega) hrn hg hkd ha]
  rfl
def dif (w : Nat) (rn : Int) (g kd a : Nat → Int) (f h c : Nat) (r : Nat) : Bool := cst w rn g kd a f c r != cst w rn g kd a h c r
theorem z_gapL {w m : Nat} {rn : Int} {g kd a : Nat → Int} (hD : Dr w rn m g kd a) {f h c : Nat} (hf : f < m) (hh : h < m) (hc : c < w) :
    f_M_gap_l27 (iz f) (iz h) (iz c) (iz w) (iz rn) (ar g) (ar kd) (ar a) (iz 0) = some (if fnd (dif w rn g kd a f h c) 0 w < w then .inl (iz ((fnd (dif w rn g kd a f h c) 0 w : Nat) : Int)) else .inr ()) := by
  obtain ⟨hw, hrn, hm, hg, hkd, ha⟩ := id hD
  exact loopE (body := fun s : Int32 => f_M_gap_b27 (iz f) (iz h) (iz c) (iz w) (iz rn) (ar g) (ar kd) (ar a) s) (fun k => iz k) (dif w rn g kd a f h c) (fun k => .inl (iz k)) (.inr ()) w (by omega)
    (fun k hk hP => by
      have b1 := cst_bd (w := w) (kd := kd) (f := f) (c := c) (r := k) hg ha hrn.1
      have b2 := cst_bd (w := w) (kd := kd) (f := h) (c := c) (r := k) hg ha hrn.1
      have hq : cst w rn g kd a f c k = cst w rn g kd a h c k := by simpa [dif] using hP
      simp only [f_M_gap_b27, z_cellAt, Option.bind_some, z_stepC hD hf hk hc, z_stepC hD hh hk hc, ← iz_succ, hq, if_true]
      simp (disch := omega) only [iz_le, if_neg])
    (fun k hk hP => by
      have b1 := cst_bd (w := w) (kd := kd) (f := f) (c := c) (r := k) hg ha hrn.1
      have b2 := cst_bd (w := w) (kd := kd) (f := h) (c := c) (r := k) hg ha hrn.1
      have hq : ¬ cst w rn g kd a f c k = cst w rn g kd a h c k := by simpa [dif] using hP
      simp only [f_M_gap_b27, z_cellAt, Option.bind_some, z_stepC hD hf hk hc, z_stepC hD hh hk hc]
      simp (disch := omega) only [iz_le, iz_eq, if_neg])
    (by
      simp only [f_M_gap_b27]
      simp (disch := omega) only [iz_le, if_pos])
theorem y_gapL {w m : Nat} {rn : Int} {g kd a : Nat → Int} (hD : Dr w rn m g kd a) {f h c : Nat} (hf : f < m) (hh : h < m) (hc : c < w) :
    f_R_gapOf_l3 (iz f) (iz h) (iz c) (iz w) (iz rn) (ar g) (ar kd) (ar a) (iz 0) = some (if fnd (dif w rn g kd a f h c) 0 w < w then .inl (iz ((fnd (dif w rn g kd a f h c) 0 w : Nat) : Int)) else .inr ()) := by
  obtain ⟨hw, hrn, hm, hg, hkd, ha⟩ := id hD
  exact loopE (body := fun s : Int32 => f_R_gapOf_b3 (iz f) (iz h) (iz c) (iz w) (iz rn) (ar g) (ar kd) (ar a) s) (fun k => iz k) (dif w rn g kd a f h c) (fun k => .inl (iz k)) (.inr ()) w (by omega)
    (fun k hk hP => by
      have b1 := cst_bd (w := w) (kd := kd) (f := f) (c := c) (r := k) hg ha hrn.1
      have b2 := cst_bd (w := w) (kd := kd) (f := h) (c := c) (r := k) hg ha hrn.1
      have hq : cst w rn g kd a f c k = cst w rn g kd a h c k := by simpa [dif] using hP
      simp only [f_R_gapOf_b3, idz, Option.bind_some, y_crC hD hf hk hc, y_crC hD hh hk hc, ← iz_succ, hq, if_true]
      simp (disch := omega) only [iz_le, if_neg])
    (fun k hk hP => by
      have b1 := cst_bd (w := w) (kd := kd) (f := f) (c := c) (r := k) hg ha hrn.1
      have b2 := cst_bd (w := w) (kd := kd) (f := h) (c := c) (r := k) hg ha hrn.1
      have hq : ¬ cst w rn g kd a f c k = cst w rn g kd a h c k := by simpa [dif] using hP
      simp only [f_R_gapOf_b3, idz, Option.bind_some, y_crC hD hf hk hc, y_crC hD hh hk hc]
      simp (disch := omega) only [iz_le, iz_eq, if_neg])
    (by
      simp only [f_R_gapOf_b3]
      simp (disch := omega) only [iz_le, if_pos])
def gpz (w : Nat) (rn : Int) (g kd a : Nat → Int) (f h c : Nat) : Int := if fnd (dif w rn g kd a f h c) 0 w < w then (fnd (dif w rn g kd a f h c) 0 w : Nat) else -1
theorem y_gapOf {w m : Nat} {rn : Int} {g kd a : Nat → Int} (hD : Dr w rn m g kd a) {f h c : Nat} (hf : f < m) (hh : h < m) (hc : c < w) :
    f_R_gapOf (iz f) (iz h) (iz c) (iz w) (iz rn) (ar g) (ar kd) (ar a) = some (iz (gpz w rn g kd a f h c)) := by
  unfold f_R_gapOf gpz
  rw [show f_R_gapOf_l3 (iz f) (iz h) (iz c) (iz w) (iz rn) (ar g) (ar kd) (ar a) 0 = _ from y_gapL hD hf hh hc]
  simp only [Option.bind_some]
  split <;> rfl
theorem z_isPair {u v : Int} {m : Nat} (hu : -2147483648 ≤ u ∧ u < 2147483648) (hv : -2147483648 ≤ v ∧ v < 2147483648) (hm : m ≤ 8) : f_M_isPair (iz u) (iz v) (iz m) = some (b1 ((0 ≤ u ∧ u < m) ∧ (0 ≤ v ∧ v < m) ∧ ¬ u = v)) := by
  unfold f_M_isPair
  rw [z_isFeet hu hm, z_isFeet hv hm]
  simp only [Option.bind_some, b1_0, iz_eq hu hv]
  by_cases c1 : 0 ≤ u ∧ u < m
  · by_cases c2 : 0 ≤ v ∧ v < m
    · by_cases c3 : u = v
      · simp (disch := omega) only [iz_add, iz_sub, iz_mul, iz_lt, iz_le, iz_eq, Option.bind_some, b1_i0, b1_i1, zr_b1, Classical.not_not, if_pos, if_neg]
        rw [b1_F (by omega)]
      · simp (disch := omega) only [iz_add, iz_sub, iz_mul, iz_lt, iz_le, iz_eq, Option.bind_some, b1_i0, b1_i1, zr_b1, Classical.not_not, if_pos, if_neg]
        rw [b1_T (by omega)]
    · simp (disch := omega) only [iz_add, iz_sub, iz_mul, iz_lt, iz_le, iz_eq, Option.bind_some, b1_i0, b1_i1, zr_b1, Classical.not_not, if_pos, if_neg]
      rw [b1_F (by omega)]
  · simp (disch := omega) only [iz_add, iz_sub, iz_mul, iz_lt, iz_le, iz_eq, Option.bind_some, b1_i0, b1_i1, zr_b1, Classical.not_not, if_pos, if_neg]
    rw [b1_F (by omega)]
theorem y_areTwo {u v : Int} {m : Nat} (hu : -2147483648 ≤ u ∧ u < 2147483648) (hv : -2147483648 ≤ v ∧ v < 2147483648) (hm : m ≤ 8) : f_R_areTwo (iz u) (iz v) (iz m) = some (b1 ((0 ≤ u ∧ u < m) ∧ (0 ≤ v ∧ v < m) ∧ ¬ u = v)) := by
  unfold f_R_areTwo
  rw [y_isFeet hu hm, y_isFeet hv hm]
  simp only [Option.bind_some, b1_0, iz_eq hu hv]
  by_cases c1 : 0 ≤ u ∧ u < m
  · by_cases c2 : 0 ≤ v ∧ v < m
    · by_cases c3 : u = v
      · simp (disch := omega) only [iz_add, iz_sub, iz_mul, iz_lt, iz_le, iz_eq, Option.bind_some, b1_i0, b1_i1, zr_b1, Classical.not_not, if_pos, if_neg]
        rw [b1_F (by omega)]
      · simp (disch := omega) only [iz_add, iz_sub, iz_mul, iz_lt, iz_le, iz_eq, Option.bind_some, b1_i0, b1_i1, zr_b1, Classical.not_not, if_pos, if_neg]
        rw [b1_T (by omega)]
    · simp (disch := omega) only [iz_add, iz_sub, iz_mul, iz_lt, iz_le, iz_eq, Option.bind_some, b1_i0, b1_i1, zr_b1, Classical.not_not, if_pos, if_neg]
      rw [b1_F (by omega)]
  · simp (disch := omega) only [iz_add, iz_sub, iz_mul, iz_lt, iz_le, iz_eq, Option.bind_some, b1_i0, b1_i1, zr_b1, Classical.not_not, if_pos, if_neg]
    rw [b1_F (by omega)]
theorem q_gap {w m : Nat} {rn : Int} {g kd a : Nat → Int} {rm rr : Nat → Int32} (hD : Dr w rn m g kd a) (hr : RF rm rr) (v1 v2 v3 : Int32) :
    ∃ ans rm' rr', f_M_gap v1 v2 v3 (iz w) (iz rn) (iz m) (ar g) (ar kd) (ar a) rm = some (ans, rm') ∧ f_R_gap v1 v2 v3 (iz w) (iz rn) (iz m) (ar g) (ar kd) (ar a) rr = some (ans, rr') ∧ RF rm' rr' := by
  obtain ⟨hw, hrn, hm, hg, hkd, ha⟩ := id hD
  obtain ⟨x, hx, rfl⟩ := anyI v1
  obtain ⟨y, hy, rfl⟩ := anyI v2
  obtain ⟨z, hz, rfl⟩ := anyI v3
  obtain ⟨rm2, rr2, e1, e2, hr2⟩ := z_ref (why := -2) (by omega) hr
  unfold f_M_gap f_R_gap f_M_gap_j17 f_R_gap_j27
  by_cases c1 : (0 ≤ x ∧ x < m) ∧ (0 ≤ y ∧ y < m) ∧ ¬ x = y
  · obtain ⟨f, hf, rfl⟩ := natZ (n := m) c1.1
    obtain ⟨h, hh, rfl⟩ := natZ (n := m) c1.2.1
    by_cases c2 : 0 ≤ z ∧ z < w
    · obtain ⟨c, hc, rfl⟩ := natZ (n := w) c2
      simp (disch := omega) only [l_0, l_1, l_2, l_3, l_4, l_5, l_6, l_7, l_8, l_9, l_10, l_12, l_16, l_32, l_35, l_36, l_40, l_48, l_59, l_57, l_60, l_97, l_99, l_100, l_122, l_250, l_255, l_1000, l_10000, l_20000, l_1000000, l_12345, l_1103515245, iz_neg, iz_add, iz_sub, iz_mul, iz_lt, iz_le, iz_eq, Option.bind_some, b1_i0, b1_i1, zr_b1, Classical.not_not, if_pos, if_neg, z_isPair, y_areTwo, z_isColumn, y_isColumn]
      rw [z_gapL hD hf hh hc, y_gapOf hD hf hh hc]
      unfold gpz
      simp only [Option.bind_some]
      split
      · exact ⟨_, _, _, rfl, rfl, hr⟩
      · exact ⟨_, _, _, rfl, rfl, hr⟩
    · simp (disch := omega) only [l_0, l_1, l_2, l_3, l_4, l_5, l_6, l_7, l_8, l_9, l_10, l_12, l_16, l_32, l_35, l_36, l_40, l_48, l_59, l_57, l_60, l_97, l_99, l_100, l_122, l_250, l_255, l_1000, l_10000, l_20000, l_1000000, l_12345, l_1103515245, iz_neg, iz_add, iz_sub, iz_mul, iz_lt, iz_le, iz_eq, Option.bind_some, b1_i0, b1_i1, zr_b1, Classical.not_not, if_pos, if_neg, z_isPair, y_areTwo, z_isColumn, y_isColumn, e1, e2]
      exact ⟨_, _, _, rfl, rfl, hr2⟩
  · simp (disch := omega) only [l_0, l_1, l_2, l_3, l_4, l_5, l_6, l_7, l_8, l_9, l_10, l_12, l_16, l_32, l_35, l_36, l_40, l_48, l_59, l_57, l_60, l_97, l_99, l_100, l_122, l_250, l_255, l_1000, l_10000, l_20000, l_1000000, l_12345, l_1103515245, iz_neg, iz_add, iz_sub, iz_mul, iz_lt, iz_le, iz_eq, Option.bind_some, b1_i0, b1_i1, zr_b1, Classical.not_not, if_pos, if_neg, z_isPair, y_areTwo, e1, e2]
    exact ⟨_, _, _, rfl, rfl, hr2⟩

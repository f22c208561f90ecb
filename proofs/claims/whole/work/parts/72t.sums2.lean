/-! the least sum: the reference's ways; costs -/
theorem cell_rc {w j : Nat} (hw : 2 ≤ w ∧ w ≤ 6) (hj : j < w * w) : ∃ r c, r < w ∧ c < w ∧ j = r * w + c :=
  ⟨j / w, j % w, div_lt6 hw hj, Nat.mod_lt _ (by omega), by have := Nat.div_add_mod j w; rw [Nat.mul_comm] at this; omega⟩
theorem fl_first (v : Nat → Int) : ∀ k j, j < fl v k → v (fl v k) < v j
  | 0, j, h => by
    have : fl v 0 = 0 := rfl
    omega
  | k + 1, j, h => by
    rw [fl_s] at h ⊢
    by_cases c : v (k + 1) < v (fl v k)
    · rw [if_pos c] at h ⊢
      have := fl_min v k j (by omega)
      omega
    · rw [if_neg c] at h ⊢
      exact fl_first v k j h
theorem fl_fnd {T : Nat → Int} {k a n : Nat} : fl (fun x => T (a + x)) n = fnd (pL T k a n) 0 n := by
  have h1 := fl_le (fun x => T (a + x)) n
  obtain ⟨x, hx, e⟩ := mnf_is T a n
  have h2 : T (a + fl (fun x => T (a + x)) n) ≤ T (a + x) := fl_min (fun x => T (a + x)) n x hx
  have h3 := mnf_le T a n _ h1
  refine (fnd_is (pL T k a n) (by omega) (by omega) (fun j _ hj => ?_) (fun _ => ?_)).symm
  · have h4 : T (a + fl (fun x => T (a + x)) n) < T (a + j) := fl_first (fun x => T (a + x)) n j hj
    exact decide_eq_false (by omega)
  · exact decide_eq_true (by omega)
def acF (T : Nat → Int) (a : Nat) : Nat → Int
  | 0 => -1
  | m + 1 => ((a + fl (fun x => T (a + x)) m : Nat) : Int)
section
variable {w : Nat} {T s : Nat → Int} {ρ cost way : Nat → Int32} {σ : Int}
theorem y_sums12 (hσ : σ = 1 ∨ σ = -1) (hw : 2 ≤ w ∧ w ≤ 6) (hE : EqL w s T) (hB : BdT w T) (hc : Agr cost (fun j => σ * s j) 0 (w * w)) :
    ∃ ρ', f_R_sums_l12 (iz σ) (iz w) cost (iz w * iz w - 1) ρ = some ρ' ∧ Agr ρ' (fun j => σ * T j) 0 (w * w) := by
  have h36 := sq_le hw
  exact loopI (body := fun s : Int32 × (Nat → Int32) => f_R_sums_b12 (iz σ) (iz w) cost s.1 s.2) (fun k z => ∃ ρ, z = (iz (((w * w : Nat) : Int) - 1 - k), ρ) ∧ Agr ρ (fun j => σ * T j) (w * w - k) (w * w)) _ (w * w) (by omega)
    (fun k z hk => by
      rintro ⟨ρ, rfl, h1⟩
      obtain ⟨j, e1, e2⟩ : ∃ j, w * w - k = j + 1 ∧ (((w * w : Nat) : Int) - 1 - k) = (j : Int) := ⟨w * w - k - 1, by omega, by omega⟩
      rw [e1] at h1
      obtain ⟨r, c, hr, hcw, ej⟩ := cell_rc hw (show j < w * w by omega)
      obtain ⟨ρ2, e3, h3, h4⟩ := y_sums30 (ρ := upd ρ (r * w + c) (iz 0)) hσ hw hr hcw hB (by rw [← ej]; exact agr_upd h1 (by omega)) upd_same
      rw [← ej] at e3 h3 h4
      simp only [f_R_sums_b12]
      rw [e2, if_neg (by rw [l_0, iz_lt (by omega) (by omega)]; omega), wrn _ (by omega) (by omega)]
      simp only [Option.bind_some]
      rw [iz_succ j, show (0 : Int32) = iz 0 from rfl, show f_R_sums_l30 (iz σ) (iz j) (iz w) (iz 0) (iz ((j + 1 : Nat) : Int)) (upd ρ j (iz 0)) = some ρ2 from e3]
      simp only [Option.bind_some]
      rw [rdn _ (by omega) (by omega), h4, rdn _ (by omega) (by omega), hc _ (by omega) (by omega)]
      simp only [Option.bind_some]
      have e5 : σ * bhM w T r c + σ * s j = σ * T j := by
        have := hE r c hr hcw
        rw [← ej] at this
        rw [this, Int.mul_add, Int.add_comm]
      rw [iz_add, e5, wrn _ (by omega) (by omega)]
      refine ⟨_, rfl, upd ρ2 j (iz (σ * T j)), ?_, ?_⟩
      · rw [l_m1, iz_add]; congr 2; omega
      · rw [show w * w - (k + 1) = j by omega]
        exact agr_pv (T := fun j => σ * T j) h3)
    (fun z => by
      rintro ⟨ρ, rfl, h1⟩
      simp only [f_R_sums_b12]
      rw [if_pos (by rw [l_0, iz_lt (by omega) (by omega)]; omega)]
      rw [Nat.sub_self] at h1
      exact ⟨_, rfl, h1⟩)
    (iz w * iz w - 1, ρ) ⟨ρ, by rw [sqz, l_1, iz_sub]; congr 2; omega, agr_no⟩
theorem y_pass {α : Type} {X Y : Option α} {k j : Nat} {q : Nat → Nat} (hw : 2 ≤ w ∧ w ≤ 6) (hk : k < w) (hj : j < w) (hq : ∀ k, q k < w) (hway : ∀ j, j < k → way j = iz ((j * w + q j : Nat) : Int)) :
    (if iz k ≤ 0 then X else (rd way 6 (iz k - 1)).bind fun x => (f_R_isNext x (iz ((k * w + j : Nat) : Int)) (iz w)).bind fun y => if y = 0 then Y else X) = if wlo q k ≤ j ∧ j ≤ wlo q k + wn w q k then X else Y := by
  cases k with
  | zero =>
    rw [if_pos (by rw [l_0, iz_le (by omega) (by omega)]; omega)]
    exact (if_pos (show wlo q 0 ≤ j ∧ j ≤ wlo q 0 + wn w q 0 from ⟨Nat.zero_le j, by show j ≤ 0 + (w - 1); omega⟩)).symm
  | succ k =>
    rw [if_neg (by rw [l_0, iz_le (by omega) (by omega)]; omega), show iz ((k + 1 : Nat) : Int) - 1 = iz (k : Int) by rw [l_1, iz_sub]; congr 1; omega, rdn _ (by omega) (by omega), hway k (by omega)]
    simp only [Option.bind_some]
    rw [y_nx hw (by omega) (hq k) (idx_lt hk hj)]
    simp only [Option.bind_some, b1_0]
    by_cases c : q k - 1 ≤ j ∧ j ≤ q k - 1 + hc w (q k)
    · rw [if_neg (fun z => z ⟨hk, by omega, by omega⟩)]
      exact (if_pos c).symm
    · rw [if_pos (fun z => c (by omega))]
      exact (if_neg c).symm
theorem y_sums143 {k : Nat} {q : Nat → Nat} (hσ : σ = 1 ∨ σ = -1) (hw : 2 ≤ w ∧ w ≤ 6) (hk : k < w) (hq : ∀ k, q k < w) (hway : ∀ j, j < k → way j = iz ((j * w + q j : Nat) : Int)) (hB : BdT w T) (hA : Agr ρ (fun j => σ * T j) 0 (w * w)) :
    f_R_sums_l143 (iz σ) (iz k) (iz w) ρ way (-1) (iz k * iz w) = some (iz ((k * w + wlo q k + fl (fun x => T (k * w + wlo q k + x)) (wn w q k) : Nat) : Int)) := by
  have h36 := sq_le hw
  have hlo := wlo_le hw hq k
  have hsc : (k + 1) * w = k * w + w := Nat.succ_mul k w
  have hrl := row_le hk
  have sgs : ∀ x : Int, σ * (σ * x) = x := fun x => by rcases hσ with rfl | rfl <;> omega
  rw [show iz (k : Int) * iz (w : Int) = iz ((k * w + 0 : Nat) : Int) by rw [iz_mul, ← Int.natCast_mul]; rfl]
  have hl : iter (fun s : Int32 × Int32 => f_R_sums_b143 (iz σ) (iz k) (iz w) ρ way s.1 s.2) FUEL (iz (acF T (k * w + wlo q k) (wsn (wlo q k) (wn w q k + 1) 0)), iz ((k * w + 0 : Nat) : Int)) = some (iz ((k * w + wlo q k + fl (fun x => T (k * w + wlo q k + x)) (wn w q k) : Nat) : Int)) := ?_
  · rw [show wsn (wlo q k) (wn w q k + 1) 0 = 0 by unfold wsn; omega] at hl
    exact hl
  refine loopS (body := fun s : Int32 × Int32 => f_R_sums_b143 (iz σ) (iz k) (iz w) ρ way s.1 s.2) (fun j => (iz (acF T (k * w + wlo q k) (wsn (wlo q k) (wn w q k + 1) j)), iz ((k * w + j : Nat) : Int))) _ w (by omega) (fun j hj => ?_) ?_
  · have hi := idx_lt hk hj
    simp only [f_R_sums_b143]
    rw [idz, if_neg (by rw [iz_le (by omega) (by omega)]; omega), y_pass hw hk hj hq hway]
    by_cases c : wlo q k ≤ j ∧ j ≤ wlo q k + wn w q k
    · rw [if_pos c]
      obtain ⟨m, em⟩ : ∃ m, j = wlo q k + m := ⟨j - wlo q k, by omega⟩
      have s1 : wsn (wlo q k) (wn w q k + 1) j = m := by unfold wsn; omega
      have s2 : wsn (wlo q k) (wn w q k + 1) (j + 1) = m + 1 := by unfold wsn; omega
      rw [s1, s2]
      unfold f_R_sums_j183
      cases m with
      | zero =>
        rw [if_pos (show iz (acF T (k * w + wlo q k) 0) = -1 from rfl), iz_succ, show j = wlo q k from em]
        rfl
      | succ m =>
        have hf := fl_le (fun x => T (k * w + wlo q k + x)) m
        have hi2 := idx_lt hk (show wlo q k + fl (fun x => T (k * w + wlo q k + x)) m < w by omega)
        have b1 := hB _ hi
        have b2 := hB _ hi2
        have e1 := hA _ (by omega) hi
        have e2 := hA _ (by omega) hi2
        rw [← Nat.add_assoc] at e2 b2 hi2
        show (if iz ((k * w + wlo q k + fl (fun x => T (k * w + wlo q k + x)) m : Nat) : Int) = -1 then _ else _) = some (Sum.inl (iz ((k * w + wlo q k + fl (fun x => T (k * w + wlo q k + x)) (m + 1) : Nat) : Int), _))
        rw [if_neg (by rw [l_m1, iz_eq (by omega) (by omega)]; omega), rdn _ (by omega) (by omega), e1]
        simp only [Option.bind_some]
        rw [show rd ρ 36 (iz (acF T (k * w + wlo q k) (m + 1))) = _ from rdn (k * w + wlo q k + fl (fun x => T (k * w + wlo q k + x)) m) (by omega) (by omega), e2]
        simp only [Option.bind_some]
        rw [iz_mul, iz_mul, sgs, sgs, fl_s, show T (k * w + wlo q k + (m + 1)) = T (k * w + j) by rw [em, Nat.add_assoc]]
        by_cases c2 : T (k * w + j) < T (k * w + wlo q k + fl (fun x => T (k * w + wlo q k + x)) m)
        · rw [if_neg (by rw [iz_le (by omega) (by omega)]; omega), if_pos c2, iz_succ, show k * w + wlo q k + (m + 1) = k * w + j by omega]
          rfl
        · rw [if_pos (by rw [iz_le (by omega) (by omega)]; omega), if_neg c2, iz_succ]
          rfl
    · rw [if_neg c, iz_succ, show wsn (wlo q k) (wn w q k + 1) (j + 1) = wsn (wlo q k) (wn w q k + 1) j by unfold wsn; omega]
      rfl
  · simp only [f_R_sums_b143]
    rw [idz, if_pos (by rw [iz_le (by omega) (by omega)]; omega), show wsn (wlo q k) (wn w q k + 1) w = wn w q k + 1 by unfold wsn; omega]
    rfl
theorem y_sums (hσ : σ = 1 ∨ σ = -1) (hw : 2 ≤ w ∧ w ≤ 6) (hE : EqL w s T) (hB : BdT w T) (hc : Agr cost (fun j => σ * s j) 0 (w * w)) (rest way : Nat → Int32) :
    ∃ rest' way', f_R_sums (iz σ) (iz w) cost rest way = some (iz (σ * mnf T 0 (w - 1)), rest', way') ∧ ∀ k, k < w → way' k = iz ((k * w + qd w (pL T) k : Nat) : Int) := by
  have h36 := sq_le hw
  have hq := qd_lt hw (pL T)
  obtain ⟨ρ', e1, h1⟩ := y_sums12 (ρ := rest) hσ hw hE hB hc
  obtain ⟨way', e2, h2⟩ := loopI (body := fun s : Int32 × (Nat → Int32) => f_R_sums_b125 (iz σ) (iz w) ρ' s.1 s.2) (fun k z => ∃ way, z = (iz k, way) ∧ ∀ j, j < k → way j = iz ((j * w + qd w (pL T) j : Nat) : Int)) (fun way => ∀ k, k < w → way k = iz ((k * w + qd w (pL T) k : Nat) : Int)) w (by omega)
    (fun k z hk => by
      rintro ⟨way, rfl, h2⟩
      simp only [f_R_sums_b125]
      rw [if_neg (by rw [iz_le (by omega) (by omega)]; omega), y_sums143 hσ hw hk hq h2 hB h1]
      simp only [Option.bind_some]
      rw [fl_fnd (k := k), Nat.add_assoc, ← qd_eq w (pL T) k, wrn _ (by omega) (by omega)]
      refine ⟨_, rfl, _, by rw [iz_succ], fun j hj => ?_⟩
      by_cases c : j = k
      · subst c; exact upd_same
      · rw [upd_ne c]; exact h2 j (by omega))
    (fun z => by
      rintro ⟨way, rfl, h2⟩
      simp only [f_R_sums_b125]
      rw [if_pos (by rw [iz_le (by omega) (by omega)]; omega)]
      exact ⟨_, rfl, h2⟩)
    (iz 0, way) ⟨way, rfl, fun j hj => by omega⟩
  have hi := idx_lt (show 0 < w by omega) (hq 0)
  have h3 := qL_cell (w := w) (T := T) 0
  rw [win_0] at h3
  unfold f_R_sums
  rw [e1]
  simp only [Option.bind_some]
  rw [show f_R_sums_l125 (iz σ) (iz w) ρ' 0 way = some way' from e2]
  simp only [Option.bind_some]
  rw [show (0 : Int32) = iz ((0 : Nat) : Int) from rfl, rdn _ (by omega) (by omega), h2 0 (by omega)]
  simp only [Option.bind_some]
  have e5 : ρ' (0 * w + qd w (pL T) 0) = iz (σ * mnf T 0 (w - 1)) := by
    rw [← h3]; exact h1 _ (by omega) hi
  rw [rdn _ (by omega) (by omega), e5]
  exact ⟨_, _, rfl, h2⟩
end

/-! the least sum: both sides -/
def pL (T : Nat → Int) (_ a n x : Nat) : Bool := decide (T (a + x) ≤ mnf T a n)
def pG (T : Nat → Int) (lim : Int) (_ a _ x : Nat) : Bool := decide (T (a + x) ≤ lim)
theorem pL_min {T : Nat → Int} {k a n : Nat} : T (a + fnd (pL T k a n) 0 n) = mnf T a n := by
  by_cases c : fnd (pL T k a n) 0 n < n
  · have h1 := of_decide_eq_true (p := T (a + fnd (pL T k a n) 0 n) ≤ mnf T a n) (fnd_yes (pL T k a n) n 0 (by omega))
    have h2 := mnf_le T a n (fnd (pL T k a n) 0 n) (by omega)
    omega
  · have e : fnd (pL T k a n) 0 n = n := by
      have := fnd_le (pL T k a n) n 0
      omega
    obtain ⟨x, hx, e2⟩ := mnf_is T a n
    by_cases d : x < n
    · have := of_decide_eq_false (p := T (a + x) ≤ mnf T a n) (fnd_no (pL T k a n) n 0 x (by omega) (by omega))
      omega
    · obtain rfl : x = n := by omega
      rw [e]
      exact e2.symm
section
variable {w : Nat} {T s : Nat → Int} {ρ st : Nat → Int32}
theorem qL_cell (k : Nat) : T (k * w + qd w (pL T) k) = mnf T (k * w + wlo (qd w (pL T)) k) (wn w (qd w (pL T)) k) := by
  rw [qd_eq w (pL T) k, ← Nat.add_assoc]
  exact pL_min
theorem win_bd (hw : 2 ≤ w ∧ w ≤ 6) (hB : BdT w T) {q : Nat → Nat} (hq : ∀ k, q k < w) {k : Nat} (hk : k < w) : -500 ≤ mnf T (k * w + wlo q k) (wn w q k) ∧ mnf T (k * w + wlo q k) (wn w q k) ≤ 500 := by
  have := wlo_le hw hq k
  refine mnf_bd (fun x hx => ?_)
  rw [Nat.add_assoc]
  exact hB _ (idx_lt hk (by omega))
theorem win_0 (q : Nat → Nat) : mnf T (0 * w + wlo q 0) (wn w q 0) = mnf T 0 (w - 1) := by
  show mnf T (0 * w + 0) (w - 1) = _
  rw [Nat.zero_mul]
theorem z_leastTogether (hw : 2 ≤ w ∧ w ≤ 6) (hs : Agr st s 0 (w * w)) (hE : EqL w s T) (hB : BdT w T) (rest way : Nat → Int32) :
    ∃ rest' way', f_P_leastTogether (iz w) st rest way = some (iz (mnf T 0 (w - 1)), rest', way') ∧ ∀ k, k < w → way' k = iz ((k * w + qd w (pL T) k : Nat) : Int) := by
  have hq := qd_lt hw (pL T)
  obtain ⟨ρ', e1, h1⟩ := z_ltAll (ρ := rest) hw hs hE hB
  obtain ⟨way', e2, h2⟩ := z_keepFirst (p := pL T) (lf := fun k => mnf T (k * w + wlo (qd w (pL T)) k) (wn w (qd w (pL T)) k)) (sp := 1) hw h1 hB hs
    (fun k hk => by have := win_bd hw hB hq hk; omega) (Or.inr rfl) (fun k x _ _ => rfl)
    (fun k hk => by
      have e := hE k (qd w (pL T) k) (by omega) (hq k)
      unfold bhM at e
      rw [if_pos hk] at e
      have e3 := qL_cell (T := T) (w := w) k
      show mnf T ((k + 1) * w + (qd w (pL T) k - 1)) (hc w (qd w (pL T) k)) = _
      rw [if_neg (by decide)]
      omega) way
  rw [win_0] at e2
  unfold f_P_leastTogether
  rw [z_len hw]
  simp only [Option.bind_some]
  rw [e1]
  simp only [Option.bind_some]
  rw [z_leastAtGate hw h1 hB]
  simp only [Option.bind_some]
  rw [show f_P_keepFirst (iz (mnf T 0 (w - 1))) 1 (iz w) st ρ' way = some way' from e2]
  exact ⟨_, _, rfl, h2⟩
theorem z_leastGreatest (hw : 2 ≤ w ∧ w ≤ 6) (hs : Agr st s 0 (w * w)) (hsb : ∀ j, j < w * w → -500 ≤ s j ∧ s j ≤ 500) (hE : EqG w s T) (hB : BdT w T) (rest way : Nat → Int32) :
    ∃ rest' way', f_P_leastGreatest (iz w) st rest way = some (iz (mnf T 0 (w - 1)), rest', way') ∧ ∀ k, k < w → way' k = iz ((k * w + qd w (pG T (mnf T 0 (w - 1))) k : Nat) : Int) := by
  have hp : w ≤ w * w := by have := Nat.mul_le_mul_right w (show 1 ≤ w by omega); omega
  have hb := mnf_bd (T := T) (a := 0) (n := w - 1) (M := 500) (fun x hx => hB _ (by omega))
  obtain ⟨ρ', e1, h1⟩ := z_lgAll (ρ := rest) hw hs hsb hE hB
  obtain ⟨way', e2, h2⟩ := z_keepFirst (p := pG T (mnf T 0 (w - 1))) (lf := fun _ => mnf T 0 (w - 1)) (sp := 0) hw h1 hB hs
    (fun k hk => by omega) (Or.inl rfl) (fun k x _ _ => rfl)
    (fun k hk => by rw [if_pos rfl]; omega) way
  unfold f_P_leastGreatest
  rw [z_len hw]
  simp only [Option.bind_some]
  rw [e1]
  simp only [Option.bind_some]
  rw [z_leastAtGate hw h1 hB]
  simp only [Option.bind_some]
  rw [show f_P_keepFirst (iz (mnf T 0 (w - 1))) 0 (iz w) st ρ' way = some way' from e2]
  exact ⟨_, _, rfl, h2⟩
/-! the tables -/
def Tv (w : Nat) (op : Int → Int → Int) (s : Nat → Int) : Nat → Nat → Int
  | 0, c => op (s ((w - 1) * w + c)) 0
  | d + 1, c => op (s ((w - 2 - d) * w + c)) (mnf (Tv w op s d) (c - 1) (hc w c))
def Tb (w : Nat) (op : Int → Int → Int) (s : Nat → Int) (j : Nat) : Int := Tv w op s (w - 1 - j / w) (j % w)
theorem Tb_eq (hw : 2 ≤ w ∧ w ≤ 6) (op : Int → Int → Int) (s : Nat → Int) {r c : Nat} (hr : r < w) (hcw : c < w) : Tb w op s (r * w + c) = op (s (r * w + c)) (bhM w (Tb w op s) r c) := by
  obtain ⟨q1, q2⟩ := hc_lt hw hcw
  unfold bhM
  by_cases h : r + 1 < w
  · obtain ⟨d, e⟩ : ∃ d, w - 1 - r = d + 1 := ⟨w - 2 - r, by omega⟩
    rw [if_pos h]
    show Tv w op s (w - 1 - (r * w + c) / w) ((r * w + c) % w) = _
    rw [idx_div hcw, idx_mod hcw, e]
    show op (s ((w - 2 - d) * w + c)) (mnf (Tv w op s d) (c - 1) (hc w c)) = _
    rw [show w - 2 - d = r by omega]
    congr 1
    refine mnf_congr _ (fun x hx => ?_)
    show _ = Tv w op s (w - 1 - ((r + 1) * w + (c - 1) + x) / w) (((r + 1) * w + (c - 1) + x) % w)
    rw [Nat.add_assoc, idx_div (by omega), idx_mod (by omega), show w - 1 - (r + 1) = d by omega]
  · rw [if_neg h]
    show Tv w op s (w - 1 - (r * w + c) / w) ((r * w + c) % w) = _
    rw [idx_div hcw, idx_mod hcw, show w - 1 - r = 0 by omega]
    show op (s ((w - 1) * w + c)) 0 = _
    rw [show w - 1 = r by omega]
theorem Tv_bd {op : Int → Int → Int} (hop : ∀ a b M : Int, -37 ≤ a ∧ a ≤ 37 → 0 ≤ M → -M ≤ b ∧ b ≤ M → -(M + 37) ≤ op a b ∧ op a b ≤ M + 37) (hs : ∀ j, -37 ≤ s j ∧ s j ≤ 37) : ∀ d c : Nat, -(37 * ((d : Int) + 1)) ≤ Tv w op s d c ∧ Tv w op s d c ≤ 37 * ((d : Int) + 1)
  | 0, c => by
    have := hop _ 0 0 (hs ((w - 1) * w + c)) (by omega) (by omega)
    show -(37 * (((0 : Nat) : Int) + 1)) ≤ op (s ((w - 1) * w + c)) 0 ∧ op (s ((w - 1) * w + c)) 0 ≤ 37 * (((0 : Nat) : Int) + 1)
    omega
  | d + 1, c => by
    have h1 := mnf_bd (T := Tv w op s d) (a := c - 1) (n := hc w c) (M := 37 * ((d : Int) + 1)) (fun x _ => Tv_bd hop hs d _)
    have := hop _ _ _ (hs ((w - 2 - d) * w + c)) (show 0 ≤ 37 * ((d : Int) + 1) by omega) h1
    show -(37 * (((d + 1 : Nat) : Int) + 1)) ≤ op (s ((w - 2 - d) * w + c)) (mnf (Tv w op s d) (c - 1) (hc w c)) ∧ op (s ((w - 2 - d) * w + c)) (mnf (Tv w op s d) (c - 1) (hc w c)) ≤ 37 * (((d + 1 : Nat) : Int) + 1)
    omega
abbrev opA : Int → Int → Int := fun a b => a + b
abbrev opX : Int → Int → Int := fun a b => max a b
theorem Tb_bd {op : Int → Int → Int} (hw : 2 ≤ w ∧ w ≤ 6) (hop : ∀ a b M : Int, -37 ≤ a ∧ a ≤ 37 → 0 ≤ M → -M ≤ b ∧ b ≤ M → -(M + 37) ≤ op a b ∧ op a b ≤ M + 37) (hs : ∀ j, -37 ≤ s j ∧ s j ≤ 37) : BdT w (Tb w op s) := fun j hj => by
  have := Tv_bd (w := w) (s := s) hop hs (w - 1 - j / w) (j % w)
  show -500 ≤ Tv w op s (w - 1 - j / w) (j % w) ∧ Tv w op s (w - 1 - j / w) (j % w) ≤ 500
  generalize j / w = q at this ⊢
  omega
theorem hopA : ∀ a b M : Int, -37 ≤ a ∧ a ≤ 37 → 0 ≤ M → -M ≤ b ∧ b ≤ M → -(M + 37) ≤ opA a b ∧ opA a b ≤ M + 37 := fun a b M h1 h2 h3 => by
  show -(M + 37) ≤ a + b ∧ a + b ≤ M + 37
  omega
theorem hopX : ∀ a b M : Int, -37 ≤ a ∧ a ≤ 37 → 0 ≤ M → -M ≤ b ∧ b ≤ M → -(M + 37) ≤ opX a b ∧ opX a b ≤ M + 37 := fun a b M h1 h2 h3 => by
  show -(M + 37) ≤ max a b ∧ max a b ≤ M + 37
  omega
/-! the reference -/
theorem y_nx {r c t : Nat} (hw : 2 ≤ w ∧ w ≤ 6) (hr : r < w) (hcw : c < w) (ht : t < w * w) : f_R_isNext (iz ((r * w + c : Nat) : Int)) (iz t) (iz w) = some (b1 (r + 1 < w ∧ (r + 1) * w + (c - 1) ≤ t ∧ t ≤ (r + 1) * w + (c - 1) + hc w c)) := by
  have h36 := sq_le hw
  have hi := idx_lt hr hcw
  obtain ⟨q1, q2⟩ := hc_lt hw hcw
  have hsc : (r + 1) * w = r * w + w := Nat.succ_mul r w
  have hd := div_lt6 hw ht
  by_cases h : t / w = r + 1
  · rw [y_isNext hw (show r ≤ 40 by omega) h (idx_div hcw)]
    have h2 := (div_is (t := t) (k := r + 1) (w := w) (by omega)).mp h
    congr 1
    refine b1_c ⟨fun z => ⟨by omega, by omega, by omega⟩, fun z => ⟨by omega, by omega⟩⟩
  · have hn : ¬ (r + 1 < w ∧ (r + 1) * w + (c - 1) ≤ t ∧ t ≤ (r + 1) * w + (c - 1) + hc w c) := fun ⟨z1, z2, z3⟩ =>
      h ((div_is (t := t) (k := r + 1) (w := w) (by omega)).mpr ⟨by omega, by omega⟩)
    unfold f_R_isNext
    rw [dv_iz (by omega) (by omega), dv_iz (by omega) (by omega)]
    simp only [Option.bind_some]
    have e1 : ((t : Int) / (w : Int)) = ((t / w : Nat) : Int) := rfl
    have e2 : (((r * w + c : Nat) : Int) / (w : Int)) = (((r * w + c) / w : Nat) : Int) := rfl
    rw [e1, e2, idx_div hcw, l_1, iz_add]
    generalize t / w = tq at h hd
    rw [if_neg (by rw [iz_eq (by omega) (by omega)]; omega), b1_F hn]
def acR (σ : Int) (T : Nat → Int) (a : Nat) : Nat → Int
  | 0 => 0
  | k + 1 => σ * mnf T a k
def nx (w r c : Nat) : Nat := if r + 1 < w then hc w c + 1 else 0
def wsn (a n x : Nat) : Nat := min (x - a) n
theorem y_sums30 {r c : Nat} {σ : Int} (hσ : σ = 1 ∨ σ = -1) (hw : 2 ≤ w ∧ w ≤ 6) (hr : r < w) (hcw : c < w) (hB : BdT w T) (hA : Agr ρ (fun j => σ * T j) (r * w + c + 1) (w * w)) (h0 : ρ (r * w + c) = iz 0) :
    ∃ ρ', f_R_sums_l30 (iz σ) (iz ((r * w + c : Nat) : Int)) (iz w) 0 (iz ((r * w + c + 1 : Nat) : Int)) ρ = some ρ' ∧ Agr ρ' (fun j => σ * T j) (r * w + c + 1) (w * w) ∧ ρ' (r * w + c) = iz (σ * bhM w T r c) := by
  have h36 := sq_le hw
  have hi := idx_lt hr hcw
  obtain ⟨q1, q2⟩ := hc_lt hw hcw
  have hsc : (r + 1) * w = r * w + w := Nat.succ_mul r w
  have sgs : ∀ x : Int, σ * (σ * x) = x := fun x => by rcases hσ with rfl | rfl <;> omega
  have hn : nx w r c ≤ hc w c + 1 := by unfold nx; split <;> omega
  have hlast : acR σ T ((r + 1) * w + (c - 1)) (nx w r c) = σ * bhM w T r c := by
    unfold nx bhM
    by_cases h : r + 1 < w
    · rw [if_pos h, if_pos h]; rfl
    · rw [if_neg h, if_neg h, Int.mul_zero]; rfl
  have hend : r + 1 < w → (r + 1) * w + (c - 1) + hc w c < w * w := fun h => by
    rw [Nat.add_assoc]; exact idx_lt h q1
  exact loopI (body := fun s : Int32 × Int32 × (Nat → Int32) => f_R_sums_b30 (iz σ) (iz ((r * w + c : Nat) : Int)) (iz w) s.1 s.2.1 s.2.2)
    (fun k z => ∃ ρ, z = (iz (if wsn ((r + 1) * w + (c - 1)) (nx w r c) (r * w + c + 1 + k) = 0 then 0 else 1), iz ((r * w + c + 1 + k : Nat) : Int), ρ) ∧ Agr ρ (fun j => σ * T j) (r * w + c + 1) (w * w) ∧ ρ (r * w + c) = iz (acR σ T ((r + 1) * w + (c - 1)) (wsn ((r + 1) * w + (c - 1)) (nx w r c) (r * w + c + 1 + k))))
    _ (w * w - (r * w + c + 1)) (by omega)
    (fun k z hk => by
      rintro ⟨ρ, rfl, h1, h2⟩
      have hd : r * w + c + 1 + k < w * w := by omega
      simp only [f_R_sums_b30, f_R_sums_j81]
      rw [sqz, if_neg (by rw [iz_le (by omega) (by omega)]; omega), y_nx hw hr hcw hd]
      simp only [Option.bind_some, b1_0]
      by_cases c1 : r + 1 < w ∧ (r + 1) * w + (c - 1) ≤ r * w + c + 1 + k ∧ r * w + c + 1 + k ≤ (r + 1) * w + (c - 1) + hc w c
      · have en : nx w r c = hc w c + 1 := if_pos c1.1
        rw [if_neg (fun z => z c1), en]
        rw [en] at h2
        obtain ⟨m, em⟩ : ∃ m, r * w + c + 1 + k = (r + 1) * w + (c - 1) + m := ⟨r * w + c + 1 + k - ((r + 1) * w + (c - 1)), by omega⟩
        have hval := h1 (r * w + c + 1 + k) (by omega) hd
        have s1 : wsn ((r + 1) * w + (c - 1)) (hc w c + 1) (r * w + c + 1 + k) = m := by unfold wsn; omega
        have s2 : wsn ((r + 1) * w + (c - 1)) (hc w c + 1) (r * w + c + 1 + (k + 1)) = m + 1 := by unfold wsn; omega
        rw [s1] at h2 ⊢
        rw [s2, if_neg (show ¬ m + 1 = 0 by omega)]
        cases m with
        | zero =>
          rw [if_pos rfl, if_pos (show iz 0 = 0 from rfl), rdn _ (by omega) (by omega), hval]
          simp only [Option.bind_some]
          rw [wrn _ (by omega) (by omega)]
          simp only [Option.bind_some]
          exact ⟨_, rfl, upd ρ (r * w + c) (iz (σ * T (r * w + c + 1 + k))), by rw [iz_succ]; rfl, agr_upd h1 (by omega), by rw [upd_same, em]; rfl⟩
        | succ m =>
          have b1 := hB _ hd
          have b2 := mnf_bd (T := T) (a := (r + 1) * w + (c - 1)) (n := m) (M := 500) (fun x hx => hB _ (by omega))
          rw [if_neg (show ¬ m + 1 = 0 by omega), if_neg (show ¬ iz 1 = 0 by decide), rdn _ (by omega) (by omega), hval]
          simp only [Option.bind_some]
          rw [rdn _ (by omega) (by omega), h2]
          simp only [Option.bind_some]
          rw [iz_mul, iz_mul, show σ * acR σ T ((r + 1) * w + (c - 1)) (m + 1) = mnf T ((r + 1) * w + (c - 1)) m from sgs _, sgs]
          have em2 : mnf T ((r + 1) * w + (c - 1)) (m + 1) = min (mnf T ((r + 1) * w + (c - 1)) m) (T (r * w + c + 1 + k)) := by rw [em]; rfl
          by_cases c2 : T (r * w + c + 1 + k) < mnf T ((r + 1) * w + (c - 1)) m
          · rw [if_pos (by rw [iz_lt (by omega) (by omega)]; exact c2), wrn _ (by omega) (by omega)]
            simp only [Option.bind_some]
            refine ⟨_, rfl, upd ρ (r * w + c) (iz (σ * T (r * w + c + 1 + k))), by rw [iz_succ]; rfl, agr_upd h1 (by omega), ?_⟩
            rw [upd_same]
            show _ = iz (σ * mnf T ((r + 1) * w + (c - 1)) (m + 1))
            rw [em2, show min (mnf T ((r + 1) * w + (c - 1)) m) (T (r * w + c + 1 + k)) = T (r * w + c + 1 + k) by omega]
          · rw [if_neg (by rw [iz_lt (by omega) (by omega)]; exact c2)]
            refine ⟨_, rfl, ρ, by rw [iz_succ]; rfl, h1, ?_⟩
            rw [h2]
            show iz (σ * mnf T ((r + 1) * w + (c - 1)) m) = iz (σ * mnf T ((r + 1) * w + (c - 1)) (m + 1))
            rw [em2, show min (mnf T ((r + 1) * w + (c - 1)) m) (T (r * w + c + 1 + k)) = mnf T ((r + 1) * w + (c - 1)) m by omega]
      · rw [if_pos c1]
        have s3 : wsn ((r + 1) * w + (c - 1)) (nx w r c) (r * w + c + 1 + (k + 1)) = wsn ((r + 1) * w + (c - 1)) (nx w r c) (r * w + c + 1 + k) := by
          unfold wsn nx
          by_cases h : r + 1 < w
          · rw [if_pos h]; omega
          · rw [if_neg h]; omega
        exact ⟨_, rfl, ρ, by rw [iz_succ, s3]; rfl, h1, by rw [s3]; exact h2⟩)
    (fun z => by
      rintro ⟨ρ, rfl, h1, h2⟩
      simp only [f_R_sums_b30]
      rw [sqz, if_pos (by rw [iz_le (by omega) (by omega)]; omega)]
      refine ⟨_, rfl, h1, ?_⟩
      rw [h2, ← hlast]
      congr 2
      unfold wsn nx
      by_cases h : r + 1 < w
      · have := hend h
        rw [if_pos h]; omega
      · rw [if_neg h]; omega)
    (0, iz ((r * w + c + 1 : Nat) : Int), ρ)
    ⟨ρ, by
      rw [if_pos (by unfold wsn; omega)]
      rfl, hA, by
      rw [h0, show wsn ((r + 1) * w + (c - 1)) (nx w r c) (r * w + c + 1 + 0) = 0 by unfold wsn; omega]
      rfl⟩
end

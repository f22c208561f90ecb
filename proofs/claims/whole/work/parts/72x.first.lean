/-! the first way; ways not heard -/
def pN (N : Nat → Int) (_ a _ x : Nat) : Bool := decide (¬ N (a + x) = 0)
theorem fnd_ex {P : Nat → Bool} {n : Nat} (h : ∃ x, x ≤ n ∧ P x = true) : P (fnd P 0 n) = true := by
  obtain ⟨x, hx, hp⟩ := h
  have h1 := fnd_le P n 0
  by_cases c : fnd P 0 n < n
  · exact fnd_yes P n 0 (by omega)
  · by_cases d : x < n
    · have := fnd_no P n 0 x (by omega) (by omega)
      rw [hp] at this
      cases this
    · rw [show fnd P 0 n = x by omega]
      exact hp
theorem sm_ne {g : Nat → Int} : ∀ n, ¬ sm g n = 0 → ∃ x, x < n ∧ ¬ g x = 0
  | 0, h => absurd rfl h
  | n + 1, h => by
    by_cases c : g n = 0
    · obtain ⟨x, hx, e⟩ := sm_ne n (fun z : sm g n = 0 => h (by show sm g n + g n = 0; rw [z, c]; rfl))
      exact ⟨x, by omega, e⟩
    · exact ⟨n, by omega, c⟩
section
variable {w : Nat} {N T s : Nat → Int} {op : Nat → Bool} {ρ st may way : Nat → Int32}
theorem win_ne (hE : EqN w op N) {q : Nat → Nat} {k : Nat} (hw : 2 ≤ w ∧ w ≤ 6) (hq : ∀ k, q k < w) (hk : k + 1 < w) (h : ¬ N (k * w + q k) = 0) : ∃ x, x ≤ hc w (q k) ∧ ¬ N ((k + 1) * w + (q k - 1) + x) = 0 := by
  have he := hE k (q k) (by omega) (hq k)
  rw [if_pos hk] at he
  by_cases ho : op (k * w + q k) = true
  · rw [if_pos ho] at he
    obtain ⟨x, hx, e⟩ := sm_ne _ (show ¬ bhS w N k (q k) = 0 by omega)
    exact ⟨x, by omega, e⟩
  · rw [if_neg ho] at he
    exact absurd he h
theorem qN_ne (hw : 2 ≤ w ∧ w ≤ 6) (hE : EqN w op N) (h : ¬ sm N w = 0) : ∀ k, k < w → ¬ N (k * w + qd w (pN N) k) = 0
  | 0, _ => by
    obtain ⟨x, hx, e⟩ := sm_ne w h
    have h2 := of_decide_eq_true (p := ¬ N (0 + fnd (pN N 0 0 (w - 1)) 0 (w - 1)) = 0) (fnd_ex (P := pN N 0 0 (w - 1)) ⟨x, by omega, decide_eq_true (by rw [Nat.zero_add]; exact e)⟩)
    rw [Nat.zero_mul]
    exact h2
  | k + 1, hk => by
    have ih := qN_ne hw hE h k (by omega)
    obtain ⟨x, hx, e⟩ := win_ne hE hw (qd_lt hw (pN N)) hk ih
    have h2 := of_decide_eq_true (p := ¬ N ((k + 1) * w + (qd w (pN N) k - 1) + fnd (pN N (k + 1) ((k + 1) * w + (qd w (pN N) k - 1)) (hc w (qd w (pN N) k))) 0 (hc w (qd w (pN N) k))) = 0) (fnd_ex (P := pN N (k + 1) ((k + 1) * w + (qd w (pN N) k - 1)) (hc w (qd w (pN N) k))) ⟨x, hx, decide_eq_true e⟩)
    rw [Nat.add_assoc] at h2
    exact h2
theorem y_first22 {k : Nat} (hw : 2 ≤ w ∧ w ≤ 6) (hk : k < w) (hNb : ∀ j, 0 ≤ N j ∧ N j ≤ 243) (hA : Agr ρ N 0 (w * w)) (hway : ∀ j, j < k → way j = iz ((j * w + qd w (pN N) j : Nat) : Int)) (hne : ¬ N (k * w + qd w (pN N) k) = 0) :
    f_R_first_l22 (iz k) (iz w) ρ way (iz k * iz w) = some (iz ((k * w + qd w (pN N) k : Nat) : Int)) := by
  have h36 := sq_le hw
  have hq := qd_lt hw (pN N)
  have hlo := wlo_le hw hq k
  have hqe := qd_eq w (pN N) k
  have hle := fnd_le (pN N k (k * w + wlo (qd w (pN N)) k) (wn w (qd w (pN N)) k)) (wn w (qd w (pN N)) k) 0
  have hqk := hq k
  rw [show iz (k : Int) * iz (w : Int) = iz ((k * w + 0 : Nat) : Int) by rw [iz_mul, ← Int.natCast_mul]; rfl]
  refine loopS (body := fun s : Int32 => f_R_first_b22 (iz k) (iz w) ρ way s) (fun j => iz ((k * w + j : Nat) : Int)) _ (qd w (pN N) k) (by omega) (fun j hj => ?_) ?_
  · have hi := idx_lt hk (show j < w by omega)
    have hb := hNb (k * w + j)
    simp only [f_R_first_b22]
    rw [rdn _ (by omega) (by omega), hA _ (by omega) hi]
    simp only [Option.bind_some]
    by_cases c : N (k * w + j) = 0
    · rw [if_pos (by rw [c]; rfl), iz_succ]
      rfl
    · rw [if_neg (by rw [l_0, iz_eq (by omega) (by omega)]; exact c), y_pass hw hk (show j < w by omega) hq hway, if_neg, iz_succ]
      · rfl
      · rintro ⟨z1, z2⟩
        have h2 := of_decide_eq_false (p := ¬ N (k * w + wlo (qd w (pN N)) k + (j - wlo (qd w (pN N)) k)) = 0) (fnd_no (pN N k (k * w + wlo (qd w (pN N)) k) (wn w (qd w (pN N)) k)) (wn w (qd w (pN N)) k) 0 (j - wlo (qd w (pN N)) k) (by omega) (by omega))
        rw [show k * w + wlo (qd w (pN N)) k + (j - wlo (qd w (pN N)) k) = k * w + j by omega] at h2
        exact h2 c
  · have hi := idx_lt hk hqk
    have hb := hNb (k * w + qd w (pN N) k)
    simp only [f_R_first_b22]
    rw [rdn _ (by omega) (by omega), hA _ (by omega) hi]
    simp only [Option.bind_some]
    rw [if_neg (by rw [l_0, iz_eq (by omega) (by omega)]; exact hne), y_pass hw hk hqk hq hway, if_pos ⟨by omega, by omega⟩]
theorem y_first (hw : 2 ≤ w ∧ w ≤ 6) (hm : May w may op) (hne : ¬ nw w op = 0) (rest way : Nat → Int32) :
    ∃ rest' way', f_R_first (iz w) may rest way = some (rest', way') ∧ ∀ k, k < w → way' k = iz ((k * w + qd w (pN (Nb w op)) k : Nat) : Int) := by
  obtain ⟨rest', e1, h1⟩ := y_count (ρ := rest) hw hm (Nb_eq hw op)
  obtain ⟨way', e2, h2⟩ := loopI (body := fun s : Int32 × (Nat → Int32) => f_R_first_b7 (iz w) rest' s.1 s.2) (fun k z => ∃ way, z = (iz k, way) ∧ ∀ j, j < k → way j = iz ((j * w + qd w (pN (Nb w op)) j : Nat) : Int)) (fun way => ∀ k, k < w → way k = iz ((k * w + qd w (pN (Nb w op)) k : Nat) : Int)) w (by omega)
    (fun k z hk => by
      rintro ⟨way, rfl, h2⟩
      simp only [f_R_first_b7]
      rw [if_neg (by rw [iz_le (by omega) (by omega)]; omega), y_first22 hw hk (Nb_bd hw op) h1 h2 (qN_ne hw (Nb_eq hw op) hne k hk)]
      simp only [Option.bind_some]
      rw [wrn _ (by omega) (by omega)]
      refine ⟨_, rfl, _, by rw [iz_succ], fun j hj => ?_⟩
      by_cases c : j = k
      · subst c; exact upd_same
      · rw [upd_ne c]; exact h2 j (by omega))
    (fun z => by
      rintro ⟨way, rfl, h2⟩
      simp only [f_R_first_b7]
      rw [if_pos (by rw [iz_le (by omega) (by omega)]; omega)]
      exact ⟨_, rfl, h2⟩)
    (iz 0, way) ⟨way, rfl, fun j hj => by omega⟩
  unfold f_R_first
  rw [e1]
  simp only [Option.bind_some]
  rw [show f_R_first_l7 (iz w) rest' 0 way = some way' from e2]
  exact ⟨_, _, rfl, h2⟩
/-! counts and least sums -/
theorem NT {lim : Int} (hw : 2 ≤ w ∧ w ≤ 6) (hT : ∀ r c, r < w → c < w → (T (r * w + c) ≤ lim ↔ (op (r * w + c) = true ∧ (r + 1 < w → bhM w T r c ≤ lim)))) (hE : EqN w op N) (h0 : ∀ j, 0 ≤ N j) : ∀ d r, r + d + 1 = w → ∀ c, c < w → (¬ N (r * w + c) = 0 ↔ T (r * w + c) ≤ lim) := by
  intro d
  induction d with
  | zero =>
    intro r hr c hcw
    rw [hT r c (by omega) hcw, hE r c (by omega) hcw, if_neg (show ¬ r + 1 < w by omega)]
    by_cases ho : op (r * w + c) = true
    · rw [if_pos ho]
      exact ⟨fun _ => ⟨ho, fun z => by omega⟩, fun _ => by decide⟩
    · rw [if_neg ho]
      exact ⟨fun z => absurd rfl z, fun z => absurd z.1 ho⟩
  | succ d ih =>
    intro r hr c hcw
    have hl : r + 1 < w := by omega
    obtain ⟨q1, q2⟩ := hc_lt hw hcw
    have key : ¬ bhS w N r c = 0 ↔ bhM w T r c ≤ lim := by
      unfold bhM
      rw [if_pos hl]
      constructor
      · intro z
        obtain ⟨x, hx, e⟩ := sm_ne _ z
        have h2 := (ih (r + 1) (by omega) (c - 1 + x) (by omega)).mp (by rw [← Nat.add_assoc]; exact e)
        have h3 := mnf_le T ((r + 1) * w + (c - 1)) (hc w c) x (by omega)
        rw [Nat.add_assoc] at h3
        omega
      · intro z y
        obtain ⟨x, hx, e⟩ := mnf_is T ((r + 1) * w + (c - 1)) (hc w c)
        rw [e, Nat.add_assoc] at z
        have h2 := (ih (r + 1) (by omega) (c - 1 + x) (by omega)).mpr z
        have h3 := sm_ge (l := fun x => N ((r + 1) * w + (c - 1) + x)) (hc w c + 1) (fun j => h0 _) x (by omega)
        have h4 := h0 ((r + 1) * w + (c - 1 + x))
        have h5 : N ((r + 1) * w + (c - 1) + x) ≤ bhS w N r c := h3
        rw [Nat.add_assoc] at h5
        omega
    rw [hT r c (by omega) hcw, hE r c (by omega) hcw, if_pos hl]
    by_cases ho : op (r * w + c) = true
    · rw [if_pos ho, key]
      exact ⟨fun z => ⟨ho, fun _ => z⟩, fun z => z.2 hl⟩
    · rw [if_neg ho]
      exact ⟨fun z => absurd rfl z, fun z => absurd z.1 ho⟩
theorem NTc {lim : Int} (hw : 2 ≤ w ∧ w ≤ 6) (hT : ∀ r c, r < w → c < w → (T (r * w + c) ≤ lim ↔ (op (r * w + c) = true ∧ (r + 1 < w → bhM w T r c ≤ lim)))) (hE : EqN w op N) (h0 : ∀ j, 0 ≤ N j) (j : Nat) (hj : j < w * w) : ¬ N j = 0 ↔ T j ≤ lim := by
  obtain ⟨r, c, hr, hcw, rfl⟩ := cell_rc hw hj
  exact NT hw hT hE h0 (w - 1 - r) r (by omega) c hcw
theorem NTa {lim : Int} (hw : 2 ≤ w ∧ w ≤ 6) (hT : ∀ r c, r < w → c < w → (T (r * w + c) ≤ lim ↔ (op (r * w + c) = true ∧ (r + 1 < w → bhM w T r c ≤ lim)))) (hE : EqN w op N) (h0 : ∀ j, 0 ≤ N j) : ¬ sm N w = 0 ↔ mnf T 0 (w - 1) ≤ lim := by
  have hp : w ≤ w * w := by have := Nat.mul_le_mul_right w (show 1 ≤ w by omega); omega
  constructor
  · intro z
    obtain ⟨x, hx, e⟩ := sm_ne _ z
    have h2 := (NTc hw hT hE h0 x (by omega)).mp e
    have h3 := mnf_le T 0 (w - 1) x (by omega)
    rw [Nat.zero_add] at h3
    omega
  · intro z y
    obtain ⟨x, hx, e⟩ := mnf_is T 0 (w - 1)
    rw [e, Nat.zero_add] at z
    have h2 := (NTc hw hT hE h0 x (by omega)).mpr z
    have h3 := sm_ge (l := N) w h0 x (by omega)
    have h4 := h0 x
    omega
theorem qd_congr {p p' : Nat → Nat → Nat → Nat → Bool} (h : ∀ k x, k < w → x < wn w (qd w p') k → p k (k * w + wlo (qd w p') k) (wn w (qd w p') k) x = p' k (k * w + wlo (qd w p') k) (wn w (qd w p') k) x) : ∀ k, k < w → qd w p k = qd w p' k
  | 0, hk => by
    show fnd (p 0 0 (w - 1)) 0 (w - 1) = fnd (p' 0 0 (w - 1)) 0 (w - 1)
    refine fnd_congr _ 0 (fun x _ hx => ?_)
    have := h 0 x hk (show x < w - 1 by omega)
    rw [Nat.zero_mul] at this
    exact this
  | k + 1, hk => by
    show (qd w p k - 1) + fnd (p (k + 1) ((k + 1) * w + (qd w p k - 1)) (hc w (qd w p k))) 0 (hc w (qd w p k)) = (qd w p' k - 1) + fnd (p' (k + 1) ((k + 1) * w + (qd w p' k - 1)) (hc w (qd w p' k))) 0 (hc w (qd w p' k))
    rw [qd_congr h k (by omega)]
    congr 1
    exact fnd_congr _ 0 (fun x _ hx => h (k + 1) x hk (by show x < hc w (qd w p' k); omega))
def s01 (op : Nat → Bool) (j : Nat) : Int := if op j then 0 else 1
theorem s01_bd (op : Nat → Bool) (j : Nat) : 0 ≤ s01 op j ∧ s01 op j ≤ 1 := by unfold s01; split <;> omega
theorem s01_0 (op : Nat → Bool) (j : Nat) : op j = true ↔ s01 op j = 0 := by
  unfold s01
  by_cases c : op j = true
  · rw [if_pos c]; exact ⟨fun _ => rfl, fun _ => c⟩
  · rw [if_neg c]; exact ⟨fun z => absurd z c, fun z => by omega⟩
theorem Tv_ge {op : Int → Int → Int} (hop : ∀ a b : Int, 0 ≤ a → 0 ≤ b → 0 ≤ op a b) (hs : ∀ j, 0 ≤ s j) : ∀ d c : Nat, 0 ≤ Tv w op s d c
  | 0, c => hop _ _ (hs _) (Int.le_refl 0)
  | d + 1, c => by
    obtain ⟨x, hx, e⟩ := mnf_is (Tv w op s d) (c - 1) (hc w c)
    refine hop _ _ (hs _) ?_
    rw [e]
    exact Tv_ge hop hs d _
theorem bhM_ge {r c : Nat} (h : ∀ j, 0 ≤ T j) : 0 ≤ bhM w T r c := by
  unfold bhM
  split
  · obtain ⟨x, hx, e⟩ := mnf_is T ((r + 1) * w + (c - 1)) (hc w c)
    rw [e]; exact h _
  · exact Int.le_refl 0
theorem L01 (hw : 2 ≤ w ∧ w ≤ 6) (op : Nat → Bool) (r c : Nat) (hr : r < w) (hcw : c < w) : LTb w (s01 op) (r * w + c) ≤ 0 ↔ (op (r * w + c) = true ∧ (r + 1 < w → bhM w (LTb w (s01 op)) r c ≤ 0)) := by
  have h1 : LTb w (s01 op) (r * w + c) = s01 op (r * w + c) + bhM w (LTb w (s01 op)) r c := LTb_eq hw r c hr hcw
  have h2 := s01_bd op (r * w + c)
  have h3 : 0 ≤ bhM w (LTb w (s01 op)) r c := bhM_ge (fun j => Tv_ge (op := opA) (fun a b h1 h2 => by show 0 ≤ a + b; omega) (fun j => (s01_bd op j).1) _ _)
  have h4 : ¬ r + 1 < w → bhM w (LTb w (s01 op)) r c = 0 := fun z => if_neg z
  rw [s01_0, h1]
  constructor
  · intro z
    exact ⟨by omega, fun _ => by omega⟩
  · rintro ⟨z1, z2⟩
    by_cases c2 : r + 1 < w
    · have := z2 c2; omega
    · have := h4 c2; omega
theorem G01 {lim : Int} (hw : 2 ≤ w ∧ w ≤ 6) (hl : 0 ≤ lim) (r c : Nat) (hr : r < w) (hcw : c < w) : Tb w opX s (r * w + c) ≤ lim ↔ (decide (s (r * w + c) ≤ lim) = true ∧ (r + 1 < w → bhM w (Tb w opX s) r c ≤ lim)) := by
  have h1 : Tb w opX s (r * w + c) = max (s (r * w + c)) (bhM w (Tb w opX s) r c) := Tb_eq hw opX s hr hcw
  have h4 : ¬ r + 1 < w → bhM w (Tb w opX s) r c = 0 := fun z => if_neg z
  rw [h1]
  constructor
  · intro z
    exact ⟨decide_eq_true (by omega), fun _ => by omega⟩
  · rintro ⟨z1, z2⟩
    have z3 := of_decide_eq_true z1
    by_cases c2 : r + 1 < w
    · have := z2 c2; omega
    · have := h4 c2; omega
/-- the first way of least sum 0 is the first open one -/
theorem qL_qN (hw : 2 ≤ w ∧ w ≤ 6) (op : Nat → Bool) (hne : ¬ nw w op = 0) : ∀ k, k < w → qd w (pL (LTb w (s01 op))) k = qd w (pN (Nb w op)) k := by
  have hq := qd_lt hw (pN (Nb w op))
  have h0 : ∀ j, 0 ≤ Nb w op j := fun j => (Nb_bd hw op j).1
  have hL0 : ∀ j, 0 ≤ LTb w (s01 op) j := fun j => Tv_ge (op := opA) (fun a b h1 h2 => by show 0 ≤ a + b; omega) (fun j => (s01_bd op j).1) _ _
  refine qd_congr (fun k x hk hx => ?_)
  have hlo := wlo_le hw hq k
  have hcell : ∀ y, y ≤ wn w (qd w (pN (Nb w op))) k → k * w + wlo (qd w (pN (Nb w op))) k + y < w * w := fun y hy => by
    rw [Nat.add_assoc]
    exact idx_lt hk (by omega)
  have hkey := fun y hy => NTc hw (L01 hw op) (Nb_eq hw op) h0 _ (hcell y hy)
  have hne2 := qN_ne hw (Nb_eq hw op) hne k hk
  have e := qd_eq w (pN (Nb w op)) k
  have hle := fnd_le (pN (Nb w op) k (k * w + wlo (qd w (pN (Nb w op))) k) (wn w (qd w (pN (Nb w op))) k)) (wn w (qd w (pN (Nb w op))) k) 0
  have hmin : mnf (LTb w (s01 op)) (k * w + wlo (qd w (pN (Nb w op))) k) (wn w (qd w (pN (Nb w op))) k) = 0 := by
    rw [e, ← Nat.add_assoc] at hne2
    have h5 := (hkey _ (by omega)).mp hne2
    have h6 := mnf_le (LTb w (s01 op)) (k * w + wlo (qd w (pN (Nb w op))) k) (wn w (qd w (pN (Nb w op))) k) (fnd (pN (Nb w op) k (k * w + wlo (qd w (pN (Nb w op))) k) (wn w (qd w (pN (Nb w op))) k)) 0 (wn w (qd w (pN (Nb w op))) k)) (by omega)
    obtain ⟨z, _, e2⟩ := mnf_is (LTb w (s01 op)) (k * w + wlo (qd w (pN (Nb w op))) k) (wn w (qd w (pN (Nb w op))) k)
    have h7 := hL0 (k * w + wlo (qd w (pN (Nb w op))) k + z)
    omega
  show decide (LTb w (s01 op) (k * w + wlo (qd w (pN (Nb w op))) k + x) ≤ mnf (LTb w (s01 op)) (k * w + wlo (qd w (pN (Nb w op))) k) (wn w (qd w (pN (Nb w op))) k)) = decide (¬ Nb w op (k * w + wlo (qd w (pN (Nb w op))) k + x) = 0)
  rw [hmin]
  exact (decide_eq_decide.mpr (hkey x (by omega))).symm
end

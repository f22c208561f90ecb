/-! the least together -/
section
variable {w : Nat} {T s : Nat → Int} {ρ st : Nat → Int32}
def EqL (w : Nat) (s T : Nat → Int) : Prop := ∀ r c, r < w → c < w → T (r * w + c) = s (r * w + c) + bhM w T r c
def EqG (w : Nat) (s T : Nat → Int) : Prop := ∀ r c, r < w → c < w → T (r * w + c) = max (s (r * w + c)) (bhM w T r c)
def BdT (w : Nat) (T : Nat → Int) : Prop := ∀ j, j < w * w → -500 ≤ T j ∧ T j ≤ 500
theorem BdT.bh {r c : Nat} (hw : 2 ≤ w ∧ w ≤ 6) (hB : BdT w T) (hr : r < w) (hcw : c < w) : -500 ≤ bhM w T r c ∧ bhM w T r c ≤ 500 := by
  obtain ⟨q1, q2⟩ := hc_lt hw hcw
  unfold bhM
  by_cases h : r + 1 < w
  · rw [if_pos h]
    refine mnf_bd (fun x hx => ?_)
    rw [Nat.add_assoc]
    exact hB _ (idx_lt h (by omega))
  · rw [if_neg h]; omega
theorem z_ltRow {r : Nat} (hw : 2 ≤ w ∧ w ≤ 6) (hr : r < w) (hs : Agr st s 0 (w * w)) (hE : EqL w s T) (hB : BdT w T) (hA : Agr ρ T ((r + 1) * w) (w * w)) :
    ∃ ρ', f_P_leastTogether_l13 (iz r) (iz w) st (iz 0) ρ = some ρ' ∧ Agr ρ' T (r * w) (w * w) := by
  have h36 := sq_le hw
  have hrr := row_le hr
  have hsc : (r + 1) * w = r * w + w := Nat.succ_mul r w
  exact loopI (body := fun s : Int32 × (Nat → Int32) => f_P_leastTogether_b13 (iz r) (iz w) st s.1 s.2) (fun k s => ∃ ρ, s = (iz k, ρ) ∧ Agr ρ T ((r + 1) * w) (w * w) ∧ Agr ρ T (r * w) (r * w + k)) (fun ρ' => Agr ρ' T (r * w) (w * w)) w (by omega)
    (fun k s hk => by
      rintro ⟨ρ, rfl, h1, h2⟩
      have hi := idx_lt hr hk
      simp only [f_P_leastTogether_b13, z_len hw, Option.bind_some]
      rw [if_neg (by rw [iz_le (by omega) (by omega)]; omega), z_cellIn hw hr hk]
      simp only [Option.bind_some]
      rw [rdn _ (by omega) (by omega), hs _ (by omega) hi, z_leastBehind hw hr hk h1 hB]
      simp only [Option.bind_some]
      rw [iz_add, ← hE r k hr hk, wrn _ (by omega) (by omega)]
      simp only [Option.bind_some]
      exact ⟨_, rfl, upd ρ (r * w + k) (iz (T (r * w + k))), by rw [iz_succ], agr_upd h1 (by omega), agr_nx h2⟩)
    (fun s => by
      rintro ⟨ρ, rfl, h1, h2⟩
      simp only [f_P_leastTogether_b13, z_len hw, Option.bind_some]
      rw [if_pos (by rw [iz_le (by omega) (by omega)]; omega)]
      exact ⟨_, rfl, agr_jn h2 (by rw [← hsc]; exact h1)⟩)
    (iz 0, ρ) ⟨ρ, rfl, hA, agr_no⟩
theorem z_lgRow {r : Nat} (hw : 2 ≤ w ∧ w ≤ 6) (hr : r < w) (hs : Agr st s 0 (w * w)) (hsb : ∀ j, j < w * w → -500 ≤ s j ∧ s j ≤ 500) (hE : EqG w s T) (hB : BdT w T) (hA : Agr ρ T ((r + 1) * w) (w * w)) :
    ∃ ρ', f_P_leastGreatest_l13 (iz r) (iz w) st (iz 0) ρ = some ρ' ∧ Agr ρ' T (r * w) (w * w) := by
  have h36 := sq_le hw
  have hrr := row_le hr
  have hsc : (r + 1) * w = r * w + w := Nat.succ_mul r w
  exact loopI (body := fun s : Int32 × (Nat → Int32) => f_P_leastGreatest_b13 (iz r) (iz w) st s.1 s.2) (fun k s => ∃ ρ, s = (iz k, ρ) ∧ Agr ρ T ((r + 1) * w) (w * w) ∧ Agr ρ T (r * w) (r * w + k)) (fun ρ' => Agr ρ' T (r * w) (w * w)) w (by omega)
    (fun k s hk => by
      rintro ⟨ρ, rfl, h1, h2⟩
      have hi := idx_lt hr hk
      have b1 := hsb _ hi
      have b2 := hB.bh hw hr hk
      simp only [f_P_leastGreatest_b13, z_len hw, Option.bind_some]
      rw [if_neg (by rw [iz_le (by omega) (by omega)]; omega), z_cellIn hw hr hk]
      simp only [Option.bind_some]
      rw [rdn _ (by omega) (by omega), hs _ (by omega) hi, z_leastBehind hw hr hk h1 hB]
      simp only [Option.bind_some]
      rw [iz_max (by omega) (by omega), ← hE r k hr hk, wrn _ (by omega) (by omega)]
      simp only [Option.bind_some]
      exact ⟨_, rfl, upd ρ (r * w + k) (iz (T (r * w + k))), by rw [iz_succ], agr_upd h1 (by omega), agr_nx h2⟩)
    (fun s => by
      rintro ⟨ρ, rfl, h1, h2⟩
      simp only [f_P_leastGreatest_b13, z_len hw, Option.bind_some]
      rw [if_pos (by rw [iz_le (by omega) (by omega)]; omega)]
      exact ⟨_, rfl, agr_jn h2 (by rw [← hsc]; exact h1)⟩)
    (iz 0, ρ) ⟨ρ, rfl, hA, agr_no⟩
theorem z_ltAll (hw : 2 ≤ w ∧ w ≤ 6) (hs : Agr st s 0 (w * w)) (hE : EqL w s T) (hB : BdT w T) : ∃ ρ', f_P_leastTogether_l7 (iz w) st (iz w - 1) ρ = some ρ' ∧ Agr ρ' T 0 (w * w) := by
  obtain ⟨ρ', e, h⟩ := rowsI hw (fun ρ r => Agr ρ T (r * w) (w * w)) (inner := fun v a => f_P_leastTogether_l13 v (iz w) st 0 a) (body := fun s : Int32 × (Nat → Int32) => f_P_leastTogether_b7 (iz w) st s.1 s.2) (fun v a => rfl) (fun r a hr h => z_ltRow hw hr hs hE hB h) ρ agr_no
  rw [Nat.zero_mul] at h
  exact ⟨ρ', e, h⟩
theorem z_lgAll (hw : 2 ≤ w ∧ w ≤ 6) (hs : Agr st s 0 (w * w)) (hsb : ∀ j, j < w * w → -500 ≤ s j ∧ s j ≤ 500) (hE : EqG w s T) (hB : BdT w T) : ∃ ρ', f_P_leastGreatest_l7 (iz w) st (iz w - 1) ρ = some ρ' ∧ Agr ρ' T 0 (w * w) := by
  obtain ⟨ρ', e, h⟩ := rowsI hw (fun ρ r => Agr ρ T (r * w) (w * w)) (inner := fun v a => f_P_leastGreatest_l13 v (iz w) st 0 a) (body := fun s : Int32 × (Nat → Int32) => f_P_leastGreatest_b7 (iz w) st s.1 s.2) (fun v a => rfl) (fun r a hr h => z_lgRow hw hr hs hsb hE hB h) ρ agr_no
  rw [Nat.zero_mul] at h
  exact ⟨ρ', e, h⟩
theorem z_leastAtGate (hw : 2 ≤ w ∧ w ≤ 6) (hA : Agr ρ T 0 (w * w)) (hB : BdT w T) : f_P_leastAtGate (iz w) ρ = some (iz (mnf T 0 (w - 1))) := by
  have h36 := sq_le hw
  have hp : w ≤ w * w := by have := Nat.mul_le_mul_right w (show 1 ≤ w by omega); omega
  have hl := loopS (body := fun s : Int32 × Int32 => f_P_leastAtGate_b9 (iz w) ρ s.1 s.2) (fun k => (iz (mnf T 0 k), iz ((k + 1 : Nat) : Int))) (iz (mnf T 0 (w - 1))) (w - 1) (by omega)
    (fun k hk => by
      have b1 := hB (k + 1) (by omega)
      have b2 := mnf_bd (T := T) (a := 0) (n := k) (M := 500) (fun x hx => hB _ (by omega))
      have e1 : ρ (0 * w + (k + 1)) = iz (T (k + 1)) := by rw [Nat.zero_mul, Nat.zero_add]; exact hA _ (by omega) (by omega)
      simp only [f_P_leastAtGate_b9, z_len hw, Option.bind_some]
      rw [if_neg (by rw [iz_le (by omega) (by omega)]; omega), show (0 : Int32) = iz ((0 : Nat) : Int) from rfl, z_cellIn hw (by omega) (show k + 1 < w by omega)]
      simp only [Option.bind_some]
      rw [rdn _ (by omega) (by omega), e1]
      simp only [Option.bind_some]
      rw [iz_min (by omega) (by omega), iz_succ, mnf_s, Nat.zero_add])
    (by
      simp only [f_P_leastAtGate_b9, z_len hw, Option.bind_some]
      rw [if_pos (by rw [iz_le (by omega) (by omega)]; omega)])
  unfold f_P_leastAtGate
  rw [show (0 : Int32) = iz ((0 : Nat) : Int) from rfl, rdn _ (by omega) (by omega), hA _ (by omega) (by omega)]
  simp only [Option.bind_some]
  rw [show f_P_leastAtGate_l9 (iz w) ρ (iz (T 0)) 1 = _ from hl]
  rfl
/-- the columns of a way: in each window the first that is good -/
def qd (w : Nat) (p : Nat → Nat → Nat → Nat → Bool) : Nat → Nat
  | 0 => fnd (p 0 0 (w - 1)) 0 (w - 1)
  | k + 1 => (qd w p k - 1) + fnd (p (k + 1) ((k + 1) * w + (qd w p k - 1)) (hc w (qd w p k))) 0 (hc w (qd w p k))
def wlo (q : Nat → Nat) : Nat → Nat
  | 0 => 0
  | k + 1 => q k - 1
def wn (w : Nat) (q : Nat → Nat) : Nat → Nat
  | 0 => w - 1
  | k + 1 => hc w (q k)
theorem qd_eq (w : Nat) (p : Nat → Nat → Nat → Nat → Bool) : ∀ k, qd w p k = wlo (qd w p) k + fnd (p k (k * w + wlo (qd w p) k) (wn w (qd w p) k)) 0 (wn w (qd w p) k)
  | 0 => by
    show fnd (p 0 0 (w - 1)) 0 (w - 1) = 0 + fnd (p 0 (0 * w + 0) (w - 1)) 0 (w - 1)
    rw [Nat.zero_mul, Nat.zero_add]
  | k + 1 => rfl
theorem qd_lt (hw : 2 ≤ w ∧ w ≤ 6) (p : Nat → Nat → Nat → Nat → Bool) : ∀ k, qd w p k < w
  | 0 => by
    have := fnd_le (p 0 0 (w - 1)) (w - 1) 0
    show fnd (p 0 0 (w - 1)) 0 (w - 1) < w
    omega
  | k + 1 => by
    have h := qd_lt hw p k
    have := fnd_le (p (k + 1) ((k + 1) * w + (qd w p k - 1)) (hc w (qd w p k))) (hc w (qd w p k)) 0
    have := hc_lt hw h
    show (qd w p k - 1) + fnd (p (k + 1) ((k + 1) * w + (qd w p k - 1)) (hc w (qd w p k))) 0 (hc w (qd w p k)) < w
    omega
theorem wlo_le (hw : 2 ≤ w ∧ w ≤ 6) {q : Nat → Nat} (hq : ∀ k, q k < w) : ∀ k, wlo q k + wn w q k < w
  | 0 => by show 0 + (w - 1) < w; omega
  | k + 1 => (hc_lt hw (hq k)).1
def whi (w : Nat) (q : Nat → Nat) (k : Nat) : Nat := wlo q k + wn w q k
theorem whi_s (hw : 2 ≤ w ∧ w ≤ 6) {q : Nat → Nat} (hq : ∀ k, q k < w) (k : Nat) : whi w q (k + 1) = min (w - 1) (q k + 1) := (hc_lt hw (hq k)).2
theorem z_kf29 {r lo n : Nat} {left : Int} (hw : 2 ≤ w ∧ w ≤ 6) (hr : r < w) (hn : lo + n < w) (hl : -100000 ≤ left ∧ left ≤ 100000) (hA : Agr ρ T 0 (w * w)) (hB : BdT w T) :
    f_P_keepFirst_l29 (iz left) (iz ((lo + n : Nat) : Int)) (iz r) (iz w) ρ (iz lo) = some (iz ((lo + fnd (fun x => decide (T (r * w + lo + x) ≤ left)) 0 n : Nat) : Int)) := by
  have h36 := sq_le hw
  have hle := fnd_le (fun x => decide (T (r * w + lo + x) ≤ left)) n 0
  refine loopS (body := fun s : Int32 => f_P_keepFirst_b29 (iz left) (iz ((lo + n : Nat) : Int)) (iz r) (iz w) ρ s) (fun k => iz ((lo + k : Nat) : Int)) _ (fnd (fun x => decide (T (r * w + lo + x) ≤ left)) 0 n) (by omega)
    (fun k hk => ?_) ?_
  · have hi := idx_lt hr (show lo + k < w by omega)
    have b1 := hB _ hi
    have h2 := of_decide_eq_false (fnd_no _ n 0 k (by omega) hk)
    rw [Nat.add_assoc] at h2
    simp only [f_P_keepFirst_b29]
    rw [if_neg (by rw [iz_le (by omega) (by omega)]; omega), z_cellIn hw hr (show lo + k < w by omega)]
    simp only [Option.bind_some]
    rw [rdn _ (by omega) (by omega), hA _ (by omega) hi]
    simp only [Option.bind_some]
    rw [if_neg (by rw [iz_le (by omega) (by omega)]; exact h2), iz_succ]
    rfl
  · simp only [f_P_keepFirst_b29]
    by_cases c : fnd (fun x => decide (T (r * w + lo + x) ≤ left)) 0 n < n
    · have h2 := of_decide_eq_true (fnd_yes (fun x => decide (T (r * w + lo + x) ≤ left)) n 0 (by omega))
      generalize fnd (fun x => decide (T (r * w + lo + x) ≤ left)) 0 n = y at c h2 ⊢
      have hi := idx_lt hr (show lo + y < w by omega)
      have b1 := hB _ hi
      rw [Nat.add_assoc] at h2
      rw [if_neg (by rw [iz_le (by omega) (by omega)]; omega), z_cellIn hw hr (show lo + y < w by omega)]
      simp only [Option.bind_some]
      rw [rdn _ (by omega) (by omega), hA _ (by omega) hi]
      simp only [Option.bind_some]
      rw [if_pos (by rw [iz_le (by omega) (by omega)]; exact h2)]
    · rw [if_pos (by rw [iz_le (by omega) (by omega)]; omega)]
theorem z_keepFirst {p : Nat → Nat → Nat → Nat → Bool} {lf : Nat → Int} {sp : Int} (hw : 2 ≤ w ∧ w ≤ 6) (hA : Agr ρ T 0 (w * w)) (hB : BdT w T) (hs : Agr st s 0 (w * w)) (hl : ∀ k, k < w → -100000 ≤ lf k ∧ lf k ≤ 100000) (hsp : sp = 0 ∨ sp = 1)
    (hp : ∀ k x, k < w → x < wn w (qd w p) k → p k (k * w + wlo (qd w p) k) (wn w (qd w p) k) x = decide (T (k * w + wlo (qd w p) k + x) ≤ lf k))
    (hn : ∀ k, k + 1 < w → lf (k + 1) = lf k - (if sp = 0 then 0 else s (k * w + qd w p k))) (way : Nat → Int32) :
    ∃ way', f_P_keepFirst (iz (lf 0)) (iz sp) (iz w) st ρ way = some way' ∧ ∀ k, k < w → way' k = iz ((k * w + qd w p k : Nat) : Int) := by
  have h36 := sq_le hw
  have hq := qd_lt hw p
  have hq2 := qd_eq w p
  have hlo := wlo_le hw hq
  have hws := whi_s hw hq
  have h0 : whi w (qd w p) 0 = w - 1 := by show 0 + (w - 1) = _; omega
  unfold f_P_keepFirst
  rw [z_len hw]
  simp only [Option.bind_some]
  obtain ⟨way', e, h⟩ := loopI (body := fun z : Int32 × Int32 × Int32 × Int32 × (Nat → Int32) => f_P_keepFirst_b16 (iz sp) (iz w) st ρ z.1 z.2.1 z.2.2.1 z.2.2.2.1 z.2.2.2.2)
    (fun k z => ∃ (way : Nat → Int32) (left : Int32), z = (left, iz (wlo (qd w p) k), iz (whi w (qd w p) k), iz k, way) ∧ (k < w → left = iz (lf k)) ∧ ∀ j, j < k → way j = iz ((j * w + qd w p j : Nat) : Int)) (fun way' => ∀ k, k < w → way' k = iz ((k * w + qd w p k : Nat) : Int)) w (by omega)
    (fun k z hk => by
      rintro ⟨way, left, rfl, h1, h2⟩
      rw [h1 hk]
      have hi := idx_lt hk (hq k)
      have e1 : wlo (qd w p) k + fnd (fun x => decide (T (k * w + wlo (qd w p) k + x) ≤ lf k)) 0 (wn w (qd w p) k) = qd w p k := by
        rw [hq2 k]
        congr 1
        exact (fnd_congr _ 0 (fun x _ hx => hp k x hk (by omega))).symm
      simp only [f_P_keepFirst_b16, f_P_keepFirst_j94, z_len hw, Option.bind_some]
      rw [if_neg (by rw [iz_le (by omega) (by omega)]; omega), show iz (whi w (qd w p) k) = iz ((wlo (qd w p) k + wn w (qd w p) k : Nat) : Int) from rfl, z_kf29 hw hk (hlo k) (hl k hk) hA hB, e1]
      simp only [Option.bind_some]
      rw [z_cellIn hw hk (hq k)]
      simp only [Option.bind_some]
      rw [wrn _ (by omega) (by omega)]
      simp only [Option.bind_some]
      have hway : ∀ j, j < k + 1 → upd way k (iz ((k * w + qd w p k : Nat) : Int)) j = iz ((j * w + qd w p j : Nat) : Int) := fun j hj => by
        by_cases c : j = k
        · subst c; exact upd_same
        · rw [upd_ne c]; exact h2 j (by omega)
      rcases hsp with rfl | rfl
      · rw [if_pos (show iz 0 = 0 from rfl), z_lo hw (hq k), z_hi hw (hq k), iz_succ k, ← hws k]
        refine ⟨_, rfl, _, _, rfl, fun hk2 => ?_, hway⟩
        rw [hn k hk2, l_0, iz_sub, if_pos rfl]
      · rw [if_neg (by decide), rdn _ (by omega) (by omega), hs _ (by omega) hi]
        simp only [Option.bind_some]
        rw [z_lo hw (hq k), z_hi hw (hq k), iz_succ k, ← hws k]
        refine ⟨_, rfl, _, _, rfl, fun hk2 => ?_, hway⟩
        rw [hn k hk2, iz_sub, if_neg (by decide)])
    (fun z => by
      rintro ⟨way, left, rfl, h1, h2⟩
      simp only [f_P_keepFirst_b16, z_len hw, Option.bind_some]
      rw [if_pos (by rw [iz_le (by omega) (by omega)]; omega)]
      exact ⟨_, rfl, h2⟩)
    (iz (lf 0), iz 0, iz ((w - 1 : Nat) : Int), iz 0, way) ⟨way, _, by rw [h0]; rfl, fun _ => rfl, fun j hj => by omega⟩
  rw [show iz w - 1 = iz ((w - 1 : Nat) : Int) by rw [l_1, iz_sub]; congr 1; omega]
  rw [show f_P_keepFirst_l16 (iz sp) (iz w) st ρ (iz (lf 0)) 0 (iz ((w - 1 : Nat) : Int)) 0 way = some way' from e]
  exact ⟨_, rfl, h⟩
end

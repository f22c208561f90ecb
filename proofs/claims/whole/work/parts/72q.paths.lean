/-! ways: tables over cells -/
theorem loopIN {σ ρ : Type} {body : σ → Option (σ ⊕ ρ)} (I : Nat → σ → Prop) (Q : ρ → Prop) (N : Nat) (hs : ∀ k s, k < N → I k s → ∃ s', body s = some (.inl s') ∧ I (k + 1) s') (he : ∀ s, I N s → ∃ r, body s = some (.inr r) ∧ Q r) : ∀ (d k n : Nat), k + d = N → d < n → ∀ s, I k s → ∃ r, iter body n s = some r ∧ Q r := by
  intro d
  induction d with
  | zero =>
    intro k n h1 h2 s h
    obtain ⟨n, rfl⟩ : ∃ q, n = q + 1 := ⟨n - 1, by omega⟩
    obtain rfl : k = N := by omega
    obtain ⟨r, e, q⟩ := he s h
    exact ⟨r, iterD e, q⟩
  | succ d ih =>
    intro k n h1 h2 s h
    obtain ⟨n, rfl⟩ : ∃ q, n = q + 1 := ⟨n - 1, by omega⟩
    obtain ⟨s', e, q⟩ := hs k s (by omega) h
    rw [iterS e]
    exact ih (k + 1) n (by omega) (by omega) s' q
theorem loopI {σ ρ : Type} {body : σ → Option (σ ⊕ ρ)} (I : Nat → σ → Prop) (Q : ρ → Prop) (N : Nat) (hN : N < 100000) (hs : ∀ k s, k < N → I k s → ∃ s', body s = some (.inl s') ∧ I (k + 1) s') (he : ∀ s, I N s → ∃ r, body s = some (.inr r) ∧ Q r) (s : σ) (h0 : I 0 s) : ∃ r, iter body FUEL s = some r ∧ Q r :=
  loopIN I Q N hs he N 0 FUEL (by omega) hN s h0
/-- the least of f a .. f (a + n) -/
def mnf (f : Nat → Int) (a : Nat) : Nat → Int
  | 0 => f a
  | n + 1 => min (mnf f a n) (f (a + (n + 1)))
theorem mnf_s (f : Nat → Int) (a n : Nat) : mnf f a (n + 1) = min (mnf f a n) (f (a + (n + 1))) := rfl
theorem mnf_le (f : Nat → Int) (a : Nat) : ∀ n x, x ≤ n → mnf f a n ≤ f (a + x)
  | 0, x, h => by
    obtain rfl : x = 0 := by omega
    exact Int.le_refl _
  | n + 1, x, h => by
    rw [mnf_s]
    rcases Nat.lt_or_ge n x with c | c
    · obtain rfl : x = n + 1 := by omega
      omega
    · have := mnf_le f a n x c
      omega
theorem mnf_is (f : Nat → Int) (a : Nat) : ∀ n, ∃ x, x ≤ n ∧ mnf f a n = f (a + x)
  | 0 => ⟨0, Nat.le_refl 0, rfl⟩
  | n + 1 => by
    obtain ⟨x, h, e⟩ := mnf_is f a n
    rw [mnf_s]
    by_cases c : f (a + (n + 1)) < mnf f a n
    · exact ⟨n + 1, Nat.le_refl _, by omega⟩
    · exact ⟨x, by omega, by omega⟩
theorem mnf_congr {f g : Nat → Int} {a b : Nat} : ∀ n, (∀ x, x ≤ n → f (a + x) = g (b + x)) → mnf f a n = mnf g b n
  | 0, h => h 0 (Nat.le_refl 0)
  | n + 1, h => by
    rw [mnf_s, mnf_s, mnf_congr n (fun x hx => h x (by omega)), h (n + 1) (Nat.le_refl _)]
/-- how many CELLS beside after the first one -/
def hc (w c : Nat) : Nat := min (w - 1) (c + 1) - (c - 1)
theorem hc_lt {w c : Nat} (hw : 2 ≤ w ∧ w ≤ 6) (h : c < w) : c - 1 + hc w c < w ∧ c - 1 + hc w c = min (w - 1) (c + 1) := by
  unfold hc; omega
def Agr (ρ : Nat → Int32) (T : Nat → Int) (a b : Nat) : Prop := ∀ j, a ≤ j → j < b → ρ j = iz (T j)
theorem agr_upd {ρ : Nat → Int32} {T : Nat → Int} {a b j : Nat} {x : Int32} (h : Agr ρ T a b) (hj : j < a ∨ b ≤ j) : Agr (upd ρ j x) T a b := fun i h1 h2 => by
  rw [upd_ne (by omega)]; exact h i h1 h2
theorem agr_nx {ρ : Nat → Int32} {T : Nat → Int} {a b : Nat} (h : Agr ρ T a b) : Agr (upd ρ b (iz (T b))) T a (b + 1) := fun i h1 h2 => by
  by_cases e : i = b
  · subst e; exact upd_same
  · rw [upd_ne e]; exact h i h1 (by omega)
theorem agr_pv {ρ : Nat → Int32} {T : Nat → Int} {a b : Nat} (h : Agr ρ T (a + 1) b) : Agr (upd ρ a (iz (T a))) T a b := fun i h1 h2 => by
  by_cases e : i = a
  · subst e; exact upd_same
  · rw [upd_ne e]; exact h i (by omega) h2
theorem agr_no {ρ : Nat → Int32} {T : Nat → Int} {a : Nat} : Agr ρ T a a := fun i h1 h2 => by omega
theorem agr_jn {ρ : Nat → Int32} {T : Nat → Int} {a b c : Nat} (h : Agr ρ T a b) (h2 : Agr ρ T b c) : Agr ρ T a c := fun i h3 h4 => by
  by_cases e : i < b
  · exact h i h3 e
  · exact h2 i (by omega) h4
theorem z_len {w : Nat} (hw : 2 ≤ w ∧ w ≤ 6) : f_P_length (iz w) = some (iz w) := by
  unfold f_P_length
  rw [l_6, iz_min (by omega) (by omega), show min (w : Int) 6 = w by omega]
theorem z_cellIn {w r c : Nat} (hw : 2 ≤ w ∧ w ≤ 6) (hr : r < w) (hc : c < w) : f_P_cellIn (iz r) (iz c) (iz w) = some (iz ((r * w + c : Nat) : Int)) := by
  have h1 := idx_lt hr hc
  have h2 := sq_le hw
  unfold f_P_cellIn
  rw [z_len hw]
  simp only [Option.bind_some]
  rw [idz, l_0, l_35, z_withinI (by omega) (by omega) (by omega)]
  simp only [Option.bind_some]
  rw [if_neg (by rw [b1_i0]; omega)]
theorem z_hi {w c : Nat} (hw : 2 ≤ w ∧ w ≤ 6) (hc : c < w) : imin (iz w - 1) (iz c + 1) = iz ((min (w - 1) (c + 1) : Nat) : Int) := by
  rw [l_1, iz_sub, iz_add, iz_min (by omega) (by omega)]
  congr 1
  omega
theorem z_lo {c w : Nat} (hw : 2 ≤ w ∧ w ≤ 6) (hc : c < w) : imax 0 (iz c - 1) = iz ((c - 1 : Nat) : Int) := by
  rw [l_1, l_0, iz_sub, iz_max (by omega) (by omega)]
  congr 1
  omega
def bhM (w : Nat) (T : Nat → Int) (r c : Nat) : Int := if r + 1 < w then mnf T ((r + 1) * w + (c - 1)) (hc w c) else 0
def bhS (w : Nat) (T : Nat → Int) (r c : Nat) : Int := sm (fun x => T ((r + 1) * w + (c - 1) + x)) (hc w c + 1)
def acM (T : Nat → Int) (a : Nat) : Nat → Int
  | 0 => 1000000
  | k + 1 => mnf T a k
theorem acM_s {T : Nat → Int} {a : Nat} (h : T a ≤ 500) : ∀ k, min (acM T a k) (T (a + k)) = acM T a (k + 1)
  | 0 => by show min 1000000 (T a) = T a; omega
  | k + 1 => rfl
theorem mnf_bd {T : Nat → Int} {a n : Nat} {M : Int} (h : ∀ x, x ≤ n → -M ≤ T (a + x) ∧ T (a + x) ≤ M) : -M ≤ mnf T a n ∧ mnf T a n ≤ M := by
  obtain ⟨x, hx, e⟩ := mnf_is T a n
  rw [e]; exact h x hx
theorem row_le {w r : Nat} (hr : r < w) : (r + 1) * w ≤ w * w := Nat.mul_le_mul_right w hr
theorem z_leastBehind {w r c : Nat} {T : Nat → Int} {ρ : Nat → Int32} (hw : 2 ≤ w ∧ w ≤ 6) (hr : r < w) (hcw : c < w) (hA : Agr ρ T ((r + 1) * w) (w * w)) (hB : ∀ j, j < w * w → -500 ≤ T j ∧ T j ≤ 500) :
    f_P_leastBehind (iz r) (iz c) (iz w) ρ = some (iz (bhM w T r c)) := by
  have h36 := sq_le hw
  obtain ⟨q1, q2⟩ := hc_lt hw hcw
  unfold f_P_leastBehind bhM
  rw [z_len hw]
  simp only [Option.bind_some]
  by_cases h : r + 1 < w
  · have b (x : Nat) (hx : x ≤ hc w c) : -500 ≤ T ((r + 1) * w + (c - 1) + x) ∧ T ((r + 1) * w + (c - 1) + x) ≤ 500 := by
      rw [Nat.add_assoc]
      exact hB _ (idx_lt h (by omega))
    have hl := loopS (body := fun s : Int32 × Int32 => f_P_leastBehind_b24 (iz r) (iz c) (iz w) ρ s.1 s.2) (fun k => (iz (acM T ((r + 1) * w + (c - 1)) k), iz ((c - 1 + k : Nat) : Int))) (iz (mnf T ((r + 1) * w + (c - 1)) (hc w c))) (hc w c + 1) (by omega)
      (fun k hk => by
        have e0 := idx_lt h (show c - 1 + k < w by omega)
        have e1 : ρ ((r + 1) * w + (c - 1 + k)) = iz (T ((r + 1) * w + (c - 1) + k)) := by rw [hA _ (by omega) e0, Nat.add_assoc]
        have e2 := b k (by omega)
        have e3 : -1000000 ≤ acM T ((r + 1) * w + (c - 1)) k ∧ acM T ((r + 1) * w + (c - 1)) k ≤ 1000000 := by
          cases k with
          | zero =>
            show -1000000 ≤ (1000000 : Int) ∧ (1000000 : Int) ≤ 1000000
            omega
          | succ k =>
            have := mnf_bd (T := T) (a := (r + 1) * w + (c - 1)) (n := k) (M := 500) (fun x hx => b x (by omega))
            show -1000000 ≤ mnf T ((r + 1) * w + (c - 1)) k ∧ mnf T ((r + 1) * w + (c - 1)) k ≤ 1000000
            omega
        simp only [f_P_leastBehind_b24, z_len hw, Option.bind_some, z_hi hw hcw]
        rw [if_neg (by rw [iz_lt (by omega) (by omega)]; omega), iz_succ r, z_cellIn hw h (show c - 1 + k < w by omega)]
        simp only [Option.bind_some]
        rw [rdn _ (by omega) (by omega), e1]
        simp only [Option.bind_some]
        rw [iz_min (by omega) (by omega), iz_succ, acM_s (a := (r + 1) * w + (c - 1)) (b 0 (by omega)).2]
        rfl)
      (by
        simp only [f_P_leastBehind_b24, z_len hw, Option.bind_some, z_hi hw hcw]
        rw [if_pos (by rw [iz_lt (by omega) (by omega)]; omega)]
        rfl)
    rw [iz_succ, if_pos (by rw [iz_lt (by omega) (by omega)]; omega), if_pos h, z_lo hw hcw]
    rw [show f_P_leastBehind_l24 (iz r) (iz c) (iz w) ρ 1000000 (iz ((c - 1 : Nat) : Int)) = _ from hl]
    rfl
  · rw [iz_succ, if_neg (by rw [iz_lt (by omega) (by omega)]; omega), if_neg h]
    rfl
theorem z_sumBehind {w r c : Nat} {T : Nat → Int} {ρ : Nat → Int32} (hw : 2 ≤ w ∧ w ≤ 6) (h : r + 1 < w) (hcw : c < w) (hA : Agr ρ T ((r + 1) * w) (w * w)) :
    f_P_sumBehind (iz r) (iz c) (iz w) ρ = some (iz (bhS w T r c)) := by
  have h36 := sq_le hw
  obtain ⟨q1, q2⟩ := hc_lt hw hcw
  have hl := loopS (body := fun s : Int32 × Int32 => f_P_sumBehind_b12 (iz r) (iz c) (iz w) ρ s.1 s.2) (fun k => (iz (sm (fun x => T ((r + 1) * w + (c - 1) + x)) k), iz ((c - 1 + k : Nat) : Int))) (iz (bhS w T r c)) (hc w c + 1) (by omega)
    (fun k hk => by
      have e0 := idx_lt h (show c - 1 + k < w by omega)
      have e1 : ρ ((r + 1) * w + (c - 1 + k)) = iz (T ((r + 1) * w + (c - 1) + k)) := by rw [hA _ (by omega) e0, Nat.add_assoc]
      simp only [f_P_sumBehind_b12, z_len hw, Option.bind_some, z_hi hw hcw]
      rw [if_neg (by rw [iz_lt (by omega) (by omega)]; omega), iz_succ r, z_cellIn hw h (show c - 1 + k < w by omega)]
      simp only [Option.bind_some]
      rw [rdn _ (by omega) (by omega), e1]
      simp only [Option.bind_some]
      rw [iz_add, iz_succ]
      rfl)
    (by
      simp only [f_P_sumBehind_b12, z_len hw, Option.bind_some, z_hi hw hcw]
      rw [if_pos (by rw [iz_lt (by omega) (by omega)]; omega)]
      rfl)
  unfold f_P_sumBehind
  rw [z_lo hw hcw, show f_P_sumBehind_l12 (iz r) (iz c) (iz w) ρ 0 (iz ((c - 1 : Nat) : Int)) = _ from hl]
  rfl
theorem rowsI {w : Nat} (hw : 2 ≤ w ∧ w ≤ 6) {α : Type} (J : α → Nat → Prop) {inner : Int32 → α → Option α} {body : Int32 × α → Option ((Int32 × α) ⊕ α)} (hb : ∀ v a, body (v, a) = if v < 0 then some (.inr a) else (inner v a).bind fun x => some (.inl (v + -1, x))) (hin : ∀ r a, r < w → J a (r + 1) → ∃ a', inner (iz r) a = some a' ∧ J a' r) (a : α) (h0 : J a w) :
    ∃ a', iter body FUEL (iz w - 1, a) = some a' ∧ J a' 0 :=
  loopI (fun k s => ∃ a, s = (iz ((w : Int) - 1 - k), a) ∧ J a (w - k)) (fun a' => J a' 0) w (by omega)
    (fun k s hk => by
      rintro ⟨a, rfl, h⟩
      obtain ⟨r, e1, e2⟩ : ∃ r : Nat, w - k = r + 1 ∧ (w : Int) - 1 - k = r := ⟨w - k - 1, by omega, by omega⟩
      rw [e1] at h
      obtain ⟨a', e3, h3⟩ := hin r a (by omega) h
      rw [hb, e2, if_neg (by rw [l_0, iz_lt (by omega) (by omega)]; omega), e3]
      refine ⟨_, rfl, a', ?_, ?_⟩
      · rw [l_m1, iz_add]
        congr 2
        omega
      · rw [show w - (k + 1) = r by omega]; exact h3)
    (fun s => by
      rintro ⟨a, rfl, h⟩
      rw [Nat.sub_self] at h
      rw [hb, if_pos (by rw [l_0, iz_lt (by omega) (by omega)]; omega)]
      exact ⟨_, rfl, h⟩)
    (iz w - 1, a) ⟨a, by rw [l_1, iz_sub]; congr 2; omega, h0⟩

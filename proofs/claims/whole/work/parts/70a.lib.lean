/-! numbers: iz a is the int of a -/
def iz (a : Int) : Int32 := Int32.ofInt a
theorem iz_toInt {a : Int} (h : -2147483648 ≤ a ∧ a < 2147483648) : (iz a).toInt = a := Int32.toInt_ofInt_of_le h.1 h.2
theorem toInt_iz (x : Int32) : iz x.toInt = x := Int32.ofInt_toInt x
theorem iz_nat (k : Nat) : iz (k : Int) = nI k := Int32.ofInt_eq_ofNat
theorem iz_add (a b : Int) : iz a + iz b = iz (a + b) := (Int32.ofInt_add a b).symm
theorem iz_sub (a b : Int) : iz a - iz b = iz (a - b) := (Int32.ofInt_sub a b).symm
theorem iz_mul (a b : Int) : iz a * iz b = iz (a * b) := (Int32.ofInt_mul a b).symm
theorem iz_neg (a : Int) : -iz a = iz (-a) := (Int32.ofInt_neg a).symm
theorem iz_lt {a b : Int} (ha : -2147483648 ≤ a ∧ a < 2147483648) (hb : -2147483648 ≤ b ∧ b < 2147483648) : (iz a < iz b) = (a < b) := propext (by rw [Int32.lt_iff_toInt_lt, iz_toInt ha, iz_toInt hb])
theorem iz_le {a b : Int} (ha : -2147483648 ≤ a ∧ a < 2147483648) (hb : -2147483648 ≤ b ∧ b < 2147483648) : (iz a ≤ iz b) = (a ≤ b) := propext (by rw [Int32.le_iff_toInt_le, iz_toInt ha, iz_toInt hb])
theorem iz_eq {a b : Int} (ha : -2147483648 ≤ a ∧ a < 2147483648) (hb : -2147483648 ≤ b ∧ b < 2147483648) : (iz a = iz b) = (a = b) := propext ⟨fun h => by have h2 := congrArg Int32.toInt h; rw [iz_toInt ha, iz_toInt hb] at h2; exact h2, fun h => by rw [h]⟩
theorem l_0 : (0 : Int32) = iz 0 := rfl
theorem l_1 : (1 : Int32) = iz 1 := rfl
theorem l_2 : (2 : Int32) = iz 2 := rfl
theorem l_3 : (3 : Int32) = iz 3 := rfl
theorem l_4 : (4 : Int32) = iz 4 := rfl
theorem l_5 : (5 : Int32) = iz 5 := rfl
theorem l_6 : (6 : Int32) = iz 6 := rfl
theorem l_7 : (7 : Int32) = iz 7 := rfl
theorem l_8 : (8 : Int32) = iz 8 := rfl
theorem l_9 : (9 : Int32) = iz 9 := rfl
theorem l_10 : (10 : Int32) = iz 10 := rfl
theorem l_35 : (35 : Int32) = iz 35 := rfl
theorem l_36 : (36 : Int32) = iz 36 := rfl
theorem l_40 : (40 : Int32) = iz 40 := rfl
theorem l_60 : (60 : Int32) = iz 60 := rfl
theorem l_99 : (99 : Int32) = iz 99 := rfl
theorem l_100 : (100 : Int32) = iz 100 := rfl
theorem l_249 : (249 : Int32) = iz 249 := rfl
theorem l_250 : (250 : Int32) = iz 250 := rfl
theorem l_255 : (255 : Int32) = iz 255 := rfl
theorem l_1000 : (1000 : Int32) = iz 1000 := rfl
theorem l_10000 : (10000 : Int32) = iz 10000 := rfl
theorem l_20000 : (20000 : Int32) = iz 20000 := rfl
theorem l_1000000 : (1000000 : Int32) = iz 1000000 := rfl
theorem l_12 : (12 : Int32) = iz 12 := rfl
theorem l_16 : (16 : Int32) = iz 16 := rfl
theorem l_32 : (32 : Int32) = iz 32 := rfl
theorem l_48 : (48 : Int32) = iz 48 := rfl
theorem l_57 : (57 : Int32) = iz 57 := rfl
theorem l_59 : (59 : Int32) = iz 59 := rfl
theorem l_97 : (97 : Int32) = iz 97 := rfl
theorem l_122 : (122 : Int32) = iz 122 := rfl
theorem l_12345 : (12345 : Int32) = iz 12345 := rfl
theorem l_1103515245 : (1103515245 : Int32) = iz 1103515245 := rfl
theorem l_m1 : (-1 : Int32) = iz (-1) := rfl
theorem l_m2 : (-2 : Int32) = iz (-2) := rfl
theorem l_m3 : (-3 : Int32) = iz (-3) := rfl
theorem l_m4 : (-4 : Int32) = iz (-4) := rfl
theorem l_m5 : (-5 : Int32) = iz (-5) := rfl
theorem l_m6 : (-6 : Int32) = iz (-6) := rfl
theorem l_m20 : (-20 : Int32) = iz (-20) := rfl
theorem iz_max {a b : Int} (ha : -2147483648 ≤ a ∧ a < 2147483648) (hb : -2147483648 ≤ b ∧ b < 2147483648) : imax (iz a) (iz b) = iz (max a b) := by
  show (if iz a < iz b then iz b else iz a) = _
  simp only [iz_lt ha hb]
  split
  · congr 1; omega
  · congr 1; omega
theorem iz_min {a b : Int} (ha : -2147483648 ≤ a ∧ a < 2147483648) (hb : -2147483648 ≤ b ∧ b < 2147483648) : imin (iz a) (iz b) = iz (min a b) := by
  show (if iz b < iz a then iz b else iz a) = _
  simp only [iz_lt hb ha]
  split
  · congr 1; omega
  · congr 1; omega
theorem iz_div {a b : Int} (ha : 0 ≤ a ∧ a < 2147483648) (hb : 0 < b ∧ b < 2147483648) : iz a / iz b = iz (a / b) := by
  have h1 : Int32.minValue.toInt = -2147483648 := rfl
  have h2 : Int32.maxValue.toInt = 2147483647 := rfl
  have h := Int32.ofInt_tdiv (a := a) (b := b) (by omega) (by omega) (by omega) (by omega)
  rw [Int.tdiv_eq_ediv_of_nonneg ha.1] at h
  exact h.symm
theorem dv_iz {a b : Int} (ha : 0 ≤ a ∧ a < 2147483648) (hb : 0 < b ∧ b < 2147483648) : dv (iz a) (iz b) = some (iz (a / b)) := by
  unfold dv
  have h : ¬ iz b = 0 := by rw [l_0, iz_eq (by omega) (by omega)]; omega
  rw [if_neg h, iz_div ha hb]
theorem rm_iz {a b : Int} (ha : 0 ≤ a ∧ a < 2147483648) (hb : 0 < b ∧ b < 2147483648) : rm (iz a) (iz b) = some (iz (a % b)) := by
  unfold rm
  have h : ¬ iz b = 0 := by rw [l_0, iz_eq (by omega) (by omega)]; omega
  rw [if_neg h, iz_div ha hb, iz_mul, iz_sub]
  congr 2
  have := Int.emod_add_mul_ediv a b
  rw [Int.mul_comm (a / b) b]
  omega
theorem iz_clamp {a : Int} (ha : 0 ≤ a ∧ a < 2147483648) : (iz a).toNatClampNeg = a.toNat := by
  rw [← Int32.toNat_toInt, iz_toInt (by omega)]
theorem iz_in {a : Int} {n : Nat} (ha : 0 ≤ a ∧ a < (n : Int)) (hn : n ≤ 2147483648) : ¬ (iz a < 0 ∨ n ≤ (iz a).toNatClampNeg) := by
  rw [iz_clamp (by omega), l_0, iz_lt (by omega) (by omega)]
  omega
theorem rd_iz {f : Nat → Int32} {n : Nat} {a : Int} (hn : n ≤ 2147483648) (ha : 0 ≤ a ∧ a < (n : Int)) : rd f n (iz a) = some (f a.toNat) := by
  unfold rd
  rw [if_neg (iz_in ha hn), iz_clamp (by omega)]
theorem rdL_iz {f : Nat → Int64} {n : Nat} {a : Int} (hn : n ≤ 2147483648) (ha : 0 ≤ a ∧ a < (n : Int)) : rdL f n (iz a) = some (f a.toNat) := by
  unfold rdL
  rw [if_neg (iz_in ha hn), iz_clamp (by omega)]
theorem wr_iz {f : Nat → Int32} {n : Nat} {a : Int} {x : Int32} (hn : n ≤ 2147483648) (ha : 0 ≤ a ∧ a < (n : Int)) : wr f n (iz a) x = some (upd f a.toNat x) := by
  unfold wr
  rw [if_neg (iz_in ha hn), iz_clamp (by omega)]
theorem wrL_iz {f : Nat → Int64} {n : Nat} {a : Int} {x : Int64} (hn : n ≤ 2147483648) (ha : 0 ≤ a ∧ a < (n : Int)) : wrL f n (iz a) x = some (vp_updL f a.toNat x) := by
  unfold wrL
  rw [if_neg (iz_in ha hn), iz_clamp (by omega)]
theorem rdn {f : Nat → Int32} {n : Nat} (k : Nat) (hn : n ≤ 2147483648) (hk : k < n) : rd f n (iz k) = some (f k) := by
  rw [rd_iz hn ⟨by omega, by omega⟩, Int.toNat_natCast]
theorem rdLn {f : Nat → Int64} {n : Nat} (k : Nat) (hn : n ≤ 2147483648) (hk : k < n) : rdL f n (iz k) = some (f k) := by
  rw [rdL_iz hn ⟨by omega, by omega⟩, Int.toNat_natCast]
theorem wrn {f : Nat → Int32} {n : Nat} {x : Int32} (k : Nat) (hn : n ≤ 2147483648) (hk : k < n) : wr f n (iz k) x = some (upd f k x) := by
  rw [wr_iz hn ⟨by omega, by omega⟩, Int.toNat_natCast]
theorem wrLn {f : Nat → Int64} {n : Nat} {x : Int64} (k : Nat) (hn : n ≤ 2147483648) (hk : k < n) : wrL f n (iz k) x = some (vp_updL f k x) := by
  rw [wrL_iz hn ⟨by omega, by omega⟩, Int.toNat_natCast]
theorem iz_succ (k : Nat) : iz k + 1 = iz ((k + 1 : Nat) : Int) := by
  rw [l_1, iz_add]; rfl
/-- an int that lies between small numbers is a natural number -/
theorem natOf {x : Int32} {n : Nat} (h0 : 0 ≤ x.toInt) (h1 : x.toInt < (n : Int)) : ∃ k : Nat, k < n ∧ x = iz k := by
  refine ⟨x.toInt.toNat, by omega, ?_⟩
  rw [Int.toNat_of_nonneg h0, toInt_iz]
/-! truth as a number -/
def b1 (P : Prop) [Decidable P] : Int32 := if P then 1 else 0
theorem b1_0 {P : Prop} [Decidable P] : (b1 P = 0) = ¬ P := propext (by unfold b1; split <;> simp_all)
theorem b1_1 {P : Prop} [Decidable P] : (b1 P = 1) = P := propext (by unfold b1; split <;> simp_all)
theorem b1_i1 {P : Prop} [Decidable P] : (b1 P = iz 1) = P := b1_1
theorem b1_i0 {P : Prop} [Decidable P] : (b1 P = iz 0) = ¬ P := b1_0
theorem zr_b1 {P : Prop} [Decidable P] : zr (b1 P) = some (b1 P) := by
  unfold zr
  have h : b1 P = 0 ∨ b1 P = 1 := by unfold b1; split <;> simp
  rw [if_pos h]
theorem b1_T {P : Prop} [Decidable P] (h : P) : b1 P = 1 := if_pos h
theorem b1_F {P : Prop} [Decidable P] (h : ¬ P) : b1 P = 0 := if_neg h
theorem b1_c {P Q : Prop} [Decidable P] [Decidable Q] (h : P ↔ Q) : b1 P = b1 Q := by
  unfold b1
  by_cases p : P
  · rw [if_pos p, if_pos (h.mp p)]
  · rw [if_neg p, if_neg (fun q => p (h.mpr q))]
/-! loops -/
theorem iterS {σ ρ : Type} {body : σ → Option (σ ⊕ ρ)} {n : Nat} {s s' : σ} (h : body s = some (.inl s')) : iter body (n + 1) s = iter body n s' := by
  show (body s).bind _ = _
  rw [h]; rfl
theorem iterD {σ ρ : Type} {body : σ → Option (σ ⊕ ρ)} {n : Nat} {s : σ} {r : ρ} (h : body s = some (.inr r)) : iter body (n + 1) s = some r := by
  show (body s).bind _ = _
  rw [h]; rfl
/-- a loop whose states are told: from turn a to turn m -/
theorem loopN {σ ρ : Type} {body : σ → Option (σ ⊕ ρ)} (S : Nat → σ) (r : ρ) (m : Nat) (he : body (S m) = some (.inr r)) : ∀ (d a n : Nat), a + d = m → d < n → (∀ k, a ≤ k → k < m → body (S k) = some (.inl (S (k + 1)))) → iter body n (S a) = some r := by
  intro d
  induction d with
  | zero =>
    intro a n h1 h2 hb
    obtain ⟨n, rfl⟩ : ∃ q, n = q + 1 := ⟨n - 1, by omega⟩
    have : a = m := by omega
    subst this
    exact iterD he
  | succ d ih =>
    intro a n h1 h2 hb
    obtain ⟨n, rfl⟩ : ∃ q, n = q + 1 := ⟨n - 1, by omega⟩
    rw [iterS (hb a (Nat.le_refl a) (by omega))]
    exact ih (a + 1) n (by omega) (by omega) (fun k h3 h4 => hb k (by omega) h4)
theorem loopS {σ ρ : Type} {body : σ → Option (σ ⊕ ρ)} (S : Nat → σ) (r : ρ) (m : Nat) (hm : m < 100000) (hb : ∀ k, k < m → body (S k) = some (.inl (S (k + 1)))) (he : body (S m) = some (.inr r)) : iter body FUEL (S 0) = some r :=
  loopN S r m he m 0 FUEL (by omega) hm (fun k _ h => hb k h)
theorem loopA {σ ρ : Type} {body : σ → Option (σ ⊕ ρ)} (S : Nat → σ) (r : ρ) (a m : Nat) (ha : a ≤ m) (hm : m < 100000) (hb : ∀ k, a ≤ k → k < m → body (S k) = some (.inl (S (k + 1)))) (he : body (S m) = some (.inr r)) : iter body FUEL (S a) = some r :=
  loopN S r m he (m - a) a FUEL (by omega) (by show m - a < 100000; omega) hb
/-- the first number from a on, below m, of which P holds; m if there is none -/
def fnd (P : Nat → Bool) : Nat → Nat → Nat
  | a, 0 => a
  | a, d + 1 => if P a then a else fnd P (a + 1) d
theorem fnd_ge (P : Nat → Bool) : ∀ d a, a ≤ fnd P a d
  | 0, a => Nat.le_refl a
  | d + 1, a => by
    unfold fnd
    split
    · exact Nat.le_refl a
    · exact Nat.le_trans (Nat.le_succ a) (fnd_ge P d (a + 1))
theorem fnd_le (P : Nat → Bool) : ∀ d a, fnd P a d ≤ a + d
  | 0, a => Nat.le_refl a
  | d + 1, a => by
    unfold fnd
    split
    · omega
    · have := fnd_le P d (a + 1); omega
theorem fnd_no (P : Nat → Bool) : ∀ d a k, a ≤ k → k < fnd P a d → P k = false
  | 0, a, k, h1, h2 => by unfold fnd at h2; omega
  | d + 1, a, k, h1, h2 => by
    unfold fnd at h2
    split at h2
    · omega
    · rename_i h
      rcases Nat.eq_or_lt_of_le h1 with e | e
      · subst e; simpa using h
      · exact fnd_no P d (a + 1) k e h2
theorem fnd_yes (P : Nat → Bool) : ∀ d a, fnd P a d < a + d → P (fnd P a d) = true
  | 0, a, h => by unfold fnd at h; omega
  | d + 1, a, h => by
    unfold fnd at h ⊢
    split
    · assumption
    · rename_i h1
      rw [if_neg h1] at h
      exact fnd_yes P d (a + 1) (by omega)
theorem fnd_is (P : Nat → Bool) {d a k : Nat} (h1 : a ≤ k) (h2 : k ≤ a + d) (h3 : ∀ j, a ≤ j → j < k → P j = false) (h4 : k < a + d → P k = true) : fnd P a d = k := by
  rcases Nat.lt_trichotomy (fnd P a d) k with h | h | h
  · have := fnd_yes P d a (by omega)
    rw [h3 _ (fnd_ge P d a) h] at this
    cases this
  · exact h
  · have := fnd_no P d a k h1 h
    have h5 := fnd_le P d a
    rw [h4 (by omega)] at this
    cases this
theorem fnd_congr {P Q : Nat → Bool} : ∀ d a, (∀ k, a ≤ k → k < a + d → P k = Q k) → fnd P a d = fnd Q a d
  | 0, a, _ => rfl
  | d + 1, a, h => by
    unfold fnd
    rw [h a (Nat.le_refl a) (by omega), fnd_congr d (a + 1) (fun k h1 h2 => h k (by omega) (by omega))]
/-- sums -/
def sm (g : Nat → Int) : Nat → Int
  | 0 => 0
  | n + 1 => sm g n + g n
theorem sm_bd {g : Nat → Int} {b : Int} : ∀ n : Nat, (∀ k, k < n → 0 ≤ g k ∧ g k ≤ b) → 0 ≤ sm g n ∧ sm g n ≤ n * b
  | 0, _ => by simp [sm]
  | n + 1, h => by
    have h1 := sm_bd n (fun k hk => h k (by omega))
    have h2 := h n (by omega)
    have h3 : ((n + 1 : Nat) : Int) * b = n * b + b := by rw [Int.natCast_add, Int.add_mul]; simp
    unfold sm
    omega
theorem sm_congr {g h : Nat → Int} : ∀ n : Nat, (∀ k, k < n → g k = h k) → sm g n = sm h n
  | 0, _ => rfl
  | n + 1, q => by unfold sm; rw [sm_congr n (fun k hk => q k (by omega)), q n (by omega)]
/-! rows -/
theorem upd_same {f : Nat → Int32} {k : Nat} {x : Int32} : upd f k x k = x := if_pos rfl
theorem upd_ne {f : Nat → Int32} {k j : Nat} {x : Int32} (h : j ≠ k) : upd f k x j = f j := if_neg h
theorem upd_at (f : Nat → Int32) (k : Nat) (x : Int32) (j : Nat) : upd f k x j = if j = k then x else f j := rfl
theorem updL_at (f : Nat → Int64) (k : Nat) (x : Int64) (j : Nat) : vp_updL f k x j = if j = k then x else f j := rfl

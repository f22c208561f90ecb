/-! who -/
def bn (P : Nat → Bool) : Nat → Nat
  | 0 => 0
  | k + 1 => if P k = true then bn P k + 2 ^ k else bn P k
def cn (P : Nat → Bool) : Nat → Nat
  | 0 => 0
  | k + 1 => if P k = true then cn P k + 1 else cn P k
def pc (n : Nat) : Nat := n % 2 + n / 2 % 2 + n / 4 % 2 + n / 8 % 2 + n / 16 % 2 + n / 32 % 2 + n / 64 % 2 + n / 128 % 2
theorem bn_lt (P : Nat → Bool) : ∀ m, bn P m < 2 ^ m
  | 0 => (by decide : 0 < 2 ^ 0)
  | m + 1 => by
    have := bn_lt P m
    unfold bn
    rw [Nat.pow_succ]
    split <;> omega
theorem bn_lt8 (P : Nat → Bool) {m : Nat} (hm : m ≤ 8) : bn P m < 256 := Nat.lt_of_lt_of_le (bn_lt P m) (show 2 ^ m ≤ 2 ^ 8 from Nat.pow_le_pow_right (by decide) hm)
theorem d_bit : ∀ m : Nat, m < 8 → ∀ k : Nat, k < m → ∀ x : Nat, x < 2 ^ m → (x + 2 ^ m) / 2 ^ k % 2 = x / 2 ^ k % 2 := by decide +kernel
theorem d_top : ∀ m : Nat, m < 8 → ∀ x : Nat, x < 2 ^ m → (x + 2 ^ m) / 2 ^ m % 2 = 1 ∧ x / 2 ^ m % 2 = 0 ∧ pc (x + 2 ^ m) = pc x + 1 := by decide +kernel
theorem d_or : ∀ m : Nat, m < 8 → ∀ x : Nat, x < 2 ^ m → iz (x : Int) ||| (1 <<< (iz (m : Int) &&& 31)) = iz ((x + 2 ^ m : Nat) : Int) := by decide +kernel
theorem d_sh : ∀ m : Nat, m < 8 → ∀ x : Nat, x < 256 → (((iz (x : Int) >>> (iz (m : Int) &&& 31)) &&& 1 = 1) ↔ x / 2 ^ m % 2 = 1) := by decide +kernel
theorem d_pc : ∀ x : Nat, x < 256 → f_JI_bitCount (iz (x : Int)) = some (iz (pc x : Nat)) := by decide +kernel
theorem bn_bit (P : Nat → Bool) : ∀ m, m ≤ 8 → ∀ k, k < m → (bn P m / 2 ^ k % 2 = 1 ↔ P k = true)
  | 0, _, k, hk => by omega
  | m + 1, h, k, hk => by
    have hl := bn_lt P m
    unfold bn
    by_cases c : k = m
    · subst c
      obtain ⟨t1, t2, t3⟩ := d_top k (by omega) (bn P k) hl
      by_cases p : P k = true
      · rw [if_pos p, t1]; simp [p]
      · rw [if_neg p, t2]; simp [p]
    · have ih := bn_bit P m (by omega) k (by omega)
      have e := d_bit m (by omega) k (by omega) (bn P m) hl
      by_cases p : P m = true
      · rw [if_pos p, e]; exact ih
      · rw [if_neg p]; exact ih
theorem bn_pc (P : Nat → Bool) : ∀ m, m ≤ 8 → pc (bn P m) = cn P m
  | 0, _ => (by decide : pc 0 = 0)
  | m + 1, h => by
    have ih := bn_pc P m (by omega)
    obtain ⟨t1, t2, t3⟩ := d_top m (by omega) (bn P m) (bn_lt P m)
    unfold bn cn
    by_cases p : P m = true
    · rw [if_pos p, if_pos p, t3, ih]
    · rw [if_neg p, if_neg p, ih]
theorem fo_kbit (P : Nat → Bool) : ∀ m, m ≤ 8 → fo (kbit P) m 0 = iz ((bn P m : Nat) : Int)
  | 0, _ => rfl
  | m + 1, h => by
    unfold fo
    rw [fo_kbit P m (by omega), show bn P (m + 1) = if P m = true then bn P m + 2 ^ m else bn P m from rfl]
    unfold kbit
    by_cases p : P m = true
    · rw [if_neg (by rw [p]; decide), if_pos p, d_or m (by omega) _ (bn_lt P m)]
    · rw [if_pos (by simpa using p), if_neg p]
theorem bn_test (P : Nat → Bool) {m k : Nat} (hm : m ≤ 8) (hk : k < m) : (((iz ((bn P m : Nat) : Int) >>> (iz (k : Int) &&& 31)) &&& 1) = 1) = (P k = true) :=
  propext ((d_sh k (by omega) _ (bn_lt8 P hm)).trans (bn_bit P m hm k hk))
theorem bn_0 (P : Nat → Bool) : ∀ m, bn P m = 0 ↔ ∀ k, k < m → P k = false
  | 0 => ⟨fun _ k hk => by omega, fun _ => rfl⟩
  | m + 1 => by
    have ih := bn_0 P m
    have hp : 0 < 2 ^ m := Nat.two_pow_pos m
    unfold bn
    by_cases p : P m = true
    · rw [if_pos p]
      constructor
      · intro h; omega
      · intro h
        have := h m (by omega)
        rw [this] at p; cases p
    · rw [if_neg p, ih]
      constructor
      · intro h k hk
        by_cases e : k = m
        · rw [e]; simpa using p
        · exact h k (by omega)
      · intro h k hk
        exact h k (by omega)
theorem alb_fnd2 (P : Nat → Bool) {n w : Nat} (hn : n ≤ w) : (fnd (fun k => !P k) 0 w < n) = (alb P n = false) := propext (by
  constructor
  · intro h
    by_cases c : alb P n = true
    · have h1 := fnd_yes (fun k => !P k) w 0 (by omega)
      have h2 := alb_T c _ h
      rw [h2] at h1
      cases h1
    · simpa using c
  · intro h
    by_cases c : fnd (fun k => !P k) 0 w < n
    · exact c
    · have h2 : alb P n = true := alb_I (fun j hj => by
        have := fnd_no (fun k => !P k) w 0 j (by omega) (by omega)
        simpa using this)
      rw [h2] at h
      cases h)
def ft (w : Nat) (rn : Int) (g kd a' T : Nat → Int) (c n : Nat) (f : Nat) : Bool := alb (mt w rn g T c (kd f) (a' f)) n
section
variable {w m : Nat} {rn : Int} {g kd a' l : Nat → Int} {sz : Nat → Int} {el ro : Nat → Int64} {a f c n : Nat} {T : Nat → Int} {P : Nat → Bool}
theorem z_fitting (hD : Dr w rn m g kd a') (hT : TL sz el ro a T) (hz : (w : Int) ≤ sz a) (hc : c < w) (hn : n ≤ w) :
    f_M_fitting (iz a) (iz c) (iz n) (iz w) (iz rn) (iz m) (ar g) (ar kd) (ar a') (ar sz) el = some (iz ((bn (ft w rn g kd a' T c n) m : Nat) : Int)) := by
  obtain ⟨hw, hrn, hm, hg, hkd, ha⟩ := id hD
  have h := loopF (body := fun s : Int32 × Int32 => f_M_fitting_b6 (iz a) (iz c) (iz n) (iz w) (iz rn) (iz m) (ar g) (ar kd) (ar a') (ar sz) el s.1 s.2) (fun b k => (b, iz k)) (kbit (ft w rn g kd a' T c n)) (fun b => b) 0 m (by omega)
    (fun k b hk => by
      simp only [f_M_fitting_b6, z_kindOf (show k < 8 by omega), z_weightOf (show k < 8 by omega), Option.bind_some, z_count hD.2.2.1]
      rw [z_isToldSo hw hrn hg hT (by omega) hn hc (hkd k) (ha k)]
      simp only [Option.bind_some]
      unfold kbit ft
      rw [if_neg (by rw [iz_le (by omega) (by omega)]; omega), iz_succ]
      by_cases q : alb (mt w rn g T c (kd k) (a' k)) n = false
      · rw [if_pos q, if_pos rfl, if_pos q]
      · rw [if_neg q, if_neg (by decide), if_neg q])
    (fun b => by
      simp only [f_M_fitting_b6, z_count hD.2.2.1, Option.bind_some]
      simp (disch := omega) only [iz_le, if_pos])
  unfold f_M_fitting
  rw [show f_M_fitting_l6 (iz a) (iz c) (iz n) (iz w) (iz rn) (iz m) (ar g) (ar kd) (ar a') (ar sz) el 0 0 = _ from h, fo_kbit _ m hm]
  rfl
theorem y_fitting (hD : Dr w rn m g kd a') (hT : TL sz el ro a T) (hz : (w : Int) ≤ sz a) (hc : c < w) :
    f_R_fitting (iz a) (iz c) (iz w) (iz rn) (iz m) (ar g) (ar kd) (ar a') ro = some (iz ((bn (ft w rn g kd a' T c w) m : Nat) : Int)) := by
  obtain ⟨hw, hrn, hm, hg, hkd, ha⟩ := id hD
  have h := loopF (body := fun s : Int32 × Int32 => f_R_fitting_b5 (iz a) (iz c) (iz w) (iz rn) (iz m) (ar g) (ar kd) (ar a') ro s.1 s.2) (fun b k => (b, iz k)) (kbit (ft w rn g kd a' T c w)) (fun b => b) 0 m (by omega)
    (fun k b hk => by
      have hle := fnd_le (fun j => !mt w rn g T c (kd k) (a' k) j) w 0
      have ha := alb_fnd (mt w rn g T c (kd k) (a' k)) w
      simp only [f_R_fitting_b5]
      rw [y_fits hD hT hz hk hc]
      simp only [Option.bind_some]
      unfold kbit ft
      rw [if_neg (by rw [iz_le (by omega) (by omega)]; omega), iz_succ]
      by_cases q : alb (mt w rn g T c (kd k) (a' k)) w = false
      · rw [if_pos q, if_neg (by rw [iz_eq (by omega) (by omega)]; rw [← ha] at q; omega)]
      · rw [if_neg q, if_pos (by rw [iz_eq (by omega) (by omega)]; rw [← ha] at q; omega)])
    (fun b => by
      simp only [f_R_fitting_b5]
      simp (disch := omega) only [iz_le, if_pos])
  unfold f_R_fitting
  rw [show f_R_fitting_l5 (iz a) (iz c) (iz w) (iz rn) (iz m) (ar g) (ar kd) (ar a') ro 0 0 = _ from h, fo_kbit _ m hm]
  rfl
def sr (w : Nat) (rn : Int) (g kd a' T : Nat → Int) (c m : Nat) (k : Nat) : Bool := decide (cn (ft w rn g kd a' T c (k + 1)) m = 1)
theorem cn_le (P : Nat → Bool) : ∀ m, cn P m ≤ m
  | 0 => Nat.le_refl 0
  | m + 1 => by
    have := cn_le P m
    unfold cn
    split <;> omega
theorem z_sure (hD : Dr w rn m g kd a') (hT : TL sz el ro a T) (hz : (w : Int) ≤ sz a) (hc : c < w) :
    f_M_sureBehind (iz a) (iz c) (iz w) (iz rn) (iz m) (ar g) (ar kd) (ar a') (ar sz) el = some (iz (if fnd (sr w rn g kd a' T c m) 0 w < w then ((fnd (sr w rn g kd a' T c m) 0 w + 1 : Nat) : Int) else -1)) := by
  obtain ⟨hw, hrn, hm, hg, hkd, ha⟩ := id hD
  have h := loopE (body := fun s : Int32 => f_M_sureBehind_b2 (iz a) (iz c) (iz w) (iz rn) (iz m) (ar g) (ar kd) (ar a') (ar sz) el s) (fun k => iz ((k + 1 : Nat) : Int)) (sr w rn g kd a' T c m) (fun k => .inl (iz ((k + 1 : Nat) : Int))) (.inr ()) w (by omega)
    (fun k hk hP => by
      have hc2 := cn_le (ft w rn g kd a' T c (k + 1)) m
      have hP2 := of_decide_eq_false hP
      simp only [f_M_sureBehind_b2]
      rw [z_fitting hD hT hz hc (show k + 1 ≤ w by omega)]
      simp only [Option.bind_some]
      rw [d_pc _ (bn_lt8 _ hm), bn_pc _ m hm]
      simp only [Option.bind_some]
      rw [if_neg (by rw [iz_lt (by omega) (by omega)]; omega), l_1, if_neg (by rw [iz_eq (by omega) (by omega)]; omega)]
      rw [show iz ((k + 1 : Nat) : Int) + iz 1 = iz ((k + 1 + 1 : Nat) : Int) from iz_succ (k + 1)])
    (fun k hk hP => by
      have hc2 := cn_le (ft w rn g kd a' T c (k + 1)) m
      have hP2 := of_decide_eq_true hP
      simp only [f_M_sureBehind_b2]
      rw [z_fitting hD hT hz hc (show k + 1 ≤ w by omega)]
      simp only [Option.bind_some]
      rw [d_pc _ (bn_lt8 _ hm), bn_pc _ m hm]
      simp only [Option.bind_some]
      rw [if_neg (by rw [iz_lt (by omega) (by omega)]; omega), l_1, if_pos (by rw [iz_eq (by omega) (by omega)]; omega)])
    (by
      simp only [f_M_sureBehind_b2]
      exact if_pos (by rw [iz_lt (by omega) (by omega)]; omega))
  unfold f_M_sureBehind
  rw [show f_M_sureBehind_l2 (iz a) (iz c) (iz w) (iz rn) (iz m) (ar g) (ar kd) (ar a') (ar sz) el 1 = _ from h]
  simp only [Option.bind_some]
  split <;> rfl
theorem y_sureI (hD : Dr w rn m g kd a') (hT : TL sz el ro a T) (hz : (w : Int) ≤ sz a) (hc : c < w) (hn : n ≤ w) :
    f_R_sure_l16 (iz a) (iz c) (iz n) (iz w) (iz rn) (iz m) (ar g) (ar kd) (ar a') ro (iz 0) (iz 0) = some (iz ((cn (ft w rn g kd a' T c n) m : Nat) : Int)) := by
  obtain ⟨hw, hrn, hm, hg, hkd, ha⟩ := id hD
  exact loopS (body := fun s : Int32 × Int32 => f_R_sure_b16 (iz a) (iz c) (iz n) (iz w) (iz rn) (iz m) (ar g) (ar kd) (ar a') ro s.1 s.2) (fun k => (iz ((cn (ft w rn g kd a' T c n) k : Nat) : Int), iz k)) _ m (by omega)
    (fun k hk => by
      have hle := fnd_le (fun j => !mt w rn g T c (kd k) (a' k) j) w 0
      have ha := alb_fnd2 (mt w rn g T c (kd k) (a' k)) hn
      simp only [f_R_sure_b16]
      rw [y_fits hD hT hz hk hc]
      simp only [Option.bind_some]
      rw [if_neg (by rw [iz_le (by omega) (by omega)]; omega), iz_succ, iz_succ]
      rw [show cn (ft w rn g kd a' T c n) (k + 1) = if ft w rn g kd a' T c n k = true then cn (ft w rn g kd a' T c n) k + 1 else cn (ft w rn g kd a' T c n) k from rfl]
      by_cases q : ft w rn g kd a' T c n k = true
      · have q2 : ¬ alb (mt w rn g T c (kd k) (a' k)) n = false := by unfold ft at q; rw [q]; decide
        rw [if_pos q, if_neg (by rw [iz_lt (by omega) (by omega)]; rw [← ha] at q2; omega)]
      · have q2 : alb (mt w rn g T c (kd k) (a' k)) n = false := by unfold ft at q; simpa using q
        rw [if_neg q, if_pos (by rw [iz_lt (by omega) (by omega)]; rw [← ha] at q2; omega)])
    (by
      simp only [f_R_sure_b16]
      simp (disch := omega) only [iz_le, if_pos])
theorem y_sure (hD : Dr w rn m g kd a') (hT : TL sz el ro a T) (hz : (w : Int) ≤ sz a) (hc : c < w) :
    f_R_sure (iz a) (iz c) (iz w) (iz rn) (iz m) (ar g) (ar kd) (ar a') ro = some (iz (if fnd (sr w rn g kd a' T c m) 0 w < w then ((fnd (sr w rn g kd a' T c m) 0 w + 1 : Nat) : Int) else -1)) := by
  obtain ⟨hw, hrn, hm, hg, hkd, ha⟩ := id hD
  have h := loopE (body := fun s : Int32 => f_R_sure_b2 (iz a) (iz c) (iz w) (iz rn) (iz m) (ar g) (ar kd) (ar a') ro s) (fun k => iz ((k + 1 : Nat) : Int)) (sr w rn g kd a' T c m) (fun k => .inl (iz ((k + 1 : Nat) : Int))) (.inr ()) w (by omega)
    (fun k hk hP => by
      have hc2 := cn_le (ft w rn g kd a' T c (k + 1)) m
      have hP2 := of_decide_eq_false hP
      simp only [f_R_sure_b2]
      rw [show f_R_sure_l16 (iz a) (iz c) (iz ((k + 1 : Nat) : Int)) (iz w) (iz rn) (iz m) (ar g) (ar kd) (ar a') ro 0 0 = _ from y_sureI hD hT hz hc (show k + 1 ≤ w by omega)]
      simp only [Option.bind_some]
      rw [if_neg (by rw [iz_lt (by omega) (by omega)]; omega), l_1, if_neg (by rw [iz_eq (by omega) (by omega)]; omega)]
      rw [show iz ((k + 1 : Nat) : Int) + iz 1 = iz ((k + 1 + 1 : Nat) : Int) from iz_succ (k + 1)])
    (fun k hk hP => by
      have hc2 := cn_le (ft w rn g kd a' T c (k + 1)) m
      have hP2 := of_decide_eq_true hP
      simp only [f_R_sure_b2]
      rw [show f_R_sure_l16 (iz a) (iz c) (iz ((k + 1 : Nat) : Int)) (iz w) (iz rn) (iz m) (ar g) (ar kd) (ar a') ro 0 0 = _ from y_sureI hD hT hz hc (show k + 1 ≤ w by omega)]
      simp only [Option.bind_some]
      rw [if_neg (by rw [iz_lt (by omega) (by omega)]; omega), l_1, if_pos (by rw [iz_eq (by omega) (by omega)]; omega)])
    (by
      simp only [f_R_sure_b2]
      exact if_pos (by rw [iz_lt (by omega) (by omega)]; omega))
  unfold f_R_sure
  rw [show f_R_sure_l2 (iz a) (iz c) (iz w) (iz rn) (iz m) (ar g) (ar kd) (ar a') ro 1 = _ from h]
  simp only [Option.bind_some]
  split <;> rfl
end
def lks (P : Nat → Bool) (l : Nat → Int) (k : Nat) (s : Int × Int) : Int × Int := if P k = true then (if s.2 < l k then ((k : Int), l k) else s) else s
def LI (P : Nat → Bool) (l : Nat → Int) (k : Nat) (s : Int × Int) : Prop := (s.1 = -1 ∧ s.2 = 0 ∧ ∀ j, j < k → P j = false) ∨ (∃ b : Nat, b < k ∧ P b = true ∧ s.1 = b ∧ s.2 = l b ∧ 1 ≤ l b ∧ l b ≤ 99)
section
variable {m : Nat} {l : Nat → Int} {P : Nat → Bool}
theorem LI_st (hl : ∀ j, 0 ≤ l j ∧ l j ≤ 99) (hl1 : ∀ j, j < m → 1 ≤ l j) {k : Nat} (hk : k < m) {s : Int × Int} (h : LI P l k s) : LI P l (k + 1) (lks P l k s) := by
  have b1 := hl k
  have b2 := hl1 k hk
  unfold lks
  by_cases p : P k = true
  · rw [if_pos p]
    by_cases c : s.2 < l k
    · rw [if_pos c]
      exact Or.inr ⟨k, by omega, p, rfl, rfl, b2, b1.2⟩
    · rw [if_neg c]
      rcases h with ⟨h1, h2, h3⟩ | ⟨b, h1, h2, h3, h4, h5⟩
      · omega
      · exact Or.inr ⟨b, by omega, h2, h3, h4, h5⟩
  · rw [if_neg p]
    rcases h with ⟨h1, h2, h3⟩ | ⟨b, h1, h2, h3, h4, h5⟩
    · refine Or.inl ⟨h1, h2, fun j hj => ?_⟩
      by_cases e : j = k
      · rw [e]; simpa using p
      · exact h3 j (by omega)
    · exact Or.inr ⟨b, by omega, h2, h3, h4, h5⟩
theorem z_likeliest (hm : m ≤ 8) (hl : ∀ j, 0 ≤ l j ∧ l j ≤ 99) (hl1 : ∀ j, j < m → 1 ≤ l j) :
    f_M_likeliestOf (iz ((bn P m : Nat) : Int)) (iz m) (ar l) = some (iz (fo (lks P l) m (-1, 0)).1) ∧ LI P l m (fo (lks P l) m (-1, 0)) := by
  have h := loopFI (body := fun s : Int32 × Int32 × Int32 => f_M_likeliestOf_b7 (iz ((bn P m : Nat) : Int)) (iz m) (ar l) s.1 s.2.1 s.2.2) (LI P l) (fun (s : Int × Int) k => (iz s.1, iz s.2, iz k)) (lks P l) (fun s => iz s.1) ((-1, 0) : Int × Int) m (by omega) (Or.inl ⟨rfl, rfl, fun j hj => by omega⟩)
    (fun k s hk hI => LI_st hl hl1 hk hI)
    (fun k s hk hI => by
      have b1 := hl k
      have b2 : 0 ≤ s.2 ∧ s.2 ≤ 99 := by
        rcases hI with ⟨h1, h2, h3⟩ | ⟨b, h1, h2, h3, h4, h5⟩ <;> omega
      simp only [f_M_likeliestOf_b7, bn_test P hm hk, z_chanceOf (show k < 8 by omega), Option.bind_some, z_count hm]
      unfold lks
      rw [if_neg (by rw [iz_le (by omega) (by omega)]; omega), iz_succ]
      by_cases p : P k = true
      · rw [if_pos p, if_pos p]
        by_cases c : s.2 < l k
        · rw [if_pos c, if_neg (by rw [iz_le (by omega) (by omega)]; omega)]
        · rw [if_neg c, if_pos (by rw [iz_le (by omega) (by omega)]; omega)]
      · rw [if_neg p, if_neg p])
    (fun s hI => by
      simp only [f_M_likeliestOf_b7, z_count hm, Option.bind_some]
      simp (disch := omega) only [iz_le, if_pos])
  refine ⟨?_, h.2⟩
  unfold f_M_likeliestOf
  rw [show f_M_likeliestOf_l7 (iz ((bn P m : Nat) : Int)) (iz m) (ar l) (-1) 0 0 = _ from h.1]
  rfl
theorem y_likeliest (hm : m ≤ 8) (hl : ∀ j, 0 ≤ l j ∧ l j ≤ 99) (hl1 : ∀ j, j < m → 1 ≤ l j) :
    f_R_likeliest (iz ((bn P m : Nat) : Int)) (iz m) (ar l) = some (iz (fo (lks P l) m (-1, 0)).1) := by
  have h := loopFI (body := fun s : Int32 × Int32 => f_R_likeliest_b4 (iz ((bn P m : Nat) : Int)) (iz m) (ar l) s.1 s.2) (LI P l) (fun (s : Int × Int) k => (iz s.1, iz k)) (lks P l) (fun s => iz s.1) ((-1, 0) : Int × Int) m (by omega) (Or.inl ⟨rfl, rfl, fun j hj => by omega⟩)
    (fun k s hk hI => LI_st hl hl1 hk hI)
    (fun k s hk hI => by
      have b1 := hl k
      have b2 := hl1 k hk
      simp only [f_R_likeliest_b4, bn_test P hm hk]
      unfold lks
      rw [if_neg (by rw [iz_le (by omega) (by omega)]; omega), iz_succ]
      by_cases p : P k = true
      · rw [if_pos p, if_pos p]
        rcases hI with ⟨h1, h2, h3⟩ | ⟨b, h1, h2, h3, h4, h5⟩
        · rw [h1, h2, if_pos (by decide), if_pos (by omega)]
        · rw [h3, h4, if_neg (by rw [show (-1 : Int32) = iz (-1) from rfl, iz_eq (by omega) (by omega)]; omega), rdn k (by omega) (by omega), rdn b (by omega) (by omega)]
          simp only [Option.bind_some, ar_at]
          by_cases c : l b < l k
          · rw [if_pos c, if_neg (by rw [iz_le (by omega) (by omega)]; omega)]
          · rw [if_neg c, if_pos (by rw [iz_le (by omega) (by omega)]; omega), h3]
      · rw [if_neg p, if_neg p])
    (fun s hI => by
      simp only [f_R_likeliest_b4]
      simp (disch := omega) only [iz_le, if_pos])
  unfold f_R_likeliest
  rw [show f_R_likeliest_l4 (iz ((bn P m : Nat) : Int)) (iz m) (ar l) (-1) 0 = _ from h.1]
  rfl
def lP (P : Nat → Bool) (l : Nat → Int) (k : Nat) : Int := if P k = true then l k else 0
theorem z_chancesOf (hm : m ≤ 8) : f_M_chancesOf (iz ((bn P m : Nat) : Int)) (iz m) (ar l) = some (iz (sm (lP P l) m)) := by
  have h := loopS (body := fun s : Int32 × Int32 => f_M_chancesOf_b4 (iz ((bn P m : Nat) : Int)) (iz m) (ar l) s.1 s.2) (fun k => (iz (sm (lP P l) k), iz k)) (iz (sm (lP P l) m)) m (by omega)
    (fun k hk => by
      simp only [f_M_chancesOf_b4, bn_test P hm hk, z_chanceOf (show k < 8 by omega), Option.bind_some, z_count hm]
      rw [if_neg (by rw [iz_le (by omega) (by omega)]; omega), iz_succ, show sm (lP P l) (k + 1) = sm (lP P l) k + lP P l k from rfl]
      unfold lP
      by_cases p : P k = true
      · rw [if_pos p, if_pos p, iz_add]
      · rw [if_neg p, if_neg p, Int.add_zero])
    (by
      simp only [f_M_chancesOf_b4, z_count hm, Option.bind_some]
      simp (disch := omega) only [iz_le, if_pos])
  unfold f_M_chancesOf
  rw [show f_M_chancesOf_l4 (iz ((bn P m : Nat) : Int)) (iz m) (ar l) 0 0 = _ from h]
  rfl
theorem y_chances (hm : m ≤ 8) : f_R_who_l116 (iz ((bn P m : Nat) : Int)) (iz m) (ar l) (iz 0) (iz 0) = some (iz (sm (lP P l) m)) :=
  loopS (body := fun s : Int32 × Int32 => f_R_who_b116 (iz ((bn P m : Nat) : Int)) (iz m) (ar l) s.1 s.2) (fun k => (iz (sm (lP P l) k), iz k)) (iz (sm (lP P l) m)) m (by omega)
    (fun k hk => by
      simp only [f_R_who_b116, bn_test P hm hk]
      rw [if_neg (by rw [iz_le (by omega) (by omega)]; omega), iz_succ, show sm (lP P l) (k + 1) = sm (lP P l) k + lP P l k from rfl, rdn k (by omega) (by omega)]
      simp only [Option.bind_some, ar_at]
      unfold lP
      by_cases p : P k = true
      · rw [if_pos p, if_pos p, iz_add]
      · rw [if_neg p, if_neg p, Int.add_zero])
    (by
      simp only [f_R_who_b116]
      simp (disch := omega) only [iz_le, if_pos])
end
theorem q_who {w m : Nat} {rn : Int} {g kd a l : Nat → Int} {mk sz rl : Nat → Int} {el ro : Nat → Int64} {rm rr : Nat → Int32} (hD : Dr w rn m g kd a) (hl : ∀ j, 0 ≤ l j ∧ l j ≤ 99) (hl1 : ∀ j, j < m → 1 ≤ l j) (hsi : SI m mk sz rl el ro) (hr : RF rm rr) (v1 v2 v3 : Int32) :
    ∃ ans rm' rr', f_M_who v1 v2 v3 (iz w) (iz rn) (iz m) (ar g) (ar kd) (ar a) (ar l) (ar mk) (ar sz) el rm = some (ans, rm') ∧ f_R_who v1 v2 v3 (iz w) (iz rn) (iz m) (ar g) (ar kd) (ar a) (ar l) (ar mk) (ar rl) ro rr = some (ans, rr') ∧ RF rm' rr' := by
  obtain ⟨hw, hrn, hm, hg, hkd, ha⟩ := id hD
  obtain ⟨s, hs, rfl⟩ := anyI v1
  obtain ⟨t, ht, rfl⟩ := anyI v2
  obtain ⟨y, hy, rfl⟩ := anyI v3
  obtain ⟨m2, r2, e1, e2, hr2⟩ := z_ref (why := -2) (by omega) hr
  obtain ⟨m5, r5, e5, e6, hr5⟩ := z_ref (why := -5) (by omega) hr
  unfold f_M_who f_R_who f_M_who_j24 f_R_who_j24
  by_cases c1 : 0 ≤ s ∧ s < 8
  · obtain ⟨b, hb, rfl⟩ := natZ (n := 8) c1
    by_cases c2 : 0 ≤ t ∧ t < w
    · obtain ⟨c, hc, rfl⟩ := natZ (n := w) c2
      by_cases c4 : 0 ≤ y ∧ y ≤ 3
      · have wb := wo_bd mk sz b w
        by_cases c5 : wo mk sz b w = 0
        · obtain ⟨hrow, hsz⟩ := wo_row hsi hb c5
          obtain ⟨_, _, T, hT⟩ := hsi.told hb hrow
          obtain ⟨l1, l2⟩ := z_likeliest (P := ft w rn g kd a T c w) hm hl hl1
          have l3 := y_likeliest (P := ft w rn g kd a T c w) hm hl hl1
          have bb := bn_lt8 (ft w rn g kd a T c w) hm
          simp (maxSteps := 2000000) (disch := omega) only [l_0, l_1, l_2, l_3, l_4, l_5, l_6, l_7, l_8, l_9, l_10, l_12, l_16, l_32, l_35, l_36, l_40, l_48, l_59, l_57, l_60, l_97, l_99, l_100, l_122, l_250, l_255, l_1000, l_10000, l_20000, l_1000000, l_12345, l_1103515245, iz_neg, iz_add, iz_sub, iz_mul, iz_lt, iz_le, iz_eq, Option.bind_some, b1_i0, b1_i1, zr_b1, Classical.not_not, if_pos, if_neg, z_isShelf, y_isShelf, z_withinI, y_withinI, z_isColumn, y_isColumn, z_whyNoRowOf hm hsi hb, y_noHeard hm hsi hb, z_fitting hD hT hsz hc, y_fitting hD hT hsz hc, l1, l3, z_sure hD hT hsz hc, y_sure hD hT hsz hc]
          by_cases d0 : y = 0
          · simp (disch := omega) only [l_0, l_1, l_2, l_3, l_4, l_5, l_6, l_7, l_8, l_9, l_10, l_12, l_16, l_32, l_35, l_36, l_40, l_48, l_59, l_57, l_60, l_97, l_99, l_100, l_122, l_250, l_255, l_1000, l_10000, l_20000, l_1000000, l_12345, l_1103515245, iz_neg, iz_add, iz_sub, iz_mul, iz_lt, iz_le, iz_eq, Option.bind_some, b1_i0, b1_i1, zr_b1, Classical.not_not, if_pos, if_neg]
            exact ⟨_, _, _, rfl, rfl, hr⟩
          · by_cases d1 : y = 1
            · simp (disch := omega) only [l_0, l_1, l_2, l_3, l_4, l_5, l_6, l_7, l_8, l_9, l_10, l_12, l_16, l_32, l_35, l_36, l_40, l_48, l_59, l_57, l_60, l_97, l_99, l_100, l_122, l_250, l_255, l_1000, l_10000, l_20000, l_1000000, l_12345, l_1103515245, iz_neg, iz_add, iz_sub, iz_mul, iz_lt, iz_le, iz_eq, Option.bind_some, b1_i0, b1_i1, zr_b1, Classical.not_not, if_pos, if_neg]
              exact ⟨_, _, _, rfl, rfl, hr⟩
            · by_cases d3 : y = 3
              · simp (disch := omega) only [l_0, l_1, l_2, l_3, l_4, l_5, l_6, l_7, l_8, l_9, l_10, l_12, l_16, l_32, l_35, l_36, l_40, l_48, l_59, l_57, l_60, l_97, l_99, l_100, l_122, l_250, l_255, l_1000, l_10000, l_20000, l_1000000, l_12345, l_1103515245, iz_neg, iz_add, iz_sub, iz_mul, iz_lt, iz_le, iz_eq, Option.bind_some, b1_i0, b1_i1, zr_b1, Classical.not_not, if_pos, if_neg]
                by_cases z : bn (ft w rn g kd a T c w) m = 0
                · simp (disch := omega) only [l_0, l_1, l_2, l_3, l_4, l_5, l_6, l_7, l_8, l_9, l_10, l_12, l_16, l_32, l_35, l_36, l_40, l_48, l_59, l_57, l_60, l_97, l_99, l_100, l_122, l_250, l_255, l_1000, l_10000, l_20000, l_1000000, l_12345, l_1103515245, iz_neg, iz_add, iz_sub, iz_mul, iz_lt, iz_le, iz_eq, Option.bind_some, b1_i0, b1_i1, zr_b1, Classical.not_not, if_pos, if_neg]
                  exact ⟨_, _, _, rfl, rfl, hr⟩
                · simp (disch := omega) only [l_0, l_1, l_2, l_3, l_4, l_5, l_6, l_7, l_8, l_9, l_10, l_12, l_16, l_32, l_35, l_36, l_40, l_48, l_59, l_57, l_60, l_97, l_99, l_100, l_122, l_250, l_255, l_1000, l_10000, l_20000, l_1000000, l_12345, l_1103515245, iz_neg, iz_add, iz_sub, iz_mul, iz_lt, iz_le, iz_eq, Option.bind_some, b1_i0, b1_i1, zr_b1, Classical.not_not, if_pos, if_neg]
                  exact ⟨_, _, _, rfl, rfl, hr⟩
              · rcases l2 with ⟨h1, h2, h3⟩ | ⟨f, h1, h2, h3, h4, h5⟩
                · have z := (bn_0 _ _).mpr h3
                  rw [h1]
                  simp (disch := omega) only [l_0, l_1, l_2, l_3, l_4, l_5, l_6, l_7, l_8, l_9, l_10, l_12, l_16, l_32, l_35, l_36, l_40, l_48, l_59, l_57, l_60, l_97, l_99, l_100, l_122, l_250, l_255, l_1000, l_10000, l_20000, l_1000000, l_12345, l_1103515245, iz_neg, iz_add, iz_sub, iz_mul, iz_lt, iz_le, iz_eq, Option.bind_some, b1_i0, b1_i1, zr_b1, Classical.not_not, if_pos, if_neg, e5, e6]
                  exact ⟨_, _, _, rfl, rfl, hr5⟩
                · have z : ¬ bn (ft w rn g kd a T c w) m = 0 := by
                    intro q
                    have := (bn_0 _ _).mp q f h1
                    rw [this] at h2; cases h2
                  have s1 := sm_bd (g := lP (ft w rn g kd a T c w) l) (b := 99) m (fun k _ => by unfold lP; have := hl k; split <;> omega)
                  have s2 := sm_ge (l := lP (ft w rn g kd a T c w) l) m (fun k => by unfold lP; have := hl k; split <;> omega) f h1
                  rw [show lP (ft w rn g kd a T c w) l f = l f from if_pos h2] at s2
                  rw [h3]
                  simp (disch := omega) only [l_0, l_1, l_2, l_3, l_4, l_5, l_6, l_7, l_8, l_9, l_10, l_12, l_16, l_32, l_35, l_36, l_40, l_48, l_59, l_57, l_60, l_97, l_99, l_100, l_122, l_250, l_255, l_1000, l_10000, l_20000, l_1000000, l_12345, l_1103515245, iz_neg, iz_add, iz_sub, iz_mul, iz_lt, iz_le, iz_eq, Option.bind_some, b1_i0, b1_i1, zr_b1, Classical.not_not, if_pos, if_neg, z_chanceOf, z_chancesOf, y_chances, rdn, ar_at, dv_iz, z_thousandths]
                  exact ⟨_, _, _, rfl, rfl, hr⟩
        · have wr := wo_ref c5
          obtain ⟨m3, r3, e3, e4, hr3⟩ := z_ref (why := wo mk sz b w) (by omega) hr
          simp (maxSteps := 2000000) (disch := omega) only [l_0, l_1, l_2, l_3, l_4, l_5, l_6, l_7, l_8, l_9, l_10, l_12, l_16, l_32, l_35, l_36, l_40, l_48, l_59, l_57, l_60, l_97, l_99, l_100, l_122, l_250, l_255, l_1000, l_10000, l_20000, l_1000000, l_12345, l_1103515245, iz_neg, iz_add, iz_sub, iz_mul, iz_lt, iz_le, iz_eq, Option.bind_some, b1_i0, b1_i1, zr_b1, Classical.not_not, if_pos, if_neg, z_isShelf, y_isShelf, z_withinI, y_withinI, z_isColumn, y_isColumn, z_whyNoRowOf hm hsi hb, y_noHeard hm hsi hb, e3, e4]
          exact ⟨_, _, _, rfl, rfl, hr3⟩
      · simp (maxSteps := 2000000) (disch := omega) only [l_0, l_1, l_2, l_3, l_4, l_5, l_6, l_7, l_8, l_9, l_10, l_12, l_16, l_32, l_35, l_36, l_40, l_48, l_59, l_57, l_60, l_97, l_99, l_100, l_122, l_250, l_255, l_1000, l_10000, l_20000, l_1000000, l_12345, l_1103515245, iz_neg, iz_add, iz_sub, iz_mul, iz_lt, iz_le, iz_eq, Option.bind_some, b1_i0, b1_i1, zr_b1, Classical.not_not, if_pos, if_neg, z_isShelf, y_isShelf, z_withinI, y_withinI, z_isColumn, y_isColumn, e1, e2]
        exact ⟨_, _, _, rfl, rfl, hr2⟩
    · simp (maxSteps := 2000000) (disch := omega) only [l_0, l_1, l_2, l_3, l_4, l_5, l_6, l_7, l_8, l_9, l_10, l_12, l_16, l_32, l_35, l_36, l_40, l_48, l_59, l_57, l_60, l_97, l_99, l_100, l_122, l_250, l_255, l_1000, l_10000, l_20000, l_1000000, l_12345, l_1103515245, iz_neg, iz_add, iz_sub, iz_mul, iz_lt, iz_le, iz_eq, Option.bind_some, b1_i0, b1_i1, zr_b1, Classical.not_not, if_pos, if_neg, z_isShelf, y_isShelf, z_isColumn, y_isColumn, e1, e2]
      exact ⟨_, _, _, rfl, rfl, hr2⟩
  · simp (maxSteps := 2000000) (disch := omega) only [l_0, l_1, l_2, l_3, l_4, l_5, l_6, l_7, l_8, l_9, l_10, l_12, l_16, l_32, l_35, l_36, l_40, l_48, l_59, l_57, l_60, l_97, l_99, l_100, l_122, l_250, l_255, l_1000, l_10000, l_20000, l_1000000, l_12345, l_1103515245, iz_neg, iz_add, iz_sub, iz_mul, iz_lt, iz_le, iz_eq, Option.bind_some, b1_i0, b1_i1, zr_b1, Classical.not_not, if_pos, if_neg, z_isShelf, y_isShelf, e1, e2]
    exact ⟨_, _, _, rfl, rfl, hr2⟩

/-! rows of bits: whether one can pass -/
def spb (x : Nat) : Nat := x ||| (x * 2) ||| (x / 2)
def xb (x j : Nat) : Nat := if bt x j = true then x - 2 ^ j else x + 2 ^ j
set_option maxRecDepth 100000 in
theorem d_spb : ∀ x : Nat, x < 64 → (iz (x : Int) ||| (iz (x : Int) <<< (1 &&& 31))) ||| (iz (x : Int) >>> (1 &&& 31)) = iz ((spb x : Nat) : Int) ∧ spb x < 128 ∧ ∀ i : Nat, i < 6 → bt (spb x) i = (bt x i || (decide (0 < i) && bt x (i - 1)) || bt x (i + 1)) := by decide +kernel
set_option maxRecDepth 100000 in
theorem d_and : ∀ x : Nat, x < 128 → ∀ y : Nat, y < 64 → iz (x : Int) &&& iz (y : Int) = iz ((x &&& y : Nat) : Int) ∧ (x &&& y) < 64 ∧ ∀ i : Nat, i < 6 → bt (x &&& y) i = (bt x i && bt y i) := by decide +kernel
set_option maxRecDepth 100000 in
theorem d_xb : ∀ x : Nat, x < 64 → ∀ j : Nat, j < 6 → iz (x : Int) ^^^ (1 <<< (iz (j : Int) &&& 31)) = iz ((xb x j : Nat) : Int) ∧ xb x j < 64 ∧ ∀ i : Nat, i < 6 → bt (xb x j) i = (if i = j then !bt x i else bt x i) := by decide +kernel
set_option maxRecDepth 100000 in
theorem d_ext : ∀ x : Nat, x < 64 → ∀ y : Nat, y < 64 → (∀ i : Nat, i < 6 → bt x i = bt y i) → x = y := by decide +kernel
set_option maxRecDepth 100000 in
theorem d_or0 : ∀ x : Nat, x < 64 → iz (x : Int) ||| 0 = iz (x : Int) := by decide +kernel
theorem bn_lt6 (P : Nat → Bool) {m : Nat} (hm : m ≤ 6) : bn P m < 64 := Nat.lt_of_lt_of_le (bn_lt P m) (show 2 ^ m ≤ 2 ^ 6 from Nat.pow_le_pow_right (by decide) hm)
theorem bt_bn (P : Nat → Bool) {m i : Nat} (hm : m ≤ 6) : bt (bn P m) i = (decide (i < m) && P i) := by
  by_cases c : i < m
  · rw [decide_eq_true c, Bool.true_and]
    unfold bt
    have h := bn_bit P m (by omega) i c
    cases hp : P i with
    | true => exact decide_eq_true (h.mpr hp)
    | false => exact decide_eq_false (fun z => by rw [h.mp z] at hp; cases hp)
  · rw [decide_eq_false c, Bool.false_and]
    have h1 : bn P m < 2 ^ i := Nat.lt_of_lt_of_le (bn_lt P m) (Nat.pow_le_pow_right (by decide) (by omega))
    unfold bt
    rw [Nat.div_eq_of_lt h1]
    rfl
section
variable {w : Nat} {op : Nat → Bool} {opn : Nat → Int32}
def OM (w : Nat) (opn : Nat → Int32) (op : Nat → Bool) : Prop := ∀ r, r < w → opn r = iz ((bn (fun c => op (r * w + c)) w : Nat) : Int)
theorem z_markRow {r : Nat} {st : Nat → Int32} (hw : 2 ≤ w ∧ w ≤ 6) (hr : r < w) (hs : Agr st (s01 op) 0 (w * w)) : f_P_markOpen_l14 (iz r) (iz w) st 0 0 = some (iz ((bn (fun c => op (r * w + c)) w : Nat) : Int)) := by
  have h36 := sq_le hw
  refine loopS (body := fun s : Int32 × Int32 => f_P_markOpen_b14 (iz r) (iz w) st s.1 s.2) (fun k => (iz ((bn (fun c => op (r * w + c)) k : Nat) : Int), iz k)) _ w (by omega) (fun k hk => ?_) ?_
  · have hi := idx_lt hr hk
    have hb := s01_bd op (r * w + k)
    simp only [f_P_markOpen_b14, z_len hw, Option.bind_some]
    rw [if_neg (by rw [iz_le (by omega) (by omega)]; omega), z_cellIn hw hr hk]
    simp only [Option.bind_some]
    rw [rdn _ (by omega) (by omega), hs _ (by omega) hi]
    simp only [Option.bind_some]
    rw [show bn (fun c => op (r * w + c)) (k + 1) = if op (r * w + k) = true then bn (fun c => op (r * w + c)) k + 2 ^ k else bn (fun c => op (r * w + c)) k from rfl, iz_succ]
    by_cases c : op (r * w + k) = true
    · rw [if_pos c, if_pos (by rw [(s01_0 op _).mp c]; rfl), d_or k (by omega) _ (bn_lt _ k)]
    · rw [if_neg c, if_neg (by rw [l_0, iz_eq (by omega) (by omega)]; exact fun z => c ((s01_0 op _).mpr z)), d_or0 _ (bn_lt6 _ (by omega))]
  · simp only [f_P_markOpen_b14, z_len hw, Option.bind_some]
    rw [if_pos (by rw [iz_le (by omega) (by omega)]; omega)]
theorem z_markOpen {st : Nat → Int32} (hw : 2 ≤ w ∧ w ≤ 6) (hs : Agr st (s01 op) 0 (w * w)) (opn : Nat → Int32) : ∃ opn', f_P_markOpen (iz w) st opn = some opn' ∧ OM w opn' op := by
  obtain ⟨opn', e, h⟩ := loopI (body := fun s : Int32 × (Nat → Int32) => f_P_markOpen_b2 (iz w) st s.1 s.2) (fun k z => ∃ opn, z = (iz k, opn) ∧ ∀ r, r < k → opn r = iz ((bn (fun c => op (r * w + c)) w : Nat) : Int)) (fun opn => OM w opn op) w (by omega)
    (fun k z hk => by
      rintro ⟨opn, rfl, h1⟩
      simp only [f_P_markOpen_b2, z_len hw, Option.bind_some]
      rw [if_neg (by rw [iz_le (by omega) (by omega)]; omega), z_markRow hw hk hs]
      simp only [Option.bind_some]
      rw [wrn _ (by omega) (by omega)]
      refine ⟨_, rfl, _, by rw [iz_succ], fun r hr => ?_⟩
      by_cases c : r = k
      · subst c; exact upd_same
      · rw [upd_ne c]; exact h1 r (by omega))
    (fun z => by
      rintro ⟨opn, rfl, h1⟩
      simp only [f_P_markOpen_b2, z_len hw, Option.bind_some]
      rw [if_pos (by rw [iz_le (by omega) (by omega)]; omega)]
      exact ⟨_, rfl, h1⟩)
    (iz 0, opn) ⟨opn, rfl, fun j hj => by omega⟩
  unfold f_P_markOpen
  rw [show f_P_markOpen_l2 (iz w) st 0 opn = some opn' from e]
  exact ⟨_, rfl, h⟩
/-- what is reached in a row from the gate -/
def Fr (w : Nat) (op : Nat → Bool) : Nat → Nat → Bool
  | 0, c => op c
  | r + 1, c => (Fr w op r c || (decide (0 < c) && Fr w op r (c - 1)) || (decide (c + 1 < w) && Fr w op r (c + 1))) && op ((r + 1) * w + c)
theorem Fr_op : ∀ r c, Fr w op r c = true → op (r * w + c) = true
  | 0, c, h => by rw [Nat.zero_mul, Nat.zero_add]; exact h
  | r + 1, c, h => by
    unfold Fr at h
    rw [Bool.and_eq_true] at h
    exact h.2
theorem Fr_s (r c : Nat) (hc : c < w) : Fr w op (r + 1) c = true ↔ op ((r + 1) * w + c) = true ∧ ∃ c0, c0 < w ∧ c0 ≤ c + 1 ∧ c ≤ c0 + 1 ∧ Fr w op r c0 = true := by
  rw [show Fr w op (r + 1) c = ((Fr w op r c || (decide (0 < c) && Fr w op r (c - 1)) || (decide (c + 1 < w) && Fr w op r (c + 1))) && op ((r + 1) * w + c)) from rfl]
  rw [Bool.and_eq_true, Bool.or_eq_true, Bool.or_eq_true, Bool.and_eq_true, Bool.and_eq_true, decide_eq_true_iff, decide_eq_true_iff]
  constructor
  · rintro ⟨h1, h2⟩
    refine ⟨h2, ?_⟩
    rcases h1 with (h | ⟨h3, h⟩) | ⟨h3, h⟩
    · exact ⟨c, hc, by omega, by omega, h⟩
    · exact ⟨c - 1, by omega, by omega, by omega, h⟩
    · exact ⟨c + 1, by omega, by omega, by omega, h⟩
  · rintro ⟨h2, c0, h3, h4, h5, h6⟩
    refine ⟨?_, h2⟩
    rcases Nat.lt_trichotomy c0 c with h | h | h
    · exact Or.inl (Or.inr ⟨by omega, by rw [show c - 1 = c0 by omega]; exact h6⟩)
    · exact Or.inl (Or.inl (by rw [← h]; exact h6))
    · exact Or.inr ⟨by omega, by rw [show c + 1 = c0 by omega]; exact h6⟩
theorem Nb_s {r c : Nat} (hw : 2 ≤ w ∧ w ≤ 6) (hr : r + 1 < w) (hcw : c < w) : ¬ Nb w op (r * w + c) = 0 ↔ op (r * w + c) = true ∧ ∃ c1, c1 < w ∧ c1 ≤ c + 1 ∧ c ≤ c1 + 1 ∧ ¬ Nb w op ((r + 1) * w + c1) = 0 := by
  obtain ⟨q1, q2⟩ := hc_lt hw hcw
  have he := Nb_eq hw op r c (by omega) hcw
  rw [if_pos hr] at he
  by_cases ho : op (r * w + c) = true
  · rw [if_pos ho] at he
    rw [he]
    constructor
    · intro z
      obtain ⟨x, hx, e⟩ := sm_ne _ z
      refine ⟨ho, c - 1 + x, by omega, by omega, by omega, ?_⟩
      rw [← Nat.add_assoc]; exact e
    · rintro ⟨_, c1, h1, h2, h3, h4⟩ z
      have h5 := sm_ge (l := fun x => Nb w op ((r + 1) * w + (c - 1) + x)) (hc w c + 1) (fun j => (Nb_bd hw op _).1) (c1 - (c - 1)) (by omega)
      have h6 : Nb w op ((r + 1) * w + (c - 1) + (c1 - (c - 1))) ≤ bhS w (Nb w op) r c := h5
      rw [show (r + 1) * w + (c - 1) + (c1 - (c - 1)) = (r + 1) * w + c1 by omega] at h6
      have := (Nb_bd hw op ((r + 1) * w + c1)).1
      omega
  · rw [if_neg ho] at he
    exact ⟨fun z => absurd he z, fun z => absurd z.1 ho⟩
theorem Fr_N (hw : 2 ≤ w ∧ w ≤ 6) : ∀ r, r < w → ((∃ c, c < w ∧ Fr w op r c = true ∧ ¬ Nb w op (r * w + c) = 0) ↔ ¬ nw w op = 0)
  | 0, _ => by
    constructor
    · rintro ⟨c, h1, h2, h3⟩ z
      have h5 := sm_ge (l := Nb w op) w (fun j => (Nb_bd hw op _).1) c h1
      have h6 : Nb w op c ≤ nw w op := h5
      rw [Nat.zero_mul, Nat.zero_add] at h3
      have := (Nb_bd hw op c).1
      omega
    · intro z
      obtain ⟨x, hx, e⟩ := sm_ne _ z
      refine ⟨x, hx, ?_, by rw [Nat.zero_mul, Nat.zero_add]; exact e⟩
      have h := (Nb_s (op := op) (r := 0) hw (by omega) hx).mp (by rw [Nat.zero_mul, Nat.zero_add]; exact e)
      rw [Nat.zero_mul, Nat.zero_add] at h
      exact h.1
  | r + 1, hr => by
    rw [← Fr_N hw r (by omega)]
    constructor
    · rintro ⟨c, h1, h2, h3⟩
      obtain ⟨_, c0, h4, h5, h6, h7⟩ := (Fr_s r c h1).mp h2
      exact ⟨c0, h4, h7, (Nb_s hw hr h4).mpr ⟨Fr_op r c0 h7, c, h1, by omega, by omega, h3⟩⟩
    · rintro ⟨c, h1, h2, h3⟩
      obtain ⟨_, c1, h4, h5, h6, h7⟩ := (Nb_s hw hr h1).mp h3
      have ho : op ((r + 1) * w + c1) = true := by
        have he := Nb_eq hw op (r + 1) c1 hr h4
        apply Classical.byContradiction
        intro q
        rw [if_neg q] at he
        exact h7 he
      exact ⟨c1, h4, (Fr_s r c1 h4).mpr ⟨ho, c, h1, by omega, by omega, h2⟩, h7⟩
theorem Fr_last (hw : 2 ≤ w ∧ w ≤ 6) : (∃ c, c < w ∧ Fr w op (w - 1) c = true) ↔ ¬ nw w op = 0 := by
  rw [← Fr_N hw (w - 1) (by omega)]
  constructor
  · rintro ⟨c, h1, h2⟩
    refine ⟨c, h1, h2, ?_⟩
    have he := Nb_eq hw op (w - 1) c (by omega) h1
    rw [if_pos (Fr_op _ _ h2), if_neg (by omega)] at he
    omega
  · rintro ⟨c, h1, h2, _⟩
    exact ⟨c, h1, h2⟩
def bz (b : Bool) : Int32 := if b then 1 else 0
theorem bz_eq : ∀ a b : Bool, (bz a = bz b) = (a = b) := by decide
def pw (w : Nat) (op : Nat → Bool) : Bool := decide (¬ nw w op = 0)
theorem z_isPassable (hw : 2 ≤ w ∧ w ≤ 6) (ho : OM w opn op) : f_P_isPassable (iz w) opn = some (bz (pw w op)) := by
  have hl := loopS (body := fun s : Int32 × Int32 => f_P_isPassable_b9 (iz w) opn s.1 s.2) (fun k => (iz ((bn (Fr w op k) w : Nat) : Int), iz ((k + 1 : Nat) : Int))) (iz ((bn (Fr w op (w - 1)) w : Nat) : Int)) (w - 1) (by omega)
    (fun k hk => by
      have b1 := bn_lt6 (Fr w op k) hw.2
      have b2 := bn_lt6 (fun c => op ((k + 1) * w + c)) hw.2
      have b3 := bn_lt6 (Fr w op (k + 1)) hw.2
      obtain ⟨s1, s2, s3⟩ := d_spb _ b1
      obtain ⟨a1, a2, a3⟩ := d_and _ s2 _ b2
      simp only [f_P_isPassable_b9, z_len hw, Option.bind_some]
      rw [if_neg (by rw [iz_le (by omega) (by omega)]; omega), rdn _ (by omega) (by omega), ho (k + 1) (by omega)]
      simp only [Option.bind_some]
      rw [s1, a1, iz_succ, d_ext _ a2 _ b3 (fun i hi => ?_)]
      rw [a3 i hi, s3 i hi, bt_bn _ hw.2, bt_bn _ hw.2, bt_bn _ hw.2, bt_bn _ hw.2, bt_bn _ hw.2]
      rw [show Fr w op (k + 1) i = ((Fr w op k i || (decide (0 < i) && Fr w op k (i - 1)) || (decide (i + 1 < w) && Fr w op k (i + 1))) && op ((k + 1) * w + i)) from rfl]
      by_cases c : i < w
      · rw [decide_eq_true c, decide_eq_true (show i - 1 < w by omega)]
        simp only [Bool.true_and]
      · rw [decide_eq_false c]
        simp only [Bool.false_and, Bool.and_false])
    (by
      simp only [f_P_isPassable_b9, z_len hw, Option.bind_some]
      rw [if_pos (by rw [iz_le (by omega) (by omega)]; omega)])
  have h0 : opn 0 = iz ((bn (Fr w op 0) w : Nat) : Int) := by
    rw [ho 0 (by omega)]
    congr 2
    exact bn_congr w (fun k _ => by rw [Nat.zero_mul, Nat.zero_add]; rfl)
  unfold f_P_isPassable
  rw [show (0 : Int32) = iz ((0 : Nat) : Int) from rfl, rdn _ (by omega) (by omega), h0]
  simp only [Option.bind_some]
  rw [show f_P_isPassable_l9 (iz w) opn (iz ((bn (Fr w op 0) w : Nat) : Int)) 1 = _ from hl]
  simp only [Option.bind_some]
  have b3 := bn_lt6 (Fr w op (w - 1)) hw.2
  have e := Fr_last (op := op) hw
  have z := bn_0 (Fr w op (w - 1)) w
  by_cases c : bn (Fr w op (w - 1)) w = 0
  · rw [c, if_pos rfl]
    have : pw w op = false := decide_eq_false (fun q => by
      obtain ⟨x, hx, e2⟩ := e.mpr q
      rw [z.mp c x hx] at e2
      cases e2)
    rw [this]
    rfl
  · rw [if_neg (by rw [iz_eq (by omega) (by omega)]; omega)]
    have : pw w op = true := decide_eq_true (e.mp (Classical.byContradiction (fun q => c (z.mpr (fun k hk => by
      cases hp : Fr w op (w - 1) k with
      | false => rfl
      | true => exact absurd ⟨k, hk, hp⟩ q)))))
    rw [this]
    rfl
end

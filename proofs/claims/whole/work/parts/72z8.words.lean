/-! the tape: words and numbers -/
def Lw (k : Nat) : Nat := sLen.getD k 0
def Cw (k j : Nat) : Int := (i2c (((sByt.getD k []).getD j 0) &&& 255)).toInt
theorem d_len : ∀ k : Nat, k < 7 → 1 ≤ Lw k ∧ Lw k ≤ 10 := by decide +kernel
set_option maxRecDepth 100000 in
theorem d_words : ∀ k : Nat, k < 7 → ∀ q : Nat, q < 7 → k ≠ q → Lw k ≠ Lw q ∨ ∃ j : Nat, j < Lw k ∧ Cw k j ≠ Cw q j := by decide +kernel
theorem z_slen (k : Nat) : slen k = iz ((Lw k : Nat) : Int) := (iz_nat _).symm
theorem z_schr {k j : Nat} (hk : k < 7) (hj : j < Lw k) : schr k (iz j) = some (iz (Cw k j)) := by
  have := d_len k hk
  unfold schr
  rw [if_neg (show ¬ (iz (j : Int) < 0 ∨ sLen.getD k 0 ≤ (iz (j : Int)).toNatClampNeg) from iz_in (n := sLen.getD k 0) ⟨by omega, by show (j : Int) < (Lw k : Nat); omega⟩ (by show Lw k ≤ _; omega)), iz_clamp (by omega), Int.toNat_natCast]
  unfold Cw
  rw [toInt_iz]
theorem Cw_bd (k j : Nat) : -2147483648 ≤ Cw k j ∧ Cw k j < 2147483648 := ⟨Int32.le_toInt _, Int32.toInt_lt _⟩
section
variable {n : Nat} {lt : Nat → Int}
def mis (lt : Nat → Int) (k i j : Nat) : Bool := decide (¬ lt (i + j) = Cw k j)
def wd (n : Nat) (lt : Nat → Int) (k i : Nat) : Bool := decide (tk n lt i = 1) && (decide (en n lt i = i + Lw k) && decide (¬ fnd (mis lt k i) 0 (Lw k) < Lw k))
theorem wd_T {k i : Nat} (h : wd n lt k i = true) : tk n lt i = 1 ∧ en n lt i = i + Lw k ∧ ∀ j, j < Lw k → lt (i + j) = Cw k j := by
  unfold wd at h
  rw [Bool.and_eq_true, Bool.and_eq_true] at h
  refine ⟨of_decide_eq_true h.1, of_decide_eq_true h.2.1, fun j hj => ?_⟩
  have h2 := of_decide_eq_true h.2.2
  exact Classical.not_not.mp (of_decide_eq_false (fnd_no (mis lt k i) (Lw k) 0 j (by omega) (by omega)))
theorem wd_one {k q i : Nat} (hk : k < 7) (hq : q < 7) (h : wd n lt k i = true) (hne : k ≠ q) : wd n lt q i = false := by
  cases hw : wd n lt q i with
  | false => rfl
  | true =>
    obtain ⟨a1, a2, a3⟩ := wd_T h
    obtain ⟨b1, b2, b3⟩ := wd_T hw
    rcases d_words k hk q hq hne with c | ⟨j, c1, c2⟩
    · exact absurd (show Lw k = Lw q by omega) c
    · exact absurd ((a3 j c1).symm.trans (b3 j (by omega))) c2
theorem z_spellL {k i : Nat} (hn : n ≤ 250) (hl : ∀ j, 0 ≤ lt j ∧ lt j ≤ 255) (hk : k < 7) (hi : i + Lw k ≤ n) : f_T_isSpelt_l28 k (iz n) (iz i) (ar lt) (iz 0) = some (if fnd (mis lt k i) 0 (Lw k) < Lw k then .inl () else .inr ()) := by
  have hL := d_len k hk
  exact loopE (body := fun s : Int32 => f_T_isSpelt_b28 k (iz n) (iz i) (ar lt) s) (fun j => iz j) (mis lt k i) (fun _ => .inl ()) (.inr ()) (Lw k) (by omega)
    (fun j hj hP => by
      have h2 := Classical.not_not.mp (of_decide_eq_false hP)
      simp only [f_T_isSpelt_b28, z_slen]
      rw [if_neg (by rw [iz_le (by omega) (by omega)]; omega), iz_add, show (i : Int) + (j : Int) = ((i + j : Nat) : Int) from rfl, z_letterAt hn (show i + j < n by omega), z_schr hk hj]
      simp only [Option.bind_some]
      rw [if_pos (by rw [h2]), iz_succ])
    (fun j hj hP => by
      have h2 := of_decide_eq_true hP
      have b1 := hl (i + j)
      have b2 := Cw_bd k j
      simp only [f_T_isSpelt_b28, z_slen]
      rw [if_neg (by rw [iz_le (by omega) (by omega)]; omega), iz_add, show (i : Int) + (j : Int) = ((i + j : Nat) : Int) from rfl, z_letterAt hn (show i + j < n by omega), z_schr hk hj]
      simp only [Option.bind_some]
      rw [if_neg (by rw [iz_eq (by omega) (by omega)]; exact h2)])
    (by
      simp only [f_T_isSpelt_b28, z_slen]
      rw [if_pos (by rw [iz_le (by omega) (by omega)]; omega)])
theorem y_spellL {k i : Nat} (hn : n ≤ 250) (hl : ∀ j, 0 ≤ lt j ∧ lt j ≤ 255) (hk : k < 7) (hi : i + Lw k ≤ n) : f_R_isWord_l29 k (iz i) (ar lt) (iz 0) = some (if fnd (mis lt k i) 0 (Lw k) < Lw k then .inl () else .inr ()) := by
  have hL := d_len k hk
  exact loopE (body := fun s : Int32 => f_R_isWord_b29 k (iz i) (ar lt) s) (fun j => iz j) (mis lt k i) (fun _ => .inl ()) (.inr ()) (Lw k) (by omega)
    (fun j hj hP => by
      have h2 := Classical.not_not.mp (of_decide_eq_false hP)
      simp only [f_R_isWord_b29, z_slen]
      rw [if_neg (by rw [iz_le (by omega) (by omega)]; omega), iz_add, show (i : Int) + (j : Int) = ((i + j : Nat) : Int) from rfl, rdn _ (by omega) (show i + j < 250 by omega), ar_at, z_schr hk hj]
      simp only [Option.bind_some]
      rw [if_pos (by rw [h2]), iz_succ])
    (fun j hj hP => by
      have h2 := of_decide_eq_true hP
      have b1 := hl (i + j)
      have b2 := Cw_bd k j
      simp only [f_R_isWord_b29, z_slen]
      rw [if_neg (by rw [iz_le (by omega) (by omega)]; omega), iz_add, show (i : Int) + (j : Int) = ((i + j : Nat) : Int) from rfl, rdn _ (by omega) (show i + j < 250 by omega), ar_at, z_schr hk hj]
      simp only [Option.bind_some]
      rw [if_neg (by rw [iz_eq (by omega) (by omega)]; exact h2)])
    (by
      simp only [f_R_isWord_b29, z_slen]
      rw [if_pos (by rw [iz_le (by omega) (by omega)]; omega)])
theorem z_isSpelt {k i : Nat} (hn : n ≤ 250) (hl : ∀ j, 0 ≤ lt j ∧ lt j ≤ 255) (hk : k < 7) (hi : i ≤ n) : f_T_isSpelt k (iz n) (iz (tk n lt i)) (iz i) (iz ((en n lt i : Nat) : Int)) (ar lt) = some (bz (wd n lt k i)) := by
  have hL := d_len k hk
  have b1 := tk_bd n lt i
  obtain ⟨e1, e2, e3⟩ := en_bd (lt := lt) hi
  unfold f_T_isSpelt wd
  by_cases c1 : tk n lt i = 1
  · rw [if_pos (by rw [c1]; rfl), z_slen, iz_sub, decide_eq_true c1, Bool.true_and]
    by_cases c2 : en n lt i = i + Lw k
    · rw [if_pos (by rw [iz_eq (by omega) (by omega)]; omega), decide_eq_true c2, Bool.true_and]
      rw [show f_T_isSpelt_l28 k (iz n) (iz i) (ar lt) 0 = _ from z_spellL hn hl hk (by omega)]
      simp only [Option.bind_some]
      by_cases c3 : fnd (mis lt k i) 0 (Lw k) < Lw k
      · rw [if_pos c3, decide_eq_false (fun z => z c3)]; rfl
      · rw [if_neg c3, decide_eq_true c3]; rfl
    · rw [if_neg (by rw [iz_eq (by omega) (by omega)]; omega), decide_eq_false c2]; rfl
  · rw [if_neg (by rw [l_1, iz_eq (by omega) (by omega)]; exact c1), decide_eq_false c1]; rfl
theorem y_isWord {k i : Nat} (hn : n ≤ 250) (hl : ∀ j, 0 ≤ lt j ∧ lt j ≤ 255) (hk : k < 7) (hi : i ≤ n) : f_R_isWord k (iz i) (iz ((en n lt i : Nat) : Int)) (iz (rtok n lt i)) (ar lt) = some (bz (wd n lt k i)) := by
  have hL := d_len k hk
  have b1 := rtok_bd (n := n) (lt := lt) i
  obtain ⟨e1, e2, e3⟩ := en_bd (lt := lt) hi
  unfold f_R_isWord wd
  rw [show (119 : Int32) = iz 119 from rfl]
  by_cases c1 : tk n lt i = 1
  · rw [if_pos (by rw [rtok_w.mpr c1]), z_slen, iz_sub, decide_eq_true c1, Bool.true_and]
    by_cases c2 : en n lt i = i + Lw k
    · rw [if_pos (by rw [iz_eq (by omega) (by omega)]; omega), decide_eq_true c2, Bool.true_and]
      rw [show f_R_isWord_l29 k (iz i) (ar lt) 0 = _ from y_spellL hn hl hk (by omega)]
      simp only [Option.bind_some]
      by_cases c3 : fnd (mis lt k i) 0 (Lw k) < Lw k
      · rw [if_pos c3, decide_eq_false (fun z => z c3)]; rfl
      · rw [if_neg c3, decide_eq_true c3]; rfl
    · rw [if_neg (by rw [iz_eq (by omega) (by omega)]; omega), decide_eq_false c2]; rfl
  · rw [if_neg (by rw [iz_eq (by omega) (by omega)]; exact fun z => c1 (rtok_w.mp z)), decide_eq_false c1]; rfl
theorem zr_bz : ∀ b : Bool, zr (bz b) = some (bz b) := by decide
theorem z_takenF {k i : Nat} (hn : n ≤ 250) (hl : ∀ j, 0 ≤ lt j ∧ lt j ≤ 255) (hk : k < 7) (hi : i ≤ n) (h : wd n lt k i = false) : f_T_isTaken k (iz n) (iz (tk n lt i)) (iz i) (iz ((en n lt i : Nat) : Int)) (ar lt) = some (0, iz (tk n lt i), iz i, iz ((en n lt i : Nat) : Int)) := by
  unfold f_T_isTaken
  rw [z_isSpelt hn hl hk hi, Option.bind_some, h, if_pos bz_F, zr_bz]
  rfl
theorem z_takenT {k i : Nat} (hn : n ≤ 250) (hl : ∀ j, 0 ≤ lt j ∧ lt j ≤ 255) (hk : k < 7) (hi : i ≤ n) (h : wd n lt k i = true) : f_T_isTaken k (iz n) (iz (tk n lt i)) (iz i) (iz ((en n lt i : Nat) : Int)) (ar lt) = some (1, iz (tk n lt (sk n lt (en n lt i))), iz ((sk n lt (en n lt i) : Nat) : Int), iz ((en n lt (sk n lt (en n lt i)) : Nat) : Int)) := by
  obtain ⟨e1, e2, e3⟩ := en_bd (lt := lt) hi
  unfold f_T_isTaken
  rw [z_isSpelt hn hl hk hi, Option.bind_some, h, if_neg (show ¬ bz true = 0 by decide), z_next hn hl e2, Option.bind_some, zr_bz]
  rfl
/-! numbers -/
def nbk (n : Nat) (lt : Nat → Int) (i : Nat) (lo hi : Int) : Bool := decide (tk n lt i = 2 ∧ en n lt i - i ≤ 2 ∧ lo ≤ val n lt i ∧ val n lt i ≤ hi)
theorem dig_bd {i : Nat} (hi : i < n) (h : tk n lt i = 2) : 0 ≤ lt i - 48 ∧ lt i - 48 ≤ 9 := by
  rw [tk_lt hi] at h
  unfold tkc at h
  by_cases c1 : 97 ≤ lt i ∧ lt i ≤ 122
  · rw [if_pos c1] at h; exact absurd h (by decide)
  · rw [if_neg c1] at h
    by_cases c2 : 48 ≤ lt i ∧ lt i ≤ 57
    · omega
    · rw [if_neg c2] at h
      split at h <;> omega
theorem tk2_lt {i : Nat} (h : tk n lt i = 2) : i < n := by
  apply Classical.byContradiction
  intro z
  rw [tk_n (by omega)] at h
  omega
theorem val_bd {i : Nat} (h : tk n lt i = 2) : 0 ≤ val n lt i ∧ val n lt i ≤ 99 := by
  have hi := tk2_lt h
  have b1 := dig_bd hi h
  obtain ⟨e1, e2, e3⟩ := en_bd (lt := lt) (show i ≤ n by omega)
  have e4 := e3 hi
  unfold val
  by_cases c : en n lt i = i + 1
  · rw [if_pos c]; omega
  · rw [if_neg c]
    have h2 := en_in hi (Or.inr h) (show i < i + 1 by omega) (by omega)
    rw [h] at h2
    have b2 := dig_bd (show i + 1 < n by omega) h2
    omega
def vz (lt : Nat → Int) (i k : Nat) : Int := if k = i then 0 else vl lt i k
theorem z_numL {i : Nat} (hn : n ≤ 250) (h : tk n lt i = 2) (he : en n lt i - i ≤ 2) : f_T_number_l31 (iz n) (iz ((en n lt i : Nat) : Int)) (ar lt) (iz 0) (iz i) = some (iz (val n lt i)) := by
  have hi := tk2_lt h
  obtain ⟨e1, e2, e3⟩ := en_bd (lt := lt) (show i ≤ n by omega)
  have e4 := e3 hi
  have hl0 := loopA (body := fun s : Int32 × Int32 => f_T_number_b31 (iz n) (iz ((en n lt i : Nat) : Int)) (ar lt) s.1 s.2) (fun k => (iz (vz lt i k), iz k)) (iz (val n lt i)) i (en n lt i) (by omega) (by omega)
    (fun k h3 h4 => by
      simp only [f_T_number_b31]
      rw [if_neg (by rw [iz_le (by omega) (by omega)]; omega), z_letterAt hn (show k < n by omega)]
      simp only [Option.bind_some]
      have ev : vz lt i (k + 1) = vz lt i k * 10 + lt k - 48 := by
        unfold vz vl
        by_cases c : k = i
        · subst c
          rw [if_neg (by omega), if_pos rfl, if_pos rfl]
          omega
        · have ek : k = i + 1 := by omega
          subst ek
          rw [if_neg (by omega), if_neg (by omega), if_neg (by omega), if_pos rfl]
          omega
      rw [l_10, iz_mul, iz_add, l_48, iz_sub, ← ev, iz_succ])
    (by
      simp only [f_T_number_b31]
      rw [if_pos (by rw [iz_le (by omega) (by omega)]; omega)]
      congr 3
      unfold vz
      rw [if_neg (by omega)]
      rfl)
  have e0 : vz lt i i = 0 := if_pos rfl
  rw [e0] at hl0
  exact hl0
theorem z_numT {i : Nat} {lo hi : Int} (hn : n ≤ 250) (hl : ∀ j, 0 ≤ lt j ∧ lt j ≤ 255) (hi2 : i ≤ n) (hlo : 0 ≤ lo ∧ lo ≤ 100) (hhi : 0 ≤ hi ∧ hi ≤ 100) (h : nbk n lt i lo hi = true) : f_T_number (iz lo) (iz hi) (iz n) (iz (tk n lt i)) (iz i) (iz ((en n lt i : Nat) : Int)) (ar lt) = some (iz (val n lt i), iz (tk n lt (sk n lt (en n lt i))), iz ((sk n lt (en n lt i) : Nat) : Int), iz ((en n lt (sk n lt (en n lt i)) : Nat) : Int)) := by
  obtain ⟨h1, h2, h3⟩ := of_decide_eq_true h
  obtain ⟨e1, e2, e3⟩ := en_bd (lt := lt) hi2
  have b := val_bd h1
  unfold f_T_number
  rw [if_pos (by rw [h1]; rfl), iz_sub, if_pos (by rw [l_2, iz_le (by omega) (by omega)]; omega), show f_T_number_l31 (iz n) (iz ((en n lt i : Nat) : Int)) (ar lt) 0 (iz i) = _ from z_numL hn h1 h2]
  simp only [Option.bind_some]
  rw [z_withinI (by omega) (by omega) (by omega)]
  simp only [Option.bind_some, b1_0]
  rw [if_neg (fun z => z h3), z_next hn hl e2]
  rfl
theorem z_numF {i : Nat} {lo hi : Int} (hn : n ≤ 250) (hi2 : i ≤ n) (hlo : 0 ≤ lo ∧ lo ≤ 100) (hhi : 0 ≤ hi ∧ hi ≤ 100) (h : nbk n lt i lo hi = false) : f_T_number (iz lo) (iz hi) (iz n) (iz (tk n lt i)) (iz i) (iz ((en n lt i : Nat) : Int)) (ar lt) = some (-1, iz (tk n lt i), iz i, iz ((en n lt i : Nat) : Int)) := by
  have h0 := of_decide_eq_false h
  obtain ⟨e1, e2, e3⟩ := en_bd (lt := lt) hi2
  have b1 := tk_bd n lt i
  unfold f_T_number
  by_cases c1 : tk n lt i = 2
  · have b := val_bd c1
    rw [if_pos (by rw [c1]; rfl), iz_sub]
    by_cases c2 : en n lt i - i ≤ 2
    · rw [if_pos (by rw [l_2, iz_le (by omega) (by omega)]; omega), show f_T_number_l31 (iz n) (iz ((en n lt i : Nat) : Int)) (ar lt) 0 (iz i) = _ from z_numL hn c1 c2]
      simp only [Option.bind_some]
      rw [z_withinI (by omega) (by omega) (by omega)]
      simp only [Option.bind_some, b1_0]
      rw [if_pos (fun z => h0 ⟨c1, c2, z⟩)]
    · rw [if_neg (by rw [l_2, iz_le (by omega) (by omega)]; omega)]
  · rw [if_neg (by rw [l_2, iz_eq (by omega) (by omega)]; exact c1)]
theorem y_numT {p : Nat} {lo hi : Int} (hn : n ≤ 250) (hl : ∀ j, 0 ≤ lt j ∧ lt j ≤ 255) (hp : p ≤ n) (hlo : 0 ≤ lo ∧ lo ≤ 100) (hhi : 0 ≤ hi ∧ hi ≤ 100) (h : nbk n lt (sk n lt p) lo hi = true) (f t v : Int32) : f_R_number (iz lo) (iz hi) (iz n) f (iz p) t v (ar lt) = some (iz (val n lt (sk n lt p)), iz ((sk n lt p : Nat) : Int), iz ((en n lt (sk n lt p) : Nat) : Int), iz (rtok n lt (sk n lt p)), iz (val n lt (sk n lt p))) := by
  obtain ⟨h1, h2, h3⟩ := of_decide_eq_true h
  have b := val_bd h1
  have b2 := rtok_bd (n := n) (lt := lt) (sk n lt p)
  unfold f_R_number
  rw [y_next hn hl hp, Option.bind_some, show (48 : Int32) = iz 48 from rfl]
  dsimp only
  rw [if_pos (by rw [rtok_d.mpr ⟨h1, h2⟩]), if_pos h1, y_withinI (by omega) (by omega) (by omega)]
  simp only [Option.bind_some, b1_0]
  rw [if_neg (fun z => z h3)]
theorem y_numF {p : Nat} {lo hi : Int} (hn : n ≤ 250) (hl : ∀ j, 0 ≤ lt j ∧ lt j ≤ 255) (hp : p ≤ n) (hlo : 0 ≤ lo ∧ lo ≤ 100) (hhi : 0 ≤ hi ∧ hi ≤ 100) (h : nbk n lt (sk n lt p) lo hi = false) (f t v : Int32) : ∃ v', f_R_number (iz lo) (iz hi) (iz n) f (iz p) t v (ar lt) = some (-1, iz ((sk n lt p : Nat) : Int), iz ((en n lt (sk n lt p) : Nat) : Int), iz (rtok n lt (sk n lt p)), v') := by
  have h0 := of_decide_eq_false h
  have b2 := rtok_bd (n := n) (lt := lt) (sk n lt p)
  unfold f_R_number
  rw [y_next hn hl hp, Option.bind_some, show (48 : Int32) = iz 48 from rfl]
  dsimp only
  by_cases c : rtok n lt (sk n lt p) = 48
  · obtain ⟨h1, h2⟩ := rtok_d.mp c
    have b := val_bd h1
    rw [if_pos (by rw [c]), if_pos h1, y_withinI (by omega) (by omega) (by omega)]
    simp only [Option.bind_some, b1_0]
    rw [if_pos (fun z => h0 ⟨h1, h2, z⟩)]
    exact ⟨_, rfl⟩
  · rw [if_neg (by rw [iz_eq (by omega) (by omega)]; exact c)]
    exact ⟨_, rfl⟩
end

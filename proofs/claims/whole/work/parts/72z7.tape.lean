/-! the tape: tokens -/
def tkc (c : Int) : Int := if 97 ≤ c ∧ c ≤ 122 then 1 else if 48 ≤ c ∧ c ≤ 57 then 2 else if c = 59 then 3 else 4
theorem tkc_bd (c : Int) : 1 ≤ tkc c ∧ tkc c ≤ 4 := by unfold tkc; split <;> (try split) <;> (try split) <;> omega
def tk (n : Nat) (lt : Nat → Int) (i : Nat) : Int := if n ≤ i then 0 else tkc (lt i)
theorem tk_bd (n : Nat) (lt : Nat → Int) (i : Nat) : 0 ≤ tk n lt i ∧ tk n lt i ≤ 4 := by
  have := tkc_bd (lt i)
  unfold tk; split <;> omega
theorem tk_lt {n : Nat} {lt : Nat → Int} {i : Nat} (h : i < n) : tk n lt i = tkc (lt i) := if_neg (by omega)
theorem tk_n {n : Nat} {lt : Nat → Int} {i : Nat} (h : n ≤ i) : tk n lt i = 0 := if_pos h
def sk (n : Nat) (lt : Nat → Int) (p : Nat) : Nat := fnd (fun i => decide (¬ lt i = 32)) p (n - p)
def en (n : Nat) (lt : Nat → Int) (i : Nat) : Nat := if n ≤ i then n else if tk n lt i = 1 ∨ tk n lt i = 2 then fnd (fun j => decide (¬ tk n lt j = tk n lt i)) (i + 1) (n - (i + 1)) else i + 1
theorem sk_bd {n : Nat} {lt : Nat → Int} {p : Nat} (h : p ≤ n) : p ≤ sk n lt p ∧ sk n lt p ≤ n := by
  have h1 := fnd_ge (fun i => decide (¬ lt i = 32)) (n - p) p
  have h2 := fnd_le (fun i => decide (¬ lt i = 32)) (n - p) p
  unfold sk
  omega
theorem en_bd {n : Nat} {lt : Nat → Int} {i : Nat} (h : i ≤ n) : i ≤ en n lt i ∧ en n lt i ≤ n ∧ (i < n → i < en n lt i) := by
  have h1 := fnd_ge (fun j => decide (¬ tk n lt j = tk n lt i)) (n - (i + 1)) (i + 1)
  have h2 := fnd_le (fun j => decide (¬ tk n lt j = tk n lt i)) (n - (i + 1)) (i + 1)
  unfold en
  split
  · omega
  · split <;> omega
def rtok (n : Nat) (lt : Nat → Int) (i : Nat) : Int := if n ≤ i then 101 else if tk n lt i = 1 then 119 else if tk n lt i = 2 then (if en n lt i - i ≤ 2 then 48 else 120) else if tk n lt i = 3 then 59 else 120
def val (n : Nat) (lt : Nat → Int) (i : Nat) : Int := if en n lt i = i + 1 then lt i - 48 else 10 * (lt i - 48) + (lt (i + 1) - 48)

theorem z_letterAt {n : Nat} {lt : Nat → Int} {i : Nat} (hn : n ≤ 250) (hi : i < n) : f_T_letterAt (iz i) (iz n) (ar lt) = some (iz (lt i)) := by
  unfold f_T_letterAt
  rw [if_neg (by rw [l_0, iz_lt (by omega) (by omega)]; omega), if_neg (by rw [iz_le (by omega) (by omega)]; omega), if_neg (by rw [l_250, iz_le (by omega) (by omega)]; omega), rdn _ (by omega) (by omega)]
  rfl
theorem z_letterAtN {n : Nat} {lt : Nat → Int} {i : Nat} (hn : n ≤ 250) (hi : n ≤ i ∧ i ≤ 1000) : f_T_letterAt (iz i) (iz n) (ar lt) = some (-1) := by
  unfold f_T_letterAt
  rw [if_neg (by rw [l_0, iz_lt (by omega) (by omega)]; omega), if_pos (by rw [iz_le (by omega) (by omega)]; omega)]
theorem z_tokenOf {c : Int} (hc : 0 ≤ c ∧ c ≤ 255) : f_T_tokenOf (iz c) = some (iz (tkc c)) := by
  unfold f_T_tokenOf f_T_tokenOf_j21 f_T_tokenOf_j35 tkc
  rw [if_neg (show ¬ iz c = -1 by rw [l_m1, iz_eq (by omega) (by omega)]; omega), l_97, l_122, l_48, l_57, l_59]
  simp only [iz_lt (a := c) (b := 97) (by omega) (by omega), iz_lt (a := 122) (b := c) (by omega) (by omega), iz_lt (a := c) (b := 48) (by omega) (by omega), iz_lt (a := 57) (b := c) (by omega) (by omega), iz_eq (a := c) (b := 59) (by omega) (by omega)]
  by_cases c1 : 97 ≤ c ∧ c ≤ 122
  · rw [if_pos c1, if_neg (by omega), if_neg (by omega)]; rfl
  · rw [if_neg c1]
    by_cases c2 : 48 ≤ c ∧ c ≤ 57
    · rw [if_pos c2, if_pos (by omega), if_neg (by omega), if_neg (by omega)]; rfl
    · rw [if_neg c2]
      have e : (if c < 48 then (if c = 59 then some (3 : Int32) else some 4) else if 57 < c then (if c = 59 then some 3 else some 4) else some 2) = if c = 59 then some 3 else some 4 := by
        by_cases c3 : c < 48
        · rw [if_pos c3]
        · rw [if_neg c3, if_pos (by omega)]
      by_cases c4 : c < 97
      · rw [if_pos c4, e]
        split <;> rfl
      · rw [if_neg c4, if_pos (by omega), e]
        split <;> rfl
theorem z_tokenOfN : f_T_tokenOf (-1) = some (iz 0) := by
  unfold f_T_tokenOf
  rw [if_pos rfl]
  rfl
theorem z_tokAt {n : Nat} {lt : Nat → Int} {i : Nat} (hn : n ≤ 250) (hl : ∀ j, 0 ≤ lt j ∧ lt j ≤ 255) (hi : i ≤ 1000) : (f_T_letterAt (iz i) (iz n) (ar lt)).bind f_T_tokenOf = some (iz (tk n lt i)) := by
  by_cases c : i < n
  · rw [z_letterAt hn c, Option.bind_some, z_tokenOf (hl i), tk_lt c]
  · rw [z_letterAtN hn ⟨by omega, hi⟩, Option.bind_some, z_tokenOfN, tk_n (by omega)]
section
variable {n : Nat} {lt : Nat → Int}
theorem z_skip {p : Nat} (hn : n ≤ 250) (hl : ∀ j, 0 ≤ lt j ∧ lt j ≤ 255) (hp : p ≤ n) : f_T_next_l8 (iz n) (ar lt) (iz p) = some (iz ((sk n lt p : Nat) : Int)) := by
  obtain ⟨b1, b2⟩ := sk_bd (lt := lt) hp
  exact loopA (body := fun s : Int32 => f_T_next_b8 (iz n) (ar lt) s) (fun k => iz k) _ p (sk n lt p) b1 (by omega)
    (fun k h1 h2 => by
      have h3 := of_decide_eq_false (fnd_no (fun i => decide (¬ lt i = 32)) (n - p) p k h1 h2)
      have h4 := hl k
      simp only [f_T_next_b8]
      rw [if_neg (by rw [iz_le (by omega) (by omega)]; omega), z_letterAt hn (by omega)]
      simp only [Option.bind_some]
      rw [if_pos (by rw [l_32, iz_eq (by omega) (by omega)]; omega), iz_succ])
    (by
      simp only [f_T_next_b8]
      by_cases c : sk n lt p < n
      · have h3 := of_decide_eq_true (fnd_yes (fun i => decide (¬ lt i = 32)) (n - p) p (by unfold sk at c; omega))
        have h4 := hl (sk n lt p)
        rw [if_neg (by rw [iz_le (by omega) (by omega)]; omega), z_letterAt hn c]
        simp only [Option.bind_some]
        rw [if_neg (by rw [l_32, iz_eq (by omega) (by omega)]; exact h3)]
      · rw [if_pos (by rw [iz_le (by omega) (by omega)]; omega)])
theorem y_skip {p : Nat} (hn : n ≤ 250) (hl : ∀ j, 0 ≤ lt j ∧ lt j ≤ 255) (hp : p ≤ n) : f_R_next_l8 (iz n) (ar lt) (iz p) = some (iz ((sk n lt p : Nat) : Int)) := by
  obtain ⟨b1, b2⟩ := sk_bd (lt := lt) hp
  exact loopA (body := fun s : Int32 => f_R_next_b8 (iz n) (ar lt) s) (fun k => iz k) _ p (sk n lt p) b1 (by omega)
    (fun k h1 h2 => by
      have h3 := of_decide_eq_false (fnd_no (fun i => decide (¬ lt i = 32)) (n - p) p k h1 h2)
      have h4 := hl k
      simp only [f_R_next_b8]
      rw [if_neg (by rw [iz_le (by omega) (by omega)]; omega), rdn _ (by omega) (by omega), ar_at]
      simp only [Option.bind_some]
      rw [if_pos (by rw [l_32, iz_eq (by omega) (by omega)]; omega), iz_succ])
    (by
      simp only [f_R_next_b8]
      by_cases c : sk n lt p < n
      · have h3 := of_decide_eq_true (fnd_yes (fun i => decide (¬ lt i = 32)) (n - p) p (by unfold sk at c; omega))
        have h4 := hl (sk n lt p)
        rw [if_neg (by rw [iz_le (by omega) (by omega)]; omega), rdn _ (by omega) (by omega), ar_at]
        simp only [Option.bind_some]
        rw [if_neg (by rw [l_32, iz_eq (by omega) (by omega)]; exact h3)]
      · rw [if_pos (by rw [iz_le (by omega) (by omega)]; omega)])
theorem z_run {i : Nat} (hn : n ≤ 250) (hl : ∀ j, 0 ≤ lt j ∧ lt j ≤ 255) (hi : i < n) (ht : tk n lt i = 1 ∨ tk n lt i = 2) : f_T_next_l104 (iz n) (iz (tk n lt i)) (ar lt) (iz ((i + 1 : Nat) : Int)) = some (iz ((en n lt i : Nat) : Int)) := by
  have e : en n lt i = fnd (fun j => decide (¬ tk n lt j = tk n lt i)) (i + 1) (n - (i + 1)) := by
    unfold en
    rw [if_neg (by omega), if_pos ht]
  have h1 := fnd_ge (fun j => decide (¬ tk n lt j = tk n lt i)) (n - (i + 1)) (i + 1)
  have h2 := fnd_le (fun j => decide (¬ tk n lt j = tk n lt i)) (n - (i + 1)) (i + 1)
  rw [e]
  refine loopA (body := fun s : Int32 => f_T_next_b104 (iz n) (iz (tk n lt i)) (ar lt) s) (fun k => iz k) _ (i + 1) (fnd (fun j => decide (¬ tk n lt j = tk n lt i)) (i + 1) (n - (i + 1))) h1 (by omega) (fun k h3 h4 => ?_) ?_
  · have h5 := of_decide_eq_false (fnd_no (fun j => decide (¬ tk n lt j = tk n lt i)) (n - (i + 1)) (i + 1) k h3 h4)
    have h6 := z_tokAt (i := k) hn hl (by omega)
    rw [z_letterAt hn (show k < n by omega), Option.bind_some] at h6
    simp only [f_T_next_b104]
    rw [if_neg (by rw [iz_le (by omega) (by omega)]; omega), z_letterAt hn (show k < n by omega)]
    simp only [Option.bind_some]
    rw [h6]
    simp only [Option.bind_some]
    rw [if_pos (by rw [Classical.not_not.mp h5]), iz_succ]
  · simp only [f_T_next_b104]
    by_cases c : fnd (fun j => decide (¬ tk n lt j = tk n lt i)) (i + 1) (n - (i + 1)) < n
    · have h5 := of_decide_eq_true (fnd_yes (fun j => decide (¬ tk n lt j = tk n lt i)) (n - (i + 1)) (i + 1) (by omega))
      generalize fnd (fun j => decide (¬ tk n lt j = tk n lt i)) (i + 1) (n - (i + 1)) = k at c h5 ⊢
      have h6 := z_tokAt (i := k) hn hl (by omega)
      have b1 := tk_bd n lt k
      have b2 := tk_bd n lt i
      rw [z_letterAt hn c, Option.bind_some] at h6
      rw [if_neg (by rw [iz_le (by omega) (by omega)]; omega), z_letterAt hn c]
      simp only [Option.bind_some]
      rw [h6]
      simp only [Option.bind_some]
      rw [if_neg (by rw [iz_eq (by omega) (by omega)]; exact h5)]
    · rw [if_pos (by rw [iz_le (by omega) (by omega)]; omega)]
theorem z_next {p : Nat} (hn : n ≤ 250) (hl : ∀ j, 0 ≤ lt j ∧ lt j ≤ 255) (hp : p ≤ n) (t q : Int32) : f_T_next (iz n) t q (iz p) (ar lt) = some (iz (tk n lt (sk n lt p)), iz ((sk n lt p : Nat) : Int), iz ((en n lt (sk n lt p) : Nat) : Int)) := by
  obtain ⟨b1, b2⟩ := sk_bd (lt := lt) hp
  unfold f_T_next f_T_next_j85 f_T_next_j104
  rw [z_skip hn hl hp]
  simp only [Option.bind_some]
  generalize sk n lt p = i at b1 b2 ⊢
  have h6 := z_tokAt (i := i) hn hl (by omega)
  have b3 := tk_bd n lt i
  by_cases c : i < n
  · rw [z_letterAt hn c, Option.bind_some] at h6
    rw [z_letterAt hn c]
    simp only [Option.bind_some]
    rw [h6]
    simp only [Option.bind_some]
    rw [if_neg (by rw [iz_le (by omega) (by omega)]; omega), iz_succ]
    by_cases c1 : tk n lt i = 1
    · rw [if_pos (by rw [c1]; rfl), z_run hn hl c (Or.inl c1)]
      rfl
    · rw [if_neg (by rw [l_1, iz_eq (by omega) (by omega)]; exact c1)]
      by_cases c2 : tk n lt i = 2
      · rw [if_pos (by rw [c2]; rfl), z_run hn hl c (Or.inr c2)]
        rfl
      · rw [if_neg (by rw [l_2, iz_eq (by omega) (by omega)]; exact c2), show en n lt i = i + 1 by unfold en; rw [if_neg (by omega), if_neg (by omega)]]
  · rw [z_letterAtN hn ⟨by omega, by omega⟩, Option.bind_some] at h6
    have e0 := tk_n (lt := lt) (show n ≤ i by omega)
    rw [z_letterAtN hn ⟨by omega, by omega⟩]
    simp only [Option.bind_some]
    rw [h6]
    simp only [Option.bind_some]
    rw [if_pos (by rw [iz_le (by omega) (by omega)]; omega), e0, if_neg (by decide), if_neg (by decide), show en n lt i = n by unfold en; rw [if_pos (by omega)]]
theorem y_isLetter {c : Int} (hc : 0 ≤ c ∧ c ≤ 255) : f_R_isLetter (iz c) = some (if tkc c = 1 then 1 else 0) := by
  unfold f_R_isLetter tkc
  rw [l_97, l_122]
  simp only [iz_lt (a := c) (b := 97) (by omega) (by omega), iz_lt (a := 122) (b := c) (by omega) (by omega)]
  by_cases c1 : 97 ≤ c ∧ c ≤ 122
  · rw [if_pos c1, if_neg (by omega), if_neg (by omega), if_pos rfl]
  · rw [if_neg c1]
    have e : ¬ (if 48 ≤ c ∧ c ≤ 57 then (2 : Int) else if c = 59 then 3 else 4) = 1 := by split <;> (try split) <;> omega
    rw [if_neg e]
    by_cases c2 : c < 97
    · rw [if_pos c2]
    · rw [if_neg c2, if_pos (by omega)]
theorem y_isDigit {c : Int} (hc : 0 ≤ c ∧ c ≤ 255) : f_R_isDigit (iz c) = some (if tkc c = 2 then 1 else 0) := by
  unfold f_R_isDigit tkc
  rw [l_48, l_57]
  simp only [iz_lt (a := c) (b := 48) (by omega) (by omega), iz_lt (a := 57) (b := c) (by omega) (by omega)]
  by_cases c1 : 97 ≤ c ∧ c ≤ 122
  · rw [if_pos c1, if_neg (by omega), if_pos (by omega), if_neg (by decide)]
  · rw [if_neg c1]
    by_cases c2 : 48 ≤ c ∧ c ≤ 57
    · rw [if_pos c2, if_neg (by omega), if_neg (by omega), if_pos rfl]
    · rw [if_neg c2]
      have e : ¬ (if c = 59 then (3 : Int) else 4) = 2 := by split <;> omega
      rw [if_neg e]
      by_cases c3 : c < 48
      · rw [if_pos c3]
      · rw [if_neg c3, if_pos (by omega)]
theorem en_run {i : Nat} (hi : i < n) (ht : tk n lt i = 1 ∨ tk n lt i = 2) : en n lt i = fnd (fun j => decide (¬ tk n lt j = tk n lt i)) (i + 1) (n - (i + 1)) := by
  unfold en
  rw [if_neg (by omega), if_pos ht]
theorem en_in {i k : Nat} (hi : i < n) (ht : tk n lt i = 1 ∨ tk n lt i = 2) (h1 : i < k) (h2 : k < en n lt i) : tk n lt k = tk n lt i := by
  rw [en_run hi ht] at h2
  exact Classical.not_not.mp (of_decide_eq_false (fnd_no (fun j => decide (¬ tk n lt j = tk n lt i)) (n - (i + 1)) (i + 1) k (by omega) h2))
theorem en_out {i : Nat} (hi : i < n) (ht : tk n lt i = 1 ∨ tk n lt i = 2) (h2 : en n lt i < n) : ¬ tk n lt (en n lt i) = tk n lt i := by
  rw [en_run hi ht] at h2 ⊢
  exact of_decide_eq_true (fnd_yes (fun j => decide (¬ tk n lt j = tk n lt i)) (n - (i + 1)) (i + 1) (by omega))
theorem y_run1 {i : Nat} (hn : n ≤ 250) (hl : ∀ j, 0 ≤ lt j ∧ lt j ≤ 255) (hi : i < n) (ht : tk n lt i = 1) : f_R_next_l96 (iz n) (ar lt) (iz ((i + 1 : Nat) : Int)) = some (iz ((en n lt i : Nat) : Int)) := by
  obtain ⟨e1, e2, e3⟩ := en_bd (lt := lt) (show i ≤ n by omega)
  have e4 := e3 hi
  refine loopA (body := fun s : Int32 => f_R_next_b96 (iz n) (ar lt) s) (fun k => iz k) _ (i + 1) (en n lt i) (by omega) (by omega) (fun k h3 h4 => ?_) ?_
  · have h5 := en_in hi (Or.inl ht) (by omega) h4
    rw [ht, tk_lt (show k < n by omega)] at h5
    simp only [f_R_next_b96]
    rw [if_neg (by rw [iz_le (by omega) (by omega)]; omega), rdn _ (by omega) (by omega), ar_at]
    simp only [Option.bind_some]
    rw [y_isLetter (hl k), if_pos h5, iz_succ]
    rfl
  · simp only [f_R_next_b96]
    by_cases c : en n lt i < n
    · have h5 := en_out hi (Or.inl ht) c
      rw [ht, tk_lt c] at h5
      rw [if_neg (by rw [iz_le (by omega) (by omega)]; omega), rdn _ (by omega) (by omega), ar_at]
      simp only [Option.bind_some]
      rw [y_isLetter (hl _), if_neg h5]
      rfl
    · rw [if_pos (by rw [iz_le (by omega) (by omega)]; omega)]
def vl (lt : Nat → Int) (i k : Nat) : Int := if k = i + 1 then lt i - 48 else 10 * (lt i - 48) + (lt (i + 1) - 48)
theorem y_run2 {i : Nat} (hn : n ≤ 250) (hl : ∀ j, 0 ≤ lt j ∧ lt j ≤ 255) (hi : i < n) (ht : tk n lt i = 2) : f_R_next_l159 (iz n) (iz i) (ar lt) (iz ((i + 1 : Nat) : Int)) (iz (lt i - 48)) = some (iz ((en n lt i : Nat) : Int), iz (val n lt i)) := by
  obtain ⟨e1, e2, e3⟩ := en_bd (lt := lt) (show i ≤ n by omega)
  have e4 := e3 hi
  have hl0 := loopA (body := fun s : Int32 × Int32 => f_R_next_b159 (iz n) (iz i) (ar lt) s.1 s.2) (fun k => (iz k, iz (vl lt i k))) (iz ((en n lt i : Nat) : Int), iz (val n lt i)) (i + 1) (en n lt i) (by omega) (by omega)
    (fun k h3 h4 => by
      have h5 := en_in hi (Or.inr ht) (by omega) h4
      rw [ht, tk_lt (show k < n by omega)] at h5
      simp only [f_R_next_b159, f_R_next_j222]
      rw [if_neg (by rw [iz_le (by omega) (by omega)]; omega), rdn _ (by omega) (by omega), ar_at]
      simp only [Option.bind_some]
      rw [y_isDigit (hl k), if_pos h5]
      simp only [Option.bind_some]
      rw [if_neg (show ¬ (1 : Int32) = 0 by decide), iz_sub, iz_succ]
      by_cases c : k = i + 1
      · rw [if_neg (by rw [l_2, iz_le (by omega) (by omega)]; omega), l_10, iz_mul, iz_add, l_48, iz_sub]
        congr 5
        unfold vl
        rw [if_pos c, if_neg (by omega), c]
        omega
      · have ev : vl lt i k = vl lt i (k + 1) := by
          unfold vl
          rw [if_neg c, if_neg (by omega)]
        rw [if_pos (by rw [l_2, iz_le (by omega) (by omega)]; omega), ev])
    (by
      have ev : val n lt i = vl lt i (en n lt i) := rfl
      simp only [f_R_next_b159, f_R_next_j222]
      rw [ev]
      by_cases c : en n lt i < n
      · have h5 := en_out hi (Or.inr ht) c
        rw [ht, tk_lt c] at h5
        rw [if_neg (by rw [iz_le (by omega) (by omega)]; omega), rdn _ (by omega) (by omega), ar_at]
        simp only [Option.bind_some]
        rw [y_isDigit (hl _), if_neg h5]
        rfl
      · rw [if_pos (by rw [iz_le (by omega) (by omega)]; omega)])
  have e0 : vl lt i (i + 1) = lt i - 48 := if_pos rfl
  rw [e0] at hl0
  exact hl0
theorem y_next {p : Nat} (hn : n ≤ 250) (hl : ∀ j, 0 ≤ lt j ∧ lt j ≤ 255) (hp : p ≤ n) (f t v : Int32) :
    f_R_next (iz n) f (iz p) t v (ar lt) = some (iz ((sk n lt p : Nat) : Int), iz ((en n lt (sk n lt p) : Nat) : Int), iz (rtok n lt (sk n lt p)), if tk n lt (sk n lt p) = 2 then iz (val n lt (sk n lt p)) else v) := by
  obtain ⟨b1, b2⟩ := sk_bd (lt := lt) hp
  unfold f_R_next
  rw [y_skip hn hl hp]
  simp only [Option.bind_some]
  generalize sk n lt p = i at b1 b2 ⊢
  obtain ⟨e1, e2, e3⟩ := en_bd (lt := lt) b2
  have b3 := tk_bd n lt i
  by_cases c : i < n
  · have e4 := e3 c
    have htk := tk_lt (lt := lt) c
    have hb := hl i
    rw [if_neg (by rw [iz_eq (by omega) (by omega)]; omega), rdn _ (by omega) (by omega), ar_at]
    simp only [Option.bind_some]
    rw [y_isLetter hb, ← htk, iz_succ]
    simp only [Option.bind_some]
    unfold rtok
    rw [if_neg (show ¬ n ≤ i by omega)]
    by_cases c1 : tk n lt i = 1
    · rw [if_pos c1, if_neg (show ¬ (1 : Int32) = 0 by decide), y_run1 hn hl c c1, if_pos c1, if_neg (show ¬ tk n lt i = 2 by omega)]
      rfl
    · rw [if_neg c1, if_pos rfl, y_isDigit hb, ← htk, if_neg c1]
      simp only [Option.bind_some]
      by_cases c2 : tk n lt i = 2
      · rw [if_pos c2, if_neg (show ¬ (1 : Int32) = 0 by decide), l_48, iz_sub, y_run2 hn hl c c2, if_pos c2, if_pos c2]
        simp only [Option.bind_some]
        rw [iz_sub]
        by_cases c3 : en n lt i - i ≤ 2
        · rw [if_pos (by rw [l_2, iz_le (by omega) (by omega)]; omega), if_pos c3]
        · rw [if_neg (by rw [l_2, iz_le (by omega) (by omega)]; omega), if_neg c3]
          rfl
      · rw [if_neg c2, if_pos rfl, if_neg c2, if_neg c2]
        have e5 : en n lt i = i + 1 := by unfold en; rw [if_neg (by omega), if_neg (by omega)]
        have h3 : tk n lt i = 3 ↔ lt i = 59 := by
          rw [htk] at c1 c2 ⊢
          unfold tkc at c1 c2 ⊢
          by_cases d1 : 97 ≤ lt i ∧ lt i ≤ 122
          · rw [if_pos d1] at c1; exact absurd rfl c1
          · rw [if_neg d1] at c2 ⊢
            by_cases d2 : 48 ≤ lt i ∧ lt i ≤ 57
            · rw [if_pos d2] at c2; exact absurd rfl c2
            · rw [if_neg d2]
              by_cases d3 : lt i = 59
              · rw [if_pos d3]; exact ⟨fun _ => d3, fun _ => rfl⟩
              · rw [if_neg d3]; exact ⟨fun z => by omega, fun z => absurd z d3⟩
        rw [e5]
        by_cases c4 : lt i = 59
        · rw [if_pos (by rw [c4]; rfl), if_pos (h3.mpr c4)]
          rfl
        · rw [if_neg (by rw [l_59, iz_eq (by omega) (by omega)]; exact c4), if_neg (fun z => c4 (h3.mp z))]
          rfl
  · have e0 := tk_n (lt := lt) (show n ≤ i by omega)
    rw [if_pos (by rw [show i = n by omega]), e0, if_neg (by decide)]
    unfold rtok
    rw [if_pos (show n ≤ i by omega), show en n lt i = i by unfold en; rw [if_pos (by omega)]; omega]
    rfl
theorem rtok_w {i : Nat} : rtok n lt i = 119 ↔ tk n lt i = 1 := by
  unfold rtok
  by_cases c : n ≤ i
  · rw [if_pos c, tk_n c]; exact ⟨fun z => by omega, fun z => by omega⟩
  · rw [if_neg c]
    by_cases c1 : tk n lt i = 1
    · rw [if_pos c1]; exact ⟨fun _ => c1, fun _ => rfl⟩
    · rw [if_neg c1]
      refine ⟨fun z => ?_, fun z => absurd z c1⟩
      exfalso
      by_cases c2 : tk n lt i = 2
      · rw [if_pos c2] at z
        split at z <;> omega
      · rw [if_neg c2] at z
        split at z <;> omega
theorem rtok_d {i : Nat} : rtok n lt i = 48 ↔ tk n lt i = 2 ∧ en n lt i - i ≤ 2 := by
  unfold rtok
  by_cases c : n ≤ i
  · rw [if_pos c, tk_n c]; exact ⟨fun z => by omega, fun z => by omega⟩
  · rw [if_neg c]
    by_cases c1 : tk n lt i = 1
    · rw [if_pos c1]; exact ⟨fun z => by omega, fun z => by omega⟩
    · rw [if_neg c1]
      by_cases c2 : tk n lt i = 2
      · rw [if_pos c2]
        by_cases c3 : en n lt i - i ≤ 2
        · rw [if_pos c3]; exact ⟨fun _ => ⟨c2, c3⟩, fun _ => rfl⟩
        · rw [if_neg c3]; exact ⟨fun z => by omega, fun z => absurd z.2 c3⟩
      · rw [if_neg c2]
        refine ⟨fun z => ?_, fun z => absurd z.1 c2⟩
        split at z <;> omega
theorem rtok_s {i : Nat} : rtok n lt i = 59 ↔ tk n lt i = 3 := by
  unfold rtok
  by_cases c : n ≤ i
  · rw [if_pos c, tk_n c]; exact ⟨fun z => by omega, fun z => by omega⟩
  · rw [if_neg c]
    by_cases c1 : tk n lt i = 1
    · rw [if_pos c1]; exact ⟨fun z => by omega, fun z => by omega⟩
    · rw [if_neg c1]
      by_cases c2 : tk n lt i = 2
      · rw [if_pos c2]
        refine ⟨fun z => ?_, fun z => by omega⟩
        split at z <;> omega
      · rw [if_neg c2]
        by_cases c3 : tk n lt i = 3
        · rw [if_pos c3]; exact ⟨fun _ => c3, fun _ => rfl⟩
        · rw [if_neg c3]; exact ⟨fun z => by omega, fun z => absurd z c3⟩
theorem rtok_e {i : Nat} (hi : i ≤ n) : rtok n lt i = 101 ↔ i = n := by
  unfold rtok
  by_cases c : n ≤ i
  · rw [if_pos c]; exact ⟨fun _ => by omega, fun _ => rfl⟩
  · rw [if_neg c]
    refine ⟨fun z => ?_, fun z => by omega⟩
    exfalso
    split at z
    · omega
    · split at z
      · split at z <;> omega
      · split at z <;> omega
theorem rtok_bd (i : Nat) : 0 ≤ rtok n lt i ∧ rtok n lt i ≤ 200 := by
  unfold rtok
  split
  · omega
  · split
    · omega
    · split
      · split <;> omega
      · split <;> omega
end

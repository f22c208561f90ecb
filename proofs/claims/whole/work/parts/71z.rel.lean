/-! what the two systems have in common -/
def Iv (w : Nat) (rn er : Int) (m : Nat) (g kd a l : Nat → Int) : Prop :=
  (2 ≤ w ∧ w ≤ 6) ∧ (0 ≤ rn ∧ rn ≤ 9) ∧ (1 ≤ er ∧ er ≤ 99) ∧ m ≤ 8 ∧ (∀ j, 0 ≤ g j ∧ g j ≤ 9) ∧ (∀ j, 0 ≤ kd j ∧ kd j ≤ 5) ∧ (∀ j, 0 ≤ a j ∧ a j ≤ 9) ∧ (∀ j, 0 ≤ l j ∧ l j ≤ 99) ∧ (∀ j, j < m → 1 ≤ l j) ∧ (∀ j, 36 ≤ j → g j = 0) ∧ ∀ j, 8 ≤ j → kd j = 0 ∧ a j = 0 ∧ l j = 0
/-- the drive of a side, as numbers -/
def RN (cw cr ce ck : Int32) (cs ckd ca cl : Nat → Int32) (w : Nat) (rn er : Int) (m : Nat) (g kd a l : Nat → Int) : Prop :=
  cw = iz w ∧ cr = iz rn ∧ ce = iz er ∧ ck = iz m ∧ cs = ar g ∧ ckd = ar kd ∧ ca = ar a ∧ cl = ar l
def RS (m : Nat) (cm ch cs cr : Nat → Int32) (el ro : Nat → Int64) : Prop :=
  ∃ mk sz rl : Nat → Int, cm = ar mk ∧ ch = ar mk ∧ cs = ar sz ∧ cr = ar rl ∧ SI m mk sz rl el ro
def RT (cz rz : Int32) (cl rl : Nat → Int32) : Prop :=
  ∃ (n : Nat) (lt : Nat → Int), n ≤ 250 ∧ (∀ j, 0 ≤ lt j ∧ lt j ≤ 255) ∧ cz = iz n ∧ rz = iz n ∧ cl = ar lt ∧ rl = ar lt
/-- what is kept -/
def RO (old : Nat → Int32) (w : Nat) (rn er : Int) (m : Nat) (sd : Int32) (g kd a l : Nat → Int) : Prop :=
  (∀ j, j < 36 → old j = iz (g j)) ∧ (∀ j, j < 8 → old (36 + j) = iz (kd j) ∧ old (44 + j) = iz (a j) ∧ old (52 + j) = iz (l j)) ∧ old 60 = iz w ∧ old 61 = iz rn ∧ old 62 = iz er ∧ old 63 = iz m ∧ old 64 = sd
def RK (ik im : Int32) (cw cr ce ck sd : Int32) (cs ckd ca cl old : Nat → Int32) : Prop :=
  ∃ (w : Nat) (rn er : Int) (m : Nat) (g kd a l : Nat → Int), RN cw cr ce ck cs ckd ca cl w rn er m g kd a l ∧ Iv w rn er m g kd a l ∧ im = ik ∧ (ik = 0 ∨ (ik = 1 ∧ RO old w rn er m sd g kd a l))
def RTr (cs ckd ca cl : Nat → Int32) : Prop := (∀ j, 36 ≤ j → cs j = 0) ∧ ∀ j, 8 ≤ j → ckd j = 0 ∧ ca j = 0 ∧ cl j = 0
def Rel (c_isKept : Int32) (c_now_width : Int32) (c_now_rain : Int32) (c_now_ear : Int32) (c_now_walkers : Int32) (c_now_seed : Int32) (c_now_stones : (Nat → Int32)) (c_now_kinds : (Nat → Int32)) (c_now_weights : (Nat → Int32)) (c_now_chances : (Nat → Int32)) (c_kept_width : Int32) (c_kept_rain : Int32) (c_kept_ear : Int32) (c_kept_walkers : Int32) (c_kept_seed : Int32) (c_kept_stones : (Nat → Int32)) (c_kept_kinds : (Nat → Int32)) (c_kept_weights : (Nat → Int32)) (c_kept_chances : (Nat → Int32)) (c_trial_stones : (Nat → Int32)) (c_trial_kinds : (Nat → Int32)) (c_trial_weights : (Nat → Int32)) (c_trial_chances : (Nat → Int32)) (c_shelves_marks : (Nat → Int32)) (c_shelves_sizes : (Nat → Int32)) (c_shelves_elements : (Nat → Int64)) (c_tape_size : Int32) (c_tape_letters : (Nat → Int32)) (c_refusals : (Nat → Int32)) (r_n : Int32) (r_rain : Int32) (r_ear : Int32) (r_many : Int32) (r_seed : Int32) (r_taped : Int32) (r_imaged : Int32) (r_gravel : (Nat → Int32)) (r_kind : (Nat → Int32)) (r_own : (Nat → Int32)) (r_likely : (Nat → Int32)) (r_tape : (Nat → Int32)) (r_holding : (Nat → Int32)) (r_rowLength : (Nat → Int32)) (r_rowOf : (Nat → Int64)) (r_refusals : (Nat → Int32)) (r_old : (Nat → Int32)) : Prop :=
  ∃ (w : Nat) (rn er : Int) (m : Nat) (g kd a l : Nat → Int), RN c_now_width c_now_rain c_now_ear c_now_walkers c_now_stones c_now_kinds c_now_weights c_now_chances w rn er m g kd a l ∧ RN r_n r_rain r_ear r_many r_gravel r_kind r_own r_likely w rn er m g kd a l ∧ r_seed = c_now_seed ∧ Iv w rn er m g kd a l ∧ RS m c_shelves_marks r_holding c_shelves_sizes r_rowLength c_shelves_elements r_rowOf ∧ RF c_refusals r_refusals ∧ RT c_tape_size r_taped c_tape_letters r_tape ∧
    RK c_isKept r_imaged c_kept_width c_kept_rain c_kept_ear c_kept_walkers c_kept_seed c_kept_stones c_kept_kinds c_kept_weights c_kept_chances r_old ∧ RTr c_trial_stones c_trial_kinds c_trial_weights c_trial_chances

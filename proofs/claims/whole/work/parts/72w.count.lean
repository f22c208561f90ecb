/-! how many ways -/
def Nv (w : Nat) (op : Nat → Bool) : Nat → Nat → Int
  | 0, c => if op ((w - 1) * w + c) then 1 else 0
  | d + 1, c => if op ((w - 2 - d) * w + c) then sm (fun x => Nv w op d (c - 1 + x)) (hc w c + 1) else 0
def Nb (w : Nat) (op : Nat → Bool) (j : Nat) : Int := Nv w op (w - 1 - j / w) (j % w)
def p3 : Nat → Int
  | 0 => 1
  | d + 1 => 3 * p3 d
theorem p3_pos : ∀ d, 1 ≤ p3 d
  | 0 => Int.le_refl 1
  | d + 1 => by
    have := p3_pos d
    show 1 ≤ 3 * p3 d
    omega
theorem p3_le : ∀ d, d ≤ 5 → p3 d ≤ 243 := by decide
theorem hc_le (w c : Nat) : hc w c ≤ 2 := by unfold hc; omega
theorem Nv_bd (w : Nat) (op : Nat → Bool) : ∀ d c : Nat, 0 ≤ Nv w op d c ∧ Nv w op d c ≤ p3 d
  | 0, c => by
    show 0 ≤ (if op ((w - 1) * w + c) then (1 : Int) else 0) ∧ (if op ((w - 1) * w + c) then (1 : Int) else 0) ≤ 1
    split <;> omega
  | d + 1, c => by
    have h1 := sm_bd (g := fun x => Nv w op d (c - 1 + x)) (b := p3 d) (hc w c + 1) (fun x _ => Nv_bd w op d _)
    have h2 := p3_pos d
    have h3 := hc_le w c
    have h4 : ((hc w c + 1 : Nat) : Int) * p3 d ≤ 3 * p3 d := Int.mul_le_mul_of_nonneg_right (by omega) (by omega)
    show 0 ≤ (if op ((w - 2 - d) * w + c) then sm (fun x => Nv w op d (c - 1 + x)) (hc w c + 1) else 0) ∧ (if op ((w - 2 - d) * w + c) then sm (fun x => Nv w op d (c - 1 + x)) (hc w c + 1) else 0) ≤ 3 * p3 d
    split <;> omega
theorem Nb_bd {w : Nat} (hw : 2 ≤ w ∧ w ≤ 6) (op : Nat → Bool) (j : Nat) : 0 ≤ Nb w op j ∧ Nb w op j ≤ 243 := by
  have h1 := Nv_bd w op (w - 1 - j / w) (j % w)
  have h2 := p3_le (w - 1 - j / w) (Nat.le_trans (Nat.sub_le _ _) (by omega))
  unfold Nb
  omega
def EqN (w : Nat) (op : Nat → Bool) (N : Nat → Int) : Prop := ∀ r c, r < w → c < w → N (r * w + c) = if op (r * w + c) then (if r + 1 < w then bhS w N r c else 1) else 0
theorem Nb_eq {w : Nat} (hw : 2 ≤ w ∧ w ≤ 6) (op : Nat → Bool) : EqN w op (Nb w op) := by
  intro r c hr hcw
  obtain ⟨q1, q2⟩ := hc_lt hw hcw
  by_cases h : r + 1 < w
  · obtain ⟨d, e⟩ : ∃ d, w - 1 - r = d + 1 := ⟨w - 2 - r, by omega⟩
    rw [if_pos h]
    show Nv w op (w - 1 - (r * w + c) / w) ((r * w + c) % w) = _
    rw [idx_div hcw, idx_mod hcw, e]
    show (if op ((w - 2 - d) * w + c) then sm (fun x => Nv w op d (c - 1 + x)) (hc w c + 1) else 0) = _
    rw [show w - 2 - d = r by omega]
    congr 1
    refine sm_congr _ (fun x hx => ?_)
    show _ = Nv w op (w - 1 - ((r + 1) * w + (c - 1) + x) / w) (((r + 1) * w + (c - 1) + x) % w)
    rw [Nat.add_assoc, idx_div (by omega), idx_mod (by omega), show w - 1 - (r + 1) = d by omega]
  · rw [if_neg h]
    show Nv w op (w - 1 - (r * w + c) / w) ((r * w + c) % w) = _
    rw [idx_div hcw, idx_mod hcw, show w - 1 - r = 0 by omega]
    show (if op ((w - 1) * w + c) then (1 : Int) else 0) = _
    rw [show w - 1 = r by omega]
/-- how many ways in all -/
def nw (w : Nat) (op : Nat → Bool) : Int := sm (Nb w op) w
theorem nw_bd {w : Nat} (hw : 2 ≤ w ∧ w ≤ 6) (op : Nat → Bool) : 0 ≤ nw w op ∧ nw w op ≤ 1458 := by
  have := sm_bd (g := Nb w op) (b := 243) w (fun k _ => Nb_bd hw op k)
  unfold nw
  omega
section
variable {w : Nat} {N s : Nat → Int} {op : Nat → Bool} {ρ st may : Nat → Int32}
theorem z_owRow {r : Nat} (hw : 2 ≤ w ∧ w ≤ 6) (hr : r < w) (hs : Agr st s 0 (w * w)) (hsb : ∀ j, j < w * w → -500 ≤ s j ∧ s j ≤ 500) (hop : ∀ j, j < w * w → (op j = true ↔ s j = 0)) (hE : EqN w op N) (hA : Agr ρ N ((r + 1) * w) (w * w)) :
    ∃ ρ', f_P_openWays_l13 (iz r) (iz w) st (iz 0) ρ = some ρ' ∧ Agr ρ' N (r * w) (w * w) := by
  have h36 := sq_le hw
  have hrr := row_le hr
  have hsc : (r + 1) * w = r * w + w := Nat.succ_mul r w
  exact loopI (body := fun s : Int32 × (Nat → Int32) => f_P_openWays_b13 (iz r) (iz w) st s.1 s.2) (fun k s => ∃ ρ, s = (iz k, ρ) ∧ Agr ρ N ((r + 1) * w) (w * w) ∧ Agr ρ N (r * w) (r * w + k)) (fun ρ' => Agr ρ' N (r * w) (w * w)) w (by omega)
    (fun k s' hk => by
      rintro ⟨ρ, rfl, h1, h2⟩
      have hi := idx_lt hr hk
      have hb := hsb _ hi
      have he := hE r k hr hk
      have hj : ∀ t : Int, N (r * w + k) = (if op (r * w + k) then t else 0) → ∃ s', f_P_openWays_j52 (iz k) (iz ((r * w + k : Nat) : Int)) (iz t) st ρ = some (.inl s') ∧ ∃ ρ, s' = (iz ((k + 1 : Nat) : Int), ρ) ∧ Agr ρ N ((r + 1) * w) (w * w) ∧ Agr ρ N (r * w) (r * w + (k + 1)) := fun t ht => by
        unfold f_P_openWays_j52 f_P_openWays_j74
        rw [rdn _ (by omega) (by omega), hs _ (by omega) hi]
        simp only [Option.bind_some]
        by_cases c : s (r * w + k) = 0
        · rw [if_pos ((hop _ hi).mpr c)] at ht
          rw [if_pos (by rw [c]; rfl), ← ht, wrn _ (by omega) (by omega)]
          exact ⟨_, rfl, upd ρ (r * w + k) (iz (N (r * w + k))), by rw [iz_succ], agr_upd h1 (by omega), agr_nx h2⟩
        · rw [if_neg (fun z => c ((hop _ hi).mp z))] at ht
          rw [if_neg (by rw [l_0, iz_eq (by omega) (by omega)]; exact c), l_0, ← ht, wrn _ (by omega) (by omega)]
          exact ⟨_, rfl, upd ρ (r * w + k) (iz (N (r * w + k))), by rw [iz_succ], agr_upd h1 (by omega), agr_nx h2⟩
      simp only [f_P_openWays_b13, z_len hw, Option.bind_some]
      rw [if_neg (by rw [iz_le (by omega) (by omega)]; omega), z_cellIn hw hr hk, iz_succ r]
      simp only [Option.bind_some]
      by_cases hl : r + 1 < w
      · rw [if_neg (by rw [iz_le (by omega) (by omega)]; omega), z_sumBehind hw hl hk h1]
        simp only [Option.bind_some]
        rw [if_pos hl] at he
        exact hj _ he
      · rw [if_pos (by rw [iz_le (by omega) (by omega)]; omega)]
        rw [if_neg hl] at he
        exact hj 1 he)
    (fun s => by
      rintro ⟨ρ, rfl, h1, h2⟩
      simp only [f_P_openWays_b13, z_len hw, Option.bind_some]
      rw [if_pos (by rw [iz_le (by omega) (by omega)]; omega)]
      exact ⟨_, rfl, agr_jn h2 (by rw [← hsc]; exact h1)⟩)
    (iz 0, ρ) ⟨ρ, rfl, hA, agr_no⟩
theorem z_owAll (hw : 2 ≤ w ∧ w ≤ 6) (hs : Agr st s 0 (w * w)) (hsb : ∀ j, j < w * w → -500 ≤ s j ∧ s j ≤ 500) (hop : ∀ j, j < w * w → (op j = true ↔ s j = 0)) (hE : EqN w op N) : ∃ ρ', f_P_openWays_l7 (iz w) st (iz w - 1) ρ = some ρ' ∧ Agr ρ' N 0 (w * w) := by
  obtain ⟨ρ', e, h⟩ := rowsI hw (fun ρ r => Agr ρ N (r * w) (w * w)) (inner := fun v a => f_P_openWays_l13 v (iz w) st 0 a) (body := fun s : Int32 × (Nat → Int32) => f_P_openWays_b7 (iz w) st s.1 s.2) (fun v a => rfl) (fun r a hr h => z_owRow hw hr hs hsb hop hE h) ρ agr_no
  rw [Nat.zero_mul] at h
  exact ⟨ρ', e, h⟩
theorem z_gateSum (hw : 2 ≤ w ∧ w ≤ 6) (hA : Agr ρ N 0 (w * w)) : f_P_gateSum (iz w) ρ = some (iz (sm N w)) := by
  have h36 := sq_le hw
  have hp : w ≤ w * w := by have := Nat.mul_le_mul_right w (show 1 ≤ w by omega); omega
  have hl := loopS (body := fun s : Int32 × Int32 => f_P_gateSum_b4 (iz w) ρ s.1 s.2) (fun k => (iz (sm N k), iz k)) (iz (sm N w)) w (by omega)
    (fun k hk => by
      have e1 : ρ (0 * w + k) = iz (N k) := by rw [Nat.zero_mul, Nat.zero_add]; exact hA _ (by omega) (by omega)
      simp only [f_P_gateSum_b4, z_len hw, Option.bind_some]
      rw [if_neg (by rw [iz_le (by omega) (by omega)]; omega), show (0 : Int32) = iz ((0 : Nat) : Int) from rfl, z_cellIn hw (by omega) hk]
      simp only [Option.bind_some]
      rw [rdn _ (by omega) (by omega), e1]
      simp only [Option.bind_some]
      rw [iz_add, iz_succ]
      rfl)
    (by
      simp only [f_P_gateSum_b4, z_len hw, Option.bind_some]
      rw [if_pos (by rw [iz_le (by omega) (by omega)]; omega)])
  unfold f_P_gateSum
  rw [show f_P_gateSum_l4 (iz w) ρ 0 0 = _ from hl]
  rfl
theorem z_openWays (hw : 2 ≤ w ∧ w ≤ 6) (hs : Agr st s 0 (w * w)) (hsb : ∀ j, j < w * w → -500 ≤ s j ∧ s j ≤ 500) (hop : ∀ j, j < w * w → (op j = true ↔ s j = 0)) (counts : Nat → Int32) :
    ∃ counts', f_P_openWays (iz w) st counts = some (iz (nw w op), counts') := by
  obtain ⟨ρ', e1, h1⟩ := z_owAll (ρ := counts) hw hs hsb hop (Nb_eq hw op)
  unfold f_P_openWays
  rw [z_len hw]
  simp only [Option.bind_some]
  rw [e1]
  simp only [Option.bind_some]
  rw [z_gateSum hw h1]
  exact ⟨_, rfl⟩
/-! the reference's count -/
def May (w : Nat) (may : Nat → Int32) (op : Nat → Bool) : Prop := ∀ j, j < w * w → may j = if op j then 1 else 0
theorem y_cnt57 {r c : Nat} {b0 : Int} (hw : 2 ≤ w ∧ w ≤ 6) (hr : r < w) (hcw : c < w) (hm : May w may op) (ho : op (r * w + c) = true) (hA : Agr ρ N (r * w + c + 1) (w * w)) (h0 : ρ (r * w + c) = iz b0) :
    ∃ ρ', f_R_count_l57 (iz ((r * w + c : Nat) : Int)) (iz w) may (iz ((r * w + c + 1 : Nat) : Int)) ρ = some ρ' ∧ Agr ρ' N (r * w + c + 1) (w * w) ∧ ρ' (r * w + c) = iz (b0 + if r + 1 < w then bhS w N r c else 0) := by
  have h36 := sq_le hw
  have hi := idx_lt hr hcw
  obtain ⟨q1, q2⟩ := hc_lt hw hcw
  have hsc : (r + 1) * w = r * w + w := Nat.succ_mul r w
  have hlast : sm (fun x => N ((r + 1) * w + (c - 1) + x)) (nx w r c) = if r + 1 < w then bhS w N r c else 0 := by
    unfold nx bhS
    by_cases h : r + 1 < w
    · rw [if_pos h, if_pos h]
    · rw [if_neg h, if_neg h]; rfl
  have hend : r + 1 < w → (r + 1) * w + (c - 1) + hc w c < w * w := fun h => by
    rw [Nat.add_assoc]; exact idx_lt h q1
  exact loopI (body := fun s : Int32 × (Nat → Int32) => f_R_count_b57 (iz ((r * w + c : Nat) : Int)) (iz w) may s.1 s.2)
    (fun k z => ∃ ρ, z = (iz ((r * w + c + 1 + k : Nat) : Int), ρ) ∧ Agr ρ N (r * w + c + 1) (w * w) ∧ ρ (r * w + c) = iz (b0 + sm (fun x => N ((r + 1) * w + (c - 1) + x)) (wsn ((r + 1) * w + (c - 1)) (nx w r c) (r * w + c + 1 + k))))
    _ (w * w - (r * w + c + 1)) (by omega)
    (fun k z hk => by
      rintro ⟨ρ, rfl, h1, h2⟩
      have hd : r * w + c + 1 + k < w * w := by omega
      simp only [f_R_count_b57]
      rw [sqz, if_neg (by rw [iz_le (by omega) (by omega)]; omega), rdn _ (by omega) (by omega), hm _ hi, if_pos ho, y_nx hw hr hcw hd]
      simp only [Option.bind_some, b1_0]
      rw [if_neg (show ¬ (1 : Int32) = 0 by decide)]
      by_cases c1 : r + 1 < w ∧ (r + 1) * w + (c - 1) ≤ r * w + c + 1 + k ∧ r * w + c + 1 + k ≤ (r + 1) * w + (c - 1) + hc w c
      · have en : nx w r c = hc w c + 1 := if_pos c1.1
        rw [if_neg (fun z => z c1), en]
        rw [en] at h2
        obtain ⟨m, em⟩ : ∃ m, r * w + c + 1 + k = (r + 1) * w + (c - 1) + m := ⟨r * w + c + 1 + k - ((r + 1) * w + (c - 1)), by omega⟩
        have hval := h1 (r * w + c + 1 + k) (by omega) hd
        have s1 : wsn ((r + 1) * w + (c - 1)) (hc w c + 1) (r * w + c + 1 + k) = m := by unfold wsn; omega
        have s2 : wsn ((r + 1) * w + (c - 1)) (hc w c + 1) (r * w + c + 1 + (k + 1)) = m + 1 := by unfold wsn; omega
        rw [s1] at h2
        rw [s2, rdn _ (by omega) (by omega), h2, rdn _ (by omega) (by omega), hval]
        simp only [Option.bind_some]
        rw [iz_add, wrn _ (by omega) (by omega)]
        refine ⟨_, rfl, upd ρ (r * w + c) (iz (b0 + sm (fun x => N ((r + 1) * w + (c - 1) + x)) m + N (r * w + c + 1 + k))), by rw [iz_succ]; rfl, agr_upd h1 (by omega), ?_⟩
        rw [upd_same, em]
        show _ = iz (b0 + (sm (fun x => N ((r + 1) * w + (c - 1) + x)) m + N ((r + 1) * w + (c - 1) + m)))
        rw [Int.add_assoc]
      · rw [if_pos c1]
        have s3 : wsn ((r + 1) * w + (c - 1)) (nx w r c) (r * w + c + 1 + (k + 1)) = wsn ((r + 1) * w + (c - 1)) (nx w r c) (r * w + c + 1 + k) := by
          unfold wsn nx
          by_cases h : r + 1 < w
          · rw [if_pos h]; omega
          · rw [if_neg h]; omega
        exact ⟨_, rfl, ρ, by rw [iz_succ]; rfl, h1, by rw [s3]; exact h2⟩)
    (fun z => by
      rintro ⟨ρ, rfl, h1, h2⟩
      simp only [f_R_count_b57]
      rw [sqz, if_pos (by rw [iz_le (by omega) (by omega)]; omega)]
      refine ⟨_, rfl, h1, ?_⟩
      rw [h2, ← hlast]
      congr 3
      unfold wsn nx
      by_cases h : r + 1 < w
      · have := hend h
        rw [if_pos h]; omega
      · rw [if_neg h]; omega)
    (iz ((r * w + c + 1 : Nat) : Int), ρ)
    ⟨ρ, rfl, hA, by
      rw [h0, show wsn ((r + 1) * w + (c - 1)) (nx w r c) (r * w + c + 1 + 0) = 0 by unfold wsn; omega]
      show iz b0 = iz (b0 + 0)
      rw [Int.add_zero]⟩
theorem y_cnt57n {cell : Nat} (hw : 2 ≤ w ∧ w ≤ 6) (hc : cell < w * w) (hm : May w may op) (ho : ¬ op cell = true) :
    f_R_count_l57 (iz cell) (iz w) may (iz ((cell + 1 : Nat) : Int)) ρ = some ρ := by
  have h36 := sq_le hw
  exact loopS (body := fun s : Int32 × (Nat → Int32) => f_R_count_b57 (iz cell) (iz w) may s.1 s.2) (fun _ => (iz ((cell + 1 : Nat) : Int), ρ)) ρ 0 (by omega) (fun k hk => by omega) (by
    simp only [f_R_count_b57]
    rw [sqz]
    by_cases c : w * w ≤ cell + 1
    · rw [if_pos (by rw [iz_le (by omega) (by omega)]; omega)]
    · rw [if_neg (by rw [iz_le (by omega) (by omega)]; omega), rdn _ (by omega) (by omega), hm _ hc, if_neg ho]
      rfl)
theorem y_count (hw : 2 ≤ w ∧ w ≤ 6) (hm : May w may op) (hE : EqN w op N) : ∃ rest', f_R_count (iz w) may ρ = some (iz (sm N w), rest') ∧ Agr rest' N 0 (w * w) := by
  have h36 := sq_le hw
  have hp : w ≤ w * w := by have := Nat.mul_le_mul_right w (show 1 ≤ w by omega); omega
  obtain ⟨⟨all, rest'⟩, e, h1, h2⟩ := loopI (body := fun s : Int32 × Int32 × (Nat → Int32) => f_R_count_b14 (iz w) may s.1 s.2.1 s.2.2) (fun k z => ∃ ρ, z = (iz (sm N w - sm N (min (w * w - k) w)), iz (((w * w : Nat) : Int) - 1 - k), ρ) ∧ Agr ρ N (w * w - k) (w * w)) (fun r => r.1 = iz (sm N w) ∧ Agr r.2 N 0 (w * w)) (w * w) (by omega)
    (fun k z hk => by
      rintro ⟨ρ, rfl, h1⟩
      obtain ⟨j, e1, e2⟩ : ∃ j, w * w - k = j + 1 ∧ (((w * w : Nat) : Int) - 1 - k) = (j : Int) := ⟨w * w - k - 1, by omega, by omega⟩
      rw [e1] at h1
      have hj : j < w * w := by omega
      obtain ⟨r, c, hr, hcw, ej⟩ := cell_rc hw hj
      have he := hE r c hr hcw
      rw [← ej] at he
      have hfin : ∀ (b0 : Int32) (ρ2 : Nat → Int32), f_R_count_l57 (iz j) (iz w) may (iz ((j + 1 : Nat) : Int)) (upd ρ j b0) = some ρ2 → Agr ρ2 N (j + 1) (w * w) → ρ2 j = iz (N j) → ∃ s', f_R_count_j52 (iz (sm N w - sm N (min (j + 1) w))) (iz j) (iz j) b0 (iz w) may ρ = some (.inl s') ∧ ∃ ρ, s' = (iz (sm N w - sm N (min (w * w - (k + 1)) w)), iz (((w * w : Nat) : Int) - 1 - ((k + 1 : Nat) : Int)), ρ) ∧ Agr ρ N (w * w - (k + 1)) (w * w) := fun b0 ρ2 e3 h3 h4 => by
        have h5 : Agr ρ2 N j (w * w) := fun i h6 h7 => by
          by_cases q : i = j
          · subst q; exact h4
          · exact h3 i (by omega) h7
        have e5 : iz (j : Int) + -1 = iz (((w * w : Nat) : Int) - 1 - ((k + 1 : Nat) : Int)) := by rw [l_m1, iz_add]; congr 1; omega
        unfold f_R_count_j52
        rw [wrn _ (by omega) (by omega)]
        simp only [Option.bind_some]
        rw [iz_succ j, e3, e5]
        simp only [Option.bind_some]
        rw [show w * w - (k + 1) = j by omega]
        by_cases q : w ≤ j
        · rw [if_pos (by rw [iz_le (by omega) (by omega)]; omega)]
          refine ⟨_, rfl, ρ2, ?_, h5⟩
          rw [show min (j + 1) w = min j w by omega]
        · rw [if_neg (by rw [iz_le (by omega) (by omega)]; omega), rdn _ (by omega) (by omega), h4]
          refine ⟨_, rfl, ρ2, ?_, h5⟩
          rw [iz_add, show min (j + 1) w = j + 1 by omega, show min j w = j by omega]
          congr 2
          show sm N w - (sm N j + N j) + N j = sm N w - sm N j
          omega
      simp only [f_R_count_b14, f_R_count_j51]
      rw [e2, e1, if_neg (by rw [l_0, iz_lt (by omega) (by omega)]; omega), rdn _ (by omega) (by omega), hm j hj]
      simp only [Option.bind_some]
      by_cases ho : op j = true
      · rw [if_pos ho, if_neg (show ¬ (1 : Int32) = 0 by decide), dv_iz (by omega) (by omega)]
        simp only [Option.bind_some]
        rw [if_pos ho] at he
        have e4 : ((j : Int) / (w : Int)) = (r : Int) := by
          have : ((j : Int) / (w : Int)) = ((j / w : Nat) : Int) := rfl
          rw [this, ej, idx_div hcw]
        rw [e4, l_1, iz_sub]
        by_cases hl : r + 1 < w
        · rw [if_pos hl] at he
          obtain ⟨ρ2, f1, f2, f3⟩ := y_cnt57 (b0 := 0) (ρ := upd ρ j 0) hw hr hcw hm (by rw [← ej]; exact ho) (by rw [← ej]; exact agr_upd h1 (by omega)) (by rw [← ej]; exact upd_same)
          rw [← ej] at f1 f2 f3
          rw [if_neg (by rw [iz_eq (by omega) (by omega)]; omega)]
          refine hfin 0 ρ2 f1 f2 ?_
          rw [f3, if_pos hl, he, Int.zero_add]
        · rw [if_neg hl] at he
          obtain ⟨ρ2, f1, f2, f3⟩ := y_cnt57 (b0 := 1) (ρ := upd ρ j (iz 1)) hw hr hcw hm (by rw [← ej]; exact ho) (by rw [← ej]; exact agr_upd h1 (by omega)) (by rw [← ej]; exact upd_same)
          rw [← ej] at f1 f2 f3
          rw [if_pos (by rw [iz_eq (by omega) (by omega)]; omega)]
          refine hfin (iz 1) ρ2 f1 f2 ?_
          rw [f3, if_neg hl, he, Int.add_zero]
      · rw [if_neg ho] at he
        rw [if_neg ho, if_pos rfl]
        refine hfin 0 _ (y_cnt57n hw hj hm ho) (agr_upd h1 (by omega)) ?_
        rw [upd_same, he]
        rfl)
    (fun z => by
      rintro ⟨ρ, rfl, h1⟩
      simp only [f_R_count_b14]
      rw [if_pos (by rw [l_0, iz_lt (by omega) (by omega)]; omega)]
      rw [Nat.sub_self] at h1 ⊢
      refine ⟨_, rfl, ?_, h1⟩
      show iz (sm N w - sm N (min 0 w)) = _
      rw [Nat.zero_min]
      show iz (sm N w - 0) = _
      rw [Int.sub_zero])
    (0, iz w * iz w - 1, ρ) ⟨ρ, by
      rw [sqz, l_1, iz_sub, Nat.sub_zero, show min (w * w) w = w by omega, Int.sub_self]
      congr 3
      omega, agr_no⟩
  unfold f_R_count
  rw [show f_R_count_l14 (iz w) may 0 (iz w * iz w - 1) ρ = _ from e]
  refine ⟨_, ?_, h2⟩
  rw [← h1]
  rfl
end

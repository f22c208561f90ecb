/-! mean -/
theorem sm_add (g h : Nat → Int) : ∀ n, sm (fun k => g k + h k) n = sm g n + sm h n
  | 0 => rfl
  | n + 1 => by
    show sm (fun k => g k + h k) n + (g n + h n) = (sm g n + g n) + (sm h n + h n)
    rw [sm_add g h n]
    omega
theorem sm_mul (c : Int) (g : Nat → Int) : ∀ n, sm (fun k => c * g k) n = c * sm g n
  | 0 => (Int.mul_zero c).symm
  | n + 1 => by
    show sm (fun k => c * g k) n + c * g n = c * (sm g n + g n)
    rw [sm_mul c g n, Int.mul_add]
theorem sm_zero : ∀ n, sm (fun _ => 0) n = 0
  | 0 => rfl
  | n + 1 => by
    show sm (fun _ => 0) n + 0 = 0
    rw [sm_zero n]
    rfl
theorem sm_swap (h : Nat → Nat → Int) (n : Nat) : ∀ m, sm (fun x => sm (fun i => h i x) n) m = sm (fun i => sm (fun x => h i x) m) n
  | 0 => (sm_zero n).symm
  | m + 1 => by
    show sm (fun x => sm (fun i => h i x) n) m + sm (fun i => h i m) n = sm (fun i => sm (fun x => h i x) m + h i m) n
    rw [sm_swap h n m, sm_add]
theorem sm_delta (s : Nat → Int) (v : Int) {c : Nat} : ∀ n, c < n → sm (fun i => s i * (if i = c then v else 0)) n = s c * v
  | 0, h => by omega
  | n + 1, h => by
    show sm (fun i => s i * (if i = c then v else 0)) n + s n * (if n = c then v else 0) = _
    by_cases q : n = c
    · have e : sm (fun i => s i * (if i = c then v else 0)) n = sm (fun _ => 0) n := sm_congr n (fun k hk => by rw [if_neg (by omega), Int.mul_zero])
      rw [e, sm_zero, if_pos q, q, Int.zero_add]
    · rw [sm_delta s v n (by omega), if_neg q, Int.mul_zero, Int.add_zero]
section
variable {w m : Nat} {rn : Int} {g kd a s : Nat → Int} {st rest counts : Nat → Int32}
theorem bhS_congr {T T' : Nat → Int} {r c : Nat} (hw : 2 ≤ w ∧ w ≤ 6) (hcw : c < w) (h : ∀ x, x < w → T ((r + 1) * w + x) = T' ((r + 1) * w + x)) : bhS w T r c = bhS w T' r c := by
  obtain ⟨q1, q2⟩ := hc_lt hw hcw
  refine sm_congr _ (fun x hx => ?_)
  show T ((r + 1) * w + (c - 1) + x) = T' ((r + 1) * w + (c - 1) + x)
  rw [Nat.add_assoc]
  exact h _ (by omega)
theorem bhS_0 {T : Nat → Int} {r c : Nat} (hw : 2 ≤ w ∧ w ≤ 6) (hcw : c < w) (h : ∀ x, x < w → T ((r + 1) * w + x) = 0) : bhS w T r c = 0 := by
  rw [bhS_congr (T' := fun _ => 0) hw hcw h]
  exact sm_zero _
abbrev Call (w : Nat) : Nat → Int := Nb w (fun _ => true)
theorem Call_eq (hw : 2 ≤ w ∧ w ≤ 6) {r c : Nat} (hr : r < w) (hcw : c < w) : Call w (r * w + c) = if r + 1 < w then bhS w (Call w) r c else 1 := by
  have h := Nb_eq hw (fun _ => true) r c hr hcw
  rw [if_pos rfl] at h
  exact h
theorem opt_other {i r c : Nat} (hcw : c < w) (h : ¬ r = i / w) : opt w i (r * w + c) = true := decide_eq_true (Or.inl (by rw [idx_div hcw]; exact h))
theorem NC {i : Nat} (hw : 2 ≤ w ∧ w ≤ 6) : ∀ d r, r + d + 1 = w → i / w < r → ∀ c, c < w → Nb w (opt w i) (r * w + c) = Call w (r * w + c) := by
  intro d
  induction d with
  | zero =>
    intro r hr hi c hcw
    rw [Call_eq hw (by omega) hcw, Nb_eq hw (opt w i) r c (by omega) hcw, if_pos (opt_other hcw (by omega)), if_neg (show ¬ r + 1 < w by omega), if_neg (show ¬ r + 1 < w by omega)]
  | succ d ih =>
    intro r hr hi c hcw
    rw [Call_eq hw (by omega) hcw, Nb_eq hw (opt w i) r c (by omega) hcw, if_pos (opt_other hcw (by omega)), if_pos (show r + 1 < w by omega), if_pos (show r + 1 < w by omega)]
    exact bhS_congr hw hcw (fun x hx => ih (r + 1) (by omega) (by omega) x hx)
/-- the ways from a cell through i, where i lies there or behind -/
def Xt (w i j : Nat) : Int := if j / w ≤ i / w then Nb w (opt w i) j else 0
theorem Xt_at {i r c : Nat} (hcw : c < w) : Xt w i (r * w + c) = if r ≤ i / w then Nb w (opt w i) (r * w + c) else 0 := by
  unfold Xt
  rw [idx_div hcw]
theorem KX {i r c : Nat} (hw : 2 ≤ w ∧ w ≤ 6) (hi : i < w * w) (hr : r < w) (hcw : c < w) : Xt w i (r * w + c) = (if i = r * w + c then Call w (r * w + c) else 0) + (if r + 1 < w then bhS w (Xt w i) r c else 0) := by
  have hiw := div_lt6 hw hi
  have hdiv : i = r * w + c → i / w = r := fun e => by rw [e, idx_div hcw]
  rw [Xt_at hcw]
  rcases Nat.lt_trichotomy (i / w) r with h | h | h
  · have h0 : (if r + 1 < w then bhS w (Xt w i) r c else 0) = 0 := by
      split
      · exact bhS_0 hw hcw (fun x hx => by rw [Xt_at hx, if_neg (by omega)])
      · rfl
    rw [if_neg (by omega), if_neg (fun e => by have := hdiv e; omega), h0]
    rfl
  · have h0 : (if r + 1 < w then bhS w (Xt w i) r c else 0) = 0 := by
      split
      · exact bhS_0 hw hcw (fun x hx => by rw [Xt_at hx, if_neg (by omega)])
      · rfl
    rw [if_pos (by omega), h0, Int.add_zero, Nb_eq hw (opt w i) r c hr hcw]
    by_cases q : i = r * w + c
    · rw [if_pos (show opt w i (r * w + c) = true from decide_eq_true (Or.inr q.symm)), if_pos q, Call_eq hw hr hcw]
      by_cases hl : r + 1 < w
      · rw [if_pos hl, if_pos hl]
        exact bhS_congr hw hcw (fun x hx => NC hw (w - 1 - (r + 1)) (r + 1) (by omega) (by omega) x hx)
      · rw [if_neg hl, if_neg hl]
    · rw [if_neg (show ¬ opt w i (r * w + c) = true from fun z => by
        have z2 := of_decide_eq_true z
        rw [idx_div hcw] at z2
        rcases z2 with z2 | z2
        · exact z2 h.symm
        · exact q z2.symm), if_neg q]
  · have hl : r + 1 < w := by omega
    rw [if_pos (by omega), if_neg (fun e => by have := hdiv e; omega), if_pos hl, Int.zero_add, Nb_eq hw (opt w i) r c hr hcw, if_pos (opt_other hcw (by omega)), if_pos hl]
    exact bhS_congr hw hcw (fun x hx => by rw [Xt_at hx, if_pos (by omega)])
/-- the sum over all ways from a cell -/
def St (w : Nat) (s : Nat → Int) (j : Nat) : Int := sm (fun i => s i * Xt w i j) (w * w)
theorem St_eq (hw : 2 ≤ w ∧ w ≤ 6) (s : Nat → Int) {r c : Nat} (hr : r < w) (hcw : c < w) : St w s (r * w + c) = s (r * w + c) * Call w (r * w + c) + (if r + 1 < w then bhS w (St w s) r c else 0) := by
  have hi := idx_lt hr hcw
  have e1 : St w s (r * w + c) = sm (fun i => s i * (if i = r * w + c then Call w (r * w + c) else 0) + s i * (if r + 1 < w then bhS w (Xt w i) r c else 0)) (w * w) := by
    refine sm_congr _ (fun i hi2 => ?_)
    show s i * Xt w i (r * w + c) = _
    rw [KX hw hi2 hr hcw, Int.mul_add]
  rw [e1, sm_add, sm_delta s _ _ hi]
  congr 1
  by_cases hl : r + 1 < w
  · rw [if_pos hl]
    have e2 : sm (fun i => s i * (if r + 1 < w then bhS w (Xt w i) r c else 0)) (w * w) = sm (fun i => sm (fun x => s i * Xt w i ((r + 1) * w + (c - 1) + x)) (hc w c + 1)) (w * w) := by
      refine sm_congr _ (fun i _ => ?_)
      show s i * (if r + 1 < w then bhS w (Xt w i) r c else 0) = _
      rw [if_pos hl, sm_mul]
      rfl
    rw [e2, ← sm_swap]
    rfl
  · rw [if_neg hl]
    have e2 : sm (fun i => s i * (if r + 1 < w then bhS w (Xt w i) r c else 0)) (w * w) = sm (fun _ => 0) (w * w) := by
      refine sm_congr _ (fun i _ => ?_)
      show s i * (if r + 1 < w then bhS w (Xt w i) r c else 0) = 0
      rw [if_neg hl, Int.mul_zero]
    rw [e2, sm_zero]
/-- the sum over all ways -/
def allS (w : Nat) (s : Nat → Int) : Int := sm (fun i => s i * nw w (opt w i)) (w * w)
theorem St_gate (hw : 2 ≤ w ∧ w ≤ 6) (s : Nat → Int) : sm (St w s) w = allS w s := by
  have e1 : sm (St w s) w = sm (fun c => sm (fun i => s i * Nb w (opt w i) c) (w * w)) w := by
    refine sm_congr _ (fun c hc => ?_)
    refine sm_congr _ (fun i _ => ?_)
    show s i * Xt w i c = s i * Nb w (opt w i) c
    have := Xt_at (w := w) (i := i) (r := 0) hc
    rw [Nat.zero_mul, Nat.zero_add, if_pos (Nat.zero_le _)] at this
    rw [this]
  rw [e1, sm_swap]
  refine sm_congr _ (fun i _ => ?_)
  show sm (fun c => s i * Nb w (opt w i) c) w = s i * nw w (opt w i)
  rw [sm_mul]
  rfl
theorem z_atRow {r : Nat} (hw : 2 ≤ w ∧ w ≤ 6) (hr : r < w) (hs : Agr st s 0 (w * w)) (hA : Agr rest (St w s) ((r + 1) * w) (w * w)) (hC : Agr counts (Call w) ((r + 1) * w) (w * w)) :
    ∃ p, f_P_allTogether_l13 (iz r) (iz w) st (iz 0) rest counts = some p ∧ Agr p.1 (St w s) (r * w) (w * w) ∧ Agr p.2 (Call w) (r * w) (w * w) := by
  have h36 := sq_le hw
  have hrr := row_le hr
  have hsc : (r + 1) * w = r * w + w := Nat.succ_mul r w
  exact loopI (body := fun z : Int32 × (Nat → Int32) × (Nat → Int32) => f_P_allTogether_b13 (iz r) (iz w) st z.1 z.2.1 z.2.2) (fun k z => ∃ rest counts, z = (iz k, rest, counts) ∧ (Agr rest (St w s) ((r + 1) * w) (w * w) ∧ Agr rest (St w s) (r * w) (r * w + k)) ∧ Agr counts (Call w) ((r + 1) * w) (w * w) ∧ Agr counts (Call w) (r * w) (r * w + k)) (fun p => Agr p.1 (St w s) (r * w) (w * w) ∧ Agr p.2 (Call w) (r * w) (w * w)) w (by omega)
    (fun k z hk => by
      rintro ⟨rest, counts, rfl, ⟨h1, h2⟩, h3, h4⟩
      have hi := idx_lt hr hk
      have eS := St_eq hw s hr hk
      have eC := Call_eq hw hr hk
      simp only [f_P_allTogether_b13, z_len hw, Option.bind_some]
      rw [if_neg (by rw [iz_le (by omega) (by omega)]; omega), z_cellIn hw hr hk, iz_succ r]
      simp only [Option.bind_some]
      unfold f_P_allTogether_j43 f_P_allTogether_j69 f_P_allTogether_j107
      by_cases hl : r + 1 < w
      · rw [if_pos hl] at eS eC
        rw [if_pos (by rw [iz_lt (by omega) (by omega)]; omega), if_pos (show (0 : Int32) = 0 from rfl), z_sumBehind hw hl hk h3]
        simp only [Option.bind_some]
        rw [← eC, wrn _ (by omega) (by omega)]
        simp only [Option.bind_some]
        rw [rdn _ (by omega) (by omega), hs _ (by omega) hi, rdn _ (by omega) (by omega), upd_same]
        simp only [Option.bind_some]
        rw [if_pos trivial, z_sumBehind hw hl hk h1]
        simp only [Option.bind_some]
        rw [iz_mul, iz_add, ← eS, wrn _ (by omega) (by omega)]
        exact ⟨_, rfl, upd rest (r * w + k) (iz (St w s (r * w + k))), upd counts (r * w + k) (iz (Call w (r * w + k))), by rw [iz_succ], ⟨agr_upd h1 (by omega), agr_nx h2⟩, agr_upd h3 (by omega), agr_nx h4⟩
      · rw [if_neg hl] at eS eC
        rw [if_neg (by rw [iz_lt (by omega) (by omega)]; omega), if_neg (show ¬ (1 : Int32) = 0 by decide), l_1, ← eC, wrn _ (by omega) (by omega)]
        simp only [Option.bind_some]
        rw [rdn _ (by omega) (by omega), hs _ (by omega) hi, rdn _ (by omega) (by omega), upd_same]
        simp only [Option.bind_some]
        rw [if_neg (by rw [eC]; decide), l_0, iz_mul, iz_add, ← eS, wrn _ (by omega) (by omega)]
        exact ⟨_, rfl, upd rest (r * w + k) (iz (St w s (r * w + k))), upd counts (r * w + k) (iz (Call w (r * w + k))), by rw [iz_add, eC]; rfl, ⟨agr_upd h1 (by omega), agr_nx h2⟩, agr_upd h3 (by omega), agr_nx h4⟩)
    (fun z => by
      rintro ⟨rest, counts, rfl, ⟨h1, h2⟩, h3, h4⟩
      simp only [f_P_allTogether_b13, z_len hw, Option.bind_some]
      rw [if_pos (by rw [iz_le (by omega) (by omega)]; omega)]
      exact ⟨_, rfl, agr_jn h2 (by rw [← hsc]; exact h1), agr_jn h4 (by rw [← hsc]; exact h3)⟩)
    (iz 0, rest, counts) ⟨rest, counts, rfl, ⟨hA, agr_no⟩, hC, agr_no⟩
theorem z_allTogether (hw : 2 ≤ w ∧ w ≤ 6) (hs : Agr st s 0 (w * w)) (rest counts : Nat → Int32) : ∃ p, f_P_allTogether (iz w) st rest counts = some (iz (allS w s), p) := by
  obtain ⟨p, e, h1, _⟩ := rowsI hw (fun (p : (Nat → Int32) × (Nat → Int32)) r => Agr p.1 (St w s) (r * w) (w * w) ∧ Agr p.2 (Call w) (r * w) (w * w)) (inner := fun v p => f_P_allTogether_l13 v (iz w) st 0 p.1 p.2) (body := fun z : Int32 × (Nat → Int32) × (Nat → Int32) => f_P_allTogether_b7 (iz w) st z.1 z.2.1 z.2.2) (fun v a => rfl) (fun r p hr h => z_atRow hw hr hs h.1 h.2) (rest, counts) ⟨agr_no, agr_no⟩
  rw [Nat.zero_mul] at h1
  unfold f_P_allTogether
  rw [z_len hw]
  simp only [Option.bind_some]
  rw [show f_P_allTogether_l7 (iz w) st (iz w - 1) rest counts = some p from e]
  simp only [Option.bind_some]
  rw [z_gateSum hw h1, St_gate hw]
  exact ⟨_, rfl⟩
theorem y_meanL {f : Nat} (hD : Dr w rn m g kd a) (hf : f < m) (rr may rest : Nat → Int32) :
    ∃ p, f_R_mean_l19 (iz f) (iz w) (iz rn) (ar g) (ar kd) (ar a) 0 0 rr may rest = some (iz (allS w (stp w rn g kd a f)), rr, p) := by
  obtain ⟨hw, hrn, hm, hg, hkd, ha⟩ := id hD
  have h36 := sq_le hw
  obtain ⟨r, e, h1, h2⟩ := loopI (body := fun z : Int32 × Int32 × (Nat → Int32) × (Nat → Int32) × (Nat → Int32) => f_R_mean_b19 (iz f) (iz w) (iz rn) (ar g) (ar kd) (ar a) z.1 z.2.1 z.2.2.1 z.2.2.2.1 z.2.2.2.2)
    (fun k z => ∃ may rest, z = (iz (sm (fun i => stp w rn g kd a f i * nw w (opt w i)) k), iz k, rr, may, rest)) (fun r => r.1 = iz (allS w (stp w rn g kd a f)) ∧ r.2.1 = rr) (w * w) (by omega)
    (fun k z hk => by
      rintro ⟨may, rest, rfl⟩
      obtain ⟨may', e6, h6⟩ := y_throughL hw hk may
      obtain ⟨rest', e7, _⟩ := y_count (ρ := rest) hw h6 (Nb_eq hw (opt w k))
      have e8 : f_R_through (iz k) (iz w) rr may rest = some (iz (nw w (opt w k)), rr, may', rest') := by
        unfold f_R_through
        rw [y_isCell (by omega) hw]
        simp only [Option.bind_some, b1_0]
        rw [if_neg (show ¬ ¬ (0 ≤ (k : Int) ∧ (k : Int) < ((w * w : Nat) : Int)) by omega), e6]
        simp only [Option.bind_some]
        rw [e7]
        rfl
      simp only [f_R_mean_b19]
      rw [sqz, if_neg (by rw [iz_le (by omega) (by omega)]; omega), y_stepOn hw (by omega) hk hrn hg hkd ha, e8]
      simp only [Option.bind_some]
      rw [iz_mul, iz_add, iz_succ]
      exact ⟨_, rfl, _, _, rfl⟩)
    (fun z => by
      rintro ⟨may, rest, rfl⟩
      simp only [f_R_mean_b19]
      rw [sqz, if_pos (by rw [iz_le (by omega) (by omega)]; omega)]
      exact ⟨_, rfl, rfl, rfl⟩)
    (0, 0, rr, may, rest) ⟨may, rest, rfl⟩
  obtain ⟨r1, r2, r3⟩ := r
  dsimp only at h1 h2
  subst h1 h2
  exact ⟨r3, e⟩
theorem Nv_pos : ∀ d c : Nat, 1 ≤ Nv w (fun _ => true) d c
  | 0, c => Int.le_refl 1
  | d + 1, c => by
    have h1 := sm_ge (l := fun x => Nv w (fun _ => true) d (c - 1 + x)) (hc w c + 1) (fun j => by have := Nv_pos d (c - 1 + j); omega) 0 (by omega)
    have h2 := Nv_pos d (c - 1 + 0)
    show 1 ≤ sm (fun x => Nv w (fun _ => true) d (c - 1 + x)) (hc w c + 1)
    omega
theorem nw_pos (hw : 2 ≤ w ∧ w ≤ 6) : 1 ≤ nw w (fun _ => true) := by
  have h1 := sm_ge (l := Nb w (fun _ => true)) w (fun j => (Nb_bd hw _ j).1) 0 (by omega)
  have h2 : 1 ≤ Nb w (fun _ => true) 0 := Nv_pos _ _
  unfold nw
  omega
theorem allS_bd (hw : 2 ≤ w ∧ w ≤ 6) (hs : ∀ j, 0 ≤ s j ∧ s j ≤ 37) : 0 ≤ allS w s ∧ allS w s ≤ 2000000 := by
  have h36 := sq_le hw
  have h := sm_bd (g := fun i => s i * nw w (opt w i)) (b := 53946) (w * w) (fun k _ => by
    have h1 := hs k
    have h2 := nw_bd hw (opt w k)
    have h3 : s k * nw w (opt w k) ≤ 37 * nw w (opt w k) := Int.mul_le_mul_of_nonneg_right h1.2 h2.1
    exact ⟨Int.mul_nonneg h1.1 h2.1, by omega⟩)
  unfold allS
  omega
theorem z_thou2 {p q : Int} (hp : 0 ≤ p ∧ p ≤ 2000000) (hq : 0 < q ∧ q ≤ 1000000) : f_M_thousandths (iz p) (iz q) = some (iz (1000 * p / q)) := by
  unfold f_M_thousandths
  simp (disch := omega) only [l_0, l_1, l_2, l_3, l_4, l_5, l_6, l_7, l_8, l_9, l_10, l_12, l_16, l_32, l_35, l_36, l_40, l_48, l_59, l_57, l_60, l_97, l_99, l_100, l_122, l_250, l_255, l_1000, l_10000, l_20000, l_1000000, l_12345, l_1103515245, iz_neg, iz_add, iz_sub, iz_mul, iz_lt, iz_le, iz_eq, Option.bind_some, b1_i0, b1_i1, zr_b1, Classical.not_not, if_pos, if_neg, dv_iz]
theorem q_mean {rm rr : Nat → Int32} (hD : Dr w rn m g kd a) (hr : RF rm rr) (v1 pw : Int32) (st rest counts may yrest : Nat → Int32) :
    ∃ x y, f_M_mean v1 (iz w) (iz rn) (iz m) (ar g) (ar kd) (ar a) pw st rest counts rm = some x ∧ f_R_mean v1 (iz w) (iz rn) (iz m) (ar g) (ar kd) (ar a) rr may yrest = some y ∧ x.1 = y.1 ∧ RF x.2.2.2.2.2 y.2.1 := by
  obtain ⟨hw, hrn, hm, hg, hkd, ha⟩ := id hD
  obtain ⟨x, hx, rfl⟩ := anyI v1
  obtain ⟨rm2, rr2, e1, e2, hr2⟩ := z_ref (why := -2) (by omega) hr
  unfold f_M_mean f_R_mean
  by_cases c1 : 0 ≤ x ∧ x < m
  · obtain ⟨f, hf, rfl⟩ := natZ (n := m) c1
    have hp := allS_bd (s := stp w rn g kd a f) hw (fun j => stp_bd (w := w) (kd := kd) (f := f) hg ha hrn.1 j)
    have hq1 := nw_pos hw
    have hq2 := nw_bd hw (fun _ => true)
    obtain ⟨st', e3, h3⟩ := z_layCrunches (t := 1) hD hf pw st
    obtain ⟨p, e4⟩ := z_allTogether hw (agr_congr h3 (fun j _ _ => Int.one_mul _)) rest counts
    obtain ⟨st2, e5, h5⟩ := z_layNothing hw (iz w) st'
    obtain ⟨counts', e6⟩ := z_ow hw h5 p.2
    have e7 := z_thou2 hp (show 0 < nw w (fun _ => true) ∧ nw w (fun _ => true) ≤ 1000000 by omega)
    obtain ⟨t, e8⟩ := y_meanL hD hf rr may yrest
    obtain ⟨may', rest', e9⟩ := y_ways hw t.1 t.2
    rw [z_isFeet (by omega) hm, y_isFeet (by omega) hm]
    simp only [Option.bind_some, b1_0]
    rw [if_neg (show ¬ ¬ (0 ≤ (f : Int) ∧ (f : Int) < m) by omega), if_neg (show ¬ ¬ (0 ≤ (f : Int) ∧ (f : Int) < m) by omega)]
    rw [show f_M_layCrunches (iz f) 1 (iz w) (iz rn) (ar g) (ar kd) (ar a) pw st = _ from e3, e8]
    simp only [Option.bind_some]
    rw [e4, e9]
    simp only [Option.bind_some]
    rw [e5]
    simp only [Option.bind_some]
    rw [e6]
    simp only [Option.bind_some]
    generalize allS w (stp w rn g kd a f) = P at hp e7 ⊢
    generalize nw w (fun _ => true) = Q at hq1 hq2 e7 ⊢
    have hd : 0 ≤ 1000 * P / Q ∧ 1000 * P / Q < 2147483648 := by
      have h1 : 0 ≤ 1000 * P / Q := Int.ediv_nonneg (by omega) (by omega)
      have h2 : 1000 * P / Q ≤ 1000 * P := Int.ediv_le_self Q (by omega)
      omega
    rw [e7, iz_long (by omega), iz_long (by omega), show (1000 : Int64) = lz 1000 from rfl, lz_mul, lz_div (by omega) (by omega)]
    simp only [Option.bind_some]
    rw [lz_int (by omega)]
    exact ⟨_, _, rfl, rfl, rfl, hr⟩
  · simp (disch := omega) only [l_0, l_1, l_2, l_3, l_4, l_5, l_6, l_7, l_8, l_9, l_10, l_12, l_16, l_32, l_35, l_36, l_40, l_48, l_59, l_57, l_60, l_97, l_99, l_100, l_122, l_250, l_255, l_1000, l_10000, l_20000, l_1000000, l_12345, l_1103515245, iz_neg, iz_add, iz_sub, iz_mul, iz_lt, iz_le, iz_eq, Option.bind_some, b1_i0, b1_i1, zr_b1, Classical.not_not, if_pos, if_neg, z_isFeet, y_isFeet, e1, e2]
    exact ⟨_, _, rfl, rfl, rfl, hr2⟩
end

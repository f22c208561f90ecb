/-! sounds, apart -/
def sn (t : Nat → Int) : Nat → Int
  | 0 => 0
  | k + 1 => 64 * sn t k + t k
theorem sn_bd {t : Nat → Int} (ht : ∀ k, 0 ≤ t k ∧ t k ≤ 37) : ∀ k, 0 ≤ sn t k ∧ (k = 0 → sn t k < 1) ∧ (k ≤ 1 → sn t k < 64) ∧ (k ≤ 2 → sn t k < 4096) ∧ (k ≤ 3 → sn t k < 262144) ∧ (k ≤ 4 → sn t k < 16777216) ∧ (k ≤ 5 → sn t k < 1073741824) ∧ (k ≤ 6 → sn t k < 68719476736)
  | 0 => by unfold sn; omega
  | k + 1 => by
    have ih := sn_bd ht k
    have := ht k
    unfold sn
    omega
theorem sn_inj {t t' : Nat → Int} (ht : ∀ k, 0 ≤ t k ∧ t k ≤ 37) (ht' : ∀ k, 0 ≤ t' k ∧ t' k ≤ 37) : ∀ n, (sn t n = sn t' n) = (alb (fun k => decide (t k = t' k)) n = true)
  | 0 => propext ⟨fun _ => rfl, fun _ => rfl⟩
  | n + 1 => by
    have ih := sn_inj ht ht' n
    have h1 := ht n
    have h2 := ht' n
    apply propext
    show (64 * sn t n + t n = 64 * sn t' n + t' n) ↔ (alb (fun k => decide (t k = t' k)) n && decide (t n = t' n)) = true
    rw [Bool.and_eq_true, decide_eq_true_iff, ← ih]
    omega
theorem lz_pack {n x : Nat} (hn : n < 1073741824) (hx : x < 64) : (lz (n : Int) <<< ((6 : Int32).toInt64 &&& 63)) ||| lz (x : Int) = lz ((64 * n + x : Nat) : Int) := by
  have e0 : ((6 : Int32).toInt64 &&& 63) = 6 := by decide
  rw [e0]
  apply Int64.toBitVec_inj.mp
  rw [Int64.toBitVec_or, Int64.toBitVec_shiftLeft]
  have e1 : (6 : Int64).toBitVec.smod 64 = 6#64 := by decide
  rw [e1]
  have e2 : ∀ y : Nat, (lz (y : Int)).toBitVec = BitVec.ofNat 64 y := fun y => rfl
  rw [e2, e2, e2]
  apply BitVec.eq_of_toNat_eq
  rw [BitVec.toNat_or, BitVec.shiftLeft_eq', BitVec.toNat_shiftLeft, BitVec.toNat_ofNat, BitVec.toNat_ofNat, BitVec.toNat_ofNat, BitVec.toNat_ofNat]
  rw [Nat.mod_eq_of_lt (show n < 2 ^ 64 by omega), Nat.mod_eq_of_lt (show x < 2 ^ 64 by omega), Nat.mod_eq_of_lt (show 64 * n + x < 2 ^ 64 by omega), show 6 % 2 ^ 64 = 6 from rfl, Nat.shiftLeft_eq, Nat.mod_eq_of_lt (show n * 2 ^ 6 < 2 ^ 64 by omega), ← Nat.shiftLeft_eq, ← Nat.shiftLeft_add_eq_or_of_lt (show x < 2 ^ 6 by omega), Nat.shiftLeft_eq]
  omega
section
variable {w m : Nat} {u : Int} {g kd a : Nat → Int} {c f : Nat}
def vc (w : Nat) (u : Int) (g kd a : Nat → Int) (c f : Nat) : Int := sn (cst w u g kd a f c) w
theorem z_soundUnder (hD : Dr w u m g kd a) (hc : c < w) (hf : f < 8) : f_D_soundUnder (iz f) (iz c) (iz u) (iz w) (ar g) (ar kd) (ar a) = some (lz (vc w u g kd a c f)) := by
  obtain ⟨hw, hrn, hm, hg, hkd, ha⟩ := id hD
  have hb : ∀ k, 0 ≤ cst w u g kd a f c k ∧ cst w u g kd a f c k ≤ 37 := fun k => cst_bd hg ha hrn.1
  have h := loopS (body := fun s : Int64 × Int32 => f_D_soundUnder_b20 (iz c) (iz u) (iz (kd f)) (iz (a f)) (iz w) (ar g) s.1 s.2) (fun k => (lz (sn (cst w u g kd a f c) k), iz k)) (lz (vc w u g kd a c f)) w (by omega)
    (fun k hk => by
      have hi := idx_lt hk hc
      have ww := sq_le hw
      have hgb := hg (k * w + c)
      have b := hb k
      have sb := sn_bd hb k
      have e : crn (kd f) (a f) (max 0 (g (k * w + c) - u)) k = cst w u g kd a f c k := rfl
      simp only [f_D_soundUnder_b20, z_cellAt, Option.bind_some]
      rw [z_wetOn (by omega) hrn hg]
      simp only [Option.bind_some]
      rw [z_stepBy (by omega) (hkd f) (ha f) (by omega)]
      simp only [Option.bind_some]
      rw [e, if_neg (by rw [iz_le (by omega) (by omega)]; omega), iz_succ, iz_long (by omega)]
      rw [show sn (cst w u g kd a f c) (k + 1) = 64 * sn (cst w u g kd a f c) k + cst w u g kd a f c k from rfl]
      obtain ⟨n, hn, en⟩ := natZ (v := sn (cst w u g kd a f c) k) (n := 1073741824) (by omega)
      obtain ⟨x, hx, ex⟩ := natZ (v := cst w u g kd a f c k) (n := 64) (by omega)
      rw [en, ex, lz_pack hn hx]
      rfl)
    (by
      simp only [f_D_soundUnder_b20]
      simp (disch := omega) only [iz_le, if_pos]
      rfl)
  unfold f_D_soundUnder
  rw [z_kindOf hf, z_weightOf hf]
  simp only [Option.bind_some]
  rw [show f_D_soundUnder_l20 (iz c) (iz u) (iz (kd f)) (iz (a f)) (iz w) (ar g) 0 0 = _ from h]
  rfl
def fls (w : Nat) (u : Int) (g kd a : Nat → Int) (c k : Nat) (s : Nat → Int64) : Nat → Int64 := fun j => if j < k then lz (vc w u g kd a c j) else s j
theorem z_listen (hD : Dr w u m g kd a) (hc : c < w) (s : Nat → Int64) : f_M_listen (iz c) (iz u) (iz w) (iz m) (ar g) (ar kd) (ar a) s = some (fls w u g kd a c m s) := by
  obtain ⟨hw, hrn, hm, hg, hkd, ha⟩ := id hD
  have h := loopS (body := fun s : Int32 × (Nat → Int64) => f_M_listen_b2 (iz c) (iz u) (iz w) (iz m) (ar g) (ar kd) (ar a) s.1 s.2) (fun k => (iz k, fls w u g kd a c k s)) (fls w u g kd a c m s) m (by omega)
    (fun k hk => by
      simp only [f_M_listen_b2, z_count hD.2.2.1, Option.bind_some]
      rw [z_soundUnder hD hc (show k < 8 by omega), if_neg (by rw [iz_le (by omega) (by omega)]; omega), iz_succ]
      simp only [Option.bind_some]
      rw [wrLn k (by omega) (by omega)]
      simp only [Option.bind_some]
      congr 3
      funext j
      rw [updL_at]
      unfold fls
      by_cases e : j = k
      · rw [if_pos e, if_pos (by omega), e]
      · rw [if_neg e]
        by_cases d : j < k
        · rw [if_pos d, if_pos (by omega)]
        · rw [if_neg d, if_neg (by omega)])
    (by
      simp only [f_M_listen_b2, z_count hD.2.2.1, Option.bind_some]
      simp (disch := omega) only [iz_le, if_pos])
  have e0 : fls w u g kd a c 0 s = s := by funext j; unfold fls; rw [if_neg (by omega)]
  rw [e0] at h
  unfold f_M_listen
  rw [show f_M_listen_l2 (iz c) (iz u) (iz w) (iz m) (ar g) (ar kd) (ar a) 0 s = _ from h]
  rfl
/-- h sounds as f does -/
def sme (w : Nat) (u : Int) (g kd a : Nat → Int) (c f h : Nat) : Bool := alb (fun k => decide (cst w u g kd a h c k = cst w u g kd a f c k)) w
theorem vc_eq (hD : Dr w u m g kd a) (f h : Nat) : (vc w u g kd a c h = vc w u g kd a c f) = (sme w u g kd a c f h = true) := by
  obtain ⟨hw, hrn, hm, hg, hkd, ha⟩ := id hD
  exact sn_inj (fun k => cst_bd hg ha hrn.1) (fun k => cst_bd hg ha hrn.1) w
theorem vc_bd (hD : Dr w u m g kd a) (f : Nat) : 0 ≤ vc w u g kd a c f ∧ vc w u g kd a c f < 68719476736 := by
  obtain ⟨hw, hrn, hm, hg, hkd, ha⟩ := id hD
  have := sn_bd (t := cst w u g kd a f c) (fun k => cst_bd hg ha hrn.1) w
  unfold vc
  omega
theorem z_soundingAs (hD : Dr w u m g kd a) (hf : f < m) (s : Nat → Int64) : f_M_soundingAs (iz f) (iz m) (fls w u g kd a c m s) = some (iz ((bn (sme w u g kd a c f) m : Nat) : Int)) := by
  obtain ⟨hw, hrn, hm, hg, hkd, ha⟩ := id hD
  have h := loopF (body := fun s' : Int32 × Int32 => f_M_soundingAs_b4 (iz f) (iz m) (fls w u g kd a c m s) s'.1 s'.2) (fun b k => (b, iz k)) (kbit (sme w u g kd a c f)) (fun b => b) 0 m (by omega)
    (fun k b hk => by
      have b1 := vc_bd (c := c) hD k
      have b2 := vc_bd (c := c) hD f
      have e := vc_eq (c := c) hD f k
      simp only [f_M_soundingAs_b4, z_count hD.2.2.1, Option.bind_some]
      rw [rdLn k (by omega) (by omega), rdLn f (by omega) (by omega), show fls w u g kd a c m s k = lz (vc w u g kd a c k) from if_pos hk, show fls w u g kd a c m s f = lz (vc w u g kd a c f) from if_pos hf]
      simp only [Option.bind_some]
      rw [if_neg (by rw [iz_le (by omega) (by omega)]; omega), iz_succ]
      unfold kbit
      by_cases q : sme w u g kd a c f k = true
      · rw [if_pos (by rw [lg_eq (by omega) (by omega), e]; exact q), if_neg (by rw [q]; decide)]
      · rw [if_neg (by rw [lg_eq (by omega) (by omega), e]; exact q), if_pos (by simpa using q)])
    (fun b => by
      simp only [f_M_soundingAs_b4, z_count hD.2.2.1, Option.bind_some]
      simp (disch := omega) only [iz_le, if_pos])
  unfold f_M_soundingAs
  rw [show f_M_soundingAs_l4 (iz f) (iz m) (fls w u g kd a c m s) 0 0 = _ from h, fo_kbit _ m hm]
  rfl
theorem sme_own (w : Nat) (u : Int) (g kd a : Nat → Int) (c f : Nat) : sme w u g kd a c f f = true := alb_I (fun j _ => decide_eq_true rfl)
theorem d_one : ∀ f : Nat, f < 8 → (1 : Int32) <<< (iz (f : Int) &&& 31) = iz ((2 ^ f : Nat) : Int) ∧ ∀ j : Nat, j < 8 → (2 ^ f / 2 ^ j % 2 = 1 ↔ j = f) := by decide +kernel
theorem bn_congr {P Q : Nat → Bool} : ∀ m, (∀ k, k < m → P k = Q k) → bn P m = bn Q m
  | 0, _ => rfl
  | m + 1, h => by
    unfold bn
    rw [h m (by omega), bn_congr m (fun k hk => h k (by omega))]
theorem bn_one {f : Nat} : ∀ m, bn (fun j => decide (j = f)) m = if f < m then 2 ^ f else 0
  | 0 => rfl
  | m + 1 => by
    unfold bn
    rw [bn_one m]
    by_cases e : m = f
    · subst e
      rw [if_pos (decide_eq_true rfl), if_neg (Nat.lt_irrefl m), if_pos (Nat.lt_succ_self m), Nat.zero_add]
    · rw [if_neg (by simp [e])]
      by_cases d : f < m
      · rw [if_pos d, if_pos (by omega)]
      · rw [if_neg d, if_neg (by omega)]
/-- no other sounds as f does -/
def alo (P : Nat → Nat → Bool) (m f : Nat) : Bool := alb (fun h => decide (h = f) || !P f h) m
theorem bn_alo {P : Nat → Nat → Bool} (hm : m ≤ 8) (hf : f < m) (hP : P f f = true) : (bn (P f) m = 2 ^ f) = (alo P m f = true) := propext (by
  constructor
  · intro h
    apply alb_I
    intro j hj
    have b := bn_bit (P f) m hm j hj
    rw [h, (d_one f (by omega)).2 j (by omega)] at b
    by_cases e : j = f
    · simp [e]
    · have : ¬ P f j = true := fun q => e (b.mpr q)
      simp [this]
  · intro h
    have h2 := alb_T h
    rw [bn_congr (Q := fun j => decide (j = f)) m (fun k hk => by
      have := h2 k hk
      by_cases e : k = f
      · simp [e, hP]
      · simpa [e] using this), bn_one, if_pos hf])
theorem pow_lt8 (hf : f < 8) : (2 ^ f : Nat) < 256 := Nat.pow_lt_pow_right (by decide) hf
theorem z_apartUnder (hD : Dr w u m g kd a) (hc : c < w) (s : Nat → Int64) : f_M_apartUnder (iz c) (iz u) (iz w) (iz m) (ar g) (ar kd) (ar a) s = some (iz ((cn (alo (sme w u g kd a c) m) m : Nat) : Int), fls w u g kd a c m s) := by
  obtain ⟨hw, hrn, hm, hg, hkd, ha⟩ := id hD
  have h := loopS (body := fun s' : Int32 × Int32 => f_M_apartUnder_b11 (iz m) (fls w u g kd a c m s) s'.1 s'.2) (fun k => (iz ((cn (alo (sme w u g kd a c) m) k : Nat) : Int), iz k)) (iz ((cn (alo (sme w u g kd a c) m) m : Nat) : Int)) m (by omega)
    (fun k hk => by
      have bl := bn_lt8 (sme w u g kd a c k) hm
      have pl := pow_lt8 (f := k) (by omega)
      have e := bn_alo hm hk (sme_own w u g kd a c k)
      have on := (d_one k (by omega)).1
      generalize 2 ^ k = p at pl e on
      simp only [f_M_apartUnder_b11, z_count hD.2.2.1, Option.bind_some]
      rw [z_soundingAs hD hk, on]
      simp only [Option.bind_some]
      rw [if_neg (by rw [iz_le (by omega) (by omega)]; omega), iz_succ, iz_succ]
      rw [show cn (alo (sme w u g kd a c) m) (k + 1) = if alo (sme w u g kd a c) m k = true then cn (alo (sme w u g kd a c) m) k + 1 else cn (alo (sme w u g kd a c) m) k from rfl]
      by_cases q : alo (sme w u g kd a c) m k = true
      · rw [if_pos q, if_pos (by rw [iz_eq (by omega) (by omega)]; rw [← e] at q; omega)]
      · rw [if_neg q, if_neg (by rw [iz_eq (by omega) (by omega)]; rw [← e] at q; omega)])
    (by
      simp only [f_M_apartUnder_b11, z_count hD.2.2.1, Option.bind_some]
      simp (disch := omega) only [iz_le, if_pos])
  unfold f_M_apartUnder
  rw [z_listen hD hc]
  simp only [Option.bind_some]
  rw [show f_M_apartUnder_l11 (iz m) (fls w u g kd a c m s) 0 0 = _ from h]
  rfl
theorem gpz_sme (hD : Dr w u m g kd a) (f h : Nat) : (gpz w u g kd a f h c = -1) = (sme w u g kd a c f h = true) := propext (by
  have e := alb_fnd (fun k => decide (cst w u g kd a h c k = cst w u g kd a f c k)) w
  have e2 : fnd (dif w u g kd a f h c) 0 w = fnd (fun k => !decide (cst w u g kd a h c k = cst w u g kd a f c k)) 0 w := fnd_congr w 0 (fun k _ _ => by
    unfold dif
    by_cases q : cst w u g kd a f c k = cst w u g kd a h c k
    · simp [q]
    · have q2 : ¬ cst w u g kd a h c k = cst w u g kd a f c k := fun z => q z.symm
      simp [q, q2])
  unfold gpz
  rw [e2]
  unfold sme
  by_cases q : alb (fun k => decide (cst w u g kd a h c k = cst w u g kd a f c k)) w = false
  · rw [if_pos (by rw [e]; exact q), q]
    constructor
    · intro z; omega
    · intro z; cases z
  · rw [if_neg (by rw [e]; exact q)]
    constructor
    · intro _; simpa using q
    · intro _; rfl)
theorem y_apartI (hD : Dr w u m g kd a) (hc : c < w) (hf : f < m) : f_R_apartOn_l18 (iz c) (iz f) (iz w) (iz u) (iz m) (ar g) (ar kd) (ar a) (iz 1) (iz 0) = some (if alo (sme w u g kd a c) m f = true then 1 else 0) := by
  obtain ⟨hw, hrn, hm, hg, hkd, ha⟩ := id hD
  exact loopS (body := fun s' : Int32 × Int32 => f_R_apartOn_b18 (iz c) (iz f) (iz w) (iz u) (iz m) (ar g) (ar kd) (ar a) s'.1 s'.2) (fun k => (if alb (fun h => decide (h = f) || !sme w u g kd a c f h) k = true then 1 else 0, iz k)) _ m (by omega)
    (fun k hk => by
      have e := gpz_sme (c := c) hD f k
      have hle := fnd_le (dif w u g kd a f k c) w 0
      have gb : -1 ≤ gpz w u g kd a f k c ∧ gpz w u g kd a f k c ≤ 6 := by unfold gpz; split <;> omega
      simp only [f_R_apartOn_b18]
      rw [if_neg (by rw [iz_le (by omega) (by omega)]; omega), iz_succ, y_gapOf hD hf hk hc]
      simp only [Option.bind_some]
      rw [show alb (fun h => decide (h = f) || !sme w u g kd a c f h) (k + 1) = (alb (fun h => decide (h = f) || !sme w u g kd a c f h) k && (decide (k = f) || !sme w u g kd a c f k)) from rfl]
      by_cases d : k = f
      · rw [if_pos (by rw [iz_eq (by omega) (by omega)]; omega), decide_eq_true d, Bool.true_or, Bool.and_true]
      · rw [if_neg (by rw [iz_eq (by omega) (by omega)]; omega), decide_eq_false d, Bool.false_or]
        by_cases q : sme w u g kd a c f k = true
        · rw [if_pos (by rw [l_1, iz_neg, iz_eq (by omega) (by omega), e]; exact q), q, Bool.not_true, Bool.and_false, if_neg (by decide)]
        · rw [if_neg (by rw [l_1, iz_neg, iz_eq (by omega) (by omega), e]; exact q), show sme w u g kd a c f k = false by simpa using q, Bool.not_false, Bool.and_true])
    (by
      simp only [f_R_apartOn_b18]
      simp (disch := omega) only [iz_le, if_pos]
      rfl)
theorem y_apartOn (hD : Dr w u m g kd a) (hc : c < w) : f_R_apartOn (iz c) (iz w) (iz u) (iz m) (ar g) (ar kd) (ar a) = some (iz ((cn (alo (sme w u g kd a c) m) m : Nat) : Int)) := by
  obtain ⟨hw, hrn, hm, hg, hkd, ha⟩ := id hD
  have h := loopS (body := fun s' : Int32 × Int32 => f_R_apartOn_b4 (iz c) (iz w) (iz u) (iz m) (ar g) (ar kd) (ar a) s'.1 s'.2) (fun k => (iz ((cn (alo (sme w u g kd a c) m) k : Nat) : Int), iz k)) (iz ((cn (alo (sme w u g kd a c) m) m : Nat) : Int)) m (by omega)
    (fun k hk => by
      simp only [f_R_apartOn_b4]
      rw [show f_R_apartOn_l18 (iz c) (iz k) (iz w) (iz u) (iz m) (ar g) (ar kd) (ar a) 1 0 = _ from y_apartI hD hc hk]
      simp only [Option.bind_some]
      rw [if_neg (by rw [iz_le (by omega) (by omega)]; omega), iz_succ, iz_succ]
      rw [show cn (alo (sme w u g kd a c) m) (k + 1) = if alo (sme w u g kd a c) m k = true then cn (alo (sme w u g kd a c) m) k + 1 else cn (alo (sme w u g kd a c) m) k from rfl]
      by_cases q : alo (sme w u g kd a c) m k = true
      · rw [if_pos q, if_pos q, if_neg (by decide)]
      · rw [if_neg q, if_neg q, if_pos rfl])
    (by
      simp only [f_R_apartOn_b4]
      simp (disch := omega) only [iz_le, if_pos])
  unfold f_R_apartOn
  rw [show f_R_apartOn_l4 (iz c) (iz w) (iz u) (iz m) (ar g) (ar kd) (ar a) 0 0 = _ from h]
  rfl
end
theorem q_apart {w m : Nat} {rn : Int} {g kd a : Nat → Int} {rm rr : Nat → Int32} (hD : Dr w rn m g kd a) (hr : RF rm rr) (v1 : Int32) (s : Nat → Int64) :
    ∃ ans s' rm' rr', f_M_apart v1 (iz w) (iz rn) (iz m) (ar g) (ar kd) (ar a) s rm = some (ans, s', rm') ∧ f_R_apart v1 (iz w) (iz rn) (iz m) (ar g) (ar kd) (ar a) rr = some (ans, rr') ∧ RF rm' rr' := by
  obtain ⟨hw, hrn, hm, hg, hkd, ha⟩ := id hD
  obtain ⟨x, hx, rfl⟩ := anyI v1
  obtain ⟨rm2, rr2, e1, e2, hr2⟩ := z_ref (why := -2) (by omega) hr
  unfold f_M_apart f_R_apart
  by_cases c1 : 0 ≤ x ∧ x < w
  · obtain ⟨c, hc, rfl⟩ := natZ (n := w) c1
    simp (disch := omega) only [l_0, l_1, l_2, l_3, l_4, l_5, l_6, l_7, l_8, l_9, l_10, l_12, l_16, l_32, l_35, l_36, l_40, l_48, l_59, l_57, l_60, l_97, l_99, l_100, l_122, l_250, l_255, l_1000, l_10000, l_20000, l_1000000, l_12345, l_1103515245, iz_neg, iz_add, iz_sub, iz_mul, iz_lt, iz_le, iz_eq, Option.bind_some, b1_i0, b1_i1, zr_b1, Classical.not_not, if_pos, if_neg, z_isColumn, y_isColumn]
    rw [z_apartUnder hD hc, y_apartOn hD hc]
    exact ⟨_, _, _, _, rfl, rfl, hr⟩
  · simp (disch := omega) only [l_0, l_1, l_2, l_3, l_4, l_5, l_6, l_7, l_8, l_9, l_10, l_12, l_16, l_32, l_35, l_36, l_40, l_48, l_59, l_57, l_60, l_97, l_99, l_100, l_122, l_250, l_255, l_1000, l_10000, l_20000, l_1000000, l_12345, l_1103515245, iz_neg, iz_add, iz_sub, iz_mul, iz_lt, iz_le, iz_eq, Option.bind_some, b1_i0, b1_i1, zr_b1, Classical.not_not, if_pos, if_neg, z_isColumn, y_isColumn, e1, e2]
    exact ⟨_, _, _, _, rfl, rfl, hr2⟩

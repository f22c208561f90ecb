/-! confused -/
def bt (x j : Nat) : Bool := decide (x / 2 ^ j % 2 = 1)
def sb (x j : Nat) : Nat := if bt x j = true then x else x + 2 ^ j
def vb (b : Nat → Bool) : Nat := (if b 0 = true then 1 else 0) + (if b 1 = true then 2 else 0) + (if b 2 = true then 4 else 0) + (if b 3 = true then 8 else 0) + (if b 4 = true then 16 else 0) + (if b 5 = true then 32 else 0) + (if b 6 = true then 64 else 0) + (if b 7 = true then 128 else 0)
theorem d_vb : ∀ x : Nat, x < 256 → vb (bt x) = x := by decide +kernel
theorem d_sb : ∀ x : Nat, x < 256 → ∀ j : Nat, j < 8 → sb x j < 256 ∧ iz (x : Int) ||| (1 <<< (iz (j : Int) &&& 31)) = iz ((sb x j : Nat) : Int) ∧ ∀ i : Nat, i < 8 → bt (sb x j) i = (bt x i || decide (i = j)) := by decide +kernel
theorem bt_ext {x y : Nat} (hx : x < 256) (hy : y < 256) (h : ∀ j, j < 8 → bt x j = bt y j) : x = y := by
  rw [← d_vb x hx, ← d_vb y hy]
  unfold vb
  rw [h 0 (by omega), h 1 (by omega), h 2 (by omega), h 3 (by omega), h 4 (by omega), h 5 (by omega), h 6 (by omega), h 7 (by omega)]
def anb (q : Nat → Bool) : Nat → Bool
  | 0 => false
  | k + 1 => anb q k || q k
theorem anb_iff (q : Nat → Bool) : ∀ n, anb q n = true ↔ ∃ k, k < n ∧ q k = true
  | 0 => ⟨fun h => (by cases h), fun ⟨k, hk, _⟩ => (by omega)⟩
  | n + 1 => by
    unfold anb
    rw [Bool.or_eq_true, anb_iff q n]
    constructor
    · rintro (⟨k, h1, h2⟩ | h)
      · exact ⟨k, by omega, h2⟩
      · exact ⟨n, by omega, h⟩
    · rintro ⟨k, h1, h2⟩
      by_cases e : k = n
      · rw [e] at h2; exact Or.inr h2
      · exact Or.inl ⟨k, by omega, h2⟩
theorem fo_bt {g : Nat → Nat → Nat} {q : Nat → Nat → Bool} : ∀ n, (∀ k x, k < n → x < 256 → g k x < 256 ∧ ∀ j, j < 8 → bt (g k x) j = (bt x j || q k j)) → ∀ x, x < 256 → fo g n x < 256 ∧ ∀ j, j < 8 → bt (fo g n x) j = (bt x j || anb (fun k => q k j) n)
  | 0, _, x, hx => ⟨hx, fun j _ => by unfold fo anb; rw [Bool.or_false]⟩
  | n + 1, h, x, hx => by
    obtain ⟨i1, i2⟩ := fo_bt n (fun k x hk => h k x (by omega)) x hx
    obtain ⟨j1, j2⟩ := h n (fo g n x) (by omega) i1
    refine ⟨j1, fun j hj => ?_⟩
    show bt (g n (fo g n x)) j = _
    rw [j2 j hj, i2 j hj, show anb (fun k => q k j) (n + 1) = (anb (fun k => q k j) n || q n j) from rfl, Bool.or_assoc]
theorem anb_swap (A : Nat → Nat → Bool) (n m : Nat) : anb (fun c => anb (fun h => A c h) m) n = anb (fun h => anb (fun c => A c h) n) m := by
  have e : anb (fun c => anb (fun h => A c h) m) n = true ↔ anb (fun h => anb (fun c => A c h) n) m = true := by
    rw [anb_iff, anb_iff]
    constructor
    · rintro ⟨c, h1, h2⟩
      obtain ⟨h, h3, h4⟩ := (anb_iff _ _).mp h2
      exact ⟨h, h3, (anb_iff _ _).mpr ⟨c, h1, h4⟩⟩
    · rintro ⟨h, h1, h2⟩
      obtain ⟨c, h3, h4⟩ := (anb_iff _ _).mp h2
      exact ⟨c, h3, (anb_iff _ _).mpr ⟨h, h1, h4⟩⟩
  exact Bool.eq_iff_iff.mpr e
def cfs (P : Nat → Nat → Bool) (f c h x : Nat) : Nat := if h = f then x else if P c h = true then sb x h else x
theorem cfs_bt {P : Nat → Nat → Bool} {f c h x : Nat} (hh : h < 8) (hx : x < 256) : cfs P f c h x < 256 ∧ ∀ j, j < 8 → bt (cfs P f c h x) j = (bt x j || (decide (¬ h = f) && P c h && decide (j = h))) := by
  obtain ⟨s1, s2, s3⟩ := d_sb x hx h hh
  unfold cfs
  by_cases e : h = f
  · rw [if_pos e]
    exact ⟨hx, fun j _ => by simp [e]⟩
  · rw [if_neg e]
    by_cases q : P c h = true
    · rw [if_pos q]
      exact ⟨s1, fun j hj => by rw [s3 j hj]; simp [e, q]⟩
    · rw [if_neg q]
      exact ⟨hx, fun j _ => by simp [q]⟩
theorem cfs_swap {P : Nat → Nat → Bool} {f w m : Nat} (hm : m ≤ 8) : fo (fun c x => fo (fun h x => cfs P f c h x) m x) w 0 = fo (fun h x => fo (fun c x => cfs P f c h x) w x) m 0 ∧ fo (fun c x => fo (fun h x => cfs P f c h x) m x) w 0 < 256 := by
  have a1 := fo_bt (g := fun c x => fo (fun h x => cfs P f c h x) m x) (q := fun c j => anb (fun h => decide (¬ h = f) && P c h && decide (j = h)) m) w
    (fun c x _ hx => fo_bt (q := fun h j => decide (¬ h = f) && P c h && decide (j = h)) m (fun h x hh hx => cfs_bt (by omega) hx) x hx) 0 (by omega)
  have a2 := fo_bt (g := fun h x => fo (fun c x => cfs P f c h x) w x) (q := fun h j => anb (fun c => decide (¬ h = f) && P c h && decide (j = h)) w) m
    (fun h x hh hx => fo_bt (q := fun c j => decide (¬ h = f) && P c h && decide (j = h)) w (fun c x _ hx => cfs_bt (by omega) hx) x hx) 0 (by omega)
  refine ⟨bt_ext a1.1 a2.1 (fun j hj => ?_), a1.1⟩
  rw [a1.2 j hj, a2.2 j hj, anb_swap]
section
variable {w m : Nat} {u : Int} {g kd a : Nat → Int} {c f : Nat}
theorem fo_lt {g : Nat → Nat → Nat} : ∀ n, (∀ k x, k < n → x < 256 → g k x < 256) → ∀ x, x < 256 → fo g n x < 256
  | 0, _, x, hx => hx
  | n + 1, h, x, hx => h n _ (by omega) (fo_lt n (fun k x hk => h k x (by omega)) x hx)
theorem z_confI (hD : Dr w u m g kd a) (hf : f < m) (hc : c < w) (s : Nat → Int64) (x : Nat) (hx : x < 256) :
    f_M_confused_l45 (iz f) (iz m) (fls w u g kd a c m s) (iz x) (iz 0) = some (iz ((fo (fun h x => cfs (fun c h => sme w u g kd a c f h) f c h x) m x : Nat) : Int)) := by
  obtain ⟨hw, hrn, hm, hg, hkd, ha⟩ := id hD
  exact (loopFI (body := fun s' : Int32 × Int32 => f_M_confused_b45 (iz f) (iz m) (fls w u g kd a c m s) s'.1 s'.2) (fun _ (x : Nat) => x < 256) (fun (x : Nat) k => (iz x, iz k)) (fun h x => cfs (fun c h => sme w u g kd a c f h) f c h x) (fun (x : Nat) => iz x) x m (by omega) hx
    (fun k x hk hI => (cfs_bt (by omega) hI).1)
    (fun k x hk hI => by
      have b1 := vc_bd (c := c) hD k
      have b2 := vc_bd (c := c) hD f
      have e := vc_eq (c := c) hD f k
      simp only [f_M_confused_b45, z_count hD.2.2.1, Option.bind_some]
      rw [rdLn k (by omega) (by omega), rdLn f (by omega) (by omega), show fls w u g kd a c m s k = lz (vc w u g kd a c k) from if_pos hk, show fls w u g kd a c m s f = lz (vc w u g kd a c f) from if_pos hf]
      simp only [Option.bind_some]
      rw [if_neg (by rw [iz_le (by omega) (by omega)]; omega), iz_succ]
      unfold cfs
      by_cases d : k = f
      · rw [if_pos (by rw [d]), if_pos d]
      · rw [if_neg (by rw [iz_eq (by omega) (by omega)]; omega), if_neg d]
        by_cases q : sme w u g kd a c f k = true
        · rw [if_pos (by rw [lg_eq (by omega) (by omega), e]; exact q), if_pos q, (d_sb x hI k (by omega)).2.1]
        · rw [if_neg (by rw [lg_eq (by omega) (by omega), e]; exact q), if_neg q])
    (fun x _ => by
      simp only [f_M_confused_b45, z_count hD.2.2.1, Option.bind_some]
      simp (disch := omega) only [iz_le, if_pos])).1
theorem z_confL (hD : Dr w u m g kd a) (hf : f < m) (s : Nat → Int64) : ∃ s',
    f_M_confused_l19 (iz f) (iz w) (iz u) (iz m) (ar g) (ar kd) (ar a) (iz 0) (iz 0) s = some (iz ((fo (fun c x => fo (fun h x => cfs (fun c h => sme w u g kd a c f h) f c h x) m x) w 0 : Nat) : Int), s') := by
  obtain ⟨hw, hrn, hm, hg, hkd, ha⟩ := id hD
  refine ⟨sS w u g kd a m s w, ?_⟩
  exact loopS (body := fun s' : Int32 × Int32 × (Nat → Int64) => f_M_confused_b19 (iz f) (iz w) (iz u) (iz m) (ar g) (ar kd) (ar a) s'.1 s'.2.1 s'.2.2) (fun k => (iz ((fo (fun c x => fo (fun h x => cfs (fun c h => sme w u g kd a c f h) f c h x) m x) k 0 : Nat) : Int), iz k, sS w u g kd a m s k)) _ w (by omega)
    (fun k hk => by
      have hx : fo (fun c x => fo (fun h x => cfs (fun c h => sme w u g kd a c f h) f c h x) m x) k 0 < 256 := fo_lt k (fun c x _ hx => fo_lt m (fun h x hh hx => (cfs_bt (by omega) hx).1) x hx) 0 (by omega)
      simp only [f_M_confused_b19]
      rw [z_listen hD hk, if_neg (by rw [iz_le (by omega) (by omega)]; omega), iz_succ]
      simp only [Option.bind_some]
      rw [show f_M_confused_l45 (iz f) (iz m) (fls w u g kd a k m (sS w u g kd a m s k)) (iz ((fo (fun c x => fo (fun h x => cfs (fun c h => sme w u g kd a c f h) f c h x) m x) k 0 : Nat) : Int)) 0 = _ from z_confI hD hf hk _ _ hx]
      rfl)
    (by
      simp only [f_M_confused_b19]
      simp (disch := omega) only [iz_le, if_pos])
theorem sme_symm (w : Nat) (u : Int) (g kd a : Nat → Int) (c f h : Nat) : sme w u g kd a c h f = sme w u g kd a c f h := by
  unfold sme
  congr 1
  funext k
  by_cases q : cst w u g kd a f c k = cst w u g kd a h c k
  · simp [q]
  · have q2 : ¬ cst w u g kd a h c k = cst w u g kd a f c k := fun z => q z.symm
    simp [q, q2]
theorem y_confI (hD : Dr w u m g kd a) (hf : f < m) {h : Nat} (hh : h < m) (x : Nat) (hx : x < 256) :
    f_R_confused_l30 (iz f) (iz h) (iz w) (iz u) (ar g) (ar kd) (ar a) (iz x) (iz 0) = some (iz ((fo (fun c x => cfs (fun c h => sme w u g kd a c f h) f c h x) w x : Nat) : Int)) := by
  obtain ⟨hw, hrn, hm, hg, hkd, ha⟩ := id hD
  exact (loopFI (body := fun s' : Int32 × Int32 => f_R_confused_b30 (iz f) (iz h) (iz w) (iz u) (ar g) (ar kd) (ar a) s'.1 s'.2) (fun _ (x : Nat) => x < 256) (fun (x : Nat) k => (iz x, iz k)) (fun c x => cfs (fun c h => sme w u g kd a c f h) f c h x) (fun (x : Nat) => iz x) x w (by omega) hx
    (fun k x hk hI => (cfs_bt (by omega) hI).1)
    (fun k x hk hI => by
      have e := gpz_sme (c := k) hD h f
      rw [sme_symm] at e
      have hle := fnd_le (dif w u g kd a h f k) w 0
      have gb : -1 ≤ gpz w u g kd a h f k ∧ gpz w u g kd a h f k ≤ 6 := by unfold gpz; split <;> omega
      simp only [f_R_confused_b30]
      rw [y_gapOf hD hh hf hk]
      simp only [Option.bind_some]
      rw [if_neg (by rw [iz_le (by omega) (by omega)]; omega), iz_succ]
      unfold cfs
      by_cases d : h = f
      · rw [if_pos (by rw [d]), if_pos d]
      · rw [if_neg (by rw [iz_eq (by omega) (by omega)]; omega), if_neg d]
        by_cases q : sme w u g kd a k f h = true
        · rw [if_pos (by rw [l_1, iz_neg, iz_eq (by omega) (by omega), e]; exact q), if_pos q, (d_sb x hI h (by omega)).2.1]
        · rw [if_neg (by rw [l_1, iz_neg, iz_eq (by omega) (by omega), e]; exact q), if_neg q])
    (fun x _ => by
      simp only [f_R_confused_b30]
      simp (disch := omega) only [iz_le, if_pos])).1
theorem y_confL (hD : Dr w u m g kd a) (hf : f < m) :
    f_R_confused_l19 (iz f) (iz w) (iz u) (iz m) (ar g) (ar kd) (ar a) (iz 0) (iz 0) = some (iz ((fo (fun h x => fo (fun c x => cfs (fun c h => sme w u g kd a c f h) f c h x) w x) m 0 : Nat) : Int)) := by
  obtain ⟨hw, hrn, hm, hg, hkd, ha⟩ := id hD
  exact loopS (body := fun s' : Int32 × Int32 => f_R_confused_b19 (iz f) (iz w) (iz u) (iz m) (ar g) (ar kd) (ar a) s'.1 s'.2) (fun k => (iz ((fo (fun h x => fo (fun c x => cfs (fun c h => sme w u g kd a c f h) f c h x) w x) k 0 : Nat) : Int), iz k)) _ m (by omega)
    (fun k hk => by
      have hx : fo (fun h x => fo (fun c x => cfs (fun c h => sme w u g kd a c f h) f c h x) w x) k 0 < 256 := fo_lt k (fun h x hh hx => fo_lt w (fun c x _ hx => (cfs_bt (by omega) hx).1) x hx) 0 (by omega)
      simp only [f_R_confused_b19]
      rw [if_neg (by rw [iz_le (by omega) (by omega)]; omega), iz_succ]
      rw [show f_R_confused_l30 (iz f) (iz k) (iz w) (iz u) (ar g) (ar kd) (ar a) (iz ((fo (fun h x => fo (fun c x => cfs (fun c h => sme w u g kd a c f h) f c h x) w x) k 0 : Nat) : Int)) 0 = _ from y_confI hD hf hk _ hx]
      rfl)
    (by
      simp only [f_R_confused_b19]
      simp (disch := omega) only [iz_le, if_pos])
end
theorem q_confused {w m : Nat} {rn : Int} {g kd a : Nat → Int} {rm rr : Nat → Int32} (hD : Dr w rn m g kd a) (hr : RF rm rr) (v1 : Int32) (s : Nat → Int64) :
    ∃ ans s' rm' rr', f_M_confused v1 (iz w) (iz rn) (iz m) (ar g) (ar kd) (ar a) s rm = some (ans, s', rm') ∧ f_R_confused v1 (iz w) (iz rn) (iz m) (ar g) (ar kd) (ar a) rr = some (ans, rr') ∧ RF rm' rr' := by
  obtain ⟨hw, hrn, hm, hg, hkd, ha⟩ := id hD
  obtain ⟨x, hx, rfl⟩ := anyI v1
  obtain ⟨rm2, rr2, e1, e2, hr2⟩ := z_ref (why := -2) (by omega) hr
  unfold f_M_confused f_R_confused
  by_cases c1 : 0 ≤ x ∧ x < m
  · obtain ⟨f, hf, rfl⟩ := natZ (n := m) c1
    obtain ⟨s2, f1⟩ := z_confL hD hf s
    simp (disch := omega) only [l_0, l_1, l_2, l_3, l_4, l_5, l_6, l_7, l_8, l_9, l_10, l_12, l_16, l_32, l_35, l_36, l_40, l_48, l_59, l_57, l_60, l_97, l_99, l_100, l_122, l_250, l_255, l_1000, l_10000, l_20000, l_1000000, l_12345, l_1103515245, iz_neg, iz_add, iz_sub, iz_mul, iz_lt, iz_le, iz_eq, Option.bind_some, b1_i0, b1_i1, zr_b1, Classical.not_not, if_pos, if_neg, z_isFeet, y_isFeet]
    rw [f1, y_confL hD hf, (cfs_swap hm).1]
    exact ⟨_, _, _, _, rfl, rfl, hr⟩
  · simp (disch := omega) only [l_0, l_1, l_2, l_3, l_4, l_5, l_6, l_7, l_8, l_9, l_10, l_12, l_16, l_32, l_35, l_36, l_40, l_48, l_59, l_57, l_60, l_97, l_99, l_100, l_122, l_250, l_255, l_1000, l_10000, l_20000, l_1000000, l_12345, l_1103515245, iz_neg, iz_add, iz_sub, iz_mul, iz_lt, iz_le, iz_eq, Option.bind_some, b1_i0, b1_i1, zr_b1, Classical.not_not, if_pos, if_neg, z_isFeet, y_isFeet, e1, e2]
    exact ⟨_, _, _, _, rfl, rfl, hr2⟩

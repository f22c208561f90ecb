/-! two loops walked together; arrivals -/
theorem loopR {σ τ ρ π : Type} {b1 : σ → Option (σ ⊕ ρ)} {b2 : τ → Option (τ ⊕ π)} (R : Nat → σ → τ → Prop) (Q : ρ → π → Prop) (N : Nat) (hN : N < 100000) (hs : ∀ k s t, k < N → R k s t → ∃ s' t', b1 s = some (.inl s') ∧ b2 t = some (.inl t') ∧ R (k + 1) s' t') (he : ∀ s t, R N s t → ∃ r p, b1 s = some (.inr r) ∧ b2 t = some (.inr p) ∧ Q r p) (s : σ) (t : τ) (h0 : R 0 s t) :
    ∃ r p, iter b1 FUEL s = some r ∧ iter b2 FUEL t = some p ∧ Q r p := by
  have key : ∀ d k n s t, k + d = N → d < n → R k s t → ∃ r p, iter b1 n s = some r ∧ iter b2 n t = some p ∧ Q r p := by
    intro d
    induction d with
    | zero =>
      intro k n s t h1 h2 hR
      obtain ⟨n, rfl⟩ : ∃ j, n = j + 1 := ⟨n - 1, by omega⟩
      have e : k = N := by omega
      subst e
      obtain ⟨r, p, q1, q2, q3⟩ := he s t hR
      exact ⟨r, p, iterD q1, iterD q2, q3⟩
    | succ d ih =>
      intro k n s t h1 h2 hR
      obtain ⟨n, rfl⟩ : ∃ j, n = j + 1 := ⟨n - 1, by omega⟩
      obtain ⟨s', t', q1, q2, q3⟩ := hs k s t (by omega) hR
      rw [iterS q1, iterS q2]
      exact ih (k + 1) n s' t' (by omega) (by omega) q3
  exact key N 0 FUEL s t (by omega) (by unfold FUEL; omega) h0
theorem ushr16 (x : Int32) : ∃ n : Nat, n < 65536 ∧ ushr x 16 = iz (n : Int) := by
  refine ⟨(x.toUInt32 >>> 16).toNat, ?_, ?_⟩
  · rw [UInt32.toNat_shiftRight]
    have h := UInt32.toNat_lt x.toUInt32
    show x.toUInt32.toNat >>> 16 < 65536
    rw [Nat.shiftRight_eq_div_pow]
    omega
  · have e : ((16 : Int32).toUInt32 &&& Int32.toUInt32 31) = 16 := by decide
    show (x.toUInt32 >>> ((16 : Int32).toUInt32 &&& Int32.toUInt32 31)).toInt32 = _
    rw [e]
    apply Int32.toBitVec_inj.mp
    show (x.toUInt32 >>> 16).toBitVec = BitVec.ofNat 32 (x.toUInt32 >>> 16).toNat
    apply BitVec.eq_of_toNat_eq
    rw [BitVec.toNat_ofNat]
    generalize x.toUInt32 >>> 16 = y
    show y.toNat = y.toNat % 2 ^ 32
    rw [Nat.mod_eq_of_lt (UInt32.toNat_lt y)]
def fdd (l : Nat → Int) (d : Int) (k : Nat) : Bool := decide (d < sm l (k + 1))
section
variable {w m : Nat} {u : Int} {g kd a l : Nat → Int} {c f : Nat}
theorem fdd_lt (hm0 : 0 < m) {d : Int} (hd : d < sm l m) : fnd (fdd l d) 0 m < m := by
  have hle := fnd_le (fdd l d) m 0
  by_cases q : fnd (fdd l d) 0 m < m
  · exact q
  · have h := of_decide_eq_false (fnd_no (fdd l d) m 0 (m - 1) (by omega) (by omega))
    rw [show m - 1 + 1 = m by omega] at h
    exact absurd hd h
theorem sm_0 (hl : ∀ j, 0 ≤ l j ∧ l j ≤ 99) {k : Nat} (hk : k ≤ 8) : 0 ≤ sm l k ∧ sm l k ≤ 792 := by
  have := sm_bd (g := l) (b := 99) k (fun j _ => hl j)
  omega
theorem z_drawL (hm : m ≤ 8) (hm0 : 0 < m) (hl : ∀ j, 0 ≤ l j ∧ l j ≤ 99) {d : Int} (hd : 0 ≤ d ∧ d < sm l m) :
    f_D_drawFeet_l11 (iz m) (ar l) (iz d) (iz 0) = some (.inl (iz ((fnd (fdd l d) 0 m : Nat) : Int))) := by
  have hlt := fdd_lt hm0 hd.2
  have sb := sm_0 hl hm
  have h := loopS (body := fun s : Int32 × Int32 => f_D_drawFeet_b11 (iz m) (ar l) s.1 s.2) (fun k => (iz (d - sm l k), iz k)) (.inl (iz ((fnd (fdd l d) 0 m : Nat) : Int))) (fnd (fdd l d) 0 m) (by omega)
    (fun k hk => by
      have hP := of_decide_eq_false (fnd_no (fdd l d) m 0 k (by omega) hk)
      have e : sm l (k + 1) = sm l k + l k := rfl
      have s1 := sm_0 hl (show k ≤ 8 by omega)
      have b := hl k
      simp only [f_D_drawFeet_b11, z_count hm, Option.bind_some]
      rw [z_chanceOf (show k < 8 by omega), if_neg (by rw [iz_le (by omega) (by omega)]; omega), iz_succ]
      simp only [Option.bind_some]
      rw [iz_sub, l_0, if_pos (by rw [iz_le (by omega) (by omega)]; omega), e, show d - (sm l k + l k) = d - sm l k - l k by omega])
    (by
      have hP := of_decide_eq_true (fnd_yes (fdd l d) m 0 (by omega))
      generalize fnd (fdd l d) 0 m = k at hlt hP
      have e : sm l (k + 1) = sm l k + l k := rfl
      have s1 := sm_0 hl (show k ≤ 8 by omega)
      have b := hl k
      simp only [f_D_drawFeet_b11, z_count hm, Option.bind_some]
      rw [z_chanceOf (show k < 8 by omega), if_neg (by rw [iz_le (by omega) (by omega)]; omega)]
      simp only [Option.bind_some]
      rw [iz_sub, l_0, if_neg (by rw [iz_le (by omega) (by omega)]; omega)])
  rw [show d - sm l 0 = d from Int.sub_zero d] at h
  exact h
theorem y_drawL (hm : m ≤ 8) (hm0 : 0 < m) (hl : ∀ j, 0 ≤ l j ∧ l j ≤ 99) {d : Int} (hd : 0 ≤ d ∧ d < sm l m) :
    f_R_arrivals_l53 (ar l) (iz d) (iz 0) = some (iz ((fnd (fdd l d) 0 m : Nat) : Int)) := by
  have hlt := fdd_lt hm0 hd.2
  have sb := sm_0 hl hm
  have h := loopS (body := fun s : Int32 × Int32 => f_R_arrivals_b53 (ar l) s.1 s.2) (fun k => (iz (d - sm l k), iz k)) (iz ((fnd (fdd l d) 0 m : Nat) : Int)) (fnd (fdd l d) 0 m) (by omega)
    (fun k hk => by
      have hP := of_decide_eq_false (fnd_no (fdd l d) m 0 k (by omega) hk)
      have e : sm l (k + 1) = sm l k + l k := rfl
      have s1 := sm_0 hl (show k ≤ 8 by omega)
      have b := hl k
      simp only [f_R_arrivals_b53]
      rw [rdn k (by omega) (show k < 8 by omega)]
      simp only [Option.bind_some, ar_at]
      rw [if_neg (by rw [iz_lt (by omega) (by omega)]; omega), iz_succ, iz_sub, e, show d - (sm l k + l k) = d - sm l k - l k by omega])
    (by
      have hP := of_decide_eq_true (fnd_yes (fdd l d) m 0 (by omega))
      generalize fnd (fdd l d) 0 m = k at hlt hP
      have e : sm l (k + 1) = sm l k + l k := rfl
      have s1 := sm_0 hl (show k ≤ 8 by omega)
      have b := hl k
      simp only [f_R_arrivals_b53]
      rw [rdn k (by omega) (show k < 8 by omega)]
      simp only [Option.bind_some, ar_at]
      rw [if_pos (by rw [iz_lt (by omega) (by omega)]; omega)])
  rw [show d - sm l 0 = d from Int.sub_zero d] at h
  exact h
theorem drawB {q : Nat} (hq : 0 < q ∧ q ≤ 1000) (sd : Int32) : ∃ n : Nat, n < q ∧ f_D_drawBelow (iz q) sd = some (iz n, sd * 1103515245 + 12345) ∧ f_R_draw (iz q) sd = some (iz n, sd * 1103515245 + 12345) := by
  obtain ⟨n, hn, e⟩ := ushr16 (sd * 1103515245 + 12345)
  refine ⟨n % q, Nat.mod_lt _ hq.1, ?_, ?_⟩
  · unfold f_D_drawBelow
    rw [if_neg (by rw [l_0, iz_le (by omega) (by omega)]; omega), e, rm_iz (by omega) (by omega)]
    rfl
  · unfold f_R_draw
    rw [e, rm_iz (by omega) (by omega)]
    rfl
theorem y_soundBits (hD : Dr w u m g kd a) (hc : c < w) (hf : f < m) :
    f_R_arrivals_l99 (iz f) (iz c) (iz w) (iz u) (iz m) (ar g) (ar kd) (ar a) (iz 0) (iz 0) = some (iz ((bn (sme w u g kd a c f) m : Nat) : Int)) := by
  obtain ⟨hw, hrn, hm, hg, hkd, ha⟩ := id hD
  have h := loopF (body := fun s' : Int32 × Int32 => f_R_arrivals_b99 (iz f) (iz c) (iz w) (iz u) (iz m) (ar g) (ar kd) (ar a) s'.1 s'.2) (fun b k => (b, iz k)) (kbit (sme w u g kd a c f)) (fun b => b) 0 m (by omega)
    (fun k b hk => by
      have e := gpz_sme (c := c) hD f k
      have hle := fnd_le (dif w u g kd a f k c) w 0
      have gb : -1 ≤ gpz w u g kd a f k c ∧ gpz w u g kd a f k c ≤ 6 := by unfold gpz; split <;> omega
      simp only [f_R_arrivals_b99]
      rw [y_gapOf hD hf hk hc, if_neg (by rw [iz_le (by omega) (by omega)]; omega), iz_succ]
      simp only [Option.bind_some]
      unfold kbit
      by_cases q : sme w u g kd a c f k = true
      · rw [if_pos (by rw [l_1, iz_neg, iz_eq (by omega) (by omega), e]; exact q), if_neg (by rw [q]; decide)]
      · rw [if_neg (by rw [l_1, iz_neg, iz_eq (by omega) (by omega), e]; exact q), if_pos (by simpa using q)])
    (fun b => by
      simp only [f_R_arrivals_b99]
      simp (disch := omega) only [iz_le, if_pos])
  rw [fo_kbit _ m hm] at h
  exact h
theorem q_arrL (hD : Dr w u m g kd a) (hm0 : 0 < m) (hl : ∀ j, 0 ≤ l j ∧ l j ≤ 99) (hl1 : ∀ j, j < m → 1 ≤ l j) (n : Nat) (hn : n ≤ 60) (sd : Int32) (s : Nat → Int64) :
    ∃ x sd' s', f_M_arrivals_l38 (iz n) (iz w) (iz u) (iz m) (ar g) (ar kd) (ar a) (ar l) 0 (iz 0) sd s = some (x, sd', s') ∧ f_R_arrivals_l35 (iz n) (iz w) (iz u) (iz m) (ar g) (ar kd) (ar a) (ar l) 0 (iz 0) sd = some (x, sd') := by
  obtain ⟨hw, hrn, hm, hg, hkd, ha⟩ := id hD
  have sb := sm_0 hl hm
  have sp : 1 ≤ sm l m := by
    have := sm_ge m (fun j => (hl j).1) 0 hm0
    have := hl1 0 hm0
    omega
  obtain ⟨q, hq, eq⟩ := natZ (v := sm l m) (n := 1000) (by omega)
  obtain ⟨r, p, h1, h2, h3⟩ := loopR (b1 := fun s : Int32 × Int32 × Int32 × (Nat → Int64) => f_M_arrivals_b38 (iz n) (iz w) (iz u) (iz m) (ar g) (ar kd) (ar a) (ar l) s.1 s.2.1 s.2.2.1 s.2.2.2) (b2 := fun s : Int32 × Int32 × Int32 => f_R_arrivals_b35 (iz n) (iz w) (iz u) (iz m) (ar g) (ar kd) (ar a) (ar l) s.1 s.2.1 s.2.2)
    (fun k s t => ∃ x sd s', s = (x, iz k, sd, s') ∧ t = (x, iz k, sd)) (fun r p => ∃ x sd s', r = (x, sd, s') ∧ p = (x, sd)) n (by omega)
    (fun k s t hk hR => by
      obtain ⟨x, sd, s', rfl, rfl⟩ := hR
      obtain ⟨d, hd, d1, d2⟩ := drawB (q := q) (by omega) sd
      obtain ⟨c, hc, c1, c2⟩ := drawB (q := w) (by omega) (sd * 1103515245 + 12345)
      have hF := fdd_lt (l := l) (d := d) hm0 (by omega)
      have z1 := z_drawL hm hm0 hl (d := d) (by omega)
      have y1 := y_drawL hm hm0 hl (d := d) (by omega)
      generalize fnd (fdd l d) 0 m = F at hF z1 y1
      have lm := (z_likeliest (P := sme w u g kd a c F) hm hl hl1).1
      have lr := y_likeliest (P := sme w u g kd a c F) hm hl hl1
      generalize (fo (lks (sme w u g kd a c F) l) m (-1, 0)).1 = X at lm lr
      have eM : f_M_arrivals_b38 (iz n) (iz w) (iz u) (iz m) (ar g) (ar kd) (ar a) (ar l) x (iz k) sd s' = some (.inl (if iz (F : Int) = iz X then x + 1 else x, iz ((k + 1 : Nat) : Int), sd * 1103515245 + 12345 |> fun y => y * 1103515245 + 12345, fls w u g kd a c m s')) := by
        unfold f_M_arrivals_b38 f_D_drawFeet
        rw [if_neg (by rw [iz_le (by omega) (by omega)]; omega), z_allChances hm, eq]
        simp only [Option.bind_some]
        rw [d1]
        simp only [Option.bind_some]
        rw [show f_D_drawFeet_l11 (iz m) (ar l) (iz d) 0 = _ from z1]
        simp only [Option.bind_some, Sum.elim_inl]
        rw [c1]
        simp only [Option.bind_some]
        rw [z_listen hD hc]
        simp only [Option.bind_some]
        rw [z_soundingAs hD hF]
        simp only [Option.bind_some]
        rw [lm, iz_succ]
        simp only [Option.bind_some]
        split <;> rfl
      have eR : f_R_arrivals_b35 (iz n) (iz w) (iz u) (iz m) (ar g) (ar kd) (ar a) (ar l) x (iz k) sd = some (.inl (if iz (F : Int) = iz X then x + 1 else x, iz ((k + 1 : Nat) : Int), sd * 1103515245 + 12345 |> fun y => y * 1103515245 + 12345)) := by
        unfold f_R_arrivals_b35
        rw [if_neg (by rw [iz_le (by omega) (by omega)]; omega), y_allLikely hm, eq]
        simp only [Option.bind_some]
        rw [d2]
        simp only [Option.bind_some]
        rw [show f_R_arrivals_l53 (ar l) (iz d) 0 = _ from y1]
        simp only [Option.bind_some]
        rw [c2]
        simp only [Option.bind_some]
        rw [show f_R_arrivals_l99 (iz F) (iz c) (iz w) (iz u) (iz m) (ar g) (ar kd) (ar a) 0 0 = _ from y_soundBits hD hc hF]
        simp only [Option.bind_some]
        rw [lr, iz_succ]
        simp only [Option.bind_some]
        by_cases z : iz (F : Int) = iz X
        · rw [if_pos z.symm, if_pos z]
        · rw [if_neg (fun y => z y.symm), if_neg z]
      exact ⟨_, _, eM, eR, _, _, _, rfl, rfl⟩)
    (fun s t hR => by
      obtain ⟨x, sd, s', rfl, rfl⟩ := hR
      refine ⟨(x, sd, s'), (x, sd), ?_, ?_, x, sd, s', rfl, rfl⟩
      · unfold f_M_arrivals_b38
        exact if_pos (by rw [iz_le (by omega) (by omega)]; omega)
      · unfold f_R_arrivals_b35
        exact if_pos (by rw [iz_le (by omega) (by omega)]; omega))
    (0, iz 0, sd, s) (0, iz 0, sd) ⟨0, sd, s, rfl, rfl⟩
  obtain ⟨x, sd2, s2, rfl, rfl⟩ := h3
  exact ⟨x, sd2, s2, h1, h2⟩
end
theorem q_arrivals {w m : Nat} {rn : Int} {g kd a l : Nat → Int} {rm rr : Nat → Int32} (hD : Dr w rn m g kd a) (hl : ∀ j, 0 ≤ l j ∧ l j ≤ 99) (hl1 : ∀ j, j < m → 1 ≤ l j) (hr : RF rm rr) (v1 sd : Int32) (s : Nat → Int64) :
    ∃ ans sd' s' rm' rr', f_M_arrivals v1 (iz w) (iz rn) (iz m) sd (ar g) (ar kd) (ar a) (ar l) s rm = some (ans, sd', s', rm') ∧ f_R_arrivals v1 (iz w) (iz rn) (iz m) sd (ar g) (ar kd) (ar a) (ar l) rr = some (ans, sd', rr') ∧ RF rm' rr' := by
  obtain ⟨hw, hrn, hm, hg, hkd, ha⟩ := id hD
  obtain ⟨x, hx, rfl⟩ := anyI v1
  obtain ⟨m2, r2, e1, e2, hr2⟩ := z_ref (why := -2) (by omega) hr
  obtain ⟨m5, r5, e3, e4, hr5⟩ := z_ref (why := -5) (by omega) hr
  unfold f_M_arrivals f_R_arrivals
  simp only [z_count hm, Option.bind_some]
  rw [l_1, show (60 : Int32) = iz 60 from rfl, z_withinI hx (by omega) (by omega), y_withinI hx (by omega) (by omega)]
  simp only [Option.bind_some, b1_0]
  by_cases c1 : 1 ≤ x ∧ x ≤ 60
  · rw [if_neg (Classical.not_not.mpr c1), if_neg (Classical.not_not.mpr c1)]
    by_cases c2 : m = 0
    · subst c2
      rw [if_pos (show iz ((0 : Nat) : Int) = 0 from rfl), if_pos (show iz ((0 : Nat) : Int) = 0 from rfl), show f_M_refuse (-5) rm = _ from e3, show f_R_no (-5) rr = _ from e4]
      exact ⟨_, _, _, _, _, rfl, rfl, hr5⟩
    · rw [if_neg (by rw [l_0, iz_eq (by omega) (by omega)]; omega), if_neg (by rw [l_0, iz_eq (by omega) (by omega)]; omega)]
      obtain ⟨n, hn, rfl⟩ := natZ (v := x) (n := 61) (by omega)
      obtain ⟨y, sd2, s2, h1, h2⟩ := q_arrL hD (by omega) hl hl1 n (by omega) sd s
      rw [show f_M_arrivals_l38 (iz n) (iz w) (iz rn) (iz m) (ar g) (ar kd) (ar a) (ar l) 0 0 sd s = _ from h1, show f_R_arrivals_l35 (iz n) (iz w) (iz rn) (iz m) (ar g) (ar kd) (ar a) (ar l) 0 0 sd = _ from h2]
      exact ⟨_, _, _, _, _, rfl, rfl, hr⟩
  · rw [if_pos c1, if_pos c1, show f_M_refuse (-2) rm = _ from e1, show f_R_no (-2) rr = _ from e2]
    exact ⟨_, _, _, _, _, rfl, rfl, hr2⟩

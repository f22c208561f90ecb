/-! copy -/
theorem z_isPart {i n z : Int} (hi : -2147483648 ≤ i ∧ i < 2147483648) (hn : -2147483648 ≤ n ∧ n < 2147483648) (hz : 0 ≤ z ∧ z ≤ 40) : f_M_isPart (iz i) (iz n) (iz z) = some (b1 (0 ≤ n ∧ 0 ≤ i ∧ i + n ≤ z)) := by
  unfold f_M_isPart
  by_cases c1 : n < 0
  · simp (disch := omega) only [l_0, l_1, l_2, l_3, l_4, l_5, l_6, l_7, l_8, l_9, l_10, l_12, l_16, l_32, l_35, l_36, l_40, l_48, l_59, l_57, l_60, l_97, l_99, l_100, l_122, l_250, l_255, l_1000, l_10000, l_20000, l_1000000, l_12345, l_1103515245, iz_neg, iz_add, iz_sub, iz_mul, iz_lt, iz_le, iz_eq, Option.bind_some, b1_i0, b1_i1, zr_b1, Classical.not_not, if_pos, if_neg]
    rw [b1_F (by omega)]; rfl
  · by_cases c2 : i < 0
    · simp (disch := omega) only [l_0, l_1, l_2, l_3, l_4, l_5, l_6, l_7, l_8, l_9, l_10, l_12, l_16, l_32, l_35, l_36, l_40, l_48, l_59, l_57, l_60, l_97, l_99, l_100, l_122, l_250, l_255, l_1000, l_10000, l_20000, l_1000000, l_12345, l_1103515245, iz_neg, iz_add, iz_sub, iz_mul, iz_lt, iz_le, iz_eq, Option.bind_some, b1_i0, b1_i1, zr_b1, Classical.not_not, if_pos, if_neg]
      rw [b1_F (by omega)]; rfl
    · by_cases c3 : z < i
      · simp (disch := omega) only [l_0, l_1, l_2, l_3, l_4, l_5, l_6, l_7, l_8, l_9, l_10, l_12, l_16, l_32, l_35, l_36, l_40, l_48, l_59, l_57, l_60, l_97, l_99, l_100, l_122, l_250, l_255, l_1000, l_10000, l_20000, l_1000000, l_12345, l_1103515245, iz_neg, iz_add, iz_sub, iz_mul, iz_lt, iz_le, iz_eq, Option.bind_some, b1_i0, b1_i1, zr_b1, Classical.not_not, if_pos, if_neg]
        rw [b1_F (by omega)]; rfl
      · by_cases c4 : z - i < n
        · simp (disch := omega) only [l_0, l_1, l_2, l_3, l_4, l_5, l_6, l_7, l_8, l_9, l_10, l_12, l_16, l_32, l_35, l_36, l_40, l_48, l_59, l_57, l_60, l_97, l_99, l_100, l_122, l_250, l_255, l_1000, l_10000, l_20000, l_1000000, l_12345, l_1103515245, iz_neg, iz_add, iz_sub, iz_mul, iz_lt, iz_le, iz_eq, Option.bind_some, b1_i0, b1_i1, zr_b1, Classical.not_not, if_pos, if_neg]
          rw [b1_F (by omega)]; rfl
        · simp (disch := omega) only [l_0, l_1, l_2, l_3, l_4, l_5, l_6, l_7, l_8, l_9, l_10, l_12, l_16, l_32, l_35, l_36, l_40, l_48, l_59, l_57, l_60, l_97, l_99, l_100, l_122, l_250, l_255, l_1000, l_10000, l_20000, l_1000000, l_12345, l_1103515245, iz_neg, iz_add, iz_sub, iz_mul, iz_lt, iz_le, iz_eq, Option.bind_some, b1_i0, b1_i1, zr_b1, Classical.not_not, if_pos, if_neg]
          rw [b1_T (by omega)]; rfl
def cpz (f : Nat → Int64) (sp dp n : Nat) : Nat → Int64 := fun x => if dp ≤ x ∧ x < dp + n then f (sp + (x - dp)) else f x
theorem cpz_0 (f : Nat → Int64) (sp dp : Nat) : cpz f sp dp 0 = f := by
  funext x; unfold cpz; rw [if_neg (by omega)]
theorem cpz_step (f : Nat → Int64) (sp dp k : Nat) (h : dp ≤ sp ∨ sp + k < dp) : vp_updL (cpz f sp dp k) (dp + k) (cpz f sp dp k (sp + k)) = cpz f sp dp (k + 1) := by
  have e : cpz f sp dp k (sp + k) = f (sp + k) := by unfold cpz; rw [if_neg (by omega)]
  rw [e]
  funext x
  rw [updL_at]
  unfold cpz
  by_cases c : x = dp + k
  · subst c
    rw [if_pos rfl, if_pos (by omega)]
    congr 1
    omega
  · rw [if_neg c]
    by_cases d : dp ≤ x ∧ x < dp + k
    · rw [if_pos d, if_pos (by omega)]
    · rw [if_neg d, if_neg (by omega)]
/-- from behind: the last k of n are copied -/
def cbz (f : Nat → Int64) (sp dp n k : Nat) : Nat → Int64 := fun x => if dp + (n - k) ≤ x ∧ x < dp + n then f (sp + (x - dp)) else f x
theorem cbz_step (f : Nat → Int64) (sp dp n k : Nat) (hk : k < n) (h : sp < dp) : vp_updL (cbz f sp dp n k) (dp + (n - 1 - k)) (cbz f sp dp n k (sp + (n - 1 - k))) = cbz f sp dp n (k + 1) := by
  have e : cbz f sp dp n k (sp + (n - 1 - k)) = f (sp + (n - 1 - k)) := by unfold cbz; rw [if_neg (by omega)]
  rw [e]
  funext x
  rw [updL_at]
  unfold cbz
  by_cases c : x = dp + (n - 1 - k)
  · subst c
    rw [if_pos rfl, if_pos (by omega)]
    congr 1
    omega
  · rw [if_neg c]
    by_cases d : dp + (n - k) ≤ x ∧ x < dp + n
    · rw [if_pos d, if_pos (by omega)]
    · rw [if_neg d, if_neg (by omega)]
theorem idx40 (a i k : Nat) : iz 40 * iz (a : Int) + iz (i : Int) + iz (k : Int) = iz ((40 * a + i + k : Nat) : Int) := by
  rw [iz_mul, iz_add, iz_add]
  congr 1
theorem y_copyF {ro : Nat → Int64} {a b i j n : Nat} (ha : a < 8) (hb : b < 8) (hi : i + n ≤ 40) (hj : j + n ≤ 40) (h : ¬ a = b ∨ j ≤ i) :
    f_R_copy_l225 (iz a) (iz b) (iz i) (iz j) (iz n) (iz 0) ro = some (cpz ro (40 * a + i) (40 * b + j) n) := by
  have h := loopS (body := fun s : Int32 × (Nat → Int64) => f_R_copy_b225 (iz a) (iz b) (iz i) (iz j) (iz n) s.1 s.2) (fun k => (iz k, cpz ro (40 * a + i) (40 * b + j) k)) (cpz ro (40 * a + i) (40 * b + j) n) n (by omega)
    (fun k hk => by
      simp only [f_R_copy_b225]
      rw [l_40, idx40, idx40, rdLn _ (by omega) (by omega)]
      simp only [Option.bind_some]
      rw [wrLn _ (by omega) (by omega), cpz_step _ _ _ _ (by omega), ← iz_succ]
      simp (disch := omega) only [iz_add, iz_sub, iz_mul, iz_lt, iz_le, iz_eq, Option.bind_some, b1_i0, b1_i1, zr_b1, Classical.not_not, if_pos, if_neg])
    (by
      simp only [f_R_copy_b225]
      simp (disch := omega) only [iz_add, iz_sub, iz_mul, iz_lt, iz_le, iz_eq, Option.bind_some, b1_i0, b1_i1, zr_b1, Classical.not_not, if_pos, if_neg])
  rw [cpz_0] at h
  exact h
theorem y_copyB {ro : Nat → Int64} {a i j n : Nat} (ha : a < 8) (hi : i + n ≤ 40) (hj : j + n ≤ 40) (h : i < j) :
    f_R_copy_l179 (iz a) (iz a) (iz i) (iz j) (iz ((n : Int) - 1)) ro = some (cpz ro (40 * a + i) (40 * a + j) n) := by
  have e0 : cbz ro (40 * a + i) (40 * a + j) n 0 = ro := by funext x; unfold cbz; rw [if_neg (by omega)]
  have e1 : cbz ro (40 * a + i) (40 * a + j) n n = cpz ro (40 * a + i) (40 * a + j) n := by
    funext x; unfold cbz cpz; rw [show 40 * a + j + (n - n) = 40 * a + j by omega]
  have h := loopS (body := fun s : Int32 × (Nat → Int64) => f_R_copy_b179 (iz a) (iz a) (iz i) (iz j) s.1 s.2) (fun k => (iz ((n : Int) - 1 - k), cbz ro (40 * a + i) (40 * a + j) n k)) (cpz ro (40 * a + i) (40 * a + j) n) n (by omega)
    (fun k hk => by
      have e2 : ((n : Int) - 1 - k) = ((n - 1 - k : Nat) : Int) := by omega
      have e3 : ((n : Int) - 1 - ((k + 1 : Nat) : Int)) = (n : Int) - 1 - k + -1 := by omega
      simp only [f_R_copy_b179]
      rw [e3, e2, l_40, idx40, idx40, rdLn _ (by omega) (by omega)]
      simp only [Option.bind_some]
      rw [wrLn _ (by omega) (by omega), cbz_step _ _ _ _ _ hk (by omega)]
      simp (disch := omega) only [l_0, l_1, l_2, l_3, l_4, l_5, l_6, l_7, l_8, l_9, l_10, l_12, l_16, l_32, l_35, l_36, l_40, l_48, l_59, l_57, l_60, l_97, l_99, l_100, l_122, l_250, l_255, l_1000, l_10000, l_20000, l_1000000, l_12345, l_1103515245, iz_neg, iz_add, iz_sub, iz_mul, iz_lt, iz_le, iz_eq, Option.bind_some, b1_i0, b1_i1, zr_b1, Classical.not_not, if_pos, if_neg])
    (by
      simp only [f_R_copy_b179]
      rw [e1]
      simp (disch := omega) only [l_0, l_1, l_2, l_3, l_4, l_5, l_6, l_7, l_8, l_9, l_10, l_12, l_16, l_32, l_35, l_36, l_40, l_48, l_59, l_57, l_60, l_97, l_99, l_100, l_122, l_250, l_255, l_1000, l_10000, l_20000, l_1000000, l_12345, l_1103515245, iz_neg, iz_add, iz_sub, iz_mul, iz_lt, iz_le, iz_eq, Option.bind_some, b1_i0, b1_i1, zr_b1, Classical.not_not, if_pos, if_neg])
  rw [e0] at h
  have e4 : (n : Int) - 1 - ((0 : Nat) : Int) = (n : Int) - 1 := by omega
  rw [e4] at h
  exact h
theorem z_move {sz : Nat → Int} {el : Nat → Int64} {a b i j n : Nat} (ha : a < 8) (hb : b < 8) (hza : 0 ≤ sz a ∧ sz a ≤ 40) (hzb : 0 ≤ sz b ∧ sz b ≤ 40) (hi : (i : Int) + n ≤ sz a) (hj : (j : Int) + n ≤ sz b) :
    f_S_move (iz a) (iz b) (iz i) (iz j) (iz n) (ar sz) el = some (cpz el (40 * a + i) (40 * b + j) n) := by
  unfold f_S_move
  rw [z_sizeOf ha, z_sizeOf hb]
  simp (disch := omega) only [l_0, l_1, l_2, l_3, l_4, l_5, l_6, l_7, l_8, l_9, l_10, l_12, l_16, l_32, l_35, l_36, l_40, l_48, l_59, l_57, l_60, l_97, l_99, l_100, l_122, l_250, l_255, l_1000, l_10000, l_20000, l_1000000, l_12345, l_1103515245, iz_neg, iz_add, iz_sub, iz_mul, iz_lt, iz_le, iz_eq, Option.bind_some, b1_i0, b1_i1, zr_b1, Classical.not_not, if_pos, if_neg, z_isPart]
  unfold cpyL
  have c0 : ∀ k : Nat, k < 400 → (iz (k : Int)).toNatClampNeg = k := fun k hk => by rw [iz_clamp (by omega)]; omega
  have s0 : ∀ k : Nat, k < 400 → ¬ iz (k : Int) < 0 := fun k hk => by rw [l_0, iz_lt (by omega) (by omega)]; omega
  have e1 : iz ((a : Int) * 40 + i) = iz ((40 * a + i : Nat) : Int) := by congr 1; omega
  have e2 : iz ((b : Int) * 40 + j) = iz ((40 * b + j : Nat) : Int) := by congr 1; omega
  rw [e1, e2, c0 _ (by omega), c0 _ (by omega), c0 _ (by omega), if_neg]
  · rfl
  · have s1 := s0 (40 * a + i) (by omega)
    have s2 := s0 (40 * b + j) (by omega)
    have s3 := s0 n (by omega)
    intro q
    rcases q with q | q | q | q | q
    · exact s1 q
    · exact s2 q
    · exact s3 q
    · omega
    · omega
theorem SI.copy {m : Nat} {mk sz rl : Nat → Int} {el ro : Nat → Int64} (h : SI m mk sz rl el ro) {a i n : Nat} (dp : Nat) (ha : a < 8) (hr : 0 ≤ mk a ∧ mk a ≤ 4) (hi : (i : Int) + n ≤ sz a) : SI m mk sz rl (cpz el (40 * a + i) dp n) (cpz ro (40 * a + i) dp n) := by
  have key : ∀ x, el x = ro x → cpz el (40 * a + i) dp n x = cpz ro (40 * a + i) dp n x := by
    intro x hx
    unfold cpz
    by_cases c : dp ≤ x ∧ x < dp + n
    · rw [if_pos c, if_pos c]
      rcases h a ha with q | q | q
      · omega
      · have := q.2.2.2.2.2 (i + (x - dp)) (by omega)
        rw [show 40 * a + i + (x - dp) = 40 * a + (i + (x - dp)) by omega]
        exact this
      · omega
    · rw [if_neg c, if_neg c]
      exact hx
  intro s hs
  rcases h s hs with q | q | q
  · exact Or.inl q
  · exact Or.inr (Or.inl ⟨q.1, q.2.1, q.2.2.1, q.2.2.2.1, q.2.2.2.2.1, fun t ht => key _ (q.2.2.2.2.2 t ht)⟩)
  · exact Or.inr (Or.inr q)
theorem y_j81A {mk rl : Nat → Int} {ro : Nat → Int64} {rr r4 : Nat → Int32} {a b : Nat} {v3 v4 v5 : Int32} (ha : a < 8) (h : mk a = -1) (e : f_R_no (iz (-4)) rr = some (iz (-4), r4)) :
    f_R_copy_j81 (iz a) (iz b) v3 v4 v5 (ar mk) (ar rl) ro rr = some (iz (-4), ro, r4) := by
  unfold f_R_copy_j81 f_R_copy_j99
  rw [rdn a (by omega) ha]
  simp only [Option.bind_some, ar_at, h]
  rw [if_pos (by decide), show f_R_no (-4) rr = _ from e]
  rfl
theorem y_j81B {mk rl : Nat → Int} {ro : Nat → Int64} {rr r4 : Nat → Int32} {a b : Nat} {v3 v4 v5 : Int32} (ha : a < 8) (hb : b < 8) (h' : 0 ≤ mk a ∧ mk a ≤ 4) (h : mk b = -1) (e : f_R_no (iz (-4)) rr = some (iz (-4), r4)) :
    f_R_copy_j81 (iz a) (iz b) v3 v4 v5 (ar mk) (ar rl) ro rr = some (iz (-4), ro, r4) := by
  unfold f_R_copy_j81 f_R_copy_j99
  rw [rdn a (by omega) ha, rdn b (by omega) hb]
  simp only [Option.bind_some, ar_at, h]
  rw [if_neg (by rw [l_0, iz_lt (by omega) (by omega)]; omega), if_neg (by decide), show f_R_no (-4) rr = _ from e]
  rfl
theorem y_j81C {mk rl : Nat → Int} {ro : Nat → Int64} {rr r2 : Nat → Int32} {a b : Nat} {x y u : Int} (ha : a < 8) (hb : b < 8) (hx : -2147483648 ≤ x ∧ x < 2147483648) (hy : -2147483648 ≤ y ∧ y < 2147483648) (hu : -2147483648 ≤ u ∧ u < 2147483648) (h1 : 0 ≤ mk a ∧ mk a ≤ 4) (h2 : 0 ≤ mk b ∧ mk b ≤ 4) (h3 : 0 ≤ rl a ∧ rl a ≤ 40) (h4 : 0 ≤ rl b ∧ rl b ≤ 40) (hn : ¬ ((0 ≤ u ∧ 0 ≤ x ∧ x + u ≤ rl a) ∧ (0 ≤ u ∧ 0 ≤ y ∧ y + u ≤ rl b))) (e : f_R_no (iz (-2)) rr = some (iz (-2), r2)) :
    f_R_copy_j81 (iz a) (iz b) (iz x) (iz y) (iz u) (ar mk) (ar rl) ro rr = some (iz (-2), ro, r2) := by
  unfold f_R_copy_j81 f_R_copy_j155
  rw [rdn a (by omega) ha, rdn b (by omega) hb]
  simp only [Option.bind_some, ar_at]
  rw [if_neg (by rw [l_0, iz_lt (by omega) (by omega)]; omega), if_pos (by rw [l_0, iz_le (by omega) (by omega)]; omega)]
  rw [rdn a (by omega) ha, rdn b (by omega) hb]
  simp only [Option.bind_some, ar_at]
  rw [show f_R_no (-2) rr = _ from e]
  simp only [Option.bind_some]
  have c1 := cmpz_bd (x + u) (rl a)
  have c2 := cmpz_bd (y + u) (rl b)
  by_cases d1 : u < 0
  · rw [if_pos (by rw [l_0, iz_lt (by omega) (by omega)]; omega)]
  · rw [if_neg (by rw [l_0, iz_lt (by omega) (by omega)]; omega)]
    by_cases d2 : x < 0
    · rw [if_pos (by rw [l_0, iz_lt (by omega) (by omega)]; omega)]
    · rw [if_neg (by rw [l_0, iz_lt (by omega) (by omega)]; omega)]
      by_cases d3 : y < 0
      · rw [if_pos (by rw [l_0, iz_lt (by omega) (by omega)]; omega)]
      · rw [if_neg (by rw [l_0, iz_lt (by omega) (by omega)]; omega)]
        rw [iz_long (by omega), iz_long (by omega), iz_long (by omega), iz_long (by omega), iz_long (by omega), lz_add, lz_add, lg_lz (by omega) (by omega), lg_lz (by omega) (by omega)]
        by_cases d4 : rl a < x + u
        · rw [if_pos (by rw [l_0, iz_lt (by omega) (by omega), cmpz_gt]; omega)]
        · rw [if_neg (by rw [l_0, iz_lt (by omega) (by omega), cmpz_gt]; omega), if_neg (by rw [l_0, iz_le (by omega) (by omega), cmpz_le]; omega)]
theorem y_j81D {mk rl : Nat → Int} {ro : Nat → Int64} {rr : Nat → Int32} {a b i j n : Nat} (ha : a < 8) (hb : b < 8) (h1 : 0 ≤ mk a ∧ mk a ≤ 4) (h2 : 0 ≤ mk b ∧ mk b ≤ 4) (h3 : 0 ≤ rl a ∧ rl a ≤ 40) (h4 : 0 ≤ rl b ∧ rl b ≤ 40) (hi : (i : Int) + n ≤ rl a) (hj : (j : Int) + n ≤ rl b) :
    f_R_copy_j81 (iz a) (iz b) (iz i) (iz j) (iz n) (ar mk) (ar rl) ro rr = some (iz n, cpz ro (40 * a + i) (40 * b + j) n, rr) := by
  unfold f_R_copy_j81 f_R_copy_j222
  rw [rdn a (by omega) ha, rdn b (by omega) hb]
  simp only [Option.bind_some, ar_at]
  rw [if_neg (by rw [l_0, iz_lt (by omega) (by omega)]; omega), if_pos (by rw [l_0, iz_le (by omega) (by omega)]; omega)]
  rw [rdn a (by omega) ha, rdn b (by omega) hb]
  simp only [Option.bind_some, ar_at]
  have c1 := cmpz_bd ((i : Int) + n) (rl a)
  have c2 := cmpz_bd ((j : Int) + n) (rl b)
  rw [if_neg (by rw [l_0, iz_lt (by omega) (by omega)]; omega)]
  rw [if_neg (by rw [l_0, iz_lt (by omega) (by omega)]; omega)]
  rw [if_neg (by rw [l_0, iz_lt (by omega) (by omega)]; omega)]
  rw [iz_long (by omega), iz_long (by omega), iz_long (by omega), iz_long (by omega), iz_long (by omega), lz_add, lz_add, lg_lz (by omega) (by omega), lg_lz (by omega) (by omega)]
  rw [if_neg (by rw [l_0, iz_lt (by omega) (by omega), cmpz_gt]; omega), if_pos (by rw [l_0, iz_le (by omega) (by omega), cmpz_le]; omega)]
  by_cases c : a = b
  · subst c
    rw [if_pos rfl]
    by_cases d : j ≤ i
    · rw [if_pos (by rw [iz_le (by omega) (by omega)]; omega), show f_R_copy_l225 (iz a) (iz a) (iz i) (iz j) (iz n) 0 ro = _ from y_copyF ha ha (by omega) (by omega) (Or.inr d)]
      rfl
    · rw [if_neg (by rw [iz_le (by omega) (by omega)]; omega), show iz (n : Int) - 1 = iz ((n : Int) - 1) by rw [l_1, iz_sub], y_copyB ha (by omega) (by omega) (by omega)]
      rfl
  · rw [if_neg (by rw [iz_eq (by omega) (by omega)]; omega), show f_R_copy_l225 (iz a) (iz b) (iz i) (iz j) (iz n) 0 ro = _ from y_copyF ha hb (by omega) (by omega) (Or.inl c)]
    rfl
theorem z_whyNoCopy {mk : Nat → Int} {a b : Nat} (ha : a < 8) (hb : b < 8) (ba : -1 ≤ mk a ∧ mk a < 18) (bb : -1 ≤ mk b ∧ mk b < 18) :
    f_S_whyNoCopy (iz a) (iz b) (ar mk) = some (iz (if 10 ≤ mk a ∨ 10 ≤ mk b then -3 else if mk a = -1 ∨ mk b = -1 then -4 else if mk a = mk b then 0 else -3)) := by
  unfold f_S_whyNoCopy
  rw [z_whyNoRow ha ba, z_whyNoRow hb bb, z_heldBy ha, z_heldBy hb]
  simp only [Option.bind_some]
  have va : wnr (mk a) = if mk a = -1 then -4 else if 10 ≤ mk a then -3 else 0 := rfl
  have vb : wnr (mk b) = if mk b = -1 then -4 else if 10 ≤ mk b then -3 else 0 := rfl
  have wa := wnr_bd (mk a)
  have wb := wnr_bd (mk b)
  by_cases c1 : 10 ≤ mk a
  · rw [if_neg (by omega), if_pos c1] at va
    simp (disch := omega) only [l_0, l_1, l_2, l_3, l_4, l_5, l_6, l_7, l_8, l_9, l_10, l_12, l_16, l_32, l_35, l_36, l_40, l_48, l_59, l_57, l_60, l_97, l_99, l_100, l_122, l_250, l_255, l_1000, l_10000, l_20000, l_1000000, l_12345, l_1103515245, iz_neg, iz_add, iz_sub, iz_mul, iz_lt, iz_le, iz_eq, Option.bind_some, b1_i0, b1_i1, zr_b1, Classical.not_not, if_pos, if_neg, va, if_true]
  · by_cases c2 : 10 ≤ mk b
    · rw [if_neg (by omega), if_pos c2] at vb
      simp (disch := omega) only [l_0, l_1, l_2, l_3, l_4, l_5, l_6, l_7, l_8, l_9, l_10, l_12, l_16, l_32, l_35, l_36, l_40, l_48, l_59, l_57, l_60, l_97, l_99, l_100, l_122, l_250, l_255, l_1000, l_10000, l_20000, l_1000000, l_12345, l_1103515245, iz_neg, iz_add, iz_sub, iz_mul, iz_lt, iz_le, iz_eq, Option.bind_some, b1_i0, b1_i1, zr_b1, Classical.not_not, if_pos, if_neg, vb, if_true]
    · by_cases c3 : mk a = -1
      · rw [if_pos c3] at va
        simp (disch := omega) only [l_0, l_1, l_2, l_3, l_4, l_5, l_6, l_7, l_8, l_9, l_10, l_12, l_16, l_32, l_35, l_36, l_40, l_48, l_59, l_57, l_60, l_97, l_99, l_100, l_122, l_250, l_255, l_1000, l_10000, l_20000, l_1000000, l_12345, l_1103515245, iz_neg, iz_add, iz_sub, iz_mul, iz_lt, iz_le, iz_eq, Option.bind_some, b1_i0, b1_i1, zr_b1, Classical.not_not, if_pos, if_neg, va, if_true]
      · rw [if_neg c3, if_neg c1] at va
        by_cases c4 : mk b = -1
        · rw [if_pos c4] at vb
          simp (disch := omega) only [l_0, l_1, l_2, l_3, l_4, l_5, l_6, l_7, l_8, l_9, l_10, l_12, l_16, l_32, l_35, l_36, l_40, l_48, l_59, l_57, l_60, l_97, l_99, l_100, l_122, l_250, l_255, l_1000, l_10000, l_20000, l_1000000, l_12345, l_1103515245, iz_neg, iz_add, iz_sub, iz_mul, iz_lt, iz_le, iz_eq, Option.bind_some, b1_i0, b1_i1, zr_b1, Classical.not_not, if_pos, if_neg, va, vb, if_true]
        · rw [if_neg c4, if_neg c2] at vb
          by_cases c5 : mk a = mk b
          · simp (disch := omega) only [l_0, l_1, l_2, l_3, l_4, l_5, l_6, l_7, l_8, l_9, l_10, l_12, l_16, l_32, l_35, l_36, l_40, l_48, l_59, l_57, l_60, l_97, l_99, l_100, l_122, l_250, l_255, l_1000, l_10000, l_20000, l_1000000, l_12345, l_1103515245, iz_neg, iz_add, iz_sub, iz_mul, iz_lt, iz_le, iz_eq, Option.bind_some, b1_i0, b1_i1, zr_b1, Classical.not_not, if_pos, if_neg, va, vb, if_true]
          · simp (disch := omega) only [l_0, l_1, l_2, l_3, l_4, l_5, l_6, l_7, l_8, l_9, l_10, l_12, l_16, l_32, l_35, l_36, l_40, l_48, l_59, l_57, l_60, l_97, l_99, l_100, l_122, l_250, l_255, l_1000, l_10000, l_20000, l_1000000, l_12345, l_1103515245, iz_neg, iz_add, iz_sub, iz_mul, iz_lt, iz_le, iz_eq, Option.bind_some, b1_i0, b1_i1, zr_b1, Classical.not_not, if_pos, if_neg, va, vb, if_true]
theorem q_copy {m : Nat} {mk sz rl : Nat → Int} {el ro : Nat → Int64} {rm rr : Nat → Int32} (hm : m ≤ 8) (hsi : SI m mk sz rl el ro) (hr : RF rm rr) (v1 v2 v3 v4 v5 : Int32) :
    ∃ ans el' ro' rm' rr', f_M_copy v1 v2 v3 v4 v5 (ar mk) (ar sz) el rm = some (ans, el', rm') ∧ f_R_copy v1 v2 v3 v4 v5 (ar mk) (ar rl) ro rr = some (ans, ro', rr') ∧ SI m mk sz rl el' ro' ∧ RF rm' rr' := by
  obtain ⟨s, hs, rfl⟩ := anyI v1
  obtain ⟨t, ht, rfl⟩ := anyI v2
  obtain ⟨x, hx, rfl⟩ := anyI v3
  obtain ⟨y, hy, rfl⟩ := anyI v4
  obtain ⟨u, hu, rfl⟩ := anyI v5
  obtain ⟨m2, r2, e1, e2, hr2⟩ := z_ref (why := -2) (by omega) hr
  obtain ⟨m3, r3, e3, e4, hr3⟩ := z_ref (why := -3) (by omega) hr
  obtain ⟨m4, r4, e5, e6, hr4⟩ := z_ref (why := -4) (by omega) hr
  unfold f_M_copy f_R_copy f_M_copy_j14 f_M_copy_j79 f_R_copy_j14 f_R_copy_j74
  by_cases c1 : 0 ≤ s ∧ s < 8
  · obtain ⟨a, ha, rfl⟩ := natZ (n := 8) c1
    by_cases c2 : 0 ≤ t ∧ t < 8
    · obtain ⟨b, hb, rfl⟩ := natZ (n := 8) c2
      have ba := hsi.mkb hm ha
      have bb := hsi.mkb hm hb
      have hw := z_whyNoCopy ha hb ⟨ba.1, ba.2.1⟩ ⟨bb.1, bb.2.1⟩
      rcases hsi a ha with qa | qa | qa
      · have j81 : ∀ v3 v4 v5 : Int32, f_R_copy_j81 (iz a) (iz b) v3 v4 v5 (ar mk) (ar rl) ro rr = some (iz (-4), ro, r4) := fun v3 v4 v5 => y_j81A ha qa.1 e6
        by_cases qb : 10 ≤ mk b
        · rw [if_pos (by omega)] at hw
          simp (disch := omega) only [l_0, l_1, l_2, l_3, l_4, l_5, l_6, l_7, l_8, l_9, l_10, l_12, l_16, l_32, l_35, l_36, l_40, l_48, l_59, l_57, l_60, l_97, l_99, l_100, l_122, l_250, l_255, l_1000, l_10000, l_20000, l_1000000, l_12345, l_1103515245, iz_neg, iz_add, iz_sub, iz_mul, iz_lt, iz_le, iz_eq, Option.bind_some, b1_i0, b1_i1, zr_b1, Classical.not_not, if_pos, if_neg, z_isShelf, y_isShelf, hw, rdn, ar_at, e3, e4]
          exact ⟨_, _, _, _, _, rfl, rfl, hsi, hr3⟩
        · rw [if_neg (by omega), if_pos (by omega)] at hw
          simp (disch := omega) only [l_0, l_1, l_2, l_3, l_4, l_5, l_6, l_7, l_8, l_9, l_10, l_12, l_16, l_32, l_35, l_36, l_40, l_48, l_59, l_57, l_60, l_97, l_99, l_100, l_122, l_250, l_255, l_1000, l_10000, l_20000, l_1000000, l_12345, l_1103515245, iz_neg, iz_add, iz_sub, iz_mul, iz_lt, iz_le, iz_eq, Option.bind_some, b1_i0, b1_i1, zr_b1, Classical.not_not, if_pos, if_neg, z_isShelf, y_isShelf, hw, rdn, ar_at, y_isRow, j81, e5]
          exact ⟨_, _, _, _, _, rfl, rfl, hsi, hr4⟩
      · have rla : rl a = sz a := qa.2.2.2.2.1
        rcases hsi b hb with qb | qb | qb
        · have j81 : ∀ v3 v4 v5 : Int32, f_R_copy_j81 (iz a) (iz b) v3 v4 v5 (ar mk) (ar rl) ro rr = some (iz (-4), ro, r4) := fun v3 v4 v5 => y_j81B ha hb ⟨qa.1, qa.2.1⟩ qb.1 e6
          rw [if_neg (by omega), if_pos (by omega)] at hw
          simp (disch := omega) only [l_0, l_1, l_2, l_3, l_4, l_5, l_6, l_7, l_8, l_9, l_10, l_12, l_16, l_32, l_35, l_36, l_40, l_48, l_59, l_57, l_60, l_97, l_99, l_100, l_122, l_250, l_255, l_1000, l_10000, l_20000, l_1000000, l_12345, l_1103515245, iz_neg, iz_add, iz_sub, iz_mul, iz_lt, iz_le, iz_eq, Option.bind_some, b1_i0, b1_i1, zr_b1, Classical.not_not, if_pos, if_neg, z_isShelf, y_isShelf, hw, rdn, ar_at, y_isRow, j81, e5]
          exact ⟨_, _, _, _, _, rfl, rfl, hsi, hr4⟩
        · have rlb : rl b = sz b := qb.2.2.2.2.1
          by_cases d : mk a = mk b
          · rw [if_neg (by omega), if_neg (by omega), if_pos d] at hw
            by_cases p : (0 ≤ u ∧ 0 ≤ x ∧ x + u ≤ rl a) ∧ (0 ≤ u ∧ 0 ≤ y ∧ y + u ≤ rl b)
            · obtain ⟨n, hn, rfl⟩ := natZ (v := u) (n := 41) (by omega)
              obtain ⟨i, hi, rfl⟩ := natZ (v := x) (n := 41) (by omega)
              obtain ⟨j, hj, rfl⟩ := natZ (v := y) (n := 41) (by omega)
              have j81 := y_j81D (mk := mk) (rl := rl) (ro := ro) (rr := rr) (i := i) (j := j) (n := n) ha hb (by omega) (by omega) (by omega) (by omega) (by omega) (by omega)
              have mv := z_move (sz := sz) (el := el) (i := i) (j := j) (n := n) ha hb (by omega) (by omega) (by omega) (by omega)
              simp (disch := omega) only [l_0, l_1, l_2, l_3, l_4, l_5, l_6, l_7, l_8, l_9, l_10, l_12, l_16, l_32, l_35, l_36, l_40, l_48, l_59, l_57, l_60, l_97, l_99, l_100, l_122, l_250, l_255, l_1000, l_10000, l_20000, l_1000000, l_12345, l_1103515245, iz_neg, iz_add, iz_sub, iz_mul, iz_lt, iz_le, iz_eq, Option.bind_some, b1_i0, b1_i1, zr_b1, Classical.not_not, if_pos, if_neg, z_isShelf, y_isShelf, hw, rdn, ar_at, y_isRow, j81, z_sizeOf, z_isPart, mv]
              exact ⟨_, _, _, _, _, rfl, rfl, hsi.copy _ ha ⟨qa.1, qa.2.1⟩ (by omega), hr⟩
            · have j81 := y_j81C (mk := mk) (rl := rl) (ro := ro) (rr := rr) (x := x) (y := y) (u := u) ha hb hx hy hu (by omega) (by omega) (by omega) (by omega) p e2
              by_cases p1 : 0 ≤ u ∧ 0 ≤ x ∧ x + u ≤ sz a
              · simp (disch := omega) only [l_0, l_1, l_2, l_3, l_4, l_5, l_6, l_7, l_8, l_9, l_10, l_12, l_16, l_32, l_35, l_36, l_40, l_48, l_59, l_57, l_60, l_97, l_99, l_100, l_122, l_250, l_255, l_1000, l_10000, l_20000, l_1000000, l_12345, l_1103515245, iz_neg, iz_add, iz_sub, iz_mul, iz_lt, iz_le, iz_eq, Option.bind_some, b1_i0, b1_i1, zr_b1, Classical.not_not, if_pos, if_neg, z_isShelf, y_isShelf, hw, rdn, ar_at, y_isRow, j81, z_sizeOf, z_isPart, e1]
                exact ⟨_, _, _, _, _, rfl, rfl, hsi, hr2⟩
              · simp (disch := omega) only [l_0, l_1, l_2, l_3, l_4, l_5, l_6, l_7, l_8, l_9, l_10, l_12, l_16, l_32, l_35, l_36, l_40, l_48, l_59, l_57, l_60, l_97, l_99, l_100, l_122, l_250, l_255, l_1000, l_10000, l_20000, l_1000000, l_12345, l_1103515245, iz_neg, iz_add, iz_sub, iz_mul, iz_lt, iz_le, iz_eq, Option.bind_some, b1_i0, b1_i1, zr_b1, Classical.not_not, if_pos, if_neg, z_isShelf, y_isShelf, hw, rdn, ar_at, y_isRow, j81, z_sizeOf, z_isPart, e1]
                exact ⟨_, _, _, _, _, rfl, rfl, hsi, hr2⟩
          · rw [if_neg (by omega), if_neg (by omega), if_neg d] at hw
            simp (disch := omega) only [l_0, l_1, l_2, l_3, l_4, l_5, l_6, l_7, l_8, l_9, l_10, l_12, l_16, l_32, l_35, l_36, l_40, l_48, l_59, l_57, l_60, l_97, l_99, l_100, l_122, l_250, l_255, l_1000, l_10000, l_20000, l_1000000, l_12345, l_1103515245, iz_neg, iz_add, iz_sub, iz_mul, iz_lt, iz_le, iz_eq, Option.bind_some, b1_i0, b1_i1, zr_b1, Classical.not_not, if_pos, if_neg, z_isShelf, y_isShelf, hw, rdn, ar_at, y_isRow, e3, e4]
            exact ⟨_, _, _, _, _, rfl, rfl, hsi, hr3⟩
        · rw [if_pos (by omega)] at hw
          simp (disch := omega) only [l_0, l_1, l_2, l_3, l_4, l_5, l_6, l_7, l_8, l_9, l_10, l_12, l_16, l_32, l_35, l_36, l_40, l_48, l_59, l_57, l_60, l_97, l_99, l_100, l_122, l_250, l_255, l_1000, l_10000, l_20000, l_1000000, l_12345, l_1103515245, iz_neg, iz_add, iz_sub, iz_mul, iz_lt, iz_le, iz_eq, Option.bind_some, b1_i0, b1_i1, zr_b1, Classical.not_not, if_pos, if_neg, z_isShelf, y_isShelf, hw, rdn, ar_at, e3, e4]
          exact ⟨_, _, _, _, _, rfl, rfl, hsi, hr3⟩
      · rw [if_pos (by omega)] at hw
        simp (disch := omega) only [l_0, l_1, l_2, l_3, l_4, l_5, l_6, l_7, l_8, l_9, l_10, l_12, l_16, l_32, l_35, l_36, l_40, l_48, l_59, l_57, l_60, l_97, l_99, l_100, l_122, l_250, l_255, l_1000, l_10000, l_20000, l_1000000, l_12345, l_1103515245, iz_neg, iz_add, iz_sub, iz_mul, iz_lt, iz_le, iz_eq, Option.bind_some, b1_i0, b1_i1, zr_b1, Classical.not_not, if_pos, if_neg, z_isShelf, y_isShelf, hw, rdn, ar_at, e3, e4]
        exact ⟨_, _, _, _, _, rfl, rfl, hsi, hr3⟩
    · simp (disch := omega) only [l_0, l_1, l_2, l_3, l_4, l_5, l_6, l_7, l_8, l_9, l_10, l_12, l_16, l_32, l_35, l_36, l_40, l_48, l_59, l_57, l_60, l_97, l_99, l_100, l_122, l_250, l_255, l_1000, l_10000, l_20000, l_1000000, l_12345, l_1103515245, iz_neg, iz_add, iz_sub, iz_mul, iz_lt, iz_le, iz_eq, Option.bind_some, b1_i0, b1_i1, zr_b1, Classical.not_not, if_pos, if_neg, z_isShelf, y_isShelf, e1, e2]
      exact ⟨_, _, _, _, _, rfl, rfl, hsi, hr2⟩
  · simp (disch := omega) only [l_0, l_1, l_2, l_3, l_4, l_5, l_6, l_7, l_8, l_9, l_10, l_12, l_16, l_32, l_35, l_36, l_40, l_48, l_59, l_57, l_60, l_97, l_99, l_100, l_122, l_250, l_255, l_1000, l_10000, l_20000, l_1000000, l_12345, l_1103515245, iz_neg, iz_add, iz_sub, iz_mul, iz_lt, iz_le, iz_eq, Option.bind_some, b1_i0, b1_i1, zr_b1, Classical.not_not, if_pos, if_neg, z_isShelf, y_isShelf, e1, e2]
    exact ⟨_, _, _, _, _, rfl, rfl, hsi, hr2⟩

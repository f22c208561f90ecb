/-! drive -/
section
variable {n : Nat} {lt : Nat → Int} {w m : Nat} {rn er : Int} {g kd a l : Nat → Int}
theorem dr_both (hn : n ≤ 250) (hl : ∀ j, 0 ≤ lt j ∧ lt j ≤ 255) (hI : Iv w rn er m g kd a l) (t0 p0 e0 f tok v : Int32) :
    (∃ (told w' : Nat) (rn' er' : Int) (m' : Nat) (g' kd' a' l' : Nat → Int) (x1 x2 x3 y1 y2 y3 y4 : Int32), told ≤ 250 ∧ m ≤ m' ∧ Iv w' rn' er' m' g' kd' a' l' ∧
      f_T_readInto (iz n) t0 p0 e0 (ar lt) (iz w) (iz rn) (iz er) (iz m) (ar g) (ar kd) (ar a) (ar l) = some (iz told, x1, x2, x3, iz w', iz rn', iz er', iz m', ar g', ar kd', ar a', ar l') ∧
      f_R_drive_l17 (iz n) (ar lt) 0 1 (iz w) (iz rn) (iz er) (iz m) f 0 tok v (ar g) (ar kd) (ar a) (ar l) = some (.inl (iz told, iz w', iz rn', iz er', iz m', y1, y2, y3, y4, ar g', ar kd', ar a', ar l'))) ∨
    (∃ (i w' : Nat) (rn' er' : Int) (m' : Nat) (g' kd' a' l' : Nat → Int) (x1 x3 y2 y3 y4 : Int32), i ≤ n ∧ Iv w' rn' er' m' g' kd' a' l' ∧
      f_T_readInto (iz n) t0 p0 e0 (ar lt) (iz w) (iz rn) (iz er) (iz m) (ar g) (ar kd) (ar a) (ar l) = some (-20 - iz i, x1, iz i, x3, iz w', iz rn', iz er', iz m', ar g', ar kd', ar a', ar l') ∧
      f_R_drive_l17 (iz n) (ar lt) 0 1 (iz w) (iz rn) (iz er) (iz m) f 0 tok v (ar g) (ar kd) (ar a) (ar l) = some (.inr (iz w', iz rn', iz er', iz m', iz i, y2, y3, y4, ar g', ar kd', ar a', ar l'))) := by
  obtain ⟨r, p, e1, e2, hq⟩ := dr_loop hn hl hI f tok v
  have e3 : f_T_next (iz n) t0 p0 0 (ar lt) = some (iz (tk n lt (sk n lt 0)), iz ((sk n lt 0 : Nat) : Int), iz ((en n lt (sk n lt 0) : Nat) : Int)) := z_next (p := 0) hn hl (Nat.zero_le n) t0 p0
  rcases hq with ⟨told, w', rn', er', m', g', kd', a', l', x1, x2, x3, y1, y2, y3, y4, h1, hmm, h2, rfl, rfl⟩ | ⟨i, w', rn', er', m', g', kd', a', l', x1, x3, y2, y3, y4, h1, h2, hr, rfl⟩
  · refine Or.inl ⟨told, w', rn', er', m', g', kd', a', l', x1, x2, x3, y1, y2, y3, y4, h1, hmm, h2, ?_, e2⟩
    unfold f_T_readInto
    rw [e3, Option.bind_some]
    dsimp only
    rw [e1, Option.bind_some]
    rfl
  · refine Or.inr ⟨i, w', rn', er', m', g', kd', a', l', x1, x3, y2, y3, y4, h1, h2, ?_, e2⟩
    unfold f_T_readInto
    rw [e3, Option.bind_some]
    dsimp only
    rw [e1, Option.bind_some]
    rcases hr with rfl | rfl
    · rfl
    · rfl
theorem q_drive {ts tkd ta tl rm rr : Nat → Int32} (hn : n ≤ 250) (hl : ∀ j, 0 ≤ lt j ∧ lt j ≤ 255) (hI : Iv w rn er m g kd a l) (hTr : RTr ts tkd ta tl) (hr : RF rm rr) (sd tw tr te tm tsd t0 p0 e0 rf rt rtk rv : Int32) (ahead : Nat → Int32) :
    ∃ (ans : Int32) (w' : Nat) (rn' er' : Int) (m' : Nat) (g' kd' a' l' : Nat → Int) (x10 x11 x12 x13 x14 : Int32) (ts' tkd' ta' tl' : Nat → Int32) (x20 x21 x22 y7 y8 y9 y10 : Int32) (rm' rr' ahead' : Nat → Int32),
      f_M_drive (iz w) (iz rn) (iz er) (iz m) sd (ar g) (ar kd) (ar a) (ar l) tw tr te tm tsd ts tkd ta tl (iz n) t0 p0 e0 (ar lt) rm = some (ans, iz w', iz rn', iz er', iz m', sd, ar g', ar kd', ar a', ar l', x10, x11, x12, x13, x14, ts', tkd', ta', tl', 0, x20, x21, x22, rm') ∧
      f_R_drive (iz w) (iz rn) (iz er) (iz m) sd (iz n) rf rt rtk rv (ar g) (ar kd) (ar a) (ar l) (ar lt) rr ahead = some (ans, iz w', iz rn', iz er', iz m', sd, 0, y7, y8, y9, y10, ar g', ar kd', ar a', ar l', rr', ahead') ∧
      m ≤ m' ∧ Iv w' rn' er' m' g' kd' a' l' ∧ RTr ts' tkd' ta' tl' ∧ RF rm' rr' := by
  obtain ⟨rm2, rr2, e1, e2, hr2⟩ := z_ref (why := -2) (by omega) hr
  obtain ⟨q1, b1, rfl⟩ := arOf ts
  obtain ⟨q2, b2, rfl⟩ := arOf tkd
  obtain ⟨q3, b3, rfl⟩ := arOf ta
  obtain ⟨q4, b4, rfl⟩ := arOf tl
  have z1 : ∀ j, 36 ≤ j → q1 j = 0 := fun j hj => by
    have := hTr.1 j hj
    rw [ar_at, l_0, iz_eq (b1 j) (by omega)] at this
    exact this
  have z2 : ∀ j, 8 ≤ j → q2 j = 0 ∧ q3 j = 0 ∧ q4 j = 0 := fun j hj => by
    obtain ⟨h1, h2, h3⟩ := hTr.2 j hj
    rw [ar_at, l_0, iz_eq (b2 j) (by omega)] at h1
    rw [ar_at, l_0, iz_eq (b3 j) (by omega)] at h2
    rw [ar_at, l_0, iz_eq (b4 j) (by omega)] at h3
    exact ⟨h1, h2, h3⟩
  obtain ⟨hw, hrn, her, hm, hg, hkd, ha, hll, hl1, hg0, h80⟩ := id hI
  obtain ⟨old', ek, hro⟩ := y_keep (sd := sd) (w := w) (m := m) (rn := rn) (er := er) (g := g) (kd := kd) (a := a) (l := l) ahead
  have et := z_takeFrom (sd := sd) (sd' := tsd) (cw := tw) (cr := tr) (ce := te) (ck := tm) (w := w) (m := m) (rn := rn) (er := er) z1 z2 hg0 h80
  rcases dr_both hn hl hI t0 p0 e0 rf rtk rv with ⟨told, w', rn', er', m', g', kd', a', l', x1, x2, x3, y1, y2, y3, y4, h1, hmm, h2, e3, e4⟩ | ⟨i, w', rn', er', m', g', kd', a', l', x1, x3, y2, y3, y4, h1, h2, e3, e4⟩
  · have hg0' := h2.2.2.2.2.2.2.2.2.2.1
    have h80' := h2.2.2.2.2.2.2.2.2.2.2
    have et2 := z_takeFrom (sd := sd) (sd' := sd) (cw := iz w) (cr := iz rn) (ce := iz er) (ck := iz m) (w := w') (m := m') (rn := rn') (er := er') hg0 h80 hg0' h80'
    refine ⟨iz told, w', rn', er', m', g', kd', a', l', iz w', iz rn', iz er', iz m', sd, ar g', ar kd', ar a', ar l', x1, x2, x3, y1, y2, y3, y4, rm, rr, old', ?_, ?_, hmm, h2, ⟨fun j hj => ?_, fun j hj => ?_⟩, hr⟩
    · unfold f_M_drive f_T_cut
      rw [et, Option.bind_some]
      dsimp only
      rw [e3, Option.bind_some]
      dsimp only
      rw [Option.bind_some, if_pos (by rw [l_0, iz_le (by omega) (by omega)]; omega), et2, Option.bind_some]
    · unfold f_R_drive
      rw [ek, Option.bind_some, e4, Option.bind_some]
      rfl
    · rw [ar_at, hg0' j hj]; rfl
    · obtain ⟨k1, k2, k3⟩ := h80' j hj
      rw [ar_at, ar_at, ar_at, k1, k2, k3]
      exact ⟨rfl, rfl, rfl⟩
  · have hg0' := h2.2.2.2.2.2.2.2.2.2.1
    have h80' := h2.2.2.2.2.2.2.2.2.2.2
    have ea := y_again (cn := iz w') (cr := iz rn') (ce := iz er') (cm := iz m') (cs := sd) hro hg0' h80' hg0 h80
    refine ⟨-20 - iz i, w, rn, er, m, g, kd, a, l, iz w', iz rn', iz er', iz m', sd, ar g', ar kd', ar a', ar l', x1, iz i, x3, iz i, y2, y3, y4, rm2, rr2, old', ?_, ?_, Nat.le_refl m, hI, ⟨fun j hj => ?_, fun j hj => ?_⟩, hr2⟩
    · unfold f_M_drive f_T_cut
      rw [et, Option.bind_some]
      dsimp only
      rw [e3, Option.bind_some]
      dsimp only
      rw [Option.bind_some, if_neg (by rw [l_m20, iz_sub, l_0, iz_le (by omega) (by omega)]; omega), show f_M_refuse (-2) rm = _ from e1, Option.bind_some]
    · unfold f_R_drive
      rw [ek, Option.bind_some, e4, Option.bind_some]
      simp only [Sum.elim_inr]
      rw [ea, Option.bind_some, show f_R_no (-2) rr = _ from e2, Option.bind_some]
    · rw [ar_at, hg0' j hj]; rfl
    · obtain ⟨k1, k2, k3⟩ := h80' j hj
      rw [ar_at, ar_at, ar_at, k1, k2, k3]
      exact ⟨rfl, rfl, rfl⟩
end

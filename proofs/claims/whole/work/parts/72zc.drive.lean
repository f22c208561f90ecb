/-! the tape: drive -/
theorem loopW {σ τ ρ π : Type} {b1 : σ → Option (σ ⊕ ρ)} {b2 : τ → Option (τ ⊕ π)} (R : Nat → σ → τ → Prop) (Q : ρ → π → Prop)
    (hs : ∀ μ s t, R μ s t → (∃ s' t' μ', b1 s = some (.inl s') ∧ b2 t = some (.inl t') ∧ μ' < μ ∧ R μ' s' t') ∨ (∃ r p, (∀ n, iter b1 (n + 2) s = some r) ∧ (∀ n, iter b2 (n + 2) t = some p) ∧ Q r p)) :
    ∀ μ s t, R μ s t → μ < 90000 → ∃ r p, iter b1 FUEL s = some r ∧ iter b2 FUEL t = some p ∧ Q r p := by
  have key : ∀ N μ, μ ≤ N → ∀ n1 n2 s t, μ ≤ n1 → μ ≤ n2 → R μ s t → ∃ r p, iter b1 (n1 + 2) s = some r ∧ iter b2 (n2 + 2) t = some p ∧ Q r p := by
    intro N
    induction N with
    | zero =>
      intro μ hμ n1 n2 s t h1 h2 hR
      rcases hs μ s t hR with ⟨s', t', μ', e1, e2, h3, h4⟩ | ⟨r, p, e1, e2, h3⟩
      · omega
      · exact ⟨r, p, e1 n1, e2 n2, h3⟩
    | succ N ih =>
      intro μ hμ n1 n2 s t h1 h2 hR
      rcases hs μ s t hR with ⟨s', t', μ', e1, e2, h3, h4⟩ | ⟨r, p, e1, e2, h3⟩
      · obtain ⟨k1, rfl⟩ : ∃ q, n1 = q + 1 := ⟨n1 - 1, by omega⟩
        obtain ⟨k2, rfl⟩ : ∃ q, n2 = q + 1 := ⟨n2 - 1, by omega⟩
        rw [show k1 + 1 + 2 = (k1 + 2) + 1 by omega, show k2 + 1 + 2 = (k2 + 2) + 1 by omega, iterS e1, iterS e2]
        exact ih μ' (by omega) k1 k2 s' t' (by omega) (by omega) h4
      · exact ⟨r, p, e1 n1, e2 n2, h3⟩
  intro μ s t hR hμ
  exact key μ μ (Nat.le_refl μ) 99998 99998 s t (by omega) (by omega) hR
section
variable {n : Nat} {lt : Nat → Int}
abbrev cLs := Int32 × Int32 × Int32 × Int32 × Int32 × Int32 × Int32 × Int32 × (Nat → Int32) × (Nat → Int32) × (Nat → Int32) × (Nat → Int32)
abbrev rLs := Int32 × Int32 × Int32 × Int32 × Int32 × Int32 × Int32 × Int32 × Int32 × Int32 × (Nat → Int32) × (Nat → Int32) × (Nat → Int32) × (Nat → Int32)
abbrev cB (n : Nat) (lt : Nat → Int) (s : cLs) := f_T_readInto_b11 (iz n) (ar lt) s.1 s.2.1 s.2.2.1 s.2.2.2.1 s.2.2.2.2.1 s.2.2.2.2.2.1 s.2.2.2.2.2.2.1 s.2.2.2.2.2.2.2.1 s.2.2.2.2.2.2.2.2.1 s.2.2.2.2.2.2.2.2.2.1 s.2.2.2.2.2.2.2.2.2.2.1 s.2.2.2.2.2.2.2.2.2.2.2
abbrev rB (n : Nat) (lt : Nat → Int) (s : rLs) := f_R_drive_b17 (iz n) (ar lt) s.1 s.2.1 s.2.2.1 s.2.2.2.1 s.2.2.2.2.1 s.2.2.2.2.2.1 s.2.2.2.2.2.2.1 s.2.2.2.2.2.2.2.1 s.2.2.2.2.2.2.2.2.1 s.2.2.2.2.2.2.2.2.2.1 s.2.2.2.2.2.2.2.2.2.2.1 s.2.2.2.2.2.2.2.2.2.2.2.1 s.2.2.2.2.2.2.2.2.2.2.2.2.1 s.2.2.2.2.2.2.2.2.2.2.2.2.2
def DR (n : Nat) (lt : Nat → Int) (m0 μ : Nat) (s : cLs) (t : rLs) : Prop :=
  ∃ (p told w : Nat) (rn er : Int) (m : Nat) (g kd a l : Nat → Int) (f tok v : Int32), p ≤ n ∧ 2 * told ≤ p ∧ μ = n + 1 - p ∧ m0 ≤ m ∧ Iv w rn er m g kd a l ∧
    s = (iz ((told + 1 : Nat) : Int), iz (tk n lt (sk n lt p)), iz ((sk n lt p : Nat) : Int), iz ((en n lt (sk n lt p) : Nat) : Int), iz w, iz rn, iz er, iz m, ar g, ar kd, ar a, ar l) ∧
    t = (iz told, 1, iz w, iz rn, iz er, iz m, f, iz p, tok, v, ar g, ar kd, ar a, ar l)
abbrev cRs := (Int32 × Int32 × Int32 × Int32 × Int32 × Int32 × Int32 × (Nat → Int32) × (Nat → Int32) × (Nat → Int32) × (Nat → Int32)) ⊕ ((Int32 × Int32 × Int32 × Int32 × Int32 × Int32 × Int32 × Int32 × (Nat → Int32) × (Nat → Int32) × (Nat → Int32) × (Nat → Int32)) ⊕ ((Int32 × Int32 × Int32 × Int32 × Int32 × Int32 × Int32 × (Nat → Int32) × (Nat → Int32) × (Nat → Int32) × (Nat → Int32)) ⊕ (Int32 × Int32 × Int32 × Int32 × Int32 × Int32 × Int32 × (Nat → Int32) × (Nat → Int32) × (Nat → Int32) × (Nat → Int32))))
abbrev rRs := (Int32 × Int32 × Int32 × Int32 × Int32 × Int32 × Int32 × Int32 × Int32 × (Nat → Int32) × (Nat → Int32) × (Nat → Int32) × (Nat → Int32)) ⊕ (Int32 × Int32 × Int32 × Int32 × Int32 × Int32 × Int32 × Int32 × (Nat → Int32) × (Nat → Int32) × (Nat → Int32) × (Nat → Int32))
def DQ (n m0 : Nat) (r : cRs) (p : rRs) : Prop :=
  (∃ (told w : Nat) (rn er : Int) (m : Nat) (g kd a l : Nat → Int) (x1 x2 x3 f t tok v : Int32), told ≤ 250 ∧ m0 ≤ m ∧ Iv w rn er m g kd a l ∧
    r = .inr (.inl (iz told, x1, x2, x3, iz w, iz rn, iz er, iz m, ar g, ar kd, ar a, ar l)) ∧ p = .inl (iz told, iz w, iz rn, iz er, iz m, f, t, tok, v, ar g, ar kd, ar a, ar l)) ∨
  (∃ (i w : Nat) (rn er : Int) (m : Nat) (g kd a l : Nat → Int) (x1 x3 t tok v : Int32), i ≤ n ∧ Iv w rn er m g kd a l ∧
    (r = .inl (x1, iz i, x3, iz w, iz rn, iz er, iz m, ar g, ar kd, ar a, ar l) ∨ r = .inr (.inr (.inl (x1, iz i, x3, iz w, iz rn, iz er, iz m, ar g, ar kd, ar a, ar l)))) ∧ p = .inr (iz w, iz rn, iz er, iz m, iz i, t, tok, v, ar g, ar kd, ar a, ar l))
theorem tk_0 {i : Nat} : tk n lt i = 0 ↔ n ≤ i := by
  constructor
  · intro z
    apply Classical.byContradiction
    intro y
    rw [tk_lt (by omega)] at z
    have := tkc_bd (lt i)
    omega
  · exact tk_n
theorem dr_step (hn : n ≤ 250) (hl : ∀ j, 0 ≤ lt j ∧ lt j ≤ 255) (m0 μ : Nat) (s : cLs) (t : rLs) (hR : DR n lt m0 μ s t) :
    (∃ s' t' μ', cB n lt s = some (.inl s') ∧ rB n lt t = some (.inl t') ∧ μ' < μ ∧ DR n lt m0 μ' s' t') ∨ (∃ r p, (∀ k, iter (cB n lt) (k + 2) s = some r) ∧ (∀ k, iter (rB n lt) (k + 2) t = some p) ∧ DQ n m0 r p) := by
  obtain ⟨p, told, w, rn, er, m, g, kd, a, l, f, tok, v, hp, ht, rfl, hm0, hI, rfl, rfl⟩ := hR
  obtain ⟨b1, b2⟩ := sk_bd (lt := lt) hp
  have en1 := y_next hn hl hp f tok v
  obtain ⟨ok, i', t', w', rn', er', m', g', kd', a', l', f', tok', v', ec, er2, hI', ht', hi', hmm, hok, hbad⟩ := st_all (n := n) (lt := lt) (i := sk n lt p) (w := w) (rn := rn) (er := er) (m := m) (g := g) (kd := kd) (a := a) (l := l) hn hl b2 hI (if tk n lt (sk n lt p) = 2 then iz (val n lt (sk n lt p)) else v)
  unfold cSt at ec
  unfold rSt at er2
  have hc250 : ¬ (250 : Int32) < iz ((told + 1 : Nat) : Int) := by rw [l_250, iz_lt (by omega) (by omega)]; omega
  have b3 := tk_bd n lt i'
  have b4 := rtok_bd (n := n) (lt := lt) i'
  cases ok with
  | false =>
    right
    have hf := hbad rfl
    subst hf
    refine ⟨.inl (iz (tk n lt i'), iz i', iz ((en n lt i' : Nat) : Int), iz w', iz rn', iz er', iz m', ar g', ar kd', ar a', ar l'), .inr (iz w', iz rn', iz er', iz m', iz i', iz t', tok', v', ar g', ar kd', ar a', ar l'), fun k => ?_, fun k => ?_, Or.inr ⟨i', w', rn', er', m', g', kd', a', l', _, _, _, _, _, hi', hI', Or.inl rfl, rfl⟩⟩
    · refine iterD ?_
      show f_T_readInto_b11 (iz n) (ar lt) (iz ((told + 1 : Nat) : Int)) _ _ _ _ _ _ _ _ _ _ _ = _
      unfold f_T_readInto_b11
      rw [if_neg hc250, ec, Option.bind_some]
      dsimp only
      rw [if_pos bz_F]
    · have e1 : rB n lt (iz told, 1, iz w, iz rn, iz er, iz m, f, iz p, tok, v, ar g, ar kd, ar a, ar l) = some (.inl (iz told, 0, iz w', iz rn', iz er', iz m', iz i', iz t', tok', v', ar g', ar kd', ar a', ar l')) := by
        show f_R_drive_b17 (iz n) (ar lt) (iz told) 1 _ _ _ _ _ _ _ _ _ _ _ _ = _
        unfold f_R_drive_b17
        rw [if_neg ne10, en1, Option.bind_some]
        dsimp only
        rw [er2, Option.bind_some]
        dsimp only
        rw [if_pos bz_F]
        rfl
      rw [iterS e1]
      refine iterD ?_
      show f_R_drive_b17 (iz n) (ar lt) (iz told) 0 _ _ _ _ _ _ _ _ _ _ _ _ = _
      unfold f_R_drive_b17
      rw [if_pos rfl]
  | true =>
    obtain ⟨h1, h2⟩ := hok rfl
    have en2 := y_next hn hl ht' f' tok' v'
    rw [← h2] at en2
    obtain ⟨d1, d2, d3⟩ := en_bd (lt := lt) hi'
    obtain ⟨d4, d5⟩ := sk_bd (lt := lt) ht'
    rw [← h2] at d4 d5
    have cM : ∀ (P : Option (cLs ⊕ cRs)), P = (if iz (tk n lt i') = 0 then some (.inr (.inr (.inl (iz ((told + 1 : Nat) : Int), iz (tk n lt i'), iz i', iz ((en n lt i' : Nat) : Int), iz w', iz rn', iz er', iz m', ar g', ar kd', ar a', ar l')))) else if iz (tk n lt i') = 3 then (f_T_next (iz n) (iz (tk n lt i')) (iz i') (iz ((en n lt i' : Nat) : Int)) (ar lt)).bind (fun x3 => some (.inl (iz ((told + 1 : Nat) : Int) + 1, x3.1, x3.2.1, x3.2.2, iz w', iz rn', iz er', iz m', ar g', ar kd', ar a', ar l'))) else some (.inr (.inr (.inr (.inl (iz (tk n lt i'), iz i', iz ((en n lt i' : Nat) : Int), iz w', iz rn', iz er', iz m', ar g', ar kd', ar a', ar l')))))) → cB n lt (iz ((told + 1 : Nat) : Int), iz (tk n lt (sk n lt p)), iz ((sk n lt p : Nat) : Int), iz ((en n lt (sk n lt p) : Nat) : Int), iz w, iz rn, iz er, iz m, ar g, ar kd, ar a, ar l) = P := fun P hP => by
      rw [hP]
      show f_T_readInto_b11 (iz n) (ar lt) (iz ((told + 1 : Nat) : Int)) _ _ _ _ _ _ _ _ _ _ _ = _
      unfold f_T_readInto_b11
      rw [if_neg hc250, ec, Option.bind_some]
      dsimp only
      rw [if_neg bzT]
    have rM : ∀ (P : Option (rLs ⊕ rRs)), P = (if iz (rtok n lt i') = 101 then some (.inr (.inl (iz told + 1, iz w', iz rn', iz er', iz m', iz i', iz ((en n lt i' : Nat) : Int), iz (rtok n lt i'), (if tk n lt i' = 2 then iz (val n lt i') else v'), ar g', ar kd', ar a', ar l'))) else if iz (rtok n lt i') = 59 then some (.inl (iz told + 1, 1, iz w', iz rn', iz er', iz m', iz i', iz ((en n lt i' : Nat) : Int), iz (rtok n lt i'), (if tk n lt i' = 2 then iz (val n lt i') else v'), ar g', ar kd', ar a', ar l')) else some (.inl (iz told + 1, 0, iz w', iz rn', iz er', iz m', iz i', iz ((en n lt i' : Nat) : Int), iz (rtok n lt i'), (if tk n lt i' = 2 then iz (val n lt i') else v'), ar g', ar kd', ar a', ar l'))) → rB n lt (iz told, 1, iz w, iz rn, iz er, iz m, f, iz p, tok, v, ar g, ar kd, ar a, ar l) = P := fun P hP => by
      rw [hP]
      show f_R_drive_b17 (iz n) (ar lt) (iz told) 1 _ _ _ _ _ _ _ _ _ _ _ _ = _
      unfold f_R_drive_b17
      rw [if_neg ne10, en1, Option.bind_some]
      dsimp only
      rw [er2, Option.bind_some]
      dsimp only
      rw [if_neg bzT, en2, Option.bind_some]
    by_cases c0 : tk n lt i' = 0
    · right
      have hin : i' = n := by have := tk_0.mp c0; omega
      have e1 := cM _ rfl
      rw [if_pos (by rw [c0]; rfl)] at e1
      have e2 := rM _ rfl
      rw [if_pos (by rw [(rtok_e hi').mpr hin]; rfl)] at e2
      refine ⟨_, _, fun k => iterD e1, fun k => iterD e2, Or.inl ⟨told + 1, w', rn', er', m', g', kd', a', l', _, _, _, _, _, _, _, by omega, by omega, hI', rfl, by rw [iz_succ]⟩⟩
    · have hin : i' < n := by
        apply Classical.byContradiction
        intro z
        exact c0 (tk_0.mpr (by omega))
      have e1 := cM _ rfl
      rw [if_neg (by rw [l_0, iz_eq (by omega) (by omega)]; exact c0)] at e1
      have e2 := rM _ rfl
      rw [if_neg (by rw [show (101 : Int32) = iz 101 from rfl, iz_eq (by omega) (by omega)]; exact fun z => by have := (rtok_e hi').mp z; omega)] at e2
      have d6 := d3 hin
      by_cases c3 : tk n lt i' = 3
      · left
        rw [if_pos (by rw [c3]; rfl), z_next hn hl d2, Option.bind_some, iz_succ] at e1
        rw [if_pos (by rw [rtok_s.mpr c3]; rfl), iz_succ] at e2
        exact ⟨_, _, n + 1 - en n lt i', e1, e2, by omega, en n lt i', told + 1, w', rn', er', m', g', kd', a', l', _, _, _, d2, by omega, rfl, by omega, hI', rfl, rfl⟩
      · right
        rw [if_neg (by rw [l_3, iz_eq (by omega) (by omega)]; exact c3)] at e1
        rw [if_neg (by rw [l_59, iz_eq (by omega) (by omega)]; exact fun z => c3 (rtok_s.mp z))] at e2
        refine ⟨_, .inr (iz w', iz rn', iz er', iz m', iz i', iz ((en n lt i' : Nat) : Int), iz (rtok n lt i'), (if tk n lt i' = 2 then iz (val n lt i') else v'), ar g', ar kd', ar a', ar l'), fun k => iterD e1, fun k => ?_, Or.inr ⟨i', w', rn', er', m', g', kd', a', l', _, _, _, _, _, hi', hI', Or.inr rfl, rfl⟩⟩
        rw [iterS e2]
        refine iterD ?_
        show f_R_drive_b17 (iz n) (ar lt) _ 0 _ _ _ _ _ _ _ _ _ _ _ _ = _
        unfold f_R_drive_b17
        rw [if_pos rfl]
theorem dr_loop {w m : Nat} {rn er : Int} {g kd a l : Nat → Int} (hn : n ≤ 250) (hl : ∀ j, 0 ≤ lt j ∧ lt j ≤ 255) (hI : Iv w rn er m g kd a l) (f tok v : Int32) :
    ∃ r p, f_T_readInto_l11 (iz n) (ar lt) 1 (iz (tk n lt (sk n lt 0))) (iz ((sk n lt 0 : Nat) : Int)) (iz ((en n lt (sk n lt 0) : Nat) : Int)) (iz w) (iz rn) (iz er) (iz m) (ar g) (ar kd) (ar a) (ar l) = some r ∧ f_R_drive_l17 (iz n) (ar lt) 0 1 (iz w) (iz rn) (iz er) (iz m) f 0 tok v (ar g) (ar kd) (ar a) (ar l) = some p ∧ DQ n m r p :=
  loopW (b1 := cB n lt) (b2 := rB n lt) (DR n lt m) (DQ n m) (fun μ s t h => dr_step hn hl m μ s t h) (n + 1) (1, iz (tk n lt (sk n lt 0)), iz ((sk n lt 0 : Nat) : Int), iz ((en n lt (sk n lt 0) : Nat) : Int), iz w, iz rn, iz er, iz m, ar g, ar kd, ar a, ar l) (0, 1, iz w, iz rn, iz er, iz m, f, 0, tok, v, ar g, ar kd, ar a, ar l) ⟨0, 0, w, rn, er, m, g, kd, a, l, f, tok, v, by omega, by omega, by omega, Nat.le_refl m, hI, rfl, rfl⟩ (by omega)
end

theorem TB_g1 {w : Cond} (i : Nat) (h : tables_1_1[i]? = some w) : w ∈ lw_tbl := List.mem_append_right _ (List.mem_append_left _ (List.mem_of_getElem? h))
theorem TB_g2 {w : Cond} (i : Nat) (h : tables_1_2[i]? = some w) : w ∈ lw_tbl := List.mem_append_right _ (List.mem_append_right _ (List.mem_append_left _ (List.mem_of_getElem? h)))
theorem TB_g3 {w : Cond} (i : Nat) (h : tables_1_3[i]? = some w) : w ∈ lw_tbl := List.mem_append_right _ (List.mem_append_right _ (List.mem_append_right _ (List.mem_append_left _ (List.mem_of_getElem? h))))
theorem TB_g4 {w : Cond} (i : Nat) (h : tables_1_4[i]? = some w) : w ∈ lw_tbl := List.mem_append_right _ (List.mem_append_right _ (List.mem_append_right _ (List.mem_append_right _ (List.mem_append_left _ (List.mem_of_getElem? h)))))
theorem TB_g5 {w : Cond} (i : Nat) (h : tables_1_5[i]? = some w) : w ∈ lw_tbl := List.mem_append_right _ (List.mem_append_right _ (List.mem_append_right _ (List.mem_append_right _ (List.mem_append_right _ (List.mem_append_left _ (List.mem_of_getElem? h))))))
theorem TB_g6 {w : Cond} (i : Nat) (h : tables_1_6[i]? = some w) : w ∈ lw_tbl := List.mem_append_right _ (List.mem_append_right _ (List.mem_append_right _ (List.mem_append_right _ (List.mem_append_right _ (List.mem_append_right _ (List.mem_append_left _ (List.mem_of_getElem? h)))))))
theorem TB_g7 {w : Cond} (i : Nat) (h : tables_1_7[i]? = some w) : w ∈ lw_tbl := List.mem_append_right _ (List.mem_append_right _ (List.mem_append_right _ (List.mem_append_right _ (List.mem_append_right _ (List.mem_append_right _ (List.mem_append_right _ (List.mem_of_getElem? h)))))))
def sTm (i : Nat) : Term := Term.string "GravelHasTheLastWord$Tape" ([60, 71, 79, 84, 89, 94, 99].getD i 0)
def gv : Cond := Jvm.Cond.and given_1 narrow_1
set_option maxRecDepth 100000 in
theorem gv_ex : ∀ i, i < 7 → (Cond.exactly (sTm i) "java/lang/String") ∈ flatC gv := by decide +kernel
set_option maxRecDepth 100000 in
theorem gv_co : ∀ i, i < 7 → (Cond.eq (.field (sTm i) "java/lang/String" "coder" "B") (.int 0)) ∈ flatC gv := by decide +kernel
set_option maxRecDepth 100000 in
theorem gv_ar : ∀ i, i < 7 → (Cond.arrayOf (.field (sTm i) "java/lang/String" "value" "[B") .byte) ∈ flatC gv := by decide +kernel
set_option maxRecDepth 100000 in
theorem gv_le : ∀ i, i < 7 → (Cond.eq (.length (.field (sTm i) "java/lang/String" "value" "[B")) (.int (Int32.ofNat (sLen.getD i 0)))) ∈ flatC gv := by decide +kernel
set_option maxRecDepth 100000 in
theorem gv_el : ∀ i, i < 7 → ∀ j, j < sLen.getD i 0 → (Cond.eq (.elem (.field (sTm i) "java/lang/String" "value" "[B") (.int (Int32.ofNat j))) (.int ((sByt.getD i []).getD j 0))) ∈ flatC gv := by decide +kernel
set_option maxRecDepth 100000 in
theorem gv_ne : ∀ i, i < 7 → ∀ j, j < 7 → i ≠ j → (Cond.not (Cond.eq (sTm i) (sTm j))) ∈ flatC gv ∨ (Cond.not (Cond.eq (sTm j) (sTm i))) ∈ flatC gv := by decide +kernel
set_option maxRecDepth 100000 in
theorem gv_eq : ∀ i, i < 7 → (Cond.eq (sTm i) (Term.string "GravelHasTheLastWordModel" ([175, 170, 158, 167, 168, 177, 178].getD i 0))) ∈ flatC gv := by decide +kernel
set_option maxRecDepth 100000 in
theorem gv_ka : ∀ j, j < 6 → (Cond.eq (.elem (.static "GravelHasTheLastWord" "KIND_ABOVE" "[I") (.int (Int32.ofNat j))) (.int (kAbove j))) ∈ flatC gv := by decide +kernel
set_option maxRecDepth 100000 in
theorem env_is {s : State} {b : Nat} (hts : ∀ w ∈ lw_tbl, w.before #[Value.ref b] s = true) (hgv : gv.before #[Value.ref b] s = true) : ∃ X : kX, kEs X (fun q : Nat => s.heap.size ≤ q) s ∧ kNst s := by
  have hs := flat_of_before _ hgv
  have hA : ∀ a : Nat, a < s.heap.size → ¬ (fun q : Nat => s.heap.size ≤ q) a := fun a h => Nat.not_le.mpr h
  obtain ⟨adK, adV, hS, hev⟩ := vk_Sof (N := 7) (tm := sTm) (len := sLen) (byt := sByt) (A := fun q : Nat => s.heap.size ≤ q) (args := #[Value.ref b]) (s := s) (by decide) (fun i h => hs _ (gv_ex i h)) (fun i h => hs _ (gv_co i h)) (fun i h => hs _ (gv_ar i h)) (fun i h => hs _ (gv_le i h)) (fun i h j hj => hs _ (gv_el i h j hj)) (fun i j h1 h2 h3 => (gv_ne i h1 j h2 h3).elim (fun q => Or.inl (hs _ q)) (fun q => Or.inr (hs _ q))) hA
  have hev2 : ∀ i, i < 7 → (Term.string "GravelHasTheLastWordModel" ([175, 170, 158, 167, 168, 177, 178].getD i 0)).eval #[Value.ref b] s none [] s = some (.ref (adK i)) := fun i h => va_eqR (hs _ (gv_eq i h)) (hev i h)
  obtain ⟨t, ht, hT⟩ := va_Tof (args := #[Value.ref b]) (s := s) (tm := .static "GravelHasTheLastWord" "KIND_ABOVE" "[I") (ty := .int) (N := 6) (f := fun j => .int (kAbove j)) (A := fun q : Nat => s.heap.size ≤ q) (by decide) (hs _ (by decide +kernel)) (va_eqt (z := 6) (hs _ (by decide +kernel))) (fun j hj => va_eqt (hs _ (gv_ka j hj))) hA
  have hZ := va_Zof (args := #[Value.ref b]) (A := fun q : Nat => s.heap.size ≤ q) (hts _ (TB_g2 40 (by decide +kernel))) (hts _ (TB_g1 1 (by decide +kernel))) ht hA
  have hZ2 := va_Zof (args := #[Value.ref b]) (C := "java/lang/String") (n := "COMPACT_STRINGS") (d := "Z") (v := .int 1) (A := fun q : Nat => s.heap.size ≤ q) (hts _ (TB_g2 173 (by decide +kernel))) (hts _ (TB_g1 9 (by decide +kernel))) (va_eqt (hs _ (by decide +kernel))) hA
  have hq := va_Zqof (args := #[Value.ref b]) (C := "jdk/internal/util/Preconditions") (n := "SIOOBE_FORMATTER") (d := "Ljava/util/function/BiFunction;") (A := fun q : Nat => s.heap.size ≤ q) (hts _ (TB_g2 189 (by decide +kernel))) (hts _ (TB_g1 11 (by decide +kernel))) (hs _ (by decide +kernel)) hA
  have hR : ∀ q ∈ kRefs, vk_R q.1 q.2.1 q.2.2.1 (adK q.2.2.2) s := by
    intro q hq
    simp only [kRefs, List.mem_cons, List.not_mem_nil, or_false] at hq
    rcases hq with rfl | rfl | rfl | rfl | rfl | rfl | rfl | rfl | rfl | rfl | rfl | rfl | rfl | rfl
    · exact vk_R.of (hts _ (TB_g2 159 (by decide +kernel))) (hev 0 (by decide))
    · exact vk_R.of (hts _ (TB_g2 222 (by decide +kernel))) (hev 1 (by decide))
    · exact vk_R.of (hts _ (TB_g2 232 (by decide +kernel))) (hev 2 (by decide))
    · exact vk_R.of (hts _ (TB_g2 238 (by decide +kernel))) (hev 3 (by decide))
    · exact vk_R.of (hts _ (TB_g3 5 (by decide +kernel))) (hev 4 (by decide))
    · exact vk_R.of (hts _ (TB_g3 10 (by decide +kernel))) (hev 5 (by decide))
    · exact vk_R.of (hts _ (TB_g3 15 (by decide +kernel))) (hev 6 (by decide))
    · exact vk_R.of (hts _ (TB_g5 198 (by decide +kernel))) (hev2 0 (by decide))
    · exact vk_R.of (hts _ (TB_g5 193 (by decide +kernel))) (hev2 1 (by decide))
    · exact vk_R.of (hts _ (TB_g5 180 (by decide +kernel))) (hev2 2 (by decide))
    · exact vk_R.of (hts _ (TB_g5 191 (by decide +kernel))) (hev2 3 (by decide))
    · exact vk_R.of (hts _ (TB_g5 192 (by decide +kernel))) (hev2 4 (by decide))
    · exact vk_R.of (hts _ (TB_g5 199 (by decide +kernel))) (hev2 5 (by decide))
    · exact vk_R.of (hts _ (TB_g5 200 (by decide +kernel))) (hev2 6 (by decide))
  have hN : ∀ q ∈ kNest, va_Nw (.methodLinkNest q.1 q.2.1 q.2.2 RX4) s := by
    intro q hq
    simp only [kNest, List.mem_cons, List.not_mem_nil, or_false] at hq
    rcases hq with rfl | rfl | rfl | rfl | rfl | rfl
    · exact va_Nw.of rfl (hts _ (TB_g1 189 (by decide +kernel)))
    · exact va_Nw.of rfl (hts _ (TB_g1 190 (by decide +kernel)))
    · exact va_Nw.of rfl (hts _ (TB_g1 231 (by decide +kernel)))
    · exact va_Nw.of rfl (hts _ (TB_g2 35 (by decide +kernel)))
    · exact va_Nw.of rfl (hts _ (TB_g2 122 (by decide +kernel)))
    · exact va_Nw.of rfl (hts _ (TB_g3 63 (by decide +kernel)))
  have hN2 : kNst s := ⟨va_Nw.of rfl (hts _ (TB_g1 86 (by decide +kernel))), va_Nw.of rfl (hts _ (TB_g1 109 (by decide +kernel)))⟩
  rcases hq with hq | ⟨t2, hq⟩
  · exact ⟨(adK, adV, t, .null), ⟨hS, hR, hZ, hT, hZ2, hq, rfl, hN⟩, hN2⟩
  · exact ⟨(adK, adV, t, .ref t2), ⟨hS, hR, hZ, hT, hZ2, hq, rfl, hN⟩, hN2⟩
theorem arrK {args : Array Value} {s : State} {ty : FieldType} (h : (Cond.arrayClass ty).before args s = true) : ∃ cA : ClassId, ArrOfT s cA ty ∧ s.vm.findClass ("[" ++ ty.toString) = some cA := by
  obtain ⟨cA, kA, comp, h1, h2, h3⟩ := Cond.arrayClass_spec h
  exact ⟨cA, fun n z => ⟨fun k h => (by cases h), kA, h2, comp, h3⟩, h1⟩
theorem kNst_env {s : State} {H : Heap} (h : kNst s) : kEnv s kNst H := by
  refine ⟨fun U g mk a q => ⟨va_Nw.same (u := U) rfl rfl q.1, va_Nw.same (u := U) rfl rfl q.2⟩, fun U hU hW => ⟨va_Nw.warmM hW h.1, va_Nw.warmM hW h.2⟩⟩
theorem gWL {c1 : Cond} (h : c1 ∈ WS) : GoodIn WS (c1 :: WS) := fun w hw => by
  have hw : w ∈ WS := (List.mem_cons.mp hw).elim (fun e => e ▸ h) id
  exact ⟨hw, good_of_word (WS_good hw)⟩
theorem we_0 : Cond.code yX4_init cX4_init 1 none ∈ WS := WS_g1 18 (by decide +kernel) (by decide +kernel)
theorem we_1 : Cond.code yX5_init cX5_init 2 none ∈ WS := WS_g4 216 (by decide +kernel) (by decide +kernel)
theorem we_2 : Cond.initialized RX4 ∈ WS := WS_g1 1 (by decide +kernel) (by decide +kernel)
theorem we_3 : Cond.methodLink RL 9 yX4_init ∈ WS := WS_g1 16 (by decide +kernel) (by decide +kernel)
theorem we_4 : Cond.instanceMethod yX4_init ∈ WS := WS_g1 17 (by decide +kernel) (by decide +kernel)
theorem we_5 : Cond.initialized RX5 ∈ WS := WS_g1 6 (by decide +kernel) (by decide +kernel)
theorem we_6 : Cond.methodLink RL 12 yX5_init ∈ WS := WS_g4 214 (by decide +kernel) (by decide +kernel)
theorem we_7 : Cond.instanceMethod yX5_init ∈ WS := WS_g4 215 (by decide +kernel) (by decide +kernel)
theorem we_8 : Cond.classLink RL 7 RX4 ∈ WS := WS_g1 14 (by decide +kernel) (by decide +kernel)
theorem we_9 : Cond.instantiable RX4 10 ∈ WS := WS_g1 15 (by decide +kernel) (by decide +kernel)
theorem we_10 : Cond.classLink RL 10 RX5 ∈ WS := WS_g4 212 (by decide +kernel) (by decide +kernel)
theorem we_11 : Cond.instantiable RX5 26 ∈ WS := WS_g4 213 (by decide +kernel) (by decide +kernel)
theorem we_12 : Cond.instantiable RX0 9 ∈ WS := WS_g1 23 (by decide +kernel) (by decide +kernel)
theorem we_13 : Cond.instantiable RX1 8 ∈ WS := WS_g1 108 (by decide +kernel) (by decide +kernel)
theorem we_14 : Cond.instantiable RX2 3 ∈ WS := WS_g1 68 (by decide +kernel) (by decide +kernel)
theorem we_15 : Cond.instantiable RX3 5 ∈ WS := WS_g1 85 (by decide +kernel) (by decide +kernel)
theorem we_16 : Cond.arrayClass .int ∈ WS := WS_g1 66 (by decide +kernel) (by decide +kernel)
theorem we_17 : Cond.arrayClass .long ∈ WS := WS_g1 83 (by decide +kernel) (by decide +kernel)
theorem we_18 : Cond.arrayClass .boolean ∈ WS := WS_g1 139 (by decide +kernel) (by decide +kernel)

variable {p : Program} {l : Launch} {e : Env} {s : State} {m : MethodId} {args : Array Value} {below : List Frame} {meth : Method} {c : Code} {D : va_G} {A : Nat → Prop} {cI cL cZ : ClassId} {Q : State → Prop}
set_option maxRecDepth 100000 in
set_option maxHeartbeats 4000000 in
theorem s_M_whyNoRowOf (C : kC p l e rm_M_whyNoRowOf s m args below meth c D (tyG cI cL cZ) A 4 cX4_whyNoRowOf yX4_whyNoRowOf.cls (Cond.code yX4_whyNoRowOf cX4_whyNoRowOf 4 (some .int) :: WS) (some .int)) {X : kX} (hE : kEs X A s) {a_this : Nat} {a_now : Nat} {a_kept : Nat} {a_trial : Nat} {a_shelves : Nat} {a_tape : Nat} {a_paths : Nat} {a_sounds : Nat} {a_volumes : Nat} {a_refusals : Nat} {a_shelves_marks : Nat} {a_shelves_sizes : Nat} {a_shelves_elements : Nat} {v1 : Int32} {v2 : Int32} {c_isKept : Int32} {c_shelves_marks : (Nat → Int32)} {c_shelves_sizes : (Nat → Int32)} {x : Int32} (h : f_M_whyNoRowOf v1 v2 c_shelves_marks c_shelves_sizes = some x) :
    kW p l e rm_M_whyNoRowOf s m args below meth c D A 4 (cells_M_whyNoRowOf cI cL cZ a_this a_now a_kept a_trial a_shelves a_tape a_paths a_sounds a_volumes a_refusals a_shelves_marks a_shelves_sizes a_shelves_elements c_isKept c_shelves_marks c_shelves_sizes) [(0, .ref a_this), (1, .int v1), (2, .int v2)] (MQ below (kQi D A (cells_M_whyNoRowOf cI cL cZ a_this a_now a_kept a_trial a_shelves a_tape a_paths a_sounds a_volumes a_refusals a_shelves_marks a_shelves_sizes a_shelves_elements c_isKept c_shelves_marks c_shelves_sizes) x) args s 0 0 A) 0 [] := by
  unfold f_M_whyNoRowOf at h
  refine k_aload_n C dX4_whyNoRowOf_0 0 rfl rfl ?_
  refine k_get C (C0 := RX4) (T := TX4) (N := 10) (fun w h => List.mem_cons_of_mem _ (us_M w h)) 0 rfl rfl 3 (by decide) (List.mem_cons_of_mem _ wq_15) rfl rfl dX4_whyNoRowOf_1 ?_
  refine k_iload_n C dX4_whyNoRowOf_4 1 rfl rfl ?_
  obtain ⟨x1, hx1, h⟩ := bindE h
  refine kcallR_i C (wc := (cells_S_whyNoRow cI cL cZ a_shelves a_shelves_marks a_shelves_sizes a_shelves_elements c_shelves_marks)) (r := x1) [1, 2] (fun H locs ls hP hD hS hF hz => krunV C (q0 := 0) (ci := 2) (c_S_whyNoRow l D cI cL cZ X H.size a_shelves a_shelves_marks a_shelves_sizes a_shelves_elements v1 c_shelves_marks x1 hx1) (cwV 1 C.2.2.2.2.1 (gV wq_33 wq_34 wq_35 wq_20 wq_32) rfl rfl rfl (by decide +kernel) ⟨(Nat.le_of_ble_eq_true rfl), (Nat.le_of_ble_eq_true rfl)⟩) rfl rfl (kEs_call hE hS hF) rfl rfl (Nat.le_of_ble_eq_true rfl) dX4_whyNoRowOf_5 hP hD hz) rfl (by decide) ?_
  refine k_istore_n C (lv' := [(3, .int x1), (0, .ref a_this), (1, .int v1), (2, .int v2)]) dX4_whyNoRowOf_8 rfl (by decide) rfl ?_
  refine k_iload_n C dX4_whyNoRowOf_9 0 rfl rfl ?_
  refine k_if_eq C (tgt := 15) dX4_whyNoRowOf_10 (by decide) (fun c_10 => ?_) (fun c_10 => ?_)
  · have h := ifT c_10 h
    refine k_aload_n C dX4_whyNoRowOf_15 1 rfl rfl ?_
    refine k_get C (C0 := RX4) (T := TX4) (N := 10) (fun w h => List.mem_cons_of_mem _ (us_M w h)) 0 rfl rfl 3 (by decide) (List.mem_cons_of_mem _ wq_15) rfl rfl dX4_whyNoRowOf_16 ?_
    refine k_iload_n C dX4_whyNoRowOf_19 2 rfl rfl ?_
    obtain ⟨x2, hx2, h⟩ := bindE h
    refine kcallR_i C (wc := (cells_S_sizeOf cI cL cZ a_shelves a_shelves_marks a_shelves_sizes a_shelves_elements c_shelves_sizes)) (r := x2) [1, 3] (fun H locs ls hP hD hS hF hz => krunV C (q0 := 0) (ci := 2) (c_S_sizeOf l D cI cL cZ X H.size a_shelves a_shelves_marks a_shelves_sizes a_shelves_elements v1 c_shelves_sizes x2 hx2) (cwV 1 C.2.2.2.2.1 (gV wq_36 wq_27 wq_28 wq_20 wq_25) rfl rfl rfl (by decide +kernel) ⟨(Nat.le_of_ble_eq_true rfl), (Nat.le_of_ble_eq_true rfl)⟩) rfl rfl (kEs_call hE hS hF) rfl rfl (Nat.le_of_ble_eq_true rfl) dX4_whyNoRowOf_20 hP hD hz) rfl (by decide) ?_
    refine k_iload_n C dX4_whyNoRowOf_23 3 rfl rfl ?_
    refine k_icmp_ge C (tgt := 32) dX4_whyNoRowOf_24 (by decide) (fun c_24 => ?_) (fun c_24 => ?_)
    · have h := ifT c_24 h
      refine k_iconst C (v := (0 : Int32)) dX4_whyNoRowOf_32 (by decide) ?_
      obtain rfl := Option.some.inj h
      exact kret_i C rfl dX4_whyNoRowOf_33
    · have h := ifF c_24 h
      refine k_bipush C (v := (-2 : Int32)) dX4_whyNoRowOf_27 (by decide) ?_
      refine k_goto C (tgt := 33) dX4_whyNoRowOf_29 (by decide) ?_
      obtain rfl := Option.some.inj h
      exact kret_i C rfl dX4_whyNoRowOf_33
  · have h := ifF c_10 h
    refine k_iload_n C dX4_whyNoRowOf_13 0 rfl rfl ?_
    obtain rfl := Option.some.inj h
    exact kret_i C rfl dX4_whyNoRowOf_14
theorem c_M_whyNoRowOf (l : Launch) (D : va_G) (cI : ClassId) (cL : ClassId) (cZ : ClassId) (X : kX) (sz : Nat) (a_this : Nat) (a_now : Nat) (a_kept : Nat) (a_trial : Nat) (a_shelves : Nat) (a_tape : Nat) (a_paths : Nat) (a_sounds : Nat) (a_volumes : Nat) (a_refusals : Nat) (a_shelves_marks : Nat) (a_shelves_sizes : Nat) (a_shelves_elements : Nat) (v1 : Int32) (v2 : Int32) (c_isKept : Int32) (c_shelves_marks : (Nat → Int32)) (c_shelves_sizes : (Nat → Int32)) (x : Int32) (h : f_M_whyNoRowOf v1 v2 c_shelves_marks c_shelves_sizes = some x) :
    Met l yX4_whyNoRowOf (Cond.code yX4_whyNoRowOf cX4_whyNoRowOf 4 (some .int) :: WS) rm_M_whyNoRowOf (kP D (tyG cI cL cZ) (kEs X (va_A (cells_M_whyNoRowOf cI cL cZ a_this a_now a_kept a_trial a_shelves a_tape a_paths a_sounds a_volumes a_refusals a_shelves_marks a_shelves_sizes a_shelves_elements c_isKept c_shelves_marks c_shelves_sizes) sz)) [.ref a_this, .int v1, .int v2] sz (cells_M_whyNoRowOf cI cL cZ a_this a_now a_kept a_trial a_shelves a_tape a_paths a_sounds a_volumes a_refusals a_shelves_marks a_shelves_sizes a_shelves_elements c_isKept c_shelves_marks c_shelves_sizes)) (kQi D (va_A (cells_M_whyNoRowOf cI cL cZ a_this a_now a_kept a_trial a_shelves a_tape a_paths a_sounds a_volumes a_refusals a_shelves_marks a_shelves_sizes a_shelves_elements c_isKept c_shelves_marks c_shelves_sizes) sz) (cells_M_whyNoRowOf cI cL cZ a_this a_now a_kept a_trial a_shelves a_tape a_paths a_sounds a_volumes a_refusals a_shelves_marks a_shelves_sizes a_shelves_elements c_isKept c_shelves_marks c_shelves_sizes) x) 0 0 (va_A (cells_M_whyNoRowOf cI cL cZ a_this a_now a_kept a_trial a_shelves a_tape a_paths a_sounds a_volumes a_refusals a_shelves_marks a_shelves_sizes a_shelves_elements c_isKept c_shelves_marks c_shelves_sizes) sz) :=
  kmet (by decide) (Nat.le_of_ble_eq_true rfl) rfl (fun p e s m below meth c C hE => s_M_whyNoRowOf C hE h)
abbrev cells_M_isToldSo (cI : ClassId) (cL : ClassId) (cZ : ClassId) (a_this : Nat) (a_now : Nat) (a_kept : Nat) (a_trial : Nat) (a_shelves : Nat) (a_tape : Nat) (a_paths : Nat) (a_sounds : Nat) (a_volumes : Nat) (a_refusals : Nat) (a_now_stones : Nat) (a_now_kinds : Nat) (a_now_weights : Nat) (a_now_chances : Nat) (a_shelves_marks : Nat) (a_shelves_sizes : Nat) (a_shelves_elements : Nat) (c_isKept : Int32) (c_now_width : Int32) (c_now_rain : Int32) (c_now_ear : Int32) (c_now_walkers : Int32) (c_now_seed : Int32) (c_now_stones : (Nat → Int32)) (c_shelves_sizes : (Nat → Int32)) (c_shelves_elements : (Nat → Int64)) : va_W := [(a_this, .inr (4, [.ref a_now, .ref a_kept, .ref a_trial, .ref a_shelves, .ref a_tape, .ref a_paths, .ref a_sounds, .ref a_volumes, .ref a_refusals, .int c_isKept])), (a_now, .inr (0, [.ref a_now_stones, .ref a_now_kinds, .ref a_now_weights, .ref a_now_chances, .int c_now_width, .int c_now_rain, .int c_now_ear, .int c_now_walkers, .int c_now_seed])), (a_now_stones, .inl (cI, 36, .inl c_now_stones)), (a_shelves, .inr (2, [.ref a_shelves_marks, .ref a_shelves_sizes, .ref a_shelves_elements])), (a_shelves_sizes, .inl (cI, 8, .inl c_shelves_sizes)), (a_shelves_elements, .inl (cL, 320, .inr (.inl c_shelves_elements)))]
abbrev rm_M_isToldSo : Room := { frames := 3, cells := 0, slots := 0, locals := 63 }
set_option maxRecDepth 100000 in
set_option maxHeartbeats 4000000 in
theorem s_M_isToldSo_b3 (C : kC p l e rm_M_isToldSo s m args below meth c D (tyG cI cL cZ) A 8 cX4_isToldSo yX4_isToldSo.cls (Cond.code yX4_isToldSo cX4_isToldSo 8 (some .boolean) :: WS) (some .boolean)) {X : kX} (hE : kEs X A s) {a_this : Nat} {a_now : Nat} {a_kept : Nat} {a_trial : Nat} {a_shelves : Nat} {a_tape : Nat} {a_paths : Nat} {a_sounds : Nat} {a_volumes : Nat} {a_refusals : Nat} {a_now_stones : Nat} {a_now_kinds : Nat} {a_now_weights : Nat} {a_now_chances : Nat} {a_shelves_marks : Nat} {a_shelves_sizes : Nat} {a_shelves_elements : Nat} {v1 : Int32} {v2 : Int32} {v3 : Int32} {v4 : Int32} {v5 : Int32} {v6 : Int32} {c_isKept : Int32} {c_now_width : Int32} {c_now_rain : Int32} {c_now_ear : Int32} {c_now_walkers : Int32} {c_now_seed : Int32} {c_now_stones : (Nat → Int32)} {c_shelves_sizes : (Nat → Int32)} {c_shelves_elements : (Nat → Int64)} {x : (Int32 ⊕ (Unit ⊕ Unit))} (h : f_M_isToldSo_b3 v1 v2 v3 v4 v5 c_now_width c_now_rain c_now_stones c_shelves_sizes c_shelves_elements v6 = some x)
    (kc : ∀ s', x = .inl s' → kW p l e rm_M_isToldSo s m args below meth c D A 8 (cells_M_isToldSo cI cL cZ a_this a_now a_kept a_trial a_shelves a_tape a_paths a_sounds a_volumes a_refusals a_now_stones a_now_kinds a_now_weights a_now_chances a_shelves_marks a_shelves_sizes a_shelves_elements c_isKept c_now_width c_now_rain c_now_ear c_now_walkers c_now_seed c_now_stones c_shelves_sizes c_shelves_elements) [(0, .ref a_this), (1, .int v1), (2, .int v2), (3, .int v3), (4, .int v4), (5, .int v5), (6, .int s')] Q 3 [])
    (k0 : ∀ r, x = .inr (.inl r) → kW p l e rm_M_isToldSo s m args below meth c D A 8 (cells_M_isToldSo cI cL cZ a_this a_now a_kept a_trial a_shelves a_tape a_paths a_sounds a_volumes a_refusals a_now_stones a_now_kinds a_now_weights a_now_chances a_shelves_marks a_shelves_sizes a_shelves_elements c_isKept c_now_width c_now_rain c_now_ear c_now_walkers c_now_seed c_now_stones c_shelves_sizes c_shelves_elements) [] Q 61 [])
    (k1 : ∀ r, x = .inr (.inr r) → kW p l e rm_M_isToldSo s m args below meth c D A 8 (cells_M_isToldSo cI cL cZ a_this a_now a_kept a_trial a_shelves a_tape a_paths a_sounds a_volumes a_refusals a_now_stones a_now_kinds a_now_weights a_now_chances a_shelves_marks a_shelves_sizes a_shelves_elements c_isKept c_now_width c_now_rain c_now_ear c_now_walkers c_now_seed c_now_stones c_shelves_sizes c_shelves_elements) [] Q 69 []) :
    kW p l e rm_M_isToldSo s m args below meth c D A 8 (cells_M_isToldSo cI cL cZ a_this a_now a_kept a_trial a_shelves a_tape a_paths a_sounds a_volumes a_refusals a_now_stones a_now_kinds a_now_weights a_now_chances a_shelves_marks a_shelves_sizes a_shelves_elements c_isKept c_now_width c_now_rain c_now_ear c_now_walkers c_now_seed c_now_stones c_shelves_sizes c_shelves_elements) [(0, .ref a_this), (1, .int v1), (2, .int v2), (3, .int v3), (4, .int v4), (5, .int v5), (6, .int v6)] Q 3 [] := by
  unfold f_M_isToldSo_b3 at h
  refine k_iload C dX4_isToldSo_3 6 rfl ?_
  refine k_iload C dX4_isToldSo_5 5 rfl ?_
  refine k_icmp_ge C (tgt := 69) dX4_isToldSo_7 (by decide) (fun c_7 => ?_) (fun c_7 => ?_)
  · have h := ifT c_7 h
    refine k_lv (lv' := []) [] rfl ?_
    exact k1 _ (Option.some.inj h).symm
  · have h := ifF c_7 h
    refine k_aload_n C dX4_isToldSo_10 0 rfl rfl ?_
    refine k_get C (C0 := RX4) (T := TX4) (N := 10) (fun w h => List.mem_cons_of_mem _ (us_M w h)) 0 rfl rfl 0 (by decide) (List.mem_cons_of_mem _ wq_62) rfl rfl dX4_isToldSo_11 ?_
    refine k_aload_n C dX4_isToldSo_14 0 rfl rfl ?_
    refine k_get C (C0 := RX4) (T := TX4) (N := 10) (fun w h => List.mem_cons_of_mem _ (us_M w h)) 0 rfl rfl 0 (by decide) (List.mem_cons_of_mem _ wq_62) rfl rfl dX4_isToldSo_15 ?_
    refine k_iload C dX4_isToldSo_18 6 rfl ?_
    refine k_iload C dX4_isToldSo_20 4 rfl ?_
    obtain ⟨x1, hx1, h⟩ := bindE h
    refine kcallR_i C (wc := (cells_D_cellAt cI cL cZ a_now a_now_stones a_now_kinds a_now_weights a_now_chances c_now_width c_now_rain c_now_ear c_now_walkers c_now_seed)) (r := x1) [1] (fun H locs ls hP hD hS hF hz => krunV C (q0 := 0) (ci := 0) (c_D_cellAt l D cI cL cZ H.size a_now a_now_stones a_now_kinds a_now_weights a_now_chances v6 v4 c_now_width c_now_rain c_now_ear c_now_walkers c_now_seed x1 hx1) (cwV 2 C.2.2.2.2.1 (gV wq_399 wq_400 wq_401 wq_81 wq_398) rfl rfl rfl (by decide +kernel) ⟨(Nat.le_of_ble_eq_true rfl), (Nat.le_of_ble_eq_true rfl)⟩) rfl rfl kEnv_T rfl rfl (Nat.le_of_ble_eq_true rfl) dX4_isToldSo_22 hP hD hz) rfl (by decide) ?_
    refine k_aload_n C dX4_isToldSo_25 0 rfl rfl ?_
    refine k_get C (C0 := RX4) (T := TX4) (N := 10) (fun w h => List.mem_cons_of_mem _ (us_M w h)) 0 rfl rfl 0 (by decide) (List.mem_cons_of_mem _ wq_62) rfl rfl dX4_isToldSo_26 ?_
    refine k_get C (C0 := RX0) (T := TX0) (N := 9) (fun w h => List.mem_cons_of_mem _ (us_D w h)) 1 rfl rfl 5 (by decide) (List.mem_cons_of_mem _ wq_141) rfl rfl dX4_isToldSo_29 ?_
    obtain ⟨x2, hx2, h⟩ := bindE h
    refine kcallR_i C (wc := (cells_D_wetOn cI cL cZ a_now a_now_stones a_now_kinds a_now_weights a_now_chances c_now_width c_now_rain c_now_ear c_now_walkers c_now_seed c_now_stones)) (r := x2) [1, 2] (fun H locs ls hP hD hS hF hz => krunV C (q0 := 0) (ci := 0) (c_D_wetOn l D cI cL cZ H.size a_now a_now_stones a_now_kinds a_now_weights a_now_chances x1 c_now_rain c_now_width c_now_rain c_now_ear c_now_walkers c_now_seed c_now_stones x2 hx2) (cwV 2 C.2.2.2.2.1 (gV wq_248 wq_96 wq_97 wq_81 wq_94) rfl rfl rfl (by decide +kernel) ⟨(Nat.le_of_ble_eq_true rfl), (Nat.le_of_ble_eq_true rfl)⟩) rfl rfl kEnv_T rfl rfl (Nat.le_of_ble_eq_true rfl) dX4_isToldSo_32 hP hD hz) rfl (by decide) ?_
    refine k_istore C (lv' := [(7, .int x2), (0, .ref a_this), (1, .int v1), (2, .int v2), (3, .int v3), (4, .int v4), (5, .int v5), (6, .int v6)]) dX4_isToldSo_35 (by decide) rfl ?_
    refine k_iload_n C dX4_isToldSo_37 3 rfl rfl ?_
    refine k_iload_n C dX4_isToldSo_38 4 rfl rfl ?_
    refine k_iload C dX4_isToldSo_39 0 rfl ?_
    refine k_iload C dX4_isToldSo_41 7 rfl ?_
    obtain ⟨x3, hx3, h⟩ := bindE h
    refine kcallE_i C (r := x3) (fun H locs ls hP hD hS hF hz => krunS C (c_D_stepBy l D cI cL cZ H.size v2 v3 x2 v6 x3 hx3) (va_cwS 4 C.2.2.2.2.1 (gS wq_430 wq_100 wq_81 wq_98) rfl rfl rfl (by decide +kernel) ⟨(Nat.le_of_ble_eq_true rfl), (Nat.le_of_ble_eq_true rfl)⟩) kEnv_T rfl rfl (Nat.le_of_ble_eq_true rfl) dX4_isToldSo_43 hP hD hz) ?_
    refine k_i2l C dX4_isToldSo_46 ?_
    refine k_aload_n C dX4_isToldSo_47 1 rfl rfl ?_
    refine k_get C (C0 := RX4) (T := TX4) (N := 10) (fun w h => List.mem_cons_of_mem _ (us_M w h)) 0 rfl rfl 3 (by decide) (List.mem_cons_of_mem _ wq_15) rfl rfl dX4_isToldSo_48 ?_
    refine k_iload_n C dX4_isToldSo_51 2 rfl rfl ?_
    refine k_iload C dX4_isToldSo_52 7 rfl ?_
    obtain ⟨x4, hx4, h⟩ := bindE h
    refine kcallR_l C (wc := (cells_S_elementOf cI cL cZ a_shelves a_shelves_marks a_shelves_sizes a_shelves_elements c_shelves_sizes c_shelves_elements)) (r := x4) [3, 4, 5] (fun H locs ls hP hD hS hF hz => krunV C (q0 := 0) (ci := 2) (c_S_elementOf l D cI cL cZ X H.size a_shelves a_shelves_marks a_shelves_sizes a_shelves_elements v1 v6 c_shelves_sizes c_shelves_elements x4 hx4) (cwV 2 C.2.2.2.2.1 (gV wq_58 wq_59 wq_60 wq_20 wq_57) rfl rfl rfl (by decide +kernel) ⟨(Nat.le_of_ble_eq_true rfl), (Nat.le_of_ble_eq_true rfl)⟩) rfl rfl (kEs_call hE hS hF) rfl rfl (Nat.le_of_ble_eq_true rfl) dX4_isToldSo_54 hP hD hz) rfl (by decide) ?_
    refine k_lcmp C dX4_isToldSo_57 ?_
    refine k_if_eq C (tgt := 63) dX4_isToldSo_58 (by decide) (fun c_58 => ?_) (fun c_58 => ?_)
    · have h := ifT c_58 h
      refine k_iinc C (v := (v6 + (1 : Int32))) (lv' := [(6, .int (v6 + (1 : Int32))), (7, .int x2), (0, .ref a_this), (1, .int v1), (2, .int v2), (3, .int v3), (4, .int v4), (5, .int v5)]) dX4_isToldSo_63 7 rfl rfl (by decide) rfl ?_
      refine k_goto C (tgt := 3) dX4_isToldSo_66 (by decide) ?_
      refine k_lv (lv' := [(0, .ref a_this), (1, .int v1), (2, .int v2), (3, .int v3), (4, .int v4), (5, .int v5), (6, .int (v6 + (1 : Int32)))]) [2, 3, 4, 5, 6, 7, 0] rfl ?_
      exact kc _ (Option.some.inj h).symm
    · have h := ifF c_58 h
      refine k_lv (lv' := []) [] rfl ?_
      exact k0 _ (Option.some.inj h).symm
set_option maxRecDepth 100000 in
set_option maxHeartbeats 4000000 in
theorem s_M_isToldSo_l3 (C : kC p l e rm_M_isToldSo s m args below meth c D (tyG cI cL cZ) A 8 cX4_isToldSo yX4_isToldSo.cls (Cond.code yX4_isToldSo cX4_isToldSo 8 (some .boolean) :: WS) (some .boolean)) {X : kX} (hE : kEs X A s) {a_this : Nat} {a_now : Nat} {a_kept : Nat} {a_trial : Nat} {a_shelves : Nat} {a_tape : Nat} {a_paths : Nat} {a_sounds : Nat} {a_volumes : Nat} {a_refusals : Nat} {a_now_stones : Nat} {a_now_kinds : Nat} {a_now_weights : Nat} {a_now_chances : Nat} {a_shelves_marks : Nat} {a_shelves_sizes : Nat} {a_shelves_elements : Nat} {v1 : Int32} {v2 : Int32} {v3 : Int32} {v4 : Int32} {v5 : Int32} {v6 : Int32} {c_isKept : Int32} {c_now_width : Int32} {c_now_rain : Int32} {c_now_ear : Int32} {c_now_walkers : Int32} {c_now_seed : Int32} {c_now_stones : (Nat → Int32)} {c_shelves_sizes : (Nat → Int32)} {c_shelves_elements : (Nat → Int64)} {x : (Unit ⊕ Unit)} (h : f_M_isToldSo_l3 v1 v2 v3 v4 v5 c_now_width c_now_rain c_now_stones c_shelves_sizes c_shelves_elements v6 = some x)
    (k0 : ∀ r, x = (.inl r) → kW p l e rm_M_isToldSo s m args below meth c D A 8 (cells_M_isToldSo cI cL cZ a_this a_now a_kept a_trial a_shelves a_tape a_paths a_sounds a_volumes a_refusals a_now_stones a_now_kinds a_now_weights a_now_chances a_shelves_marks a_shelves_sizes a_shelves_elements c_isKept c_now_width c_now_rain c_now_ear c_now_walkers c_now_seed c_now_stones c_shelves_sizes c_shelves_elements) [] Q 61 [])
    (k1 : ∀ r, x = (.inr r) → kW p l e rm_M_isToldSo s m args below meth c D A 8 (cells_M_isToldSo cI cL cZ a_this a_now a_kept a_trial a_shelves a_tape a_paths a_sounds a_volumes a_refusals a_now_stones a_now_kinds a_now_weights a_now_chances a_shelves_marks a_shelves_sizes a_shelves_elements c_isKept c_now_width c_now_rain c_now_ear c_now_walkers c_now_seed c_now_stones c_shelves_sizes c_shelves_elements) [] Q 69 []) :
    kW p l e rm_M_isToldSo s m args below meth c D A 8 (cells_M_isToldSo cI cL cZ a_this a_now a_kept a_trial a_shelves a_tape a_paths a_sounds a_volumes a_refusals a_now_stones a_now_kinds a_now_weights a_now_chances a_shelves_marks a_shelves_sizes a_shelves_elements c_isKept c_now_width c_now_rain c_now_ear c_now_walkers c_now_seed c_now_stones c_shelves_sizes c_shelves_elements) [(0, .ref a_this), (1, .int v1), (2, .int v2), (3, .int v3), (4, .int v4), (5, .int v5), (6, .int v6)] Q 3 [] := by
  unfold f_M_isToldSo_l3 at h
  exact iter_W (T := fun sg => kW p l e rm_M_isToldSo s m args below meth c D A 8 (cells_M_isToldSo cI cL cZ a_this a_now a_kept a_trial a_shelves a_tape a_paths a_sounds a_volumes a_refusals a_now_stones a_now_kinds a_now_weights a_now_chances a_shelves_marks a_shelves_sizes a_shelves_elements c_isKept c_now_width c_now_rain c_now_ear c_now_walkers c_now_seed c_now_stones c_shelves_sizes c_shelves_elements) [(0, .ref a_this), (1, .int v1), (2, .int v2), (3, .int v3), (4, .int v4), (5, .int v5), (6, .int sg)] Q 3 []) (fun sg y hy hc _ hr => s_M_isToldSo_b3 C hE hy (fun s' e => hc s' e) (fun r e => k0 r (hr _ e).symm) (fun r e => k1 r (hr _ e).symm)) FUEL _ h
set_option maxRecDepth 100000 in
set_option maxHeartbeats 4000000 in
theorem s_M_isToldSo (C : kC p l e rm_M_isToldSo s m args below meth c D (tyG cI cL cZ) A 8 cX4_isToldSo yX4_isToldSo.cls (Cond.code yX4_isToldSo cX4_isToldSo 8 (some .boolean) :: WS) (some .boolean)) {X : kX} (hE : kEs X A s) {a_this : Nat} {a_now : Nat} {a_kept : Nat} {a_trial : Nat} {a_shelves : Nat} {a_tape : Nat} {a_paths : Nat} {a_sounds : Nat} {a_volumes : Nat} {a_refusals : Nat} {a_now_stones : Nat} {a_now_kinds : Nat} {a_now_weights : Nat} {a_now_chances : Nat} {a_shelves_marks : Nat} {a_shelves_sizes : Nat} {a_shelves_elements : Nat} {v1 : Int32} {v2 : Int32} {v3 : Int32} {v4 : Int32} {v5 : Int32} {c_isKept : Int32} {c_now_width : Int32} {c_now_rain : Int32} {c_now_ear : Int32} {c_now_walkers : Int32} {c_now_seed : Int32} {c_now_stones : (Nat → Int32)} {c_shelves_sizes : (Nat → Int32)} {c_shelves_elements : (Nat → Int64)} {x : Int32} (h : f_M_isToldSo v1 v2 v3 v4 v5 c_now_width c_now_rain c_now_stones c_shelves_sizes c_shelves_elements = some x) :
    kW p l e rm_M_isToldSo s m args below meth c D A 8 (cells_M_isToldSo cI cL cZ a_this a_now a_kept a_trial a_shelves a_tape a_paths a_sounds a_volumes a_refusals a_now_stones a_now_kinds a_now_weights a_now_chances a_shelves_marks a_shelves_sizes a_shelves_elements c_isKept c_now_width c_now_rain c_now_ear c_now_walkers c_now_seed c_now_stones c_shelves_sizes c_shelves_elements) [(0, .ref a_this), (1, .int v1), (2, .int v2), (3, .int v3), (4, .int v4), (5, .int v5)] (MQ below (kQi D A (cells_M_isToldSo cI cL cZ a_this a_now a_kept a_trial a_shelves a_tape a_paths a_sounds a_volumes a_refusals a_now_stones a_now_kinds a_now_weights a_now_chances a_shelves_marks a_shelves_sizes a_shelves_elements c_isKept c_now_width c_now_rain c_now_ear c_now_walkers c_now_seed c_now_stones c_shelves_sizes c_shelves_elements) x) args s 0 0 A) 0 [] := by
  unfold f_M_isToldSo at h
  refine k_iconst C (v := (0 : Int32)) dX4_isToldSo_0 (by decide) ?_
  refine k_istore C (lv' := [(6, .int (0 : Int32)), (0, .ref a_this), (1, .int v1), (2, .int v2), (3, .int v3), (4, .int v4), (5, .int v5)]) dX4_isToldSo_1 (by decide) rfl ?_
  obtain ⟨x5, hx5, h⟩ := bindE h
  refine k_lv (lv' := [(0, .ref a_this), (1, .int v1), (2, .int v2), (3, .int v3), (4, .int v4), (5, .int v5), (6, .int (0 : Int32))]) [1, 2, 3, 4, 5, 6, 0] rfl ?_
  refine s_M_isToldSo_l3 C hE hx5 ?_ ?_
  · intro x6 ex6
    subst ex6
    have h := sumL h
    refine k_iconst C (v := (0 : Int32)) dX4_isToldSo_61 (by decide) ?_
    obtain rfl := Option.some.inj h
    exact kret_z C rfl rfl dX4_isToldSo_62
  · intro x7 ex7
    subst ex7
    have h := sumR h
    refine k_iconst C (v := (1 : Int32)) dX4_isToldSo_69 (by decide) ?_
    obtain rfl := Option.some.inj h
    exact kret_z C rfl rfl dX4_isToldSo_70
theorem c_M_isToldSo (l : Launch) (D : va_G) (cI : ClassId) (cL : ClassId) (cZ : ClassId) (X : kX) (sz : Nat) (a_this : Nat) (a_now : Nat) (a_kept : Nat) (a_trial : Nat) (a_shelves : Nat) (a_tape : Nat) (a_paths : Nat) (a_sounds : Nat) (a_volumes : Nat) (a_refusals : Nat) (a_now_stones : Nat) (a_now_kinds : Nat) (a_now_weights : Nat) (a_now_chances : Nat) (a_shelves_marks : Nat) (a_shelves_sizes : Nat) (a_shelves_elements : Nat) (v1 : Int32) (v2 : Int32) (v3 : Int32) (v4 : Int32) (v5 : Int32) (c_isKept : Int32) (c_now_width : Int32) (c_now_rain : Int32) (c_now_ear : Int32) (c_now_walkers : Int32) (c_now_seed : Int32) (c_now_stones : (Nat → Int32)) (c_shelves_sizes : (Nat → Int32)) (c_shelves_elements : (Nat → Int64)) (x : Int32) (h : f_M_isToldSo v1 v2 v3 v4 v5 c_now_width c_now_rain c_now_stones c_shelves_sizes c_shelves_elements = some x) :
    Met l yX4_isToldSo (Cond.code yX4_isToldSo cX4_isToldSo 8 (some .boolean) :: WS) rm_M_isToldSo (kP D (tyG cI cL cZ) (kEs X (va_A (cells_M_isToldSo cI cL cZ a_this a_now a_kept a_trial a_shelves a_tape a_paths a_sounds a_volumes a_refusals a_now_stones a_now_kinds a_now_weights a_now_chances a_shelves_marks a_shelves_sizes a_shelves_elements c_isKept c_now_width c_now_rain c_now_ear c_now_walkers c_now_seed c_now_stones c_shelves_sizes c_shelves_elements) sz)) [.ref a_this, .int v1, .int v2, .int v3, .int v4, .int v5] sz (cells_M_isToldSo cI cL cZ a_this a_now a_kept a_trial a_shelves a_tape a_paths a_sounds a_volumes a_refusals a_now_stones a_now_kinds a_now_weights a_now_chances a_shelves_marks a_shelves_sizes a_shelves_elements c_isKept c_now_width c_now_rain c_now_ear c_now_walkers c_now_seed c_now_stones c_shelves_sizes c_shelves_elements)) (kQi D (va_A (cells_M_isToldSo cI cL cZ a_this a_now a_kept a_trial a_shelves a_tape a_paths a_sounds a_volumes a_refusals a_now_stones a_now_kinds a_now_weights a_now_chances a_shelves_marks a_shelves_sizes a_shelves_elements c_isKept c_now_width c_now_rain c_now_ear c_now_walkers c_now_seed c_now_stones c_shelves_sizes c_shelves_elements) sz) (cells_M_isToldSo cI cL cZ a_this a_now a_kept a_trial a_shelves a_tape a_paths a_sounds a_volumes a_refusals a_now_stones a_now_kinds a_now_weights a_now_chances a_shelves_marks a_shelves_sizes a_shelves_elements c_isKept c_now_width c_now_rain c_now_ear c_now_walkers c_now_seed c_now_stones c_shelves_sizes c_shelves_elements) x) 0 0 (va_A (cells_M_isToldSo cI cL cZ a_this a_now a_kept a_trial a_shelves a_tape a_paths a_sounds a_volumes a_refusals a_now_stones a_now_kinds a_now_weights a_now_chances a_shelves_marks a_shelves_sizes a_shelves_elements c_isKept c_now_width c_now_rain c_now_ear c_now_walkers c_now_seed c_now_stones c_shelves_sizes c_shelves_elements) sz) :=
  kmet (by decide) (Nat.le_of_ble_eq_true rfl) rfl (fun p e s m below meth c C hE => s_M_isToldSo C hE h)
abbrev cells_M_fitting (cI : ClassId) (cL : ClassId) (cZ : ClassId) (a_this : Nat) (a_now : Nat) (a_kept : Nat) (a_trial : Nat) (a_shelves : Nat) (a_tape : Nat) (a_paths : Nat) (a_sounds : Nat) (a_volumes : Nat) (a_refusals : Nat) (a_now_stones : Nat) (a_now_kinds : Nat) (a_now_weights : Nat) (a_now_chances : Nat) (a_shelves_marks : Nat) (a_shelves_sizes : Nat) (a_shelves_elements : Nat) (c_isKept : Int32) (c_now_width : Int32) (c_now_rain : Int32) (c_now_ear : Int32) (c_now_walkers : Int32) (c_now_seed : Int32) (c_now_stones : (Nat → Int32)) (c_now_kinds : (Nat → Int32)) (c_now_weights : (Nat → Int32)) (c_shelves_sizes : (Nat → Int32)) (c_shelves_elements : (Nat → Int64)) : va_W := [(a_this, .inr (4, [.ref a_now, .ref a_kept, .ref a_trial, .ref a_shelves, .ref a_tape, .ref a_paths, .ref a_sounds, .ref a_volumes, .ref a_refusals, .int c_isKept])), (a_now, .inr (0, [.ref a_now_stones, .ref a_now_kinds, .ref a_now_weights, .ref a_now_chances, .int c_now_width, .int c_now_rain, .int c_now_ear, .int c_now_walkers, .int c_now_seed])), (a_now_stones, .inl (cI, 36, .inl c_now_stones)), (a_now_kinds, .inl (cI, 8, .inl c_now_kinds)), (a_now_weights, .inl (cI, 8, .inl c_now_weights)), (a_shelves, .inr (2, [.ref a_shelves_marks, .ref a_shelves_sizes, .ref a_shelves_elements])), (a_shelves_sizes, .inl (cI, 8, .inl c_shelves_sizes)), (a_shelves_elements, .inl (cL, 320, .inr (.inl c_shelves_elements)))]
abbrev rm_M_fitting : Room := { frames := 4, cells := 0, slots := 0, locals := 90 }
set_option maxRecDepth 100000 in
set_option maxHeartbeats 4000000 in
theorem s_M_fitting_b6 (C : kC p l e rm_M_fitting s m args below meth c D (tyG cI cL cZ) A 6 cX4_fitting yX4_fitting.cls (Cond.code yX4_fitting cX4_fitting 6 (some .int) :: WS) (some .int)) {X : kX} (hE : kEs X A s) {a_this : Nat} {a_now : Nat} {a_kept : Nat} {a_trial : Nat} {a_shelves : Nat} {a_tape : Nat} {a_paths : Nat} {a_sounds : Nat} {a_volumes : Nat} {a_refusals : Nat} {a_now_stones : Nat} {a_now_kinds : Nat} {a_now_weights : Nat} {a_now_chances : Nat} {a_shelves_marks : Nat} {a_shelves_sizes : Nat} {a_shelves_elements : Nat} {v1 : Int32} {v2 : Int32} {v3 : Int32} {v4 : Int32} {v5 : Int32} {c_isKept : Int32} {c_now_width : Int32} {c_now_rain : Int32} {c_now_ear : Int32} {c_now_walkers : Int32} {c_now_seed : Int32} {c_now_stones : (Nat → Int32)} {c_now_kinds : (Nat → Int32)} {c_now_weights : (Nat → Int32)} {c_shelves_sizes : (Nat → Int32)} {c_shelves_elements : (Nat → Int64)} {x : ((Int32 × Int32) ⊕ Int32)} (h : f_M_fitting_b6 v1 v2 v3 c_now_width c_now_rain c_now_walkers c_now_stones c_now_kinds c_now_weights c_shelves_sizes c_shelves_elements v4 v5 = some x)
    (kc : ∀ s', x = .inl s' → kW p l e rm_M_fitting s m args below meth c D A 6 (cells_M_fitting cI cL cZ a_this a_now a_kept a_trial a_shelves a_tape a_paths a_sounds a_volumes a_refusals a_now_stones a_now_kinds a_now_weights a_now_chances a_shelves_marks a_shelves_sizes a_shelves_elements c_isKept c_now_width c_now_rain c_now_ear c_now_walkers c_now_seed c_now_stones c_now_kinds c_now_weights c_shelves_sizes c_shelves_elements) [(0, .ref a_this), (1, .int v1), (2, .int v2), (3, .int v3), (4, .int s'.1), (5, .int s'.2)] Q 6 [])
    (k0 : ∀ r, x = .inr r → kW p l e rm_M_fitting s m args below meth c D A 6 (cells_M_fitting cI cL cZ a_this a_now a_kept a_trial a_shelves a_tape a_paths a_sounds a_volumes a_refusals a_now_stones a_now_kinds a_now_weights a_now_chances a_shelves_marks a_shelves_sizes a_shelves_elements c_isKept c_now_width c_now_rain c_now_ear c_now_walkers c_now_seed c_now_stones c_now_kinds c_now_weights c_shelves_sizes c_shelves_elements) [(4, .int r)] Q 61 []) :
    kW p l e rm_M_fitting s m args below meth c D A 6 (cells_M_fitting cI cL cZ a_this a_now a_kept a_trial a_shelves a_tape a_paths a_sounds a_volumes a_refusals a_now_stones a_now_kinds a_now_weights a_now_chances a_shelves_marks a_shelves_sizes a_shelves_elements c_isKept c_now_width c_now_rain c_now_ear c_now_walkers c_now_seed c_now_stones c_now_kinds c_now_weights c_shelves_sizes c_shelves_elements) [(0, .ref a_this), (1, .int v1), (2, .int v2), (3, .int v3), (4, .int v4), (5, .int v5)] Q 6 [] := by
  unfold f_M_fitting_b6 at h
  refine k_iload C dX4_fitting_6 5 rfl ?_
  refine k_aload_n C dX4_fitting_8 0 rfl rfl ?_
  refine k_get C (C0 := RX4) (T := TX4) (N := 10) (fun w h => List.mem_cons_of_mem _ (us_M w h)) 0 rfl rfl 0 (by decide) (List.mem_cons_of_mem _ wq_62) rfl rfl dX4_fitting_9 ?_
  refine k_get C (C0 := RX0) (T := TX0) (N := 9) (fun w h => List.mem_cons_of_mem _ (us_D w h)) 1 rfl rfl 7 (by decide) (List.mem_cons_of_mem _ wq_63) rfl rfl dX4_fitting_12 ?_
  refine k_icmp_ge C (tgt := 61) dX4_fitting_15 (by decide) (fun c_15 => ?_) (fun c_15 => ?_)
  · have h := ifT c_15 h
    refine k_lv (lv' := [(4, .int v4)]) [4] rfl ?_
    exact k0 _ (Option.some.inj h).symm
  · have h := ifF c_15 h
    refine k_aload_n C dX4_fitting_18 0 rfl rfl ?_
    refine k_iload_n C dX4_fitting_19 1 rfl rfl ?_
    refine k_aload_n C dX4_fitting_20 0 rfl rfl ?_
    refine k_get C (C0 := RX4) (T := TX4) (N := 10) (fun w h => List.mem_cons_of_mem _ (us_M w h)) 0 rfl rfl 0 (by decide) (List.mem_cons_of_mem _ wq_62) rfl rfl dX4_fitting_21 ?_
    refine k_iload C dX4_fitting_24 5 rfl ?_
    obtain ⟨x1, hx1, h⟩ := bindE h
    refine kcallR_i C (wc := (cells_D_kindOf cI cL cZ a_now a_now_stones a_now_kinds a_now_weights a_now_chances c_now_width c_now_rain c_now_ear c_now_walkers c_now_seed c_now_kinds)) (r := x1) [1, 3] (fun H locs ls hP hD hS hF hz => krunV C (q0 := 0) (ci := 0) (c_D_kindOf l D cI cL cZ X H.size a_now a_now_stones a_now_kinds a_now_weights a_now_chances v5 c_now_width c_now_rain c_now_ear c_now_walkers c_now_seed c_now_kinds x1 hx1) (cwV 1 C.2.2.2.2.1 (gV wq_106 wq_88 wq_89 wq_81 wq_86) rfl rfl rfl (by decide +kernel) ⟨(Nat.le_of_ble_eq_true rfl), (Nat.le_of_ble_eq_true rfl)⟩) rfl rfl (kEs_call hE hS hF) rfl rfl (Nat.le_of_ble_eq_true rfl) dX4_fitting_26 hP hD hz) rfl (by decide) ?_
    refine k_aload_n C dX4_fitting_29 0 rfl rfl ?_
    refine k_get C (C0 := RX4) (T := TX4) (N := 10) (fun w h => List.mem_cons_of_mem _ (us_M w h)) 0 rfl rfl 0 (by decide) (List.mem_cons_of_mem _ wq_62) rfl rfl dX4_fitting_30 ?_
    refine k_iload C dX4_fitting_33 5 rfl ?_
    obtain ⟨x2, hx2, h⟩ := bindE h
    refine kcallR_i C (wc := (cells_D_weightOf cI cL cZ a_now a_now_stones a_now_kinds a_now_weights a_now_chances c_now_width c_now_rain c_now_ear c_now_walkers c_now_seed c_now_weights)) (r := x2) [1, 4] (fun H locs ls hP hD hS hF hz => krunV C (q0 := 0) (ci := 0) (c_D_weightOf l D cI cL cZ X H.size a_now a_now_stones a_now_kinds a_now_weights a_now_chances v5 c_now_width c_now_rain c_now_ear c_now_walkers c_now_seed c_now_weights x2 hx2) (cwV 1 C.2.2.2.2.1 (gV wq_247 wq_92 wq_93 wq_81 wq_90) rfl rfl rfl (by decide +kernel) ⟨(Nat.le_of_ble_eq_true rfl), (Nat.le_of_ble_eq_true rfl)⟩) rfl rfl (kEs_call hE hS hF) rfl rfl (Nat.le_of_ble_eq_true rfl) dX4_fitting_35 hP hD hz) rfl (by decide) ?_
    refine k_iload_n C dX4_fitting_38 2 rfl rfl ?_
    refine k_iload_n C dX4_fitting_39 3 rfl rfl ?_
    obtain ⟨x3, hx3, h⟩ := bindE h
    refine kcallR_i C (wc := (cells_M_isToldSo cI cL cZ a_this a_now a_kept a_trial a_shelves a_tape a_paths a_sounds a_volumes a_refusals a_now_stones a_now_kinds a_now_weights a_now_chances a_shelves_marks a_shelves_sizes a_shelves_elements c_isKept c_now_width c_now_rain c_now_ear c_now_walkers c_now_seed c_now_stones c_shelves_sizes c_shelves_elements)) (r := x3) [0, 1, 2, 5, 6, 7] (fun H locs ls hP hD hS hF hz => krunV C (q0 := 0) (ci := 4) (c_M_isToldSo l D cI cL cZ X H.size a_this a_now a_kept a_trial a_shelves a_tape a_paths a_sounds a_volumes a_refusals a_now_stones a_now_kinds a_now_weights a_now_chances a_shelves_marks a_shelves_sizes a_shelves_elements v1 x1 x2 v2 v3 c_isKept c_now_width c_now_rain c_now_ear c_now_walkers c_now_seed c_now_stones c_shelves_sizes c_shelves_elements x3 hx3) (cwV 5 C.2.2.2.2.1 (gV wq_432 wq_433 wq_434 wq_3 wq_431) rfl rfl rfl (by decide +kernel) ⟨(Nat.le_of_ble_eq_true rfl), (Nat.le_of_ble_eq_true rfl)⟩) rfl rfl (kEs_call hE hS hF) rfl rfl (Nat.le_of_ble_eq_true rfl) dX4_fitting_40 hP hD hz) rfl (by decide) ?_
    refine k_if_eq C (tgt := 55) dX4_fitting_43 (by decide) (fun c_43 => ?_) (fun c_43 => ?_)
    · have h := ifT c_43 h
      refine k_iinc C (v := (v5 + (1 : Int32))) (lv' := [(5, .int (v5 + (1 : Int32))), (0, .ref a_this), (1, .int v1), (2, .int v2), (3, .int v3), (4, .int v4)]) dX4_fitting_55 5 rfl rfl (by decide) rfl ?_
      refine k_goto C (tgt := 6) dX4_fitting_58 (by decide) ?_
      refine k_lv (lv' := [(0, .ref a_this), (1, .int v1), (2, .int v2), (3, .int v3), (4, .int v4), (5, .int (v5 + (1 : Int32)))]) [1, 2, 3, 4, 5, 0] rfl ?_
      exact kc _ (Option.some.inj h).symm
    · have h := ifF c_43 h
      refine k_iload C dX4_fitting_46 4 rfl ?_
      refine k_iconst C (v := (1 : Int32)) dX4_fitting_48 (by decide) ?_
      refine k_iload C dX4_fitting_49 5 rfl ?_
      refine k_ishl C dX4_fitting_51 ?_
      refine k_ior C dX4_fitting_52 ?_
      refine k_istore C (lv' := [(4, .int (v4 ||| ((1 : Int32) <<< (v5 &&& 31)))), (0, .ref a_this), (1, .int v1), (2, .int v2), (3, .int v3), (5, .int v5)]) dX4_fitting_53 (by decide) rfl ?_
      refine k_iinc C (v := (v5 + (1 : Int32))) (lv' := [(5, .int (v5 + (1 : Int32))), (4, .int (v4 ||| ((1 : Int32) <<< (v5 &&& 31)))), (0, .ref a_this), (1, .int v1), (2, .int v2), (3, .int v3)]) dX4_fitting_55 5 rfl rfl (by decide) rfl ?_
      refine k_goto C (tgt := 6) dX4_fitting_58 (by decide) ?_
      refine k_lv (lv' := [(0, .ref a_this), (1, .int v1), (2, .int v2), (3, .int v3), (4, .int (v4 ||| ((1 : Int32) <<< (v5 &&& 31)))), (5, .int (v5 + (1 : Int32)))]) [2, 3, 4, 5, 1, 0] rfl ?_
      exact kc _ (Option.some.inj h).symm
set_option maxRecDepth 100000 in
set_option maxHeartbeats 4000000 in
theorem s_M_fitting_l6 (C : kC p l e rm_M_fitting s m args below meth c D (tyG cI cL cZ) A 6 cX4_fitting yX4_fitting.cls (Cond.code yX4_fitting cX4_fitting 6 (some .int) :: WS) (some .int)) {X : kX} (hE : kEs X A s) {a_this : Nat} {a_now : Nat} {a_kept : Nat} {a_trial : Nat} {a_shelves : Nat} {a_tape : Nat} {a_paths : Nat} {a_sounds : Nat} {a_volumes : Nat} {a_refusals : Nat} {a_now_stones : Nat} {a_now_kinds : Nat} {a_now_weights : Nat} {a_now_chances : Nat} {a_shelves_marks : Nat} {a_shelves_sizes : Nat} {a_shelves_elements : Nat} {v1 : Int32} {v2 : Int32} {v3 : Int32} {v4 : Int32} {v5 : Int32} {c_isKept : Int32} {c_now_width : Int32} {c_now_rain : Int32} {c_now_ear : Int32} {c_now_walkers : Int32} {c_now_seed : Int32} {c_now_stones : (Nat → Int32)} {c_now_kinds : (Nat → Int32)} {c_now_weights : (Nat → Int32)} {c_shelves_sizes : (Nat → Int32)} {c_shelves_elements : (Nat → Int64)} {x : Int32} (h : f_M_fitting_l6 v1 v2 v3 c_now_width c_now_rain c_now_walkers c_now_stones c_now_kinds c_now_weights c_shelves_sizes c_shelves_elements v4 v5 = some x)
    (k0 : kW p l e rm_M_fitting s m args below meth c D A 6 (cells_M_fitting cI cL cZ a_this a_now a_kept a_trial a_shelves a_tape a_paths a_sounds a_volumes a_refusals a_now_stones a_now_kinds a_now_weights a_now_chances a_shelves_marks a_shelves_sizes a_shelves_elements c_isKept c_now_width c_now_rain c_now_ear c_now_walkers c_now_seed c_now_stones c_now_kinds c_now_weights c_shelves_sizes c_shelves_elements) [(4, .int x)] Q 61 []) :
    kW p l e rm_M_fitting s m args below meth c D A 6 (cells_M_fitting cI cL cZ a_this a_now a_kept a_trial a_shelves a_tape a_paths a_sounds a_volumes a_refusals a_now_stones a_now_kinds a_now_weights a_now_chances a_shelves_marks a_shelves_sizes a_shelves_elements c_isKept c_now_width c_now_rain c_now_ear c_now_walkers c_now_seed c_now_stones c_now_kinds c_now_weights c_shelves_sizes c_shelves_elements) [(0, .ref a_this), (1, .int v1), (2, .int v2), (3, .int v3), (4, .int v4), (5, .int v5)] Q 6 [] := by
  unfold f_M_fitting_l6 at h
  exact iter_W (T := fun sg => kW p l e rm_M_fitting s m args below meth c D A 6 (cells_M_fitting cI cL cZ a_this a_now a_kept a_trial a_shelves a_tape a_paths a_sounds a_volumes a_refusals a_now_stones a_now_kinds a_now_weights a_now_chances a_shelves_marks a_shelves_sizes a_shelves_elements c_isKept c_now_width c_now_rain c_now_ear c_now_walkers c_now_seed c_now_stones c_now_kinds c_now_weights c_shelves_sizes c_shelves_elements) [(0, .ref a_this), (1, .int v1), (2, .int v2), (3, .int v3), (4, .int sg.1), (5, .int sg.2)] Q 6 []) (fun sg y hy hc _ hr => s_M_fitting_b6 C hE hy (fun s' e => hc s' e) (fun r e => by rw [hr r e]; exact k0)) FUEL _ h
set_option maxRecDepth 100000 in
set_option maxHeartbeats 4000000 in
theorem s_M_fitting (C : kC p l e rm_M_fitting s m args below meth c D (tyG cI cL cZ) A 6 cX4_fitting yX4_fitting.cls (Cond.code yX4_fitting cX4_fitting 6 (some .int) :: WS) (some .int)) {X : kX} (hE : kEs X A s) {a_this : Nat} {a_now : Nat} {a_kept : Nat} {a_trial : Nat} {a_shelves : Nat} {a_tape : Nat} {a_paths : Nat} {a_sounds : Nat} {a_volumes : Nat} {a_refusals : Nat} {a_now_stones : Nat} {a_now_kinds : Nat} {a_now_weights : Nat} {a_now_chances : Nat} {a_shelves_marks : Nat} {a_shelves_sizes : Nat} {a_shelves_elements : Nat} {v1 : Int32} {v2 : Int32} {v3 : Int32} {c_isKept : Int32} {c_now_width : Int32} {c_now_rain : Int32} {c_now_ear : Int32} {c_now_walkers : Int32} {c_now_seed : Int32} {c_now_stones : (Nat → Int32)} {c_now_kinds : (Nat → Int32)} {c_now_weights : (Nat → Int32)} {c_shelves_sizes : (Nat → Int32)} {c_shelves_elements : (Nat → Int64)} {x : Int32} (h : f_M_fitting v1 v2 v3 c_now_width c_now_rain c_now_walkers c_now_stones c_now_kinds c_now_weights c_shelves_sizes c_shelves_elements = some x) :
    kW p l e rm_M_fitting s m args below meth c D A 6 (cells_M_fitting cI cL cZ a_this a_now a_kept a_trial a_shelves a_tape a_paths a_sounds a_volumes a_refusals a_now_stones a_now_kinds a_now_weights a_now_chances a_shelves_marks a_shelves_sizes a_shelves_elements c_isKept c_now_width c_now_rain c_now_ear c_now_walkers c_now_seed c_now_stones c_now_kinds c_now_weights c_shelves_sizes c_shelves_elements) [(0, .ref a_this), (1, .int v1), (2, .int v2), (3, .int v3)] (MQ below (kQi D A (cells_M_fitting cI cL cZ a_this a_now a_kept a_trial a_shelves a_tape a_paths a_sounds a_volumes a_refusals a_now_stones a_now_kinds a_now_weights a_now_chances a_shelves_marks a_shelves_sizes a_shelves_elements c_isKept c_now_width c_now_rain c_now_ear c_now_walkers c_now_seed c_now_stones c_now_kinds c_now_weights c_shelves_sizes c_shelves_elements) x) args s 0 0 A) 0 [] := by
  unfold f_M_fitting at h
  refine k_iconst C (v := (0 : Int32)) dX4_fitting_0 (by decide) ?_
  refine k_istore C (lv' := [(4, .int (0 : Int32)), (0, .ref a_this), (1, .int v1), (2, .int v2), (3, .int v3)]) dX4_fitting_1 (by decide) rfl ?_
  refine k_iconst C (v := (0 : Int32)) dX4_fitting_3 (by decide) ?_
  refine k_istore C (lv' := [(5, .int (0 : Int32)), (4, .int (0 : Int32)), (0, .ref a_this), (1, .int v1), (2, .int v2), (3, .int v3)]) dX4_fitting_4 (by decide) rfl ?_
  obtain ⟨x4, hx4, h⟩ := bindE h
  refine k_lv (lv' := [(0, .ref a_this), (1, .int v1), (2, .int v2), (3, .int v3), (4, .int (0 : Int32)), (5, .int (0 : Int32))]) [2, 3, 4, 5, 1, 0] rfl ?_
  refine s_M_fitting_l6 C hE hx4 ?_
  refine k_iload C dX4_fitting_61 0 rfl ?_
  obtain rfl := Option.some.inj h
  exact kret_i C rfl dX4_fitting_63
theorem c_M_fitting (l : Launch) (D : va_G) (cI : ClassId) (cL : ClassId) (cZ : ClassId) (X : kX) (sz : Nat) (a_this : Nat) (a_now : Nat) (a_kept : Nat) (a_trial : Nat) (a_shelves : Nat) (a_tape : Nat) (a_paths : Nat) (a_sounds : Nat) (a_volumes : Nat) (a_refusals : Nat) (a_now_stones : Nat) (a_now_kinds : Nat) (a_now_weights : Nat) (a_now_chances : Nat) (a_shelves_marks : Nat) (a_shelves_sizes : Nat) (a_shelves_elements : Nat) (v1 : Int32) (v2 : Int32) (v3 : Int32) (c_isKept : Int32) (c_now_width : Int32) (c_now_rain : Int32) (c_now_ear : Int32) (c_now_walkers : Int32) (c_now_seed : Int32) (c_now_stones : (Nat → Int32)) (c_now_kinds : (Nat → Int32)) (c_now_weights : (Nat → Int32)) (c_shelves_sizes : (Nat → Int32)) (c_shelves_elements : (Nat → Int64)) (x : Int32) (h : f_M_fitting v1 v2 v3 c_now_width c_now_rain c_now_walkers c_now_stones c_now_kinds c_now_weights c_shelves_sizes c_shelves_elements = some x) :
    Met l yX4_fitting (Cond.code yX4_fitting cX4_fitting 6 (some .int) :: WS) rm_M_fitting (kP D (tyG cI cL cZ) (kEs X (va_A (cells_M_fitting cI cL cZ a_this a_now a_kept a_trial a_shelves a_tape a_paths a_sounds a_volumes a_refusals a_now_stones a_now_kinds a_now_weights a_now_chances a_shelves_marks a_shelves_sizes a_shelves_elements c_isKept c_now_width c_now_rain c_now_ear c_now_walkers c_now_seed c_now_stones c_now_kinds c_now_weights c_shelves_sizes c_shelves_elements) sz)) [.ref a_this, .int v1, .int v2, .int v3] sz (cells_M_fitting cI cL cZ a_this a_now a_kept a_trial a_shelves a_tape a_paths a_sounds a_volumes a_refusals a_now_stones a_now_kinds a_now_weights a_now_chances a_shelves_marks a_shelves_sizes a_shelves_elements c_isKept c_now_width c_now_rain c_now_ear c_now_walkers c_now_seed c_now_stones c_now_kinds c_now_weights c_shelves_sizes c_shelves_elements)) (kQi D (va_A (cells_M_fitting cI cL cZ a_this a_now a_kept a_trial a_shelves a_tape a_paths a_sounds a_volumes a_refusals a_now_stones a_now_kinds a_now_weights a_now_chances a_shelves_marks a_shelves_sizes a_shelves_elements c_isKept c_now_width c_now_rain c_now_ear c_now_walkers c_now_seed c_now_stones c_now_kinds c_now_weights c_shelves_sizes c_shelves_elements) sz) (cells_M_fitting cI cL cZ a_this a_now a_kept a_trial a_shelves a_tape a_paths a_sounds a_volumes a_refusals a_now_stones a_now_kinds a_now_weights a_now_chances a_shelves_marks a_shelves_sizes a_shelves_elements c_isKept c_now_width c_now_rain c_now_ear c_now_walkers c_now_seed c_now_stones c_now_kinds c_now_weights c_shelves_sizes c_shelves_elements) x) 0 0 (va_A (cells_M_fitting cI cL cZ a_this a_now a_kept a_trial a_shelves a_tape a_paths a_sounds a_volumes a_refusals a_now_stones a_now_kinds a_now_weights a_now_chances a_shelves_marks a_shelves_sizes a_shelves_elements c_isKept c_now_width c_now_rain c_now_ear c_now_walkers c_now_seed c_now_stones c_now_kinds c_now_weights c_shelves_sizes c_shelves_elements) sz) :=
  kmet (by decide) (Nat.le_of_ble_eq_true rfl) rfl (fun p e s m below meth c C hE => s_M_fitting C hE h)
abbrev cells_JI_bitCount (cI : ClassId) (cL : ClassId) (cZ : ClassId) : va_W := []
abbrev rm_JI_bitCount : Room := { frames := 0, cells := 0, slots := 0, locals := 0 }
set_option maxRecDepth 100000 in
set_option maxHeartbeats 4000000 in
theorem s_JI_bitCount (C : kC p l e rm_JI_bitCount s m args below meth c D (tyG cI cL cZ) A 1 cJ6_bitCount_0f7a4 yJ6_bitCount_0f7a4.cls (Cond.code yJ6_bitCount_0f7a4 cJ6_bitCount_0f7a4 1 (some .int) :: WS) (some .int)) {v0 : Int32} {x : Int32} (h : f_JI_bitCount v0 = some x) :
    kW p l e rm_JI_bitCount s m args below meth c D A 1 (cells_JI_bitCount cI cL cZ) [(0, .int v0)] (MQ below (kQi D A (cells_JI_bitCount cI cL cZ) x) args s 0 0 A) 0 [] := by
  unfold f_JI_bitCount at h
  refine k_iload_n C dJ6_bitCount_0f7a4_0 0 rfl rfl ?_
  refine k_iload_n C dJ6_bitCount_0f7a4_1 0 rfl rfl ?_
  refine k_iconst C (v := (1 : Int32)) dJ6_bitCount_0f7a4_2 (by decide) ?_
  refine k_iushr C dJ6_bitCount_0f7a4_3 ?_
  refine k_ldcw C (List.mem_cons_of_mem _ wq_435) dJ6_bitCount_0f7a4_4 ?_
  refine k_iand C dJ6_bitCount_0f7a4_7 ?_
  refine k_isub C dJ6_bitCount_0f7a4_8 ?_
  refine k_istore_n C (lv' := [(0, .int (v0 - ((ushr v0 (1 : Int32)) &&& (1431655765 : Int32))))]) dJ6_bitCount_0f7a4_9 rfl (by decide) rfl ?_
  refine k_iload_n C dJ6_bitCount_0f7a4_10 0 rfl rfl ?_
  refine k_ldcw C (List.mem_cons_of_mem _ wq_436) dJ6_bitCount_0f7a4_11 ?_
  refine k_iand C dJ6_bitCount_0f7a4_14 ?_
  refine k_iload_n C dJ6_bitCount_0f7a4_15 0 rfl rfl ?_
  refine k_iconst C (v := (2 : Int32)) dJ6_bitCount_0f7a4_16 (by decide) ?_
  refine k_iushr C dJ6_bitCount_0f7a4_17 ?_
  refine k_ldcw C (List.mem_cons_of_mem _ wq_436) dJ6_bitCount_0f7a4_18 ?_
  refine k_iand C dJ6_bitCount_0f7a4_21 ?_
  refine k_iadd C dJ6_bitCount_0f7a4_22 ?_
  refine k_istore_n C (lv' := [(0, .int (((v0 - ((ushr v0 (1 : Int32)) &&& (1431655765 : Int32))) &&& (858993459 : Int32)) + ((ushr (v0 - ((ushr v0 (1 : Int32)) &&& (1431655765 : Int32))) (2 : Int32)) &&& (858993459 : Int32))))]) dJ6_bitCount_0f7a4_23 rfl (by decide) rfl ?_
  refine k_iload_n C dJ6_bitCount_0f7a4_24 0 rfl rfl ?_
  refine k_iload_n C dJ6_bitCount_0f7a4_25 0 rfl rfl ?_
  refine k_iconst C (v := (4 : Int32)) dJ6_bitCount_0f7a4_26 (by decide) ?_
  refine k_iushr C dJ6_bitCount_0f7a4_27 ?_
  refine k_iadd C dJ6_bitCount_0f7a4_28 ?_
  refine k_ldcw C (List.mem_cons_of_mem _ wq_437) dJ6_bitCount_0f7a4_29 ?_
  refine k_iand C dJ6_bitCount_0f7a4_32 ?_
  refine k_istore_n C (lv' := [(0, .int (((((v0 - ((ushr v0 (1 : Int32)) &&& (1431655765 : Int32))) &&& (858993459 : Int32)) + ((ushr (v0 - ((ushr v0 (1 : Int32)) &&& (1431655765 : Int32))) (2 : Int32)) &&& (858993459 : Int32))) + (ushr (((v0 - ((ushr v0 (1 : Int32)) &&& (1431655765 : Int32))) &&& (858993459 : Int32)) + ((ushr (v0 - ((ushr v0 (1 : Int32)) &&& (1431655765 : Int32))) (2 : Int32)) &&& (858993459 : Int32))) (4 : Int32))) &&& (252645135 : Int32)))]) dJ6_bitCount_0f7a4_33 rfl (by decide) rfl ?_
  refine k_iload_n C dJ6_bitCount_0f7a4_34 0 rfl rfl ?_
  refine k_iload_n C dJ6_bitCount_0f7a4_35 0 rfl rfl ?_
  refine k_bipush C (v := (8 : Int32)) dJ6_bitCount_0f7a4_36 (by decide) ?_
  refine k_iushr C dJ6_bitCount_0f7a4_38 ?_
  refine k_iadd C dJ6_bitCount_0f7a4_39 ?_
  refine k_istore_n C (lv' := [(0, .int ((((((v0 - ((ushr v0 (1 : Int32)) &&& (1431655765 : Int32))) &&& (858993459 : Int32)) + ((ushr (v0 - ((ushr v0 (1 : Int32)) &&& (1431655765 : Int32))) (2 : Int32)) &&& (858993459 : Int32))) + (ushr (((v0 - ((ushr v0 (1 : Int32)) &&& (1431655765 : Int32))) &&& (858993459 : Int32)) + ((ushr (v0 - ((ushr v0 (1 : Int32)) &&& (1431655765 : Int32))) (2 : Int32)) &&& (858993459 : Int32))) (4 : Int32))) &&& (252645135 : Int32)) + (ushr (((((v0 - ((ushr v0 (1 : Int32)) &&& (1431655765 : Int32))) &&& (858993459 : Int32)) + ((ushr (v0 - ((ushr v0 (1 : Int32)) &&& (1431655765 : Int32))) (2 : Int32)) &&& (858993459 : Int32))) + (ushr (((v0 - ((ushr v0 (1 : Int32)) &&& (1431655765 : Int32))) &&& (858993459 : Int32)) + ((ushr (v0 - ((ushr v0 (1 : Int32)) &&& (1431655765 : Int32))) (2 : Int32)) &&& (858993459 : Int32))) (4 : Int32))) &&& (252645135 : Int32)) (8 : Int32))))]) dJ6_bitCount_0f7a4_40 rfl (by decide) rfl ?_
  refine k_iload_n C dJ6_bitCount_0f7a4_41 0 rfl rfl ?_
  refine k_iload_n C dJ6_bitCount_0f7a4_42 0 rfl rfl ?_
  refine k_bipush C (v := (16 : Int32)) dJ6_bitCount_0f7a4_43 (by decide) ?_
  refine k_iushr C dJ6_bitCount_0f7a4_45 ?_
  refine k_iadd C dJ6_bitCount_0f7a4_46 ?_
  refine k_istore_n C (lv' := [(0, .int (((((((v0 - ((ushr v0 (1 : Int32)) &&& (1431655765 : Int32))) &&& (858993459 : Int32)) + ((ushr (v0 - ((ushr v0 (1 : Int32)) &&& (1431655765 : Int32))) (2 : Int32)) &&& (858993459 : Int32))) + (ushr (((v0 - ((ushr v0 (1 : Int32)) &&& (1431655765 : Int32))) &&& (858993459 : Int32)) + ((ushr (v0 - ((ushr v0 (1 : Int32)) &&& (1431655765 : Int32))) (2 : Int32)) &&& (858993459 : Int32))) (4 : Int32))) &&& (252645135 : Int32)) + (ushr (((((v0 - ((ushr v0 (1 : Int32)) &&& (1431655765 : Int32))) &&& (858993459 : Int32)) + ((ushr (v0 - ((ushr v0 (1 : Int32)) &&& (1431655765 : Int32))) (2 : Int32)) &&& (858993459 : Int32))) + (ushr (((v0 - ((ushr v0 (1 : Int32)) &&& (1431655765 : Int32))) &&& (858993459 : Int32)) + ((ushr (v0 - ((ushr v0 (1 : Int32)) &&& (1431655765 : Int32))) (2 : Int32)) &&& (858993459 : Int32))) (4 : Int32))) &&& (252645135 : Int32)) (8 : Int32))) + (ushr ((((((v0 - ((ushr v0 (1 : Int32)) &&& (1431655765 : Int32))) &&& (858993459 : Int32)) + ((ushr (v0 - ((ushr v0 (1 : Int32)) &&& (1431655765 : Int32))) (2 : Int32)) &&& (858993459 : Int32))) + (ushr (((v0 - ((ushr v0 (1 : Int32)) &&& (1431655765 : Int32))) &&& (858993459 : Int32)) + ((ushr (v0 - ((ushr v0 (1 : Int32)) &&& (1431655765 : Int32))) (2 : Int32)) &&& (858993459 : Int32))) (4 : Int32))) &&& (252645135 : Int32)) + (ushr (((((v0 - ((ushr v0 (1 : Int32)) &&& (1431655765 : Int32))) &&& (858993459 : Int32)) + ((ushr (v0 - ((ushr v0 (1 : Int32)) &&& (1431655765 : Int32))) (2 : Int32)) &&& (858993459 : Int32))) + (ushr (((v0 - ((ushr v0 (1 : Int32)) &&& (1431655765 : Int32))) &&& (858993459 : Int32)) + ((ushr (v0 - ((ushr v0 (1 : Int32)) &&& (1431655765 : Int32))) (2 : Int32)) &&& (858993459 : Int32))) (4 : Int32))) &&& (252645135 : Int32)) (8 : Int32))) (16 : Int32))))]) dJ6_bitCount_0f7a4_47 rfl (by decide) rfl ?_
  refine k_iload_n C dJ6_bitCount_0f7a4_48 0 rfl rfl ?_
  refine k_bipush C (v := (63 : Int32)) dJ6_bitCount_0f7a4_49 (by decide) ?_
  refine k_iand C dJ6_bitCount_0f7a4_51 ?_
  obtain rfl := Option.some.inj h
  exact kret_i C rfl dJ6_bitCount_0f7a4_52
theorem c_JI_bitCount (l : Launch) (D : va_G) (cI : ClassId) (cL : ClassId) (cZ : ClassId) (sz : Nat) (v0 : Int32) (x : Int32) (h : f_JI_bitCount v0 = some x) :
    Met l yJ6_bitCount_0f7a4 (Cond.code yJ6_bitCount_0f7a4 cJ6_bitCount_0f7a4 1 (some .int) :: WS) rm_JI_bitCount (kP D (tyG cI cL cZ) kTrue [.int v0] sz (cells_JI_bitCount cI cL cZ)) (kQi D (va_A (cells_JI_bitCount cI cL cZ) sz) (cells_JI_bitCount cI cL cZ) x) 0 0 (va_A (cells_JI_bitCount cI cL cZ) sz) :=
  kmet (by decide) (Nat.le_of_ble_eq_true rfl) rfl (fun p e s m below meth c C hE => s_JI_bitCount C h)
abbrev cells_M_sureBehind (cI : ClassId) (cL : ClassId) (cZ : ClassId) (a_this : Nat) (a_now : Nat) (a_kept : Nat) (a_trial : Nat) (a_shelves : Nat) (a_tape : Nat) (a_paths : Nat) (a_sounds : Nat) (a_volumes : Nat) (a_refusals : Nat) (a_now_stones : Nat) (a_now_kinds : Nat) (a_now_weights : Nat) (a_now_chances : Nat) (a_shelves_marks : Nat) (a_shelves_sizes : Nat) (a_shelves_elements : Nat) (c_isKept : Int32) (c_now_width : Int32) (c_now_rain : Int32) (c_now_ear : Int32) (c_now_walkers : Int32) (c_now_seed : Int32) (c_now_stones : (Nat → Int32)) (c_now_kinds : (Nat → Int32)) (c_now_weights : (Nat → Int32)) (c_shelves_sizes : (Nat → Int32)) (c_shelves_elements : (Nat → Int64)) : va_W := [(a_this, .inr (4, [.ref a_now, .ref a_kept, .ref a_trial, .ref a_shelves, .ref a_tape, .ref a_paths, .ref a_sounds, .ref a_volumes, .ref a_refusals, .int c_isKept])), (a_now, .inr (0, [.ref a_now_stones, .ref a_now_kinds, .ref a_now_weights, .ref a_now_chances, .int c_now_width, .int c_now_rain, .int c_now_ear, .int c_now_walkers, .int c_now_seed])), (a_now_stones, .inl (cI, 36, .inl c_now_stones)), (a_now_kinds, .inl (cI, 8, .inl c_now_kinds)), (a_now_weights, .inl (cI, 8, .inl c_now_weights)), (a_shelves, .inr (2, [.ref a_shelves_marks, .ref a_shelves_sizes, .ref a_shelves_elements])), (a_shelves_sizes, .inl (cI, 8, .inl c_shelves_sizes)), (a_shelves_elements, .inl (cL, 320, .inr (.inl c_shelves_elements)))]
abbrev rm_M_sureBehind : Room := { frames := 5, cells := 0, slots := 0, locals := 115 }
set_option maxRecDepth 100000 in
set_option maxHeartbeats 4000000 in
theorem s_M_sureBehind_b2 (C : kC p l e rm_M_sureBehind s m args below meth c D (tyG cI cL cZ) A 4 cX4_sureBehind yX4_sureBehind.cls (Cond.code yX4_sureBehind cX4_sureBehind 4 (some .int) :: WS) (some .int)) {X : kX} (hE : kEs X A s) {a_this : Nat} {a_now : Nat} {a_kept : Nat} {a_trial : Nat} {a_shelves : Nat} {a_tape : Nat} {a_paths : Nat} {a_sounds : Nat} {a_volumes : Nat} {a_refusals : Nat} {a_now_stones : Nat} {a_now_kinds : Nat} {a_now_weights : Nat} {a_now_chances : Nat} {a_shelves_marks : Nat} {a_shelves_sizes : Nat} {a_shelves_elements : Nat} {v1 : Int32} {v2 : Int32} {v3 : Int32} {c_isKept : Int32} {c_now_width : Int32} {c_now_rain : Int32} {c_now_ear : Int32} {c_now_walkers : Int32} {c_now_seed : Int32} {c_now_stones : (Nat → Int32)} {c_now_kinds : (Nat → Int32)} {c_now_weights : (Nat → Int32)} {c_shelves_sizes : (Nat → Int32)} {c_shelves_elements : (Nat → Int64)} {x : (Int32 ⊕ (Int32 ⊕ Unit))} (h : f_M_sureBehind_b2 v1 v2 c_now_width c_now_rain c_now_walkers c_now_stones c_now_kinds c_now_weights c_shelves_sizes c_shelves_elements v3 = some x)
    (kc : ∀ s', x = .inl s' → kW p l e rm_M_sureBehind s m args below meth c D A 4 (cells_M_sureBehind cI cL cZ a_this a_now a_kept a_trial a_shelves a_tape a_paths a_sounds a_volumes a_refusals a_now_stones a_now_kinds a_now_weights a_now_chances a_shelves_marks a_shelves_sizes a_shelves_elements c_isKept c_now_width c_now_rain c_now_ear c_now_walkers c_now_seed c_now_stones c_now_kinds c_now_weights c_shelves_sizes c_shelves_elements) [(0, .ref a_this), (1, .int v1), (2, .int v2), (3, .int s')] Q 2 [])
    (k0 : ∀ r, x = .inr (.inl r) → kW p l e rm_M_sureBehind s m args below meth c D A 4 (cells_M_sureBehind cI cL cZ a_this a_now a_kept a_trial a_shelves a_tape a_paths a_sounds a_volumes a_refusals a_now_stones a_now_kinds a_now_weights a_now_chances a_shelves_marks a_shelves_sizes a_shelves_elements c_isKept c_now_width c_now_rain c_now_ear c_now_walkers c_now_seed c_now_stones c_now_kinds c_now_weights c_shelves_sizes c_shelves_elements) [(3, .int r)] Q 27 [])
    (k1 : ∀ r, x = .inr (.inr r) → kW p l e rm_M_sureBehind s m args below meth c D A 4 (cells_M_sureBehind cI cL cZ a_this a_now a_kept a_trial a_shelves a_tape a_paths a_sounds a_volumes a_refusals a_now_stones a_now_kinds a_now_weights a_now_chances a_shelves_marks a_shelves_sizes a_shelves_elements c_isKept c_now_width c_now_rain c_now_ear c_now_walkers c_now_seed c_now_stones c_now_kinds c_now_weights c_shelves_sizes c_shelves_elements) [] Q 35 []) :
    kW p l e rm_M_sureBehind s m args below meth c D A 4 (cells_M_sureBehind cI cL cZ a_this a_now a_kept a_trial a_shelves a_tape a_paths a_sounds a_volumes a_refusals a_now_stones a_now_kinds a_now_weights a_now_chances a_shelves_marks a_shelves_sizes a_shelves_elements c_isKept c_now_width c_now_rain c_now_ear c_now_walkers c_now_seed c_now_stones c_now_kinds c_now_weights c_shelves_sizes c_shelves_elements) [(0, .ref a_this), (1, .int v1), (2, .int v2), (3, .int v3)] Q 2 [] := by
  unfold f_M_sureBehind_b2 at h
  refine k_iload_n C dX4_sureBehind_2 3 rfl rfl ?_
  refine k_aload_n C dX4_sureBehind_3 0 rfl rfl ?_
  refine k_get C (C0 := RX4) (T := TX4) (N := 10) (fun w h => List.mem_cons_of_mem _ (us_M w h)) 0 rfl rfl 0 (by decide) (List.mem_cons_of_mem _ wq_62) rfl rfl dX4_sureBehind_4 ?_
  refine k_get C (C0 := RX0) (T := TX0) (N := 9) (fun w h => List.mem_cons_of_mem _ (us_D w h)) 1 rfl rfl 4 (by decide) (List.mem_cons_of_mem _ wq_119) rfl rfl dX4_sureBehind_7 ?_
  refine k_icmp_gt C (tgt := 35) dX4_sureBehind_10 (by decide) (fun c_10 => ?_) (fun c_10 => ?_)
  · have h := ifT c_10 h
    refine k_lv (lv' := []) [] rfl ?_
    exact k1 _ (Option.some.inj h).symm
  · have h := ifF c_10 h
    refine k_aload_n C dX4_sureBehind_13 0 rfl rfl ?_
    refine k_iload_n C dX4_sureBehind_14 1 rfl rfl ?_
    refine k_iload_n C dX4_sureBehind_15 2 rfl rfl ?_
    refine k_iload_n C dX4_sureBehind_16 3 rfl rfl ?_
    obtain ⟨x1, hx1, h⟩ := bindE h
    refine kcallR_i C (wc := (cells_M_fitting cI cL cZ a_this a_now a_kept a_trial a_shelves a_tape a_paths a_sounds a_volumes a_refusals a_now_stones a_now_kinds a_now_weights a_now_chances a_shelves_marks a_shelves_sizes a_shelves_elements c_isKept c_now_width c_now_rain c_now_ear c_now_walkers c_now_seed c_now_stones c_now_kinds c_now_weights c_shelves_sizes c_shelves_elements)) (r := x1) [0, 1, 2, 3, 4, 5, 6, 7] (fun H locs ls hP hD hS hF hz => krunV C (q0 := 0) (ci := 4) (c_M_fitting l D cI cL cZ X H.size a_this a_now a_kept a_trial a_shelves a_tape a_paths a_sounds a_volumes a_refusals a_now_stones a_now_kinds a_now_weights a_now_chances a_shelves_marks a_shelves_sizes a_shelves_elements v1 v2 v3 c_isKept c_now_width c_now_rain c_now_ear c_now_walkers c_now_seed c_now_stones c_now_kinds c_now_weights c_shelves_sizes c_shelves_elements x1 hx1) (cwV 3 C.2.2.2.2.1 (gV wq_439 wq_440 wq_441 wq_3 wq_438) rfl rfl rfl (by decide +kernel) ⟨(Nat.le_of_ble_eq_true rfl), (Nat.le_of_ble_eq_true rfl)⟩) rfl rfl (kEs_call hE hS hF) rfl rfl (Nat.le_of_ble_eq_true rfl) dX4_sureBehind_17 hP hD hz) rfl (by decide) ?_
    obtain ⟨x2, hx2, h⟩ := bindE h
    refine kcallE_i C (r := x2) (fun H locs ls hP hD hS hF hz => krunS C (c_JI_bitCount l D cI cL cZ H.size x1 x2 hx2) (va_cwS 1 C.2.2.2.2.1 (gS wq_443 wq_444 wq_445 wq_442) rfl rfl rfl (by decide +kernel) ⟨(Nat.le_of_ble_eq_true rfl), (Nat.le_of_ble_eq_true rfl)⟩) kEnv_T rfl rfl (Nat.le_of_ble_eq_true rfl) dX4_sureBehind_20 hP hD hz) ?_
    refine k_iconst C (v := (1 : Int32)) dX4_sureBehind_23 (by decide) ?_
    refine k_icmp_ne C (tgt := 29) dX4_sureBehind_24 (by decide) (fun c_24 => ?_) (fun c_24 => ?_)
    · have h := ifF c_24 h
      refine k_iinc C (v := (v3 + (1 : Int32))) (lv' := [(3, .int (v3 + (1 : Int32))), (0, .ref a_this), (1, .int v1), (2, .int v2)]) dX4_sureBehind_29 3 rfl rfl (by decide) rfl ?_
      refine k_goto C (tgt := 2) dX4_sureBehind_32 (by decide) ?_
      refine k_lv (lv' := [(0, .ref a_this), (1, .int v1), (2, .int v2), (3, .int (v3 + (1 : Int32)))]) [1, 2, 3, 0] rfl ?_
      exact kc _ (Option.some.inj h).symm
    · have h := ifT c_24 h
      refine k_lv (lv' := [(3, .int v3)]) [3] rfl ?_
      exact k0 _ (Option.some.inj h).symm
set_option maxRecDepth 100000 in
set_option maxHeartbeats 4000000 in
theorem s_M_sureBehind_l2 (C : kC p l e rm_M_sureBehind s m args below meth c D (tyG cI cL cZ) A 4 cX4_sureBehind yX4_sureBehind.cls (Cond.code yX4_sureBehind cX4_sureBehind 4 (some .int) :: WS) (some .int)) {X : kX} (hE : kEs X A s) {a_this : Nat} {a_now : Nat} {a_kept : Nat} {a_trial : Nat} {a_shelves : Nat} {a_tape : Nat} {a_paths : Nat} {a_sounds : Nat} {a_volumes : Nat} {a_refusals : Nat} {a_now_stones : Nat} {a_now_kinds : Nat} {a_now_weights : Nat} {a_now_chances : Nat} {a_shelves_marks : Nat} {a_shelves_sizes : Nat} {a_shelves_elements : Nat} {v1 : Int32} {v2 : Int32} {v3 : Int32} {c_isKept : Int32} {c_now_width : Int32} {c_now_rain : Int32} {c_now_ear : Int32} {c_now_walkers : Int32} {c_now_seed : Int32} {c_now_stones : (Nat → Int32)} {c_now_kinds : (Nat → Int32)} {c_now_weights : (Nat → Int32)} {c_shelves_sizes : (Nat → Int32)} {c_shelves_elements : (Nat → Int64)} {x : (Int32 ⊕ Unit)} (h : f_M_sureBehind_l2 v1 v2 c_now_width c_now_rain c_now_walkers c_now_stones c_now_kinds c_now_weights c_shelves_sizes c_shelves_elements v3 = some x)
    (k0 : ∀ r, x = (.inl r) → kW p l e rm_M_sureBehind s m args below meth c D A 4 (cells_M_sureBehind cI cL cZ a_this a_now a_kept a_trial a_shelves a_tape a_paths a_sounds a_volumes a_refusals a_now_stones a_now_kinds a_now_weights a_now_chances a_shelves_marks a_shelves_sizes a_shelves_elements c_isKept c_now_width c_now_rain c_now_ear c_now_walkers c_now_seed c_now_stones c_now_kinds c_now_weights c_shelves_sizes c_shelves_elements) [(3, .int r)] Q 27 [])
    (k1 : ∀ r, x = (.inr r) → kW p l e rm_M_sureBehind s m args below meth c D A 4 (cells_M_sureBehind cI cL cZ a_this a_now a_kept a_trial a_shelves a_tape a_paths a_sounds a_volumes a_refusals a_now_stones a_now_kinds a_now_weights a_now_chances a_shelves_marks a_shelves_sizes a_shelves_elements c_isKept c_now_width c_now_rain c_now_ear c_now_walkers c_now_seed c_now_stones c_now_kinds c_now_weights c_shelves_sizes c_shelves_elements) [] Q 35 []) :
    kW p l e rm_M_sureBehind s m args below meth c D A 4 (cells_M_sureBehind cI cL cZ a_this a_now a_kept a_trial a_shelves a_tape a_paths a_sounds a_volumes a_refusals a_now_stones a_now_kinds a_now_weights a_now_chances a_shelves_marks a_shelves_sizes a_shelves_elements c_isKept c_now_width c_now_rain c_now_ear c_now_walkers c_now_seed c_now_stones c_now_kinds c_now_weights c_shelves_sizes c_shelves_elements) [(0, .ref a_this), (1, .int v1), (2, .int v2), (3, .int v3)] Q 2 [] := by
  unfold f_M_sureBehind_l2 at h
  exact iter_W (T := fun sg => kW p l e rm_M_sureBehind s m args below meth c D A 4 (cells_M_sureBehind cI cL cZ a_this a_now a_kept a_trial a_shelves a_tape a_paths a_sounds a_volumes a_refusals a_now_stones a_now_kinds a_now_weights a_now_chances a_shelves_marks a_shelves_sizes a_shelves_elements c_isKept c_now_width c_now_rain c_now_ear c_now_walkers c_now_seed c_now_stones c_now_kinds c_now_weights c_shelves_sizes c_shelves_elements) [(0, .ref a_this), (1, .int v1), (2, .int v2), (3, .int sg)] Q 2 []) (fun sg y hy hc _ hr => s_M_sureBehind_b2 C hE hy (fun s' e => hc s' e) (fun r e => k0 r (hr _ e).symm) (fun r e => k1 r (hr _ e).symm)) FUEL _ h
set_option maxRecDepth 100000 in
set_option maxHeartbeats 4000000 in
theorem s_M_sureBehind (C : kC p l e rm_M_sureBehind s m args below meth c D (tyG cI cL cZ) A 4 cX4_sureBehind yX4_sureBehind.cls (Cond.code yX4_sureBehind cX4_sureBehind 4 (some .int) :: WS) (some .int)) {X : kX} (hE : kEs X A s) {a_this : Nat} {a_now : Nat} {a_kept : Nat} {a_trial : Nat} {a_shelves : Nat} {a_tape : Nat} {a_paths : Nat} {a_sounds : Nat} {a_volumes : Nat} {a_refusals : Nat} {a_now_stones : Nat} {a_now_kinds : Nat} {a_now_weights : Nat} {a_now_chances : Nat} {a_shelves_marks : Nat} {a_shelves_sizes : Nat} {a_shelves_elements : Nat} {v1 : Int32} {v2 : Int32} {c_isKept : Int32} {c_now_width : Int32} {c_now_rain : Int32} {c_now_ear : Int32} {c_now_walkers : Int32} {c_now_seed : Int32} {c_now_stones : (Nat → Int32)} {c_now_kinds : (Nat → Int32)} {c_now_weights : (Nat → Int32)} {c_shelves_sizes : (Nat → Int32)} {c_shelves_elements : (Nat → Int64)} {x : Int32} (h : f_M_sureBehind v1 v2 c_now_width c_now_rain c_now_walkers c_now_stones c_now_kinds c_now_weights c_shelves_sizes c_shelves_elements = some x) :
    kW p l e rm_M_sureBehind s m args below meth c D A 4 (cells_M_sureBehind cI cL cZ a_this a_now a_kept a_trial a_shelves a_tape a_paths a_sounds a_volumes a_refusals a_now_stones a_now_kinds a_now_weights a_now_chances a_shelves_marks a_shelves_sizes a_shelves_elements c_isKept c_now_width c_now_rain c_now_ear c_now_walkers c_now_seed c_now_stones c_now_kinds c_now_weights c_shelves_sizes c_shelves_elements) [(0, .ref a_this), (1, .int v1), (2, .int v2)] (MQ below (kQi D A (cells_M_sureBehind cI cL cZ a_this a_now a_kept a_trial a_shelves a_tape a_paths a_sounds a_volumes a_refusals a_now_stones a_now_kinds a_now_weights a_now_chances a_shelves_marks a_shelves_sizes a_shelves_elements c_isKept c_now_width c_now_rain c_now_ear c_now_walkers c_now_seed c_now_stones c_now_kinds c_now_weights c_shelves_sizes c_shelves_elements) x) args s 0 0 A) 0 [] := by
  unfold f_M_sureBehind at h
  refine k_iconst C (v := (1 : Int32)) dX4_sureBehind_0 (by decide) ?_
  refine k_istore_n C (lv' := [(3, .int (1 : Int32)), (0, .ref a_this), (1, .int v1), (2, .int v2)]) dX4_sureBehind_1 rfl (by decide) rfl ?_
  obtain ⟨x3, hx3, h⟩ := bindE h
  refine k_lv (lv' := [(0, .ref a_this), (1, .int v1), (2, .int v2), (3, .int (1 : Int32))]) [1, 2, 3, 0] rfl ?_
  refine s_M_sureBehind_l2 C hE hx3 ?_ ?_
  · intro x4 ex4
    subst ex4
    have h := sumL h
    refine k_iload_n C dX4_sureBehind_27 0 rfl rfl ?_
    obtain rfl := Option.some.inj h
    exact kret_i C rfl dX4_sureBehind_28
  · intro x5 ex5
    subst ex5
    have h := sumR h
    refine k_iconst C (v := (-1 : Int32)) dX4_sureBehind_35 (by decide) ?_
    obtain rfl := Option.some.inj h
    exact kret_i C rfl dX4_sureBehind_36
theorem c_M_sureBehind (l : Launch) (D : va_G) (cI : ClassId) (cL : ClassId) (cZ : ClassId) (X : kX) (sz : Nat) (a_this : Nat) (a_now : Nat) (a_kept : Nat) (a_trial : Nat) (a_shelves : Nat) (a_tape : Nat) (a_paths : Nat) (a_sounds : Nat) (a_volumes : Nat) (a_refusals : Nat) (a_now_stones : Nat) (a_now_kinds : Nat) (a_now_weights : Nat) (a_now_chances : Nat) (a_shelves_marks : Nat) (a_shelves_sizes : Nat) (a_shelves_elements : Nat) (v1 : Int32) (v2 : Int32) (c_isKept : Int32) (c_now_width : Int32) (c_now_rain : Int32) (c_now_ear : Int32) (c_now_walkers : Int32) (c_now_seed : Int32) (c_now_stones : (Nat → Int32)) (c_now_kinds : (Nat → Int32)) (c_now_weights : (Nat → Int32)) (c_shelves_sizes : (Nat → Int32)) (c_shelves_elements : (Nat → Int64)) (x : Int32) (h : f_M_sureBehind v1 v2 c_now_width c_now_rain c_now_walkers c_now_stones c_now_kinds c_now_weights c_shelves_sizes c_shelves_elements = some x) :
    Met l yX4_sureBehind (Cond.code yX4_sureBehind cX4_sureBehind 4 (some .int) :: WS) rm_M_sureBehind (kP D (tyG cI cL cZ) (kEs X (va_A (cells_M_sureBehind cI cL cZ a_this a_now a_kept a_trial a_shelves a_tape a_paths a_sounds a_volumes a_refusals a_now_stones a_now_kinds a_now_weights a_now_chances a_shelves_marks a_shelves_sizes a_shelves_elements c_isKept c_now_width c_now_rain c_now_ear c_now_walkers c_now_seed c_now_stones c_now_kinds c_now_weights c_shelves_sizes c_shelves_elements) sz)) [.ref a_this, .int v1, .int v2] sz (cells_M_sureBehind cI cL cZ a_this a_now a_kept a_trial a_shelves a_tape a_paths a_sounds a_volumes a_refusals a_now_stones a_now_kinds a_now_weights a_now_chances a_shelves_marks a_shelves_sizes a_shelves_elements c_isKept c_now_width c_now_rain c_now_ear c_now_walkers c_now_seed c_now_stones c_now_kinds c_now_weights c_shelves_sizes c_shelves_elements)) (kQi D (va_A (cells_M_sureBehind cI cL cZ a_this a_now a_kept a_trial a_shelves a_tape a_paths a_sounds a_volumes a_refusals a_now_stones a_now_kinds a_now_weights a_now_chances a_shelves_marks a_shelves_sizes a_shelves_elements c_isKept c_now_width c_now_rain c_now_ear c_now_walkers c_now_seed c_now_stones c_now_kinds c_now_weights c_shelves_sizes c_shelves_elements) sz) (cells_M_sureBehind cI cL cZ a_this a_now a_kept a_trial a_shelves a_tape a_paths a_sounds a_volumes a_refusals a_now_stones a_now_kinds a_now_weights a_now_chances a_shelves_marks a_shelves_sizes a_shelves_elements c_isKept c_now_width c_now_rain c_now_ear c_now_walkers c_now_seed c_now_stones c_now_kinds c_now_weights c_shelves_sizes c_shelves_elements) x) 0 0 (va_A (cells_M_sureBehind cI cL cZ a_this a_now a_kept a_trial a_shelves a_tape a_paths a_sounds a_volumes a_refusals a_now_stones a_now_kinds a_now_weights a_now_chances a_shelves_marks a_shelves_sizes a_shelves_elements c_isKept c_now_width c_now_rain c_now_ear c_now_walkers c_now_seed c_now_stones c_now_kinds c_now_weights c_shelves_sizes c_shelves_elements) sz) :=
  kmet (by decide) (Nat.le_of_ble_eq_true rfl) rfl (fun p e s m below meth c C hE => s_M_sureBehind C hE h)
abbrev cells_M_likeliestOf (cI : ClassId) (cL : ClassId) (cZ : ClassId) (a_this : Nat) (a_now : Nat) (a_kept : Nat) (a_trial : Nat) (a_shelves : Nat) (a_tape : Nat) (a_paths : Nat) (a_sounds : Nat) (a_volumes : Nat) (a_refusals : Nat) (a_now_stones : Nat) (a_now_kinds : Nat) (a_now_weights : Nat) (a_now_chances : Nat) (c_isKept : Int32) (c_now_width : Int32) (c_now_rain : Int32) (c_now_ear : Int32) (c_now_walkers : Int32) (c_now_seed : Int32) (c_now_chances : (Nat → Int32)) : va_W := [(a_this, .inr (4, [.ref a_now, .ref a_kept, .ref a_trial, .ref a_shelves, .ref a_tape, .ref a_paths, .ref a_sounds, .ref a_volumes, .ref a_refusals, .int c_isKept])), (a_now, .inr (0, [.ref a_now_stones, .ref a_now_kinds, .ref a_now_weights, .ref a_now_chances, .int c_now_width, .int c_now_rain, .int c_now_ear, .int c_now_walkers, .int c_now_seed])), (a_now_chances, .inl (cI, 8, .inl c_now_chances))]
abbrev rm_M_likeliestOf : Room := { frames := 2, cells := 0, slots := 0, locals := 43 }
set_option maxRecDepth 100000 in
set_option maxHeartbeats 4000000 in
theorem s_M_likeliestOf_b7 (C : kC p l e rm_M_likeliestOf s m args below meth c D (tyG cI cL cZ) A 5 cX4_likeliestOf yX4_likeliestOf.cls (Cond.code yX4_likeliestOf cX4_likeliestOf 5 (some .int) :: WS) (some .int)) {X : kX} (hE : kEs X A s) {a_this : Nat} {a_now : Nat} {a_kept : Nat} {a_trial : Nat} {a_shelves : Nat} {a_tape : Nat} {a_paths : Nat} {a_sounds : Nat} {a_volumes : Nat} {a_refusals : Nat} {a_now_stones : Nat} {a_now_kinds : Nat} {a_now_weights : Nat} {a_now_chances : Nat} {v1 : Int32} {v2 : Int32} {v3 : Int32} {v4 : Int32} {c_isKept : Int32} {c_now_width : Int32} {c_now_rain : Int32} {c_now_ear : Int32} {c_now_walkers : Int32} {c_now_seed : Int32} {c_now_chances : (Nat → Int32)} {x : ((Int32 × Int32 × Int32) ⊕ Int32)} (h : f_M_likeliestOf_b7 v1 c_now_walkers c_now_chances v2 v3 v4 = some x)
    (kc : ∀ s', x = .inl s' → kW p l e rm_M_likeliestOf s m args below meth c D A 5 (cells_M_likeliestOf cI cL cZ a_this a_now a_kept a_trial a_shelves a_tape a_paths a_sounds a_volumes a_refusals a_now_stones a_now_kinds a_now_weights a_now_chances c_isKept c_now_width c_now_rain c_now_ear c_now_walkers c_now_seed c_now_chances) [(0, .ref a_this), (1, .int v1), (2, .int s'.1), (3, .int s'.2.1), (4, .int s'.2.2)] Q 7 [])
    (k0 : ∀ r, x = .inr r → kW p l e rm_M_likeliestOf s m args below meth c D A 5 (cells_M_likeliestOf cI cL cZ a_this a_now a_kept a_trial a_shelves a_tape a_paths a_sounds a_volumes a_refusals a_now_stones a_now_kinds a_now_weights a_now_chances c_isKept c_now_width c_now_rain c_now_ear c_now_walkers c_now_seed c_now_chances) [(2, .int r)] Q 61 []) :
    kW p l e rm_M_likeliestOf s m args below meth c D A 5 (cells_M_likeliestOf cI cL cZ a_this a_now a_kept a_trial a_shelves a_tape a_paths a_sounds a_volumes a_refusals a_now_stones a_now_kinds a_now_weights a_now_chances c_isKept c_now_width c_now_rain c_now_ear c_now_walkers c_now_seed c_now_chances) [(0, .ref a_this), (1, .int v1), (2, .int v2), (3, .int v3), (4, .int v4)] Q 7 [] := by
  unfold f_M_likeliestOf_b7 at h
  refine k_iload C dX4_likeliestOf_7 4 rfl ?_
  refine k_aload_n C dX4_likeliestOf_9 0 rfl rfl ?_
  refine k_get C (C0 := RX4) (T := TX4) (N := 10) (fun w h => List.mem_cons_of_mem _ (us_M w h)) 0 rfl rfl 0 (by decide) (List.mem_cons_of_mem _ wq_62) rfl rfl dX4_likeliestOf_10 ?_
  refine k_get C (C0 := RX0) (T := TX0) (N := 9) (fun w h => List.mem_cons_of_mem _ (us_D w h)) 1 rfl rfl 7 (by decide) (List.mem_cons_of_mem _ wq_63) rfl rfl dX4_likeliestOf_13 ?_
  refine k_icmp_ge C (tgt := 61) dX4_likeliestOf_16 (by decide) (fun c_16 => ?_) (fun c_16 => ?_)
  · have h := ifT c_16 h
    refine k_lv (lv' := [(2, .int v2)]) [2] rfl ?_
    exact k0 _ (Option.some.inj h).symm
  · have h := ifF c_16 h
    refine k_iload_n C dX4_likeliestOf_19 1 rfl rfl ?_
    refine k_iload C dX4_likeliestOf_20 4 rfl ?_
    refine k_ishr C dX4_likeliestOf_22 ?_
    refine k_iconst C (v := (1 : Int32)) dX4_likeliestOf_23 (by decide) ?_
    refine k_iand C dX4_likeliestOf_24 ?_
    refine k_iconst C (v := (1 : Int32)) dX4_likeliestOf_25 (by decide) ?_
    refine k_icmp_ne C (tgt := 55) dX4_likeliestOf_26 (by decide) (fun c_26 => ?_) (fun c_26 => ?_)
    · have h := ifF c_26 h
      refine k_iinc C (v := (v4 + (1 : Int32))) (lv' := [(4, .int (v4 + (1 : Int32))), (0, .ref a_this), (1, .int v1), (2, .int v2), (3, .int v3)]) dX4_likeliestOf_55 4 rfl rfl (by decide) rfl ?_
      refine k_goto C (tgt := 7) dX4_likeliestOf_58 (by decide) ?_
      refine k_lv (lv' := [(0, .ref a_this), (1, .int v1), (2, .int v2), (3, .int v3), (4, .int (v4 + (1 : Int32)))]) [1, 2, 3, 4, 0] rfl ?_
      exact kc _ (Option.some.inj h).symm
    · have h := ifT c_26 h
      refine k_aload_n C dX4_likeliestOf_29 0 rfl rfl ?_
      refine k_get C (C0 := RX4) (T := TX4) (N := 10) (fun w h => List.mem_cons_of_mem _ (us_M w h)) 0 rfl rfl 0 (by decide) (List.mem_cons_of_mem _ wq_62) rfl rfl dX4_likeliestOf_30 ?_
      refine k_iload C dX4_likeliestOf_33 4 rfl ?_
      obtain ⟨x1, hx1, h⟩ := bindE h
      refine kcallR_i C (wc := (cells_D_chanceOf cI cL cZ a_now a_now_stones a_now_kinds a_now_weights a_now_chances c_now_width c_now_rain c_now_ear c_now_walkers c_now_seed c_now_chances)) (r := x1) [1, 2] (fun H locs ls hP hD hS hF hz => krunV C (q0 := 0) (ci := 0) (c_D_chanceOf l D cI cL cZ X H.size a_now a_now_stones a_now_kinds a_now_weights a_now_chances v4 c_now_width c_now_rain c_now_ear c_now_walkers c_now_seed c_now_chances x1 hx1) (cwV 1 C.2.2.2.2.1 (gV wq_115 wq_116 wq_117 wq_81 wq_114) rfl rfl rfl (by decide +kernel) ⟨(Nat.le_of_ble_eq_true rfl), (Nat.le_of_ble_eq_true rfl)⟩) rfl rfl (kEs_call hE hS hF) rfl rfl (Nat.le_of_ble_eq_true rfl) dX4_likeliestOf_35 hP hD hz) rfl (by decide) ?_
      refine k_iload_n C dX4_likeliestOf_38 3 rfl rfl ?_
      refine k_icmp_le C (tgt := 55) dX4_likeliestOf_39 (by decide) (fun c_39 => ?_) (fun c_39 => ?_)
      · have h := ifT c_39 h
        refine k_iinc C (v := (v4 + (1 : Int32))) (lv' := [(4, .int (v4 + (1 : Int32))), (0, .ref a_this), (1, .int v1), (2, .int v2), (3, .int v3)]) dX4_likeliestOf_55 4 rfl rfl (by decide) rfl ?_
        refine k_goto C (tgt := 7) dX4_likeliestOf_58 (by decide) ?_
        refine k_lv (lv' := [(0, .ref a_this), (1, .int v1), (2, .int v2), (3, .int v3), (4, .int (v4 + (1 : Int32)))]) [1, 2, 3, 4, 0] rfl ?_
        exact kc _ (Option.some.inj h).symm
      · have h := ifF c_39 h
        refine k_aload_n C dX4_likeliestOf_42 0 rfl rfl ?_
        refine k_get C (C0 := RX4) (T := TX4) (N := 10) (fun w h => List.mem_cons_of_mem _ (us_M w h)) 0 rfl rfl 0 (by decide) (List.mem_cons_of_mem _ wq_62) rfl rfl dX4_likeliestOf_43 ?_
        refine k_iload C dX4_likeliestOf_46 4 rfl ?_
        obtain ⟨x2, hx2, h⟩ := bindE h
        refine kcallR_i C (wc := (cells_D_chanceOf cI cL cZ a_now a_now_stones a_now_kinds a_now_weights a_now_chances c_now_width c_now_rain c_now_ear c_now_walkers c_now_seed c_now_chances)) (r := x2) [1, 2] (fun H locs ls hP hD hS hF hz => krunV C (q0 := 0) (ci := 0) (c_D_chanceOf l D cI cL cZ X H.size a_now a_now_stones a_now_kinds a_now_weights a_now_chances v4 c_now_width c_now_rain c_now_ear c_now_walkers c_now_seed c_now_chances x2 hx2) (cwV 1 C.2.2.2.2.1 (gV wq_115 wq_116 wq_117 wq_81 wq_114) rfl rfl rfl (by decide +kernel) ⟨(Nat.le_of_ble_eq_true rfl), (Nat.le_of_ble_eq_true rfl)⟩) rfl rfl (kEs_call hE hS hF) rfl rfl (Nat.le_of_ble_eq_true rfl) dX4_likeliestOf_48 hP hD hz) rfl (by decide) ?_
        refine k_istore_n C (lv' := [(3, .int x2), (0, .ref a_this), (1, .int v1), (2, .int v2), (4, .int v4)]) dX4_likeliestOf_51 rfl (by decide) rfl ?_
        refine k_iload C dX4_likeliestOf_52 4 rfl ?_
        refine k_istore_n C (lv' := [(2, .int v4), (3, .int x2), (0, .ref a_this), (1, .int v1), (4, .int v4)]) dX4_likeliestOf_54 rfl (by decide) rfl ?_
        refine k_iinc C (v := (v4 + (1 : Int32))) (lv' := [(4, .int (v4 + (1 : Int32))), (2, .int v4), (3, .int x2), (0, .ref a_this), (1, .int v1)]) dX4_likeliestOf_55 4 rfl rfl (by decide) rfl ?_
        refine k_goto C (tgt := 7) dX4_likeliestOf_58 (by decide) ?_
        refine k_lv (lv' := [(0, .ref a_this), (1, .int v1), (2, .int v4), (3, .int x2), (4, .int (v4 + (1 : Int32)))]) [3, 4, 1, 2, 0] rfl ?_
        exact kc _ (Option.some.inj h).symm
set_option maxRecDepth 100000 in
set_option maxHeartbeats 4000000 in
theorem s_M_likeliestOf_l7 (C : kC p l e rm_M_likeliestOf s m args below meth c D (tyG cI cL cZ) A 5 cX4_likeliestOf yX4_likeliestOf.cls (Cond.code yX4_likeliestOf cX4_likeliestOf 5 (some .int) :: WS) (some .int)) {X : kX} (hE : kEs X A s) {a_this : Nat} {a_now : Nat} {a_kept : Nat} {a_trial : Nat} {a_shelves : Nat} {a_tape : Nat} {a_paths : Nat} {a_sounds : Nat} {a_volumes : Nat} {a_refusals : Nat} {a_now_stones : Nat} {a_now_kinds : Nat} {a_now_weights : Nat} {a_now_chances : Nat} {v1 : Int32} {v2 : Int32} {v3 : Int32} {v4 : Int32} {c_isKept : Int32} {c_now_width : Int32} {c_now_rain : Int32} {c_now_ear : Int32} {c_now_walkers : Int32} {c_now_seed : Int32} {c_now_chances : (Nat → Int32)} {x : Int32} (h : f_M_likeliestOf_l7 v1 c_now_walkers c_now_chances v2 v3 v4 = some x)
    (k0 : kW p l e rm_M_likeliestOf s m args below meth c D A 5 (cells_M_likeliestOf cI cL cZ a_this a_now a_kept a_trial a_shelves a_tape a_paths a_sounds a_volumes a_refusals a_now_stones a_now_kinds a_now_weights a_now_chances c_isKept c_now_width c_now_rain c_now_ear c_now_walkers c_now_seed c_now_chances) [(2, .int x)] Q 61 []) :
    kW p l e rm_M_likeliestOf s m args below meth c D A 5 (cells_M_likeliestOf cI cL cZ a_this a_now a_kept a_trial a_shelves a_tape a_paths a_sounds a_volumes a_refusals a_now_stones a_now_kinds a_now_weights a_now_chances c_isKept c_now_width c_now_rain c_now_ear c_now_walkers c_now_seed c_now_chances) [(0, .ref a_this), (1, .int v1), (2, .int v2), (3, .int v3), (4, .int v4)] Q 7 [] := by
  unfold f_M_likeliestOf_l7 at h
  exact iter_W (T := fun sg => kW p l e rm_M_likeliestOf s m args below meth c D A 5 (cells_M_likeliestOf cI cL cZ a_this a_now a_kept a_trial a_shelves a_tape a_paths a_sounds a_volumes a_refusals a_now_stones a_now_kinds a_now_weights a_now_chances c_isKept c_now_width c_now_rain c_now_ear c_now_walkers c_now_seed c_now_chances) [(0, .ref a_this), (1, .int v1), (2, .int sg.1), (3, .int sg.2.1), (4, .int sg.2.2)] Q 7 []) (fun sg y hy hc _ hr => s_M_likeliestOf_b7 C hE hy (fun s' e => hc s' e) (fun r e => by rw [hr r e]; exact k0)) FUEL _ h
set_option maxRecDepth 100000 in
set_option maxHeartbeats 4000000 in
theorem s_M_likeliestOf (C : kC p l e rm_M_likeliestOf s m args below meth c D (tyG cI cL cZ) A 5 cX4_likeliestOf yX4_likeliestOf.cls (Cond.code yX4_likeliestOf cX4_likeliestOf 5 (some .int) :: WS) (some .int)) {X : kX} (hE : kEs X A s) {a_this : Nat} {a_now : Nat} {a_kept : Nat} {a_trial : Nat} {a_shelves : Nat} {a_tape : Nat} {a_paths : Nat} {a_sounds : Nat} {a_volumes : Nat} {a_refusals : Nat} {a_now_stones : Nat} {a_now_kinds : Nat} {a_now_weights : Nat} {a_now_chances : Nat} {v1 : Int32} {c_isKept : Int32} {c_now_width : Int32} {c_now_rain : Int32} {c_now_ear : Int32} {c_now_walkers : Int32} {c_now_seed : Int32} {c_now_chances : (Nat → Int32)} {x : Int32} (h : f_M_likeliestOf v1 c_now_walkers c_now_chances = some x) :
    kW p l e rm_M_likeliestOf s m args below meth c D A 5 (cells_M_likeliestOf cI cL cZ a_this a_now a_kept a_trial a_shelves a_tape a_paths a_sounds a_volumes a_refusals a_now_stones a_now_kinds a_now_weights a_now_chances c_isKept c_now_width c_now_rain c_now_ear c_now_walkers c_now_seed c_now_chances) [(0, .ref a_this), (1, .int v1)] (MQ below (kQi D A (cells_M_likeliestOf cI cL cZ a_this a_now a_kept a_trial a_shelves a_tape a_paths a_sounds a_volumes a_refusals a_now_stones a_now_kinds a_now_weights a_now_chances c_isKept c_now_width c_now_rain c_now_ear c_now_walkers c_now_seed c_now_chances) x) args s 0 0 A) 0 [] := by
  unfold f_M_likeliestOf at h
  refine k_iconst C (v := (-1 : Int32)) dX4_likeliestOf_0 (by decide) ?_
  refine k_istore_n C (lv' := [(2, .int (-1 : Int32)), (0, .ref a_this), (1, .int v1)]) dX4_likeliestOf_1 rfl (by decide) rfl ?_
  refine k_iconst C (v := (0 : Int32)) dX4_likeliestOf_2 (by decide) ?_
  refine k_istore_n C (lv' := [(3, .int (0 : Int32)), (2, .int (-1 : Int32)), (0, .ref a_this), (1, .int v1)]) dX4_likeliestOf_3 rfl (by decide) rfl ?_
  refine k_iconst C (v := (0 : Int32)) dX4_likeliestOf_4 (by decide) ?_
  refine k_istore C (lv' := [(4, .int (0 : Int32)), (3, .int (0 : Int32)), (2, .int (-1 : Int32)), (0, .ref a_this), (1, .int v1)]) dX4_likeliestOf_5 (by decide) rfl ?_
  obtain ⟨x3, hx3, h⟩ := bindE h
  refine k_lv (lv' := [(0, .ref a_this), (1, .int v1), (2, .int (-1 : Int32)), (3, .int (0 : Int32)), (4, .int (0 : Int32))]) [3, 4, 2, 1, 0] rfl ?_
  refine s_M_likeliestOf_l7 C hE hx3 ?_
  refine k_iload_n C dX4_likeliestOf_61 0 rfl rfl ?_
  obtain rfl := Option.some.inj h
  exact kret_i C rfl dX4_likeliestOf_62
theorem c_M_likeliestOf (l : Launch) (D : va_G) (cI : ClassId) (cL : ClassId) (cZ : ClassId) (X : kX) (sz : Nat) (a_this : Nat) (a_now : Nat) (a_kept : Nat) (a_trial : Nat) (a_shelves : Nat) (a_tape : Nat) (a_paths : Nat) (a_sounds : Nat) (a_volumes : Nat) (a_refusals : Nat) (a_now_stones : Nat) (a_now_kinds : Nat) (a_now_weights : Nat) (a_now_chances : Nat) (v1 : Int32) (c_isKept : Int32) (c_now_width : Int32) (c_now_rain : Int32) (c_now_ear : Int32) (c_now_walkers : Int32) (c_now_seed : Int32) (c_now_chances : (Nat → Int32)) (x : Int32) (h : f_M_likeliestOf v1 c_now_walkers c_now_chances = some x) :
    Met l yX4_likeliestOf (Cond.code yX4_likeliestOf cX4_likeliestOf 5 (some .int) :: WS) rm_M_likeliestOf (kP D (tyG cI cL cZ) (kEs X (va_A (cells_M_likeliestOf cI cL cZ a_this a_now a_kept a_trial a_shelves a_tape a_paths a_sounds a_volumes a_refusals a_now_stones a_now_kinds a_now_weights a_now_chances c_isKept c_now_width c_now_rain c_now_ear c_now_walkers c_now_seed c_now_chances) sz)) [.ref a_this, .int v1] sz (cells_M_likeliestOf cI cL cZ a_this a_now a_kept a_trial a_shelves a_tape a_paths a_sounds a_volumes a_refusals a_now_stones a_now_kinds a_now_weights a_now_chances c_isKept c_now_width c_now_rain c_now_ear c_now_walkers c_now_seed c_now_chances)) (kQi D (va_A (cells_M_likeliestOf cI cL cZ a_this a_now a_kept a_trial a_shelves a_tape a_paths a_sounds a_volumes a_refusals a_now_stones a_now_kinds a_now_weights a_now_chances c_isKept c_now_width c_now_rain c_now_ear c_now_walkers c_now_seed c_now_chances) sz) (cells_M_likeliestOf cI cL cZ a_this a_now a_kept a_trial a_shelves a_tape a_paths a_sounds a_volumes a_refusals a_now_stones a_now_kinds a_now_weights a_now_chances c_isKept c_now_width c_now_rain c_now_ear c_now_walkers c_now_seed c_now_chances) x) 0 0 (va_A (cells_M_likeliestOf cI cL cZ a_this a_now a_kept a_trial a_shelves a_tape a_paths a_sounds a_volumes a_refusals a_now_stones a_now_kinds a_now_weights a_now_chances c_isKept c_now_width c_now_rain c_now_ear c_now_walkers c_now_seed c_now_chances) sz) :=
  kmet (by decide) (Nat.le_of_ble_eq_true rfl) rfl (fun p e s m below meth c C hE => s_M_likeliestOf C hE h)
abbrev cells_M_chancesOf (cI : ClassId) (cL : ClassId) (cZ : ClassId) (a_this : Nat) (a_now : Nat) (a_kept : Nat) (a_trial : Nat) (a_shelves : Nat) (a_tape : Nat) (a_paths : Nat) (a_sounds : Nat) (a_volumes : Nat) (a_refusals : Nat) (a_now_stones : Nat) (a_now_kinds : Nat) (a_now_weights : Nat) (a_now_chances : Nat) (c_isKept : Int32) (c_now_width : Int32) (c_now_rain : Int32) (c_now_ear : Int32) (c_now_walkers : Int32) (c_now_seed : Int32) (c_now_chances : (Nat → Int32)) : va_W := [(a_this, .inr (4, [.ref a_now, .ref a_kept, .ref a_trial, .ref a_shelves, .ref a_tape, .ref a_paths, .ref a_sounds, .ref a_volumes, .ref a_refusals, .int c_isKept])), (a_now, .inr (0, [.ref a_now_stones, .ref a_now_kinds, .ref a_now_weights, .ref a_now_chances, .int c_now_width, .int c_now_rain, .int c_now_ear, .int c_now_walkers, .int c_now_seed])), (a_now_chances, .inl (cI, 8, .inl c_now_chances))]
abbrev rm_M_chancesOf : Room := { frames := 2, cells := 0, slots := 0, locals := 43 }
set_option maxRecDepth 100000 in
set_option maxHeartbeats 4000000 in
theorem s_M_chancesOf_b4 (C : kC p l e rm_M_chancesOf s m args below meth c D (tyG cI cL cZ) A 4 cX4_chancesOf yX4_chancesOf.cls (Cond.code yX4_chancesOf cX4_chancesOf 4 (some .int) :: WS) (some .int)) {X : kX} (hE : kEs X A s) {a_this : Nat} {a_now : Nat} {a_kept : Nat} {a_trial : Nat} {a_shelves : Nat} {a_tape : Nat} {a_paths : Nat} {a_sounds : Nat} {a_volumes : Nat} {a_refusals : Nat} {a_now_stones : Nat} {a_now_kinds : Nat} {a_now_weights : Nat} {a_now_chances : Nat} {v1 : Int32} {v2 : Int32} {v3 : Int32} {c_isKept : Int32} {c_now_width : Int32} {c_now_rain : Int32} {c_now_ear : Int32} {c_now_walkers : Int32} {c_now_seed : Int32} {c_now_chances : (Nat → Int32)} {x : ((Int32 × Int32) ⊕ Int32)} (h : f_M_chancesOf_b4 v1 c_now_walkers c_now_chances v2 v3 = some x)
    (kc : ∀ s', x = .inl s' → kW p l e rm_M_chancesOf s m args below meth c D A 4 (cells_M_chancesOf cI cL cZ a_this a_now a_kept a_trial a_shelves a_tape a_paths a_sounds a_volumes a_refusals a_now_stones a_now_kinds a_now_weights a_now_chances c_isKept c_now_width c_now_rain c_now_ear c_now_walkers c_now_seed c_now_chances) [(0, .ref a_this), (1, .int v1), (2, .int s'.1), (3, .int s'.2)] Q 4 [])
    (k0 : ∀ r, x = .inr r → kW p l e rm_M_chancesOf s m args below meth c D A 4 (cells_M_chancesOf cI cL cZ a_this a_now a_kept a_trial a_shelves a_tape a_paths a_sounds a_volumes a_refusals a_now_stones a_now_kinds a_now_weights a_now_chances c_isKept c_now_width c_now_rain c_now_ear c_now_walkers c_now_seed c_now_chances) [(2, .int r)] Q 41 []) :
    kW p l e rm_M_chancesOf s m args below meth c D A 4 (cells_M_chancesOf cI cL cZ a_this a_now a_kept a_trial a_shelves a_tape a_paths a_sounds a_volumes a_refusals a_now_stones a_now_kinds a_now_weights a_now_chances c_isKept c_now_width c_now_rain c_now_ear c_now_walkers c_now_seed c_now_chances) [(0, .ref a_this), (1, .int v1), (2, .int v2), (3, .int v3)] Q 4 [] := by
  unfold f_M_chancesOf_b4 at h
  refine k_iload_n C dX4_chancesOf_4 3 rfl rfl ?_
  refine k_aload_n C dX4_chancesOf_5 0 rfl rfl ?_
  refine k_get C (C0 := RX4) (T := TX4) (N := 10) (fun w h => List.mem_cons_of_mem _ (us_M w h)) 0 rfl rfl 0 (by decide) (List.mem_cons_of_mem _ wq_62) rfl rfl dX4_chancesOf_6 ?_
  refine k_get C (C0 := RX0) (T := TX0) (N := 9) (fun w h => List.mem_cons_of_mem _ (us_D w h)) 1 rfl rfl 7 (by decide) (List.mem_cons_of_mem _ wq_63) rfl rfl dX4_chancesOf_9 ?_
  refine k_icmp_ge C (tgt := 41) dX4_chancesOf_12 (by decide) (fun c_12 => ?_) (fun c_12 => ?_)
  · have h := ifT c_12 h
    refine k_lv (lv' := [(2, .int v2)]) [2] rfl ?_
    exact k0 _ (Option.some.inj h).symm
  · have h := ifF c_12 h
    refine k_iload_n C dX4_chancesOf_15 1 rfl rfl ?_
    refine k_iload_n C dX4_chancesOf_16 3 rfl rfl ?_
    refine k_ishr C dX4_chancesOf_17 ?_
    refine k_iconst C (v := (1 : Int32)) dX4_chancesOf_18 (by decide) ?_
    refine k_iand C dX4_chancesOf_19 ?_
    refine k_iconst C (v := (1 : Int32)) dX4_chancesOf_20 (by decide) ?_
    refine k_icmp_ne C (tgt := 35) dX4_chancesOf_21 (by decide) (fun c_21 => ?_) (fun c_21 => ?_)
    · have h := ifF c_21 h
      refine k_iinc C (v := (v3 + (1 : Int32))) (lv' := [(3, .int (v3 + (1 : Int32))), (0, .ref a_this), (1, .int v1), (2, .int v2)]) dX4_chancesOf_35 3 rfl rfl (by decide) rfl ?_
      refine k_goto C (tgt := 4) dX4_chancesOf_38 (by decide) ?_
      refine k_lv (lv' := [(0, .ref a_this), (1, .int v1), (2, .int v2), (3, .int (v3 + (1 : Int32)))]) [1, 2, 3, 0] rfl ?_
      exact kc _ (Option.some.inj h).symm
    · have h := ifT c_21 h
      refine k_iload_n C dX4_chancesOf_24 2 rfl rfl ?_
      refine k_aload_n C dX4_chancesOf_25 0 rfl rfl ?_
      refine k_get C (C0 := RX4) (T := TX4) (N := 10) (fun w h => List.mem_cons_of_mem _ (us_M w h)) 0 rfl rfl 0 (by decide) (List.mem_cons_of_mem _ wq_62) rfl rfl dX4_chancesOf_26 ?_
      refine k_iload_n C dX4_chancesOf_29 3 rfl rfl ?_
      obtain ⟨x1, hx1, h⟩ := bindE h
      refine kcallR_i C (wc := (cells_D_chanceOf cI cL cZ a_now a_now_stones a_now_kinds a_now_weights a_now_chances c_now_width c_now_rain c_now_ear c_now_walkers c_now_seed c_now_chances)) (r := x1) [1, 2] (fun H locs ls hP hD hS hF hz => krunV C (q0 := 0) (ci := 0) (c_D_chanceOf l D cI cL cZ X H.size a_now a_now_stones a_now_kinds a_now_weights a_now_chances v3 c_now_width c_now_rain c_now_ear c_now_walkers c_now_seed c_now_chances x1 hx1) (cwV 1 C.2.2.2.2.1 (gV wq_115 wq_116 wq_117 wq_81 wq_114) rfl rfl rfl (by decide +kernel) ⟨(Nat.le_of_ble_eq_true rfl), (Nat.le_of_ble_eq_true rfl)⟩) rfl rfl (kEs_call hE hS hF) rfl rfl (Nat.le_of_ble_eq_true rfl) dX4_chancesOf_30 hP hD hz) rfl (by decide) ?_
      refine k_iadd C dX4_chancesOf_33 ?_
      refine k_istore_n C (lv' := [(2, .int (v2 + x1)), (0, .ref a_this), (1, .int v1), (3, .int v3)]) dX4_chancesOf_34 rfl (by decide) rfl ?_
      refine k_iinc C (v := (v3 + (1 : Int32))) (lv' := [(3, .int (v3 + (1 : Int32))), (2, .int (v2 + x1)), (0, .ref a_this), (1, .int v1)]) dX4_chancesOf_35 3 rfl rfl (by decide) rfl ?_
      refine k_goto C (tgt := 4) dX4_chancesOf_38 (by decide) ?_
      refine k_lv (lv' := [(0, .ref a_this), (1, .int v1), (2, .int (v2 + x1)), (3, .int (v3 + (1 : Int32)))]) [2, 3, 1, 0] rfl ?_
      exact kc _ (Option.some.inj h).symm
set_option maxRecDepth 100000 in
set_option maxHeartbeats 4000000 in
theorem s_M_chancesOf_l4 (C : kC p l e rm_M_chancesOf s m args below meth c D (tyG cI cL cZ) A 4 cX4_chancesOf yX4_chancesOf.cls (Cond.code yX4_chancesOf cX4_chancesOf 4 (some .int) :: WS) (some .int)) {X : kX} (hE : kEs X A s) {a_this : Nat} {a_now : Nat} {a_kept : Nat} {a_trial : Nat} {a_shelves : Nat} {a_tape : Nat} {a_paths : Nat} {a_sounds : Nat} {a_volumes : Nat} {a_refusals : Nat} {a_now_stones : Nat} {a_now_kinds : Nat} {a_now_weights : Nat} {a_now_chances : Nat} {v1 : Int32} {v2 : Int32} {v3 : Int32} {c_isKept : Int32} {c_now_width : Int32} {c_now_rain : Int32} {c_now_ear : Int32} {c_now_walkers : Int32} {c_now_seed : Int32} {c_now_chances : (Nat → Int32)} {x : Int32} (h : f_M_chancesOf_l4 v1 c_now_walkers c_now_chances v2 v3 = some x)
    (k0 : kW p l e rm_M_chancesOf s m args below meth c D A 4 (cells_M_chancesOf cI cL cZ a_this a_now a_kept a_trial a_shelves a_tape a_paths a_sounds a_volumes a_refusals a_now_stones a_now_kinds a_now_weights a_now_chances c_isKept c_now_width c_now_rain c_now_ear c_now_walkers c_now_seed c_now_chances) [(2, .int x)] Q 41 []) :
    kW p l e rm_M_chancesOf s m args below meth c D A 4 (cells_M_chancesOf cI cL cZ a_this a_now a_kept a_trial a_shelves a_tape a_paths a_sounds a_volumes a_refusals a_now_stones a_now_kinds a_now_weights a_now_chances c_isKept c_now_width c_now_rain c_now_ear c_now_walkers c_now_seed c_now_chances) [(0, .ref a_this), (1, .int v1), (2, .int v2), (3, .int v3)] Q 4 [] := by
  unfold f_M_chancesOf_l4 at h
  exact iter_W (T := fun sg => kW p l e rm_M_chancesOf s m args below meth c D A 4 (cells_M_chancesOf cI cL cZ a_this a_now a_kept a_trial a_shelves a_tape a_paths a_sounds a_volumes a_refusals a_now_stones a_now_kinds a_now_weights a_now_chances c_isKept c_now_width c_now_rain c_now_ear c_now_walkers c_now_seed c_now_chances) [(0, .ref a_this), (1, .int v1), (2, .int sg.1), (3, .int sg.2)] Q 4 []) (fun sg y hy hc _ hr => s_M_chancesOf_b4 C hE hy (fun s' e => hc s' e) (fun r e => by rw [hr r e]; exact k0)) FUEL _ h
set_option maxRecDepth 100000 in
set_option maxHeartbeats 4000000 in
theorem s_M_chancesOf (C : kC p l e rm_M_chancesOf s m args below meth c D (tyG cI cL cZ) A 4 cX4_chancesOf yX4_chancesOf.cls (Cond.code yX4_chancesOf cX4_chancesOf 4 (some .int) :: WS) (some .int)) {X : kX} (hE : kEs X A s) {a_this : Nat} {a_now : Nat} {a_kept : Nat} {a_trial : Nat} {a_shelves : Nat} {a_tape : Nat} {a_paths : Nat} {a_sounds : Nat} {a_volumes : Nat} {a_refusals : Nat} {a_now_stones : Nat} {a_now_kinds : Nat} {a_now_weights : Nat} {a_now_chances : Nat} {v1 : Int32} {c_isKept : Int32} {c_now_width : Int32} {c_now_rain : Int32} {c_now_ear : Int32} {c_now_walkers : Int32} {c_now_seed : Int32} {c_now_chances : (Nat → Int32)} {x : Int32} (h : f_M_chancesOf v1 c_now_walkers c_now_chances = some x) :
    kW p l e rm_M_chancesOf s m args below meth c D A 4 (cells_M_chancesOf cI cL cZ a_this a_now a_kept a_trial a_shelves a_tape a_paths a_sounds a_volumes a_refusals a_now_stones a_now_kinds a_now_weights a_now_chances c_isKept c_now_width c_now_rain c_now_ear c_now_walkers c_now_seed c_now_chances) [(0, .ref a_this), (1, .int v1)] (MQ below (kQi D A (cells_M_chancesOf cI cL cZ a_this a_now a_kept a_trial a_shelves a_tape a_paths a_sounds a_volumes a_refusals a_now_stones a_now_kinds a_now_weights a_now_chances c_isKept c_now_width c_now_rain c_now_ear c_now_walkers c_now_seed c_now_chances) x) args s 0 0 A) 0 [] := by
  unfold f_M_chancesOf at h
  refine k_iconst C (v := (0 : Int32)) dX4_chancesOf_0 (by decide) ?_
  refine k_istore_n C (lv' := [(2, .int (0 : Int32)), (0, .ref a_this), (1, .int v1)]) dX4_chancesOf_1 rfl (by decide) rfl ?_
  refine k_iconst C (v := (0 : Int32)) dX4_chancesOf_2 (by decide) ?_
  refine k_istore_n C (lv' := [(3, .int (0 : Int32)), (2, .int (0 : Int32)), (0, .ref a_this), (1, .int v1)]) dX4_chancesOf_3 rfl (by decide) rfl ?_
  obtain ⟨x2, hx2, h⟩ := bindE h
  refine k_lv (lv' := [(0, .ref a_this), (1, .int v1), (2, .int (0 : Int32)), (3, .int (0 : Int32))]) [2, 3, 1, 0] rfl ?_
  refine s_M_chancesOf_l4 C hE hx2 ?_
  refine k_iload_n C dX4_chancesOf_41 0 rfl rfl ?_
  obtain rfl := Option.some.inj h
  exact kret_i C rfl dX4_chancesOf_42
theorem c_M_chancesOf (l : Launch) (D : va_G) (cI : ClassId) (cL : ClassId) (cZ : ClassId) (X : kX) (sz : Nat) (a_this : Nat) (a_now : Nat) (a_kept : Nat) (a_trial : Nat) (a_shelves : Nat) (a_tape : Nat) (a_paths : Nat) (a_sounds : Nat) (a_volumes : Nat) (a_refusals : Nat) (a_now_stones : Nat) (a_now_kinds : Nat) (a_now_weights : Nat) (a_now_chances : Nat) (v1 : Int32) (c_isKept : Int32) (c_now_width : Int32) (c_now_rain : Int32) (c_now_ear : Int32) (c_now_walkers : Int32) (c_now_seed : Int32) (c_now_chances : (Nat → Int32)) (x : Int32) (h : f_M_chancesOf v1 c_now_walkers c_now_chances = some x) :
    Met l yX4_chancesOf (Cond.code yX4_chancesOf cX4_chancesOf 4 (some .int) :: WS) rm_M_chancesOf (kP D (tyG cI cL cZ) (kEs X (va_A (cells_M_chancesOf cI cL cZ a_this a_now a_kept a_trial a_shelves a_tape a_paths a_sounds a_volumes a_refusals a_now_stones a_now_kinds a_now_weights a_now_chances c_isKept c_now_width c_now_rain c_now_ear c_now_walkers c_now_seed c_now_chances) sz)) [.ref a_this, .int v1] sz (cells_M_chancesOf cI cL cZ a_this a_now a_kept a_trial a_shelves a_tape a_paths a_sounds a_volumes a_refusals a_now_stones a_now_kinds a_now_weights a_now_chances c_isKept c_now_width c_now_rain c_now_ear c_now_walkers c_now_seed c_now_chances)) (kQi D (va_A (cells_M_chancesOf cI cL cZ a_this a_now a_kept a_trial a_shelves a_tape a_paths a_sounds a_volumes a_refusals a_now_stones a_now_kinds a_now_weights a_now_chances c_isKept c_now_width c_now_rain c_now_ear c_now_walkers c_now_seed c_now_chances) sz) (cells_M_chancesOf cI cL cZ a_this a_now a_kept a_trial a_shelves a_tape a_paths a_sounds a_volumes a_refusals a_now_stones a_now_kinds a_now_weights a_now_chances c_isKept c_now_width c_now_rain c_now_ear c_now_walkers c_now_seed c_now_chances) x) 0 0 (va_A (cells_M_chancesOf cI cL cZ a_this a_now a_kept a_trial a_shelves a_tape a_paths a_sounds a_volumes a_refusals a_now_stones a_now_kinds a_now_weights a_now_chances c_isKept c_now_width c_now_rain c_now_ear c_now_walkers c_now_seed c_now_chances) sz) :=
  kmet (by decide) (Nat.le_of_ble_eq_true rfl) rfl (fun p e s m below meth c C hE => s_M_chancesOf C hE h)
abbrev cells_M_who (cI : ClassId) (cL : ClassId) (cZ : ClassId) (a_this : Nat) (a_now : Nat) (a_kept : Nat) (a_trial : Nat) (a_shelves : Nat) (a_tape : Nat) (a_paths : Nat) (a_sounds : Nat) (a_volumes : Nat) (a_refusals : Nat) (a_now_stones : Nat) (a_now_kinds : Nat) (a_now_weights : Nat) (a_now_chances : Nat) (a_shelves_marks : Nat) (a_shelves_sizes : Nat) (a_shelves_elements : Nat) (c_isKept : Int32) (c_now_width : Int32) (c_now_rain : Int32) (c_now_ear : Int32) (c_now_walkers : Int32) (c_now_seed : Int32) (c_now_stones : (Nat → Int32)) (c_now_kinds : (Nat → Int32)) (c_now_weights : (Nat → Int32)) (c_now_chances : (Nat → Int32)) (c_shelves_marks : (Nat → Int32)) (c_shelves_sizes : (Nat → Int32)) (c_shelves_elements : (Nat → Int64)) (c_refusals : (Nat → Int32)) : va_W := [(a_this, .inr (4, [.ref a_now, .ref a_kept, .ref a_trial, .ref a_shelves, .ref a_tape, .ref a_paths, .ref a_sounds, .ref a_volumes, .ref a_refusals, .int c_isKept])), (a_now, .inr (0, [.ref a_now_stones, .ref a_now_kinds, .ref a_now_weights, .ref a_now_chances, .int c_now_width, .int c_now_rain, .int c_now_ear, .int c_now_walkers, .int c_now_seed])), (a_now_stones, .inl (cI, 36, .inl c_now_stones)), (a_now_kinds, .inl (cI, 8, .inl c_now_kinds)), (a_now_weights, .inl (cI, 8, .inl c_now_weights)), (a_now_chances, .inl (cI, 8, .inl c_now_chances)), (a_shelves, .inr (2, [.ref a_shelves_marks, .ref a_shelves_sizes, .ref a_shelves_elements])), (a_shelves_marks, .inl (cI, 8, .inl c_shelves_marks)), (a_shelves_sizes, .inl (cI, 8, .inl c_shelves_sizes)), (a_shelves_elements, .inl (cL, 320, .inr (.inl c_shelves_elements))), (a_refusals, .inl (cI, 5, .inl c_refusals))]
abbrev rm_M_who : Room := { frames := 6, cells := 0, slots := 0, locals := 138 }
set_option maxRecDepth 100000 in
set_option maxHeartbeats 4000000 in
theorem s_M_who_j24 (C : kC p l e rm_M_who s m args below meth c D (tyG cI cL cZ) A 7 cX4_who yX4_who.cls (Cond.code yX4_who cX4_who 7 (some .int) :: WS) (some .int)) {X : kX} (hE : kEs X A s) {a_this : Nat} {a_now : Nat} {a_kept : Nat} {a_trial : Nat} {a_shelves : Nat} {a_tape : Nat} {a_paths : Nat} {a_sounds : Nat} {a_volumes : Nat} {a_refusals : Nat} {a_now_stones : Nat} {a_now_kinds : Nat} {a_now_weights : Nat} {a_now_chances : Nat} {a_shelves_marks : Nat} {a_shelves_sizes : Nat} {a_shelves_elements : Nat} {c_isKept : Int32} {c_now_width : Int32} {c_now_rain : Int32} {c_now_ear : Int32} {c_now_walkers : Int32} {c_now_seed : Int32} {c_now_stones : (Nat → Int32)} {c_now_kinds : (Nat → Int32)} {c_now_weights : (Nat → Int32)} {c_now_chances : (Nat → Int32)} {c_shelves_marks : (Nat → Int32)} {c_shelves_sizes : (Nat → Int32)} {c_shelves_elements : (Nat → Int64)} {c_refusals : (Nat → Int32)} {x : (Int32 × (Nat → Int32))} (h : f_M_who_j24 c_refusals = some x) :
    kW p l e rm_M_who s m args below meth c D A 7 (cells_M_who cI cL cZ a_this a_now a_kept a_trial a_shelves a_tape a_paths a_sounds a_volumes a_refusals a_now_stones a_now_kinds a_now_weights a_now_chances a_shelves_marks a_shelves_sizes a_shelves_elements c_isKept c_now_width c_now_rain c_now_ear c_now_walkers c_now_seed c_now_stones c_now_kinds c_now_weights c_now_chances c_shelves_marks c_shelves_sizes c_shelves_elements c_refusals) [(0, .ref a_this)] (MQ below (kQi D A (cells_M_who cI cL cZ a_this a_now a_kept a_trial a_shelves a_tape a_paths a_sounds a_volumes a_refusals a_now_stones a_now_kinds a_now_weights a_now_chances a_shelves_marks a_shelves_sizes a_shelves_elements c_isKept c_now_width c_now_rain c_now_ear c_now_walkers c_now_seed c_now_stones c_now_kinds c_now_weights c_now_chances c_shelves_marks c_shelves_sizes c_shelves_elements x.2) x.1) args s 0 0 A) 24 [] := by
  unfold f_M_who_j24 at h
  refine k_aload_n C dX4_who_24 0 rfl rfl ?_
  refine k_bipush C (v := (-2 : Int32)) dX4_who_25 (by decide) ?_
  obtain ⟨x2, hx2, h⟩ := bindE h
  refine kcallU_i C (wc := (cells_M_refuse cI cL cZ a_this a_now a_kept a_trial a_shelves a_tape a_paths a_sounds a_volumes a_refusals c_isKept c_refusals)) (w1 := (cells_M_refuse cI cL cZ a_this a_now a_kept a_trial a_shelves a_tape a_paths a_sounds a_volumes a_refusals c_isKept x2.2)) (ws' := (cells_M_who cI cL cZ a_this a_now a_kept a_trial a_shelves a_tape a_paths a_sounds a_volumes a_refusals a_now_stones a_now_kinds a_now_weights a_now_chances a_shelves_marks a_shelves_sizes a_shelves_elements c_isKept c_now_width c_now_rain c_now_ear c_now_walkers c_now_seed c_now_stones c_now_kinds c_now_weights c_now_chances c_shelves_marks c_shelves_sizes c_shelves_elements x2.2)) (r := x2.1) [0, 10] (fun H locs ls hP hD hS hF hz => krunV C (q0 := 0) (ci := 4) (c_M_refuse l D cI cL cZ H.size a_this a_now a_kept a_trial a_shelves a_tape a_paths a_sounds a_volumes a_refusals (-2 : Int32) c_isKept c_refusals x2 hx2) (cwV 1 C.2.2.2.2.1 (gV wq_12 wq_13 wq_14 wq_3 wq_11) rfl rfl rfl (by decide +kernel) ⟨(Nat.le_of_ble_eq_true rfl), (Nat.le_of_ble_eq_true rfl)⟩) rfl rfl kEnv_T rfl rfl (Nat.le_of_ble_eq_true rfl) dX4_who_27 hP hD hz) rfl (by decide) rfl rfl ?_
  obtain rfl := Option.some.inj h
  exact kret_i C rfl dX4_who_30
set_option maxRecDepth 100000 in
set_option maxHeartbeats 4000000 in
theorem s_M_who (C : kC p l e rm_M_who s m args below meth c D (tyG cI cL cZ) A 7 cX4_who yX4_who.cls (Cond.code yX4_who cX4_who 7 (some .int) :: WS) (some .int)) {X : kX} (hE : kEs X A s) {a_this : Nat} {a_now : Nat} {a_kept : Nat} {a_trial : Nat} {a_shelves : Nat} {a_tape : Nat} {a_paths : Nat} {a_sounds : Nat} {a_volumes : Nat} {a_refusals : Nat} {a_now_stones : Nat} {a_now_kinds : Nat} {a_now_weights : Nat} {a_now_chances : Nat} {a_shelves_marks : Nat} {a_shelves_sizes : Nat} {a_shelves_elements : Nat} {v1 : Int32} {v2 : Int32} {v3 : Int32} {c_isKept : Int32} {c_now_width : Int32} {c_now_rain : Int32} {c_now_ear : Int32} {c_now_walkers : Int32} {c_now_seed : Int32} {c_now_stones : (Nat → Int32)} {c_now_kinds : (Nat → Int32)} {c_now_weights : (Nat → Int32)} {c_now_chances : (Nat → Int32)} {c_shelves_marks : (Nat → Int32)} {c_shelves_sizes : (Nat → Int32)} {c_shelves_elements : (Nat → Int64)} {c_refusals : (Nat → Int32)} {x : (Int32 × (Nat → Int32))} (h : f_M_who v1 v2 v3 c_now_width c_now_rain c_now_walkers c_now_stones c_now_kinds c_now_weights c_now_chances c_shelves_marks c_shelves_sizes c_shelves_elements c_refusals = some x) :
    kW p l e rm_M_who s m args below meth c D A 7 (cells_M_who cI cL cZ a_this a_now a_kept a_trial a_shelves a_tape a_paths a_sounds a_volumes a_refusals a_now_stones a_now_kinds a_now_weights a_now_chances a_shelves_marks a_shelves_sizes a_shelves_elements c_isKept c_now_width c_now_rain c_now_ear c_now_walkers c_now_seed c_now_stones c_now_kinds c_now_weights c_now_chances c_shelves_marks c_shelves_sizes c_shelves_elements c_refusals) [(0, .ref a_this), (1, .int v1), (2, .int v2), (3, .int v3)] (MQ below (kQi D A (cells_M_who cI cL cZ a_this a_now a_kept a_trial a_shelves a_tape a_paths a_sounds a_volumes a_refusals a_now_stones a_now_kinds a_now_weights a_now_chances a_shelves_marks a_shelves_sizes a_shelves_elements c_isKept c_now_width c_now_rain c_now_ear c_now_walkers c_now_seed c_now_stones c_now_kinds c_now_weights c_now_chances c_shelves_marks c_shelves_sizes c_shelves_elements x.2) x.1) args s 0 0 A) 0 [] := by
  unfold f_M_who at h
  refine k_iload_n C dX4_who_0 1 rfl rfl ?_
  obtain ⟨x1, hx1, h⟩ := bindE h
  refine kcallE_i C (r := x1) (fun H locs ls hP hD hS hF hz => krunS C (c_M_isShelf l D cI cL cZ H.size v1 x1 hx1) (va_cwS 1 C.2.2.2.2.1 (gS wq_10 wq_6 wq_3 wq_5) rfl rfl rfl (by decide +kernel) ⟨(Nat.le_of_ble_eq_true rfl), (Nat.le_of_ble_eq_true rfl)⟩) kEnv_T rfl rfl (Nat.le_of_ble_eq_true rfl) dX4_who_1 hP hD hz) ?_
  refine k_if_eq C (tgt := 24) dX4_who_4 (by decide) (fun c_4 => ?_) (fun c_4 => ?_)
  · have h := ifT c_4 h
    refine k_lv (lv' := [(0, .ref a_this)]) [0] rfl ?_
    exact s_M_who_j24 C hE h
  · have h := ifF c_4 h
    refine k_aload_n C dX4_who_7 0 rfl rfl ?_
    refine k_iload_n C dX4_who_8 2 rfl rfl ?_
    obtain ⟨x3, hx3, h⟩ := bindE h
    refine kcallR_i C (wc := (cells_M_isColumn cI cL cZ a_this a_now a_kept a_trial a_shelves a_tape a_paths a_sounds a_volumes a_refusals a_now_stones a_now_kinds a_now_weights a_now_chances c_isKept c_now_width c_now_rain c_now_ear c_now_walkers c_now_seed)) (r := x3) [0, 1] (fun H locs ls hP hD hS hF hz => krunV C (q0 := 0) (ci := 4) (c_M_isColumn l D cI cL cZ H.size a_this a_now a_kept a_trial a_shelves a_tape a_paths a_sounds a_volumes a_refusals a_now_stones a_now_kinds a_now_weights a_now_chances v2 c_isKept c_now_width c_now_rain c_now_ear c_now_walkers c_now_seed x3 hx3) (cwV 1 C.2.2.2.2.1 (gV wq_412 wq_413 wq_414 wq_3 wq_411) rfl rfl rfl (by decide +kernel) ⟨(Nat.le_of_ble_eq_true rfl), (Nat.le_of_ble_eq_true rfl)⟩) rfl rfl kEnv_T rfl rfl (Nat.le_of_ble_eq_true rfl) dX4_who_9 hP hD hz) rfl (by decide) ?_
    refine k_if_eq C (tgt := 24) dX4_who_12 (by decide) (fun c_12 => ?_) (fun c_12 => ?_)
    · have h := ifT c_12 h
      refine k_lv (lv' := [(0, .ref a_this)]) [0] rfl ?_
      exact s_M_who_j24 C hE h
    · have h := ifF c_12 h
      refine k_iload_n C dX4_who_15 3 rfl rfl ?_
      refine k_iconst C (v := (0 : Int32)) dX4_who_16 (by decide) ?_
      refine k_iconst C (v := (3 : Int32)) dX4_who_17 (by decide) ?_
      obtain ⟨x4, hx4, h⟩ := bindE h
      refine kcallE_i C (r := x4) (fun H locs ls hP hD hS hF hz => krunS C (c_M_isWithin l D cI cL cZ H.size v3 (0 : Int32) (3 : Int32) x4 hx4) (va_cwS 3 C.2.2.2.2.1 (gS wq_1 wq_2 wq_3 wq_0) rfl rfl rfl (by decide +kernel) ⟨(Nat.le_of_ble_eq_true rfl), (Nat.le_of_ble_eq_true rfl)⟩) kEnv_T rfl rfl (Nat.le_of_ble_eq_true rfl) dX4_who_18 hP hD hz) ?_
      refine k_if_ne C (tgt := 31) dX4_who_21 (by decide) (fun c_21 => ?_) (fun c_21 => ?_)
      · have h := ifF c_21 h
        refine k_aload_n C dX4_who_31 0 rfl rfl ?_
        refine k_iload_n C dX4_who_32 1 rfl rfl ?_
        refine k_aload_n C dX4_who_33 0 rfl rfl ?_
        refine k_get C (C0 := RX4) (T := TX4) (N := 10) (fun w h => List.mem_cons_of_mem _ (us_M w h)) 0 rfl rfl 0 (by decide) (List.mem_cons_of_mem _ wq_62) rfl rfl dX4_who_34 ?_
        refine k_get C (C0 := RX0) (T := TX0) (N := 9) (fun w h => List.mem_cons_of_mem _ (us_D w h)) 1 rfl rfl 4 (by decide) (List.mem_cons_of_mem _ wq_119) rfl rfl dX4_who_37 ?_
        obtain ⟨x5, hx5, h⟩ := bindE h
        refine kcallR_i C (wc := (cells_M_whyNoRowOf cI cL cZ a_this a_now a_kept a_trial a_shelves a_tape a_paths a_sounds a_volumes a_refusals a_shelves_marks a_shelves_sizes a_shelves_elements c_isKept c_shelves_marks c_shelves_sizes)) (r := x5) [0, 6, 7, 8] (fun H locs ls hP hD hS hF hz => krunV C (q0 := 0) (ci := 4) (c_M_whyNoRowOf l D cI cL cZ X H.size a_this a_now a_kept a_trial a_shelves a_tape a_paths a_sounds a_volumes a_refusals a_shelves_marks a_shelves_sizes a_shelves_elements v1 c_now_width c_isKept c_shelves_marks c_shelves_sizes x5 hx5) (cwV 2 C.2.2.2.2.1 (gV wq_447 wq_448 wq_449 wq_3 wq_446) rfl rfl rfl (by decide +kernel) ⟨(Nat.le_of_ble_eq_true rfl), (Nat.le_of_ble_eq_true rfl)⟩) rfl rfl (kEs_call hE hS hF) rfl rfl (Nat.le_of_ble_eq_true rfl) dX4_who_40 hP hD hz) rfl (by decide) ?_
        refine k_istore C (lv' := [(4, .int x5), (0, .ref a_this), (1, .int v1), (2, .int v2), (3, .int v3)]) dX4_who_43 (by decide) rfl ?_
        refine k_iload C dX4_who_45 0 rfl ?_
        refine k_if_eq C (tgt := 57) dX4_who_47 (by decide) (fun c_47 => ?_) (fun c_47 => ?_)
        · have h := ifT c_47 h
          refine k_aload_n C dX4_who_57 1 rfl rfl ?_
          refine k_iload_n C dX4_who_58 2 rfl rfl ?_
          refine k_iload_n C dX4_who_59 3 rfl rfl ?_
          refine k_aload_n C dX4_who_60 1 rfl rfl ?_
          refine k_get C (C0 := RX4) (T := TX4) (N := 10) (fun w h => List.mem_cons_of_mem _ (us_M w h)) 0 rfl rfl 0 (by decide) (List.mem_cons_of_mem _ wq_62) rfl rfl dX4_who_61 ?_
          refine k_get C (C0 := RX0) (T := TX0) (N := 9) (fun w h => List.mem_cons_of_mem _ (us_D w h)) 1 rfl rfl 4 (by decide) (List.mem_cons_of_mem _ wq_119) rfl rfl dX4_who_64 ?_
          obtain ⟨x6, hx6, h⟩ := bindE h
          refine kcallR_i C (wc := (cells_M_fitting cI cL cZ a_this a_now a_kept a_trial a_shelves a_tape a_paths a_sounds a_volumes a_refusals a_now_stones a_now_kinds a_now_weights a_now_chances a_shelves_marks a_shelves_sizes a_shelves_elements c_isKept c_now_width c_now_rain c_now_ear c_now_walkers c_now_seed c_now_stones c_now_kinds c_now_weights c_shelves_sizes c_shelves_elements)) (r := x6) [0, 1, 2, 3, 4, 6, 8, 9] (fun H locs ls hP hD hS hF hz => krunV C (q0 := 0) (ci := 4) (c_M_fitting l D cI cL cZ X H.size a_this a_now a_kept a_trial a_shelves a_tape a_paths a_sounds a_volumes a_refusals a_now_stones a_now_kinds a_now_weights a_now_chances a_shelves_marks a_shelves_sizes a_shelves_elements v1 v2 c_now_width c_isKept c_now_width c_now_rain c_now_ear c_now_walkers c_now_seed c_now_stones c_now_kinds c_now_weights c_shelves_sizes c_shelves_elements x6 hx6) (cwV 3 C.2.2.2.2.1 (gV wq_439 wq_440 wq_441 wq_3 wq_438) rfl rfl rfl (by decide +kernel) ⟨(Nat.le_of_ble_eq_true rfl), (Nat.le_of_ble_eq_true rfl)⟩) rfl rfl (kEs_call hE hS hF) rfl rfl (Nat.le_of_ble_eq_true rfl) dX4_who_67 hP hD hz) rfl (by decide) ?_
          refine k_istore C (lv' := [(5, .int x6), (4, .int x5), (0, .ref a_this), (1, .int v1), (2, .int v2), (3, .int v3)]) dX4_who_70 (by decide) rfl ?_
          refine k_iload_n C dX4_who_72 5 rfl rfl ?_
          refine k_if_ne C (tgt := 79) dX4_who_73 (by decide) (fun c_73 => ?_) (fun c_73 => ?_)
          · have h := ifF c_73 h
            refine k_iload_n C dX4_who_79 5 rfl rfl ?_
            refine k_iconst C (v := (3 : Int32)) dX4_who_80 (by decide) ?_
            refine k_icmp_ne C (tgt := 100) dX4_who_81 (by decide) (fun c_81 => ?_) (fun c_81 => ?_)
            · have h := ifF c_81 h
              refine k_aload_n C dX4_who_100 2 rfl rfl ?_
              refine k_iload C dX4_who_101 0 rfl ?_
              obtain ⟨x7, hx7, h⟩ := bindE h
              refine kcallR_i C (wc := (cells_M_likeliestOf cI cL cZ a_this a_now a_kept a_trial a_shelves a_tape a_paths a_sounds a_volumes a_refusals a_now_stones a_now_kinds a_now_weights a_now_chances c_isKept c_now_width c_now_rain c_now_ear c_now_walkers c_now_seed c_now_chances)) (r := x7) [0, 1, 5] (fun H locs ls hP hD hS hF hz => krunV C (q0 := 0) (ci := 4) (c_M_likeliestOf l D cI cL cZ X H.size a_this a_now a_kept a_trial a_shelves a_tape a_paths a_sounds a_volumes a_refusals a_now_stones a_now_kinds a_now_weights a_now_chances x6 c_isKept c_now_width c_now_rain c_now_ear c_now_walkers c_now_seed c_now_chances x7 hx7) (cwV 1 C.2.2.2.2.1 (gV wq_451 wq_452 wq_453 wq_3 wq_450) rfl rfl rfl (by decide +kernel) ⟨(Nat.le_of_ble_eq_true rfl), (Nat.le_of_ble_eq_true rfl)⟩) rfl rfl (kEs_call hE hS hF) rfl rfl (Nat.le_of_ble_eq_true rfl) dX4_who_103 hP hD hz) rfl (by decide) ?_
              refine k_istore C (lv' := [(6, .int x7), (5, .int x6), (4, .int x5), (0, .ref a_this), (1, .int v1), (2, .int v2), (3, .int v3)]) dX4_who_106 (by decide) rfl ?_
              refine k_iload_n C dX4_who_108 6 rfl rfl ?_
              refine k_iconst C (v := (1 : Int32)) dX4_who_109 (by decide) ?_
              refine k_icmp_ne C (tgt := 116) dX4_who_110 (by decide) (fun c_110 => ?_) (fun c_110 => ?_)
              · have h := ifF c_110 h
                refine k_iload C dX4_who_116 0 rfl ?_
                refine k_iconst C (v := (-1 : Int32)) dX4_who_118 (by decide) ?_
                refine k_icmp_ne C (tgt := 131) dX4_who_119 (by decide) (fun c_119 => ?_) (fun c_119 => ?_)
                · have h := ifF c_119 h
                  refine k_aload_n C dX4_who_131 3 rfl rfl ?_
                  refine k_get C (C0 := RX4) (T := TX4) (N := 10) (fun w h => List.mem_cons_of_mem _ (us_M w h)) 0 rfl rfl 0 (by decide) (List.mem_cons_of_mem _ wq_62) rfl rfl dX4_who_132 ?_
                  refine k_iload C dX4_who_135 0 rfl ?_
                  obtain ⟨x8, hx8, h⟩ := bindE h
                  refine kcallR_i C (wc := (cells_D_chanceOf cI cL cZ a_now a_now_stones a_now_kinds a_now_weights a_now_chances c_now_width c_now_rain c_now_ear c_now_walkers c_now_seed c_now_chances)) (r := x8) [1, 5] (fun H locs ls hP hD hS hF hz => krunV C (q0 := 0) (ci := 0) (c_D_chanceOf l D cI cL cZ X H.size a_now a_now_stones a_now_kinds a_now_weights a_now_chances x7 c_now_width c_now_rain c_now_ear c_now_walkers c_now_seed c_now_chances x8 hx8) (cwV 1 C.2.2.2.2.1 (gV wq_115 wq_116 wq_117 wq_81 wq_114) rfl rfl rfl (by decide +kernel) ⟨(Nat.le_of_ble_eq_true rfl), (Nat.le_of_ble_eq_true rfl)⟩) rfl rfl (kEs_call hE hS hF) rfl rfl (Nat.le_of_ble_eq_true rfl) dX4_who_137 hP hD hz) rfl (by decide) ?_
                  refine k_aload_n C dX4_who_140 3 rfl rfl ?_
                  refine k_iload C dX4_who_141 1 rfl ?_
                  obtain ⟨x9, hx9, h⟩ := bindE h
                  refine kcallR_i C (wc := (cells_M_chancesOf cI cL cZ a_this a_now a_kept a_trial a_shelves a_tape a_paths a_sounds a_volumes a_refusals a_now_stones a_now_kinds a_now_weights a_now_chances c_isKept c_now_width c_now_rain c_now_ear c_now_walkers c_now_seed c_now_chances)) (r := x9) [0, 1, 5] (fun H locs ls hP hD hS hF hz => krunV C (q0 := 0) (ci := 4) (c_M_chancesOf l D cI cL cZ X H.size a_this a_now a_kept a_trial a_shelves a_tape a_paths a_sounds a_volumes a_refusals a_now_stones a_now_kinds a_now_weights a_now_chances x6 c_isKept c_now_width c_now_rain c_now_ear c_now_walkers c_now_seed c_now_chances x9 hx9) (cwV 1 C.2.2.2.2.1 (gV wq_455 wq_456 wq_457 wq_3 wq_454) rfl rfl rfl (by decide +kernel) ⟨(Nat.le_of_ble_eq_true rfl), (Nat.le_of_ble_eq_true rfl)⟩) rfl rfl (kEs_call hE hS hF) rfl rfl (Nat.le_of_ble_eq_true rfl) dX4_who_143 hP hD hz) rfl (by decide) ?_
                  obtain ⟨x10, hx10, h⟩ := bindE h
                  refine kcallE_i C (r := x10) (fun H locs ls hP hD hS hF hz => krunS C (c_M_thousandths l D cI cL cZ H.size x8 x9 x10 hx10) (va_cwS 2 C.2.2.2.2.1 (gS wq_395 wq_396 wq_3 wq_394) rfl rfl rfl (by decide +kernel) ⟨(Nat.le_of_ble_eq_true rfl), (Nat.le_of_ble_eq_true rfl)⟩) kEnv_T rfl rfl (Nat.le_of_ble_eq_true rfl) dX4_who_146 hP hD hz) ?_
                  obtain rfl := Option.some.inj h
                  exact kret_i C rfl dX4_who_149
                · have h := ifT c_119 h
                  refine k_aload_n C dX4_who_122 3 rfl rfl ?_
                  refine k_bipush C (v := (-5 : Int32)) dX4_who_123 (by decide) ?_
                  obtain ⟨x11, hx11, h⟩ := bindE h
                  refine kcallU_i C (wc := (cells_M_refuse cI cL cZ a_this a_now a_kept a_trial a_shelves a_tape a_paths a_sounds a_volumes a_refusals c_isKept c_refusals)) (w1 := (cells_M_refuse cI cL cZ a_this a_now a_kept a_trial a_shelves a_tape a_paths a_sounds a_volumes a_refusals c_isKept x11.2)) (ws' := (cells_M_who cI cL cZ a_this a_now a_kept a_trial a_shelves a_tape a_paths a_sounds a_volumes a_refusals a_now_stones a_now_kinds a_now_weights a_now_chances a_shelves_marks a_shelves_sizes a_shelves_elements c_isKept c_now_width c_now_rain c_now_ear c_now_walkers c_now_seed c_now_stones c_now_kinds c_now_weights c_now_chances c_shelves_marks c_shelves_sizes c_shelves_elements x11.2)) (r := x11.1) [0, 10] (fun H locs ls hP hD hS hF hz => krunV C (q0 := 0) (ci := 4) (c_M_refuse l D cI cL cZ H.size a_this a_now a_kept a_trial a_shelves a_tape a_paths a_sounds a_volumes a_refusals (-5 : Int32) c_isKept c_refusals x11 hx11) (cwV 1 C.2.2.2.2.1 (gV wq_12 wq_13 wq_14 wq_3 wq_11) rfl rfl rfl (by decide +kernel) ⟨(Nat.le_of_ble_eq_true rfl), (Nat.le_of_ble_eq_true rfl)⟩) rfl rfl kEnv_T rfl rfl (Nat.le_of_ble_eq_true rfl) dX4_who_125 hP hD hz) rfl (by decide) rfl rfl ?_
                  refine k_goto C (tgt := 149) dX4_who_128 (by decide) ?_
                  obtain rfl := Option.some.inj h
                  exact kret_i C rfl dX4_who_149
              · have h := ifT c_110 h
                refine k_iload C dX4_who_113 0 rfl ?_
                obtain rfl := Option.some.inj h
                exact kret_i C rfl dX4_who_115
            · have h := ifT c_81 h
              refine k_iload C dX4_who_84 0 rfl ?_
              refine k_if_ne C (tgt := 93) dX4_who_86 (by decide) (fun c_86 => ?_) (fun c_86 => ?_)
              · have h := ifF c_86 h
                refine k_aload_n C dX4_who_93 2 rfl rfl ?_
                refine k_iload_n C dX4_who_94 3 rfl rfl ?_
                refine k_iload_n C dX4_who_95 4 rfl rfl ?_
                obtain ⟨x12, hx12, h⟩ := bindE h
                refine kcallR_i C (wc := (cells_M_sureBehind cI cL cZ a_this a_now a_kept a_trial a_shelves a_tape a_paths a_sounds a_volumes a_refusals a_now_stones a_now_kinds a_now_weights a_now_chances a_shelves_marks a_shelves_sizes a_shelves_elements c_isKept c_now_width c_now_rain c_now_ear c_now_walkers c_now_seed c_now_stones c_now_kinds c_now_weights c_shelves_sizes c_shelves_elements)) (r := x12) [0, 1, 2, 3, 4, 6, 8, 9] (fun H locs ls hP hD hS hF hz => krunV C (q0 := 0) (ci := 4) (c_M_sureBehind l D cI cL cZ X H.size a_this a_now a_kept a_trial a_shelves a_tape a_paths a_sounds a_volumes a_refusals a_now_stones a_now_kinds a_now_weights a_now_chances a_shelves_marks a_shelves_sizes a_shelves_elements v1 v2 c_isKept c_now_width c_now_rain c_now_ear c_now_walkers c_now_seed c_now_stones c_now_kinds c_now_weights c_shelves_sizes c_shelves_elements x12 hx12) (cwV 2 C.2.2.2.2.1 (gV wq_459 wq_460 wq_461 wq_3 wq_458) rfl rfl rfl (by decide +kernel) ⟨(Nat.le_of_ble_eq_true rfl), (Nat.le_of_ble_eq_true rfl)⟩) rfl rfl (kEs_call hE hS hF) rfl rfl (Nat.le_of_ble_eq_true rfl) dX4_who_96 hP hD hz) rfl (by decide) ?_
                obtain rfl := Option.some.inj h
                exact kret_i C rfl dX4_who_99
              · have h := ifT c_86 h
                refine k_iconst C (v := (-1 : Int32)) dX4_who_89 (by decide) ?_
                refine k_goto C (tgt := 99) dX4_who_90 (by decide) ?_
                obtain rfl := Option.some.inj h
                exact kret_i C rfl dX4_who_99
          · have h := ifT c_73 h
            refine k_iload C dX4_who_76 0 rfl ?_
            obtain rfl := Option.some.inj h
            exact kret_i C rfl dX4_who_78
        · have h := ifF c_47 h
          refine k_aload_n C dX4_who_50 1 rfl rfl ?_
          refine k_iload C dX4_who_51 0 rfl ?_
          obtain ⟨x13, hx13, h⟩ := bindE h
          refine kcallU_i C (wc := (cells_M_refuse cI cL cZ a_this a_now a_kept a_trial a_shelves a_tape a_paths a_sounds a_volumes a_refusals c_isKept c_refusals)) (w1 := (cells_M_refuse cI cL cZ a_this a_now a_kept a_trial a_shelves a_tape a_paths a_sounds a_volumes a_refusals c_isKept x13.2)) (ws' := (cells_M_who cI cL cZ a_this a_now a_kept a_trial a_shelves a_tape a_paths a_sounds a_volumes a_refusals a_now_stones a_now_kinds a_now_weights a_now_chances a_shelves_marks a_shelves_sizes a_shelves_elements c_isKept c_now_width c_now_rain c_now_ear c_now_walkers c_now_seed c_now_stones c_now_kinds c_now_weights c_now_chances c_shelves_marks c_shelves_sizes c_shelves_elements x13.2)) (r := x13.1) [0, 10] (fun H locs ls hP hD hS hF hz => krunV C (q0 := 0) (ci := 4) (c_M_refuse l D cI cL cZ H.size a_this a_now a_kept a_trial a_shelves a_tape a_paths a_sounds a_volumes a_refusals x5 c_isKept c_refusals x13 hx13) (cwV 1 C.2.2.2.2.1 (gV wq_12 wq_13 wq_14 wq_3 wq_11) rfl rfl rfl (by decide +kernel) ⟨(Nat.le_of_ble_eq_true rfl), (Nat.le_of_ble_eq_true rfl)⟩) rfl rfl kEnv_T rfl rfl (Nat.le_of_ble_eq_true rfl) dX4_who_53 hP hD hz) rfl (by decide) rfl rfl ?_
          obtain rfl := Option.some.inj h
          exact kret_i C rfl dX4_who_56
      · have h := ifT c_21 h
        refine k_lv (lv' := [(0, .ref a_this)]) [0] rfl ?_
        exact s_M_who_j24 C hE h

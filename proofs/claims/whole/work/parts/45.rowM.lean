variable {p : Program} {l : Launch} {e : Env} {s : State} {m : MethodId} {args : Array Value} {below : List Frame} {meth : Method} {c : Code} {D : va_G} {A : Nat → Prop} {cI cL cZ : ClassId} {Q : State → Prop}
set_option maxRecDepth 100000 in
set_option maxHeartbeats 4000000 in
theorem s_M_meant (C : kC p l e rm_M_meant s m args below meth c D (tyG cI cL cZ) A 6 cX4_meant yX4_meant.cls (Cond.code yX4_meant cX4_meant 6 (some .int) :: WS) (some .int)) {X : kX} (hE : kEs X A s) {a_this : Nat} {a_now : Nat} {a_kept : Nat} {a_trial : Nat} {a_shelves : Nat} {a_tape : Nat} {a_paths : Nat} {a_sounds : Nat} {a_volumes : Nat} {a_refusals : Nat} {a_now_stones : Nat} {a_now_kinds : Nat} {a_now_weights : Nat} {a_now_chances : Nat} {a_shelves_marks : Nat} {a_shelves_sizes : Nat} {a_shelves_elements : Nat} {v1 : Int32} {v2 : Int32} {v3 : Int32} {v4 : Int32} {c_isKept : Int32} {c_now_width : Int32} {c_now_rain : Int32} {c_now_ear : Int32} {c_now_walkers : Int32} {c_now_seed : Int32} {c_now_stones : (Nat → Int32)} {c_now_kinds : (Nat → Int32)} {c_now_weights : (Nat → Int32)} {c_shelves_marks : (Nat → Int32)} {c_shelves_sizes : (Nat → Int32)} {c_shelves_elements : (Nat → Int64)} {c_refusals : (Nat → Int32)} {x : (Int32 × (Nat → Int32))} (h : f_M_meant v1 v2 v3 v4 c_now_width c_now_rain c_now_walkers c_now_stones c_now_kinds c_now_weights c_shelves_marks c_shelves_sizes c_shelves_elements c_refusals = some x) :
    kW p l e rm_M_meant s m args below meth c D A 6 (cells_M_meant cI cL cZ a_this a_now a_kept a_trial a_shelves a_tape a_paths a_sounds a_volumes a_refusals a_now_stones a_now_kinds a_now_weights a_now_chances a_shelves_marks a_shelves_sizes a_shelves_elements c_isKept c_now_width c_now_rain c_now_ear c_now_walkers c_now_seed c_now_stones c_now_kinds c_now_weights c_shelves_marks c_shelves_sizes c_shelves_elements c_refusals) [(0, .ref a_this), (1, .int v1), (2, .int v2), (3, .int v3), (4, .int v4)] (MQ below (kQi D A (cells_M_meant cI cL cZ a_this a_now a_kept a_trial a_shelves a_tape a_paths a_sounds a_volumes a_refusals a_now_stones a_now_kinds a_now_weights a_now_chances a_shelves_marks a_shelves_sizes a_shelves_elements c_isKept c_now_width c_now_rain c_now_ear c_now_walkers c_now_seed c_now_stones c_now_kinds c_now_weights c_shelves_marks c_shelves_sizes c_shelves_elements x.2) x.1) args s 0 0 A) 0 [] := by
  unfold f_M_meant at h
  refine k_iload_n C dX4_meant_0 1 rfl rfl ?_
  obtain ⟨x1, hx1, h⟩ := bindE h
  refine kcallE_i C (r := x1) (fun H locs ls hP hD hS hF hz => krunS C (c_M_isShelf l D cI cL cZ H.size v1 x1 hx1) (va_cwS 1 C.2.2.2.2.1 (gS wq_10 wq_6 wq_3 wq_5) rfl rfl rfl (by decide +kernel) ⟨(Nat.le_of_ble_eq_true rfl), (Nat.le_of_ble_eq_true rfl)⟩) kEnv_T rfl rfl (Nat.le_of_ble_eq_true rfl) dX4_meant_1 hP hD hz) ?_
  refine k_if_eq C (tgt := 33) dX4_meant_4 (by decide) (fun c_4 => ?_) (fun c_4 => ?_)
  · have h := ifT c_4 h
    refine k_lv (lv' := [(0, .ref a_this)]) [0] rfl ?_
    exact s_M_meant_j33 C hE h
  · have h := ifF c_4 h
    refine k_aload_n C dX4_meant_7 0 rfl rfl ?_
    refine k_iload_n C dX4_meant_8 2 rfl rfl ?_
    obtain ⟨x3, hx3, h⟩ := bindE h
    refine kcallR_i C (wc := (cells_M_isFeet cI cL cZ a_this a_now a_kept a_trial a_shelves a_tape a_paths a_sounds a_volumes a_refusals a_now_stones a_now_kinds a_now_weights a_now_chances c_isKept c_now_width c_now_rain c_now_ear c_now_walkers c_now_seed)) (r := x3) [0, 1] (fun H locs ls hP hD hS hF hz => krunV C (q0 := 0) (ci := 4) (c_M_isFeet l D cI cL cZ H.size a_this a_now a_kept a_trial a_shelves a_tape a_paths a_sounds a_volumes a_refusals a_now_stones a_now_kinds a_now_weights a_now_chances v2 c_isKept c_now_width c_now_rain c_now_ear c_now_walkers c_now_seed x3 hx3) (cwV 1 C.2.2.2.2.1 (gV wq_69 wq_70 wq_71 wq_3 wq_68) rfl rfl rfl (by decide +kernel) ⟨(Nat.le_of_ble_eq_true rfl), (Nat.le_of_ble_eq_true rfl)⟩) rfl rfl kEnv_T rfl rfl (Nat.le_of_ble_eq_true rfl) dX4_meant_9 hP hD hz) rfl (by decide) ?_
    refine k_if_eq C (tgt := 33) dX4_meant_12 (by decide) (fun c_12 => ?_) (fun c_12 => ?_)
    · have h := ifT c_12 h
      refine k_lv (lv' := [(0, .ref a_this)]) [0] rfl ?_
      exact s_M_meant_j33 C hE h
    · have h := ifF c_12 h
      refine k_aload_n C dX4_meant_15 0 rfl rfl ?_
      refine k_iload_n C dX4_meant_16 3 rfl rfl ?_
      obtain ⟨x4, hx4, h⟩ := bindE h
      refine kcallR_i C (wc := (cells_M_isColumn cI cL cZ a_this a_now a_kept a_trial a_shelves a_tape a_paths a_sounds a_volumes a_refusals a_now_stones a_now_kinds a_now_weights a_now_chances c_isKept c_now_width c_now_rain c_now_ear c_now_walkers c_now_seed)) (r := x4) [0, 1] (fun H locs ls hP hD hS hF hz => krunV C (q0 := 0) (ci := 4) (c_M_isColumn l D cI cL cZ H.size a_this a_now a_kept a_trial a_shelves a_tape a_paths a_sounds a_volumes a_refusals a_now_stones a_now_kinds a_now_weights a_now_chances v3 c_isKept c_now_width c_now_rain c_now_ear c_now_walkers c_now_seed x4 hx4) (cwV 1 C.2.2.2.2.1 (gV wq_412 wq_413 wq_414 wq_3 wq_411) rfl rfl rfl (by decide +kernel) ⟨(Nat.le_of_ble_eq_true rfl), (Nat.le_of_ble_eq_true rfl)⟩) rfl rfl kEnv_T rfl rfl (Nat.le_of_ble_eq_true rfl) dX4_meant_17 hP hD hz) rfl (by decide) ?_
      refine k_if_eq C (tgt := 33) dX4_meant_20 (by decide) (fun c_20 => ?_) (fun c_20 => ?_)
      · have h := ifT c_20 h
        refine k_lv (lv' := [(0, .ref a_this)]) [0] rfl ?_
        exact s_M_meant_j33 C hE h
      · have h := ifF c_20 h
        refine k_iload C dX4_meant_23 4 rfl ?_
        refine k_iconst C (v := (0 : Int32)) dX4_meant_25 (by decide) ?_
        refine k_iconst C (v := (1 : Int32)) dX4_meant_26 (by decide) ?_
        obtain ⟨x5, hx5, h⟩ := bindE h
        refine kcallE_i C (r := x5) (fun H locs ls hP hD hS hF hz => krunS C (c_M_isWithin l D cI cL cZ H.size v4 (0 : Int32) (1 : Int32) x5 hx5) (va_cwS 3 C.2.2.2.2.1 (gS wq_1 wq_2 wq_3 wq_0) rfl rfl rfl (by decide +kernel) ⟨(Nat.le_of_ble_eq_true rfl), (Nat.le_of_ble_eq_true rfl)⟩) kEnv_T rfl rfl (Nat.le_of_ble_eq_true rfl) dX4_meant_27 hP hD hz) ?_
        refine k_if_ne C (tgt := 40) dX4_meant_30 (by decide) (fun c_30 => ?_) (fun c_30 => ?_)
        · have h := ifF c_30 h
          refine k_aload_n C dX4_meant_40 0 rfl rfl ?_
          refine k_iload_n C dX4_meant_41 1 rfl rfl ?_
          refine k_aload_n C dX4_meant_42 0 rfl rfl ?_
          refine k_get C (C0 := RX4) (T := TX4) (N := 10) (fun w h => List.mem_cons_of_mem _ (us_M w h)) 0 rfl rfl 0 (by decide) (List.mem_cons_of_mem _ wq_62) rfl rfl dX4_meant_43 ?_
          refine k_get C (C0 := RX0) (T := TX0) (N := 9) (fun w h => List.mem_cons_of_mem _ (us_D w h)) 1 rfl rfl 4 (by decide) (List.mem_cons_of_mem _ wq_119) rfl rfl dX4_meant_46 ?_
          obtain ⟨x6, hx6, h⟩ := bindE h
          refine kcallR_i C (wc := (cells_M_whyNoRowOf cI cL cZ a_this a_now a_kept a_trial a_shelves a_tape a_paths a_sounds a_volumes a_refusals a_shelves_marks a_shelves_sizes a_shelves_elements c_isKept c_shelves_marks c_shelves_sizes)) (r := x6) [0, 5, 6, 7] (fun H locs ls hP hD hS hF hz => krunV C (q0 := 0) (ci := 4) (c_M_whyNoRowOf l D cI cL cZ X H.size a_this a_now a_kept a_trial a_shelves a_tape a_paths a_sounds a_volumes a_refusals a_shelves_marks a_shelves_sizes a_shelves_elements v1 c_now_width c_isKept c_shelves_marks c_shelves_sizes x6 hx6) (cwV 2 C.2.2.2.2.1 (gV wq_447 wq_448 wq_449 wq_3 wq_446) rfl rfl rfl (by decide +kernel) ⟨(Nat.le_of_ble_eq_true rfl), (Nat.le_of_ble_eq_true rfl)⟩) rfl rfl (kEs_call hE hS hF) rfl rfl (Nat.le_of_ble_eq_true rfl) dX4_meant_49 hP hD hz) rfl (by decide) ?_
          refine k_istore C (lv' := [(5, .int x6), (0, .ref a_this), (1, .int v1), (2, .int v2), (3, .int v3), (4, .int v4)]) dX4_meant_52 (by decide) rfl ?_
          refine k_iload C dX4_meant_54 0 rfl ?_
          refine k_if_eq C (tgt := 66) dX4_meant_56 (by decide) (fun c_56 => ?_) (fun c_56 => ?_)
          · have h := ifT c_56 h
            refine k_iload C dX4_meant_66 5 rfl ?_
            refine k_if_ne C (tgt := 81) dX4_meant_68 (by decide) (fun c_68 => ?_) (fun c_68 => ?_)
            · have h := ifF c_68 h
              refine k_aload_n C dX4_meant_81 1 rfl rfl ?_
              refine k_iload_n C dX4_meant_82 2 rfl rfl ?_
              refine k_iload_n C dX4_meant_83 3 rfl rfl ?_
              refine k_iload_n C dX4_meant_84 4 rfl rfl ?_
              obtain ⟨x7, hx7, h⟩ := bindE h
              refine kcallR_i C (wc := (cells_M_leastWeightMeant cI cL cZ a_this a_now a_kept a_trial a_shelves a_tape a_paths a_sounds a_volumes a_refusals a_now_stones a_now_kinds a_now_weights a_now_chances a_shelves_marks a_shelves_sizes a_shelves_elements c_isKept c_now_width c_now_rain c_now_ear c_now_walkers c_now_seed c_now_stones c_now_kinds c_shelves_sizes c_shelves_elements)) (r := x7) [0, 1, 2, 3, 5, 7, 8] (fun H locs ls hP hD hS hF hz => krunV C (q0 := 0) (ci := 4) (c_M_leastWeightMeant l D cI cL cZ X H.size a_this a_now a_kept a_trial a_shelves a_tape a_paths a_sounds a_volumes a_refusals a_now_stones a_now_kinds a_now_weights a_now_chances a_shelves_marks a_shelves_sizes a_shelves_elements v1 v2 v3 c_isKept c_now_width c_now_rain c_now_ear c_now_walkers c_now_seed c_now_stones c_now_kinds c_shelves_sizes c_shelves_elements x7 hx7) (cwV 3 C.2.2.2.2.1 (gV wq_483 wq_484 wq_485 wq_3 wq_482) rfl rfl rfl (by decide +kernel) ⟨(Nat.le_of_ble_eq_true rfl), (Nat.le_of_ble_eq_true rfl)⟩) rfl rfl (kEs_call hE hS hF) rfl rfl (Nat.le_of_ble_eq_true rfl) dX4_meant_85 hP hD hz) rfl (by decide) ?_
              obtain rfl := Option.some.inj h
              exact kret_i C rfl dX4_meant_88
            · have h := ifT c_68 h
              refine k_aload_n C dX4_meant_71 1 rfl rfl ?_
              refine k_iload_n C dX4_meant_72 2 rfl rfl ?_
              refine k_iload_n C dX4_meant_73 3 rfl rfl ?_
              refine k_iload_n C dX4_meant_74 4 rfl rfl ?_
              obtain ⟨x8, hx8, h⟩ := bindE h
              refine kcallR_i C (wc := (cells_M_kindsMeant cI cL cZ a_this a_now a_kept a_trial a_shelves a_tape a_paths a_sounds a_volumes a_refusals a_now_stones a_now_kinds a_now_weights a_now_chances a_shelves_marks a_shelves_sizes a_shelves_elements c_isKept c_now_width c_now_rain c_now_ear c_now_walkers c_now_seed c_now_stones c_now_weights c_shelves_sizes c_shelves_elements)) (r := x8) [0, 1, 2, 4, 5, 7, 8] (fun H locs ls hP hD hS hF hz => krunV C (q0 := 0) (ci := 4) (c_M_kindsMeant l D cI cL cZ X H.size a_this a_now a_kept a_trial a_shelves a_tape a_paths a_sounds a_volumes a_refusals a_now_stones a_now_kinds a_now_weights a_now_chances a_shelves_marks a_shelves_sizes a_shelves_elements v1 v2 v3 c_isKept c_now_width c_now_rain c_now_ear c_now_walkers c_now_seed c_now_stones c_now_weights c_shelves_sizes c_shelves_elements x8 hx8) (cwV 3 C.2.2.2.2.1 (gV wq_487 wq_488 wq_489 wq_3 wq_486) rfl rfl rfl (by decide +kernel) ⟨(Nat.le_of_ble_eq_true rfl), (Nat.le_of_ble_eq_true rfl)⟩) rfl rfl (kEs_call hE hS hF) rfl rfl (Nat.le_of_ble_eq_true rfl) dX4_meant_75 hP hD hz) rfl (by decide) ?_
              refine k_goto C (tgt := 88) dX4_meant_78 (by decide) ?_
              obtain rfl := Option.some.inj h
              exact kret_i C rfl dX4_meant_88
          · have h := ifF c_56 h
            refine k_aload_n C dX4_meant_59 1 rfl rfl ?_
            refine k_iload C dX4_meant_60 0 rfl ?_
            obtain ⟨x9, hx9, h⟩ := bindE h
            refine kcallU_i C (wc := (cells_M_refuse cI cL cZ a_this a_now a_kept a_trial a_shelves a_tape a_paths a_sounds a_volumes a_refusals c_isKept c_refusals)) (w1 := (cells_M_refuse cI cL cZ a_this a_now a_kept a_trial a_shelves a_tape a_paths a_sounds a_volumes a_refusals c_isKept x9.2)) (ws' := (cells_M_meant cI cL cZ a_this a_now a_kept a_trial a_shelves a_tape a_paths a_sounds a_volumes a_refusals a_now_stones a_now_kinds a_now_weights a_now_chances a_shelves_marks a_shelves_sizes a_shelves_elements c_isKept c_now_width c_now_rain c_now_ear c_now_walkers c_now_seed c_now_stones c_now_kinds c_now_weights c_shelves_marks c_shelves_sizes c_shelves_elements x9.2)) (r := x9.1) [0, 9] (fun H locs ls hP hD hS hF hz => krunV C (q0 := 0) (ci := 4) (c_M_refuse l D cI cL cZ H.size a_this a_now a_kept a_trial a_shelves a_tape a_paths a_sounds a_volumes a_refusals x6 c_isKept c_refusals x9 hx9) (cwV 1 C.2.2.2.2.1 (gV wq_12 wq_13 wq_14 wq_3 wq_11) rfl rfl rfl (by decide +kernel) ⟨(Nat.le_of_ble_eq_true rfl), (Nat.le_of_ble_eq_true rfl)⟩) rfl rfl kEnv_T rfl rfl (Nat.le_of_ble_eq_true rfl) dX4_meant_62 hP hD hz) rfl (by decide) rfl rfl ?_
            obtain rfl := Option.some.inj h
            exact kret_i C rfl dX4_meant_65
        · have h := ifT c_30 h
          refine k_lv (lv' := [(0, .ref a_this)]) [0] rfl ?_
          exact s_M_meant_j33 C hE h
theorem c_M_meant (l : Launch) (D : va_G) (cI : ClassId) (cL : ClassId) (cZ : ClassId) (X : kX) (sz : Nat) (a_this : Nat) (a_now : Nat) (a_kept : Nat) (a_trial : Nat) (a_shelves : Nat) (a_tape : Nat) (a_paths : Nat) (a_sounds : Nat) (a_volumes : Nat) (a_refusals : Nat) (a_now_stones : Nat) (a_now_kinds : Nat) (a_now_weights : Nat) (a_now_chances : Nat) (a_shelves_marks : Nat) (a_shelves_sizes : Nat) (a_shelves_elements : Nat) (v1 : Int32) (v2 : Int32) (v3 : Int32) (v4 : Int32) (c_isKept : Int32) (c_now_width : Int32) (c_now_rain : Int32) (c_now_ear : Int32) (c_now_walkers : Int32) (c_now_seed : Int32) (c_now_stones : (Nat → Int32)) (c_now_kinds : (Nat → Int32)) (c_now_weights : (Nat → Int32)) (c_shelves_marks : (Nat → Int32)) (c_shelves_sizes : (Nat → Int32)) (c_shelves_elements : (Nat → Int64)) (c_refusals : (Nat → Int32)) (x : (Int32 × (Nat → Int32))) (h : f_M_meant v1 v2 v3 v4 c_now_width c_now_rain c_now_walkers c_now_stones c_now_kinds c_now_weights c_shelves_marks c_shelves_sizes c_shelves_elements c_refusals = some x) :
    Met l yX4_meant (Cond.code yX4_meant cX4_meant 6 (some .int) :: WS) rm_M_meant (kP D (tyG cI cL cZ) (kEs X (va_A (cells_M_meant cI cL cZ a_this a_now a_kept a_trial a_shelves a_tape a_paths a_sounds a_volumes a_refusals a_now_stones a_now_kinds a_now_weights a_now_chances a_shelves_marks a_shelves_sizes a_shelves_elements c_isKept c_now_width c_now_rain c_now_ear c_now_walkers c_now_seed c_now_stones c_now_kinds c_now_weights c_shelves_marks c_shelves_sizes c_shelves_elements c_refusals) sz)) [.ref a_this, .int v1, .int v2, .int v3, .int v4] sz (cells_M_meant cI cL cZ a_this a_now a_kept a_trial a_shelves a_tape a_paths a_sounds a_volumes a_refusals a_now_stones a_now_kinds a_now_weights a_now_chances a_shelves_marks a_shelves_sizes a_shelves_elements c_isKept c_now_width c_now_rain c_now_ear c_now_walkers c_now_seed c_now_stones c_now_kinds c_now_weights c_shelves_marks c_shelves_sizes c_shelves_elements c_refusals)) (kQi D (va_A (cells_M_meant cI cL cZ a_this a_now a_kept a_trial a_shelves a_tape a_paths a_sounds a_volumes a_refusals a_now_stones a_now_kinds a_now_weights a_now_chances a_shelves_marks a_shelves_sizes a_shelves_elements c_isKept c_now_width c_now_rain c_now_ear c_now_walkers c_now_seed c_now_stones c_now_kinds c_now_weights c_shelves_marks c_shelves_sizes c_shelves_elements c_refusals) sz) (cells_M_meant cI cL cZ a_this a_now a_kept a_trial a_shelves a_tape a_paths a_sounds a_volumes a_refusals a_now_stones a_now_kinds a_now_weights a_now_chances a_shelves_marks a_shelves_sizes a_shelves_elements c_isKept c_now_width c_now_rain c_now_ear c_now_walkers c_now_seed c_now_stones c_now_kinds c_now_weights c_shelves_marks c_shelves_sizes c_shelves_elements x.2) x.1) 0 0 (va_A (cells_M_meant cI cL cZ a_this a_now a_kept a_trial a_shelves a_tape a_paths a_sounds a_volumes a_refusals a_now_stones a_now_kinds a_now_weights a_now_chances a_shelves_marks a_shelves_sizes a_shelves_elements c_isKept c_now_width c_now_rain c_now_ear c_now_walkers c_now_seed c_now_stones c_now_kinds c_now_weights c_shelves_marks c_shelves_sizes c_shelves_elements c_refusals) sz) :=
  kmet (by decide) (Nat.le_of_ble_eq_true rfl) rfl (fun p e s m below meth c C hE => s_M_meant C hE h)
abbrev cells_JM_abs1 (cI : ClassId) (cL : ClassId) (cZ : ClassId) : va_W := []
abbrev rm_JM_abs1 : Room := { frames := 0, cells := 0, slots := 0, locals := 0 }
set_option maxRecDepth 100000 in
set_option maxHeartbeats 4000000 in
theorem s_JM_abs1 (C : kC p l e rm_JM_abs1 s m args below meth c D (tyG cI cL cZ) A 2 cJ9_abs_067f4 yJ9_abs_067f4.cls (Cond.code yJ9_abs_067f4 cJ9_abs_067f4 2 (some .long) :: WS) (some .long)) {v0 : Int64} {x : Int64} (h : f_JM_abs1 v0 = some x) :
    kW p l e rm_JM_abs1 s m args below meth c D A 2 (cells_JM_abs1 cI cL cZ) [(0, .long v0)] (MQ below (kQl D A (cells_JM_abs1 cI cL cZ) x) args s 0 0 A) 0 [] := by
  unfold f_JM_abs1 at h
  refine k_lload_n C dJ9_abs_067f4_0 0 rfl rfl ?_
  refine k_lconst C (v := (0 : Int64)) dJ9_abs_067f4_1 (by decide) ?_
  refine k_lcmp C dJ9_abs_067f4_2 ?_
  refine k_if_ge C (tgt := 11) dJ9_abs_067f4_3 (by decide) (fun c_3 => ?_) (fun c_3 => ?_)
  · have h := ifT c_3 h
    refine k_lload_n C dJ9_abs_067f4_11 0 rfl rfl ?_
    obtain rfl := Option.some.inj h
    exact kret_l C rfl dJ9_abs_067f4_12
  · have h := ifF c_3 h
    refine k_lload_n C dJ9_abs_067f4_6 0 rfl rfl ?_
    refine k_lneg C dJ9_abs_067f4_7 ?_
    refine k_goto C (tgt := 12) dJ9_abs_067f4_8 (by decide) ?_
    obtain rfl := Option.some.inj h
    exact kret_l C rfl dJ9_abs_067f4_12
theorem c_JM_abs1 (l : Launch) (D : va_G) (cI : ClassId) (cL : ClassId) (cZ : ClassId) (sz : Nat) (v0 : Int64) (x : Int64) (h : f_JM_abs1 v0 = some x) :
    Met l yJ9_abs_067f4 (Cond.code yJ9_abs_067f4 cJ9_abs_067f4 2 (some .long) :: WS) rm_JM_abs1 (kP D (tyG cI cL cZ) kTrue [.long v0] sz (cells_JM_abs1 cI cL cZ)) (kQl D (va_A (cells_JM_abs1 cI cL cZ) sz) (cells_JM_abs1 cI cL cZ) x) 0 0 (va_A (cells_JM_abs1 cI cL cZ) sz) :=
  kmet (by decide) (Nat.le_of_ble_eq_true rfl) rfl (fun p e s m below meth c C hE => s_JM_abs1 C h)
abbrev cells_M_wrongIn (cI : ClassId) (cL : ClassId) (cZ : ClassId) (a_this : Nat) (a_now : Nat) (a_kept : Nat) (a_trial : Nat) (a_shelves : Nat) (a_tape : Nat) (a_paths : Nat) (a_sounds : Nat) (a_volumes : Nat) (a_refusals : Nat) (a_now_stones : Nat) (a_now_kinds : Nat) (a_now_weights : Nat) (a_now_chances : Nat) (a_shelves_marks : Nat) (a_shelves_sizes : Nat) (a_shelves_elements : Nat) (c_isKept : Int32) (c_now_width : Int32) (c_now_rain : Int32) (c_now_ear : Int32) (c_now_walkers : Int32) (c_now_seed : Int32) (c_shelves_sizes : (Nat → Int32)) (c_shelves_elements : (Nat → Int64)) : va_W := [(a_this, .inr (4, [.ref a_now, .ref a_kept, .ref a_trial, .ref a_shelves, .ref a_tape, .ref a_paths, .ref a_sounds, .ref a_volumes, .ref a_refusals, .int c_isKept])), (a_now, .inr (0, [.ref a_now_stones, .ref a_now_kinds, .ref a_now_weights, .ref a_now_chances, .int c_now_width, .int c_now_rain, .int c_now_ear, .int c_now_walkers, .int c_now_seed])), (a_shelves, .inr (2, [.ref a_shelves_marks, .ref a_shelves_sizes, .ref a_shelves_elements])), (a_shelves_sizes, .inl (cI, 8, .inl c_shelves_sizes)), (a_shelves_elements, .inl (cL, 320, .inr (.inl c_shelves_elements)))]
abbrev rm_M_wrongIn : Room := { frames := 3, cells := 0, slots := 0, locals := 63 }
set_option maxRecDepth 100000 in
set_option maxHeartbeats 4000000 in
theorem s_M_wrongIn_j100 (C : kC p l e rm_M_wrongIn s m args below meth c D (tyG cI cL cZ) A 10 cX4_wrongIn yX4_wrongIn.cls (Cond.code yX4_wrongIn cX4_wrongIn 10 (some .int) :: WS) (some .int)) {X : kX} (hE : kEs X A s) {a_this : Nat} {a_now : Nat} {a_kept : Nat} {a_trial : Nat} {a_shelves : Nat} {a_tape : Nat} {a_paths : Nat} {a_sounds : Nat} {a_volumes : Nat} {a_refusals : Nat} {a_now_stones : Nat} {a_now_kinds : Nat} {a_now_weights : Nat} {a_now_chances : Nat} {a_shelves_marks : Nat} {a_shelves_sizes : Nat} {a_shelves_elements : Nat} {v1 : Int32} {v2 : Int32} {v3 : Int32} {v6 : Int64} {t0 : Int64} {c_isKept : Int32} {c_now_width : Int32} {c_now_rain : Int32} {c_now_ear : Int32} {c_now_walkers : Int32} {c_now_seed : Int32} {c_shelves_sizes : (Nat → Int32)} {c_shelves_elements : (Nat → Int64)} {x : (Int32 ⊕ (Int32 ⊕ (Int32 ⊕ Unit)))} (h : f_M_wrongIn_j100 v3 v6 t0 = some x)
    (kc : ∀ s', x = .inl s' → kW p l e rm_M_wrongIn s m args below meth c D A 10 (cells_M_wrongIn cI cL cZ a_this a_now a_kept a_trial a_shelves a_tape a_paths a_sounds a_volumes a_refusals a_now_stones a_now_kinds a_now_weights a_now_chances a_shelves_marks a_shelves_sizes a_shelves_elements c_isKept c_now_width c_now_rain c_now_ear c_now_walkers c_now_seed c_shelves_sizes c_shelves_elements) [(0, .ref a_this), (1, .int v1), (2, .int v2), (3, .int s')] Q 2 [])
    (k0 : ∀ r, x = .inr (.inl r) → kW p l e rm_M_wrongIn s m args below meth c D A 10 (cells_M_wrongIn cI cL cZ a_this a_now a_kept a_trial a_shelves a_tape a_paths a_sounds a_volumes a_refusals a_now_stones a_now_kinds a_now_weights a_now_chances a_shelves_marks a_shelves_sizes a_shelves_elements c_isKept c_now_width c_now_rain c_now_ear c_now_walkers c_now_seed c_shelves_sizes c_shelves_elements) [(3, .int r)] Q 66 [])
    (k1 : ∀ r, x = .inr (.inr (.inl r)) → kW p l e rm_M_wrongIn s m args below meth c D A 10 (cells_M_wrongIn cI cL cZ a_this a_now a_kept a_trial a_shelves a_tape a_paths a_sounds a_volumes a_refusals a_now_stones a_now_kinds a_now_weights a_now_chances a_shelves_marks a_shelves_sizes a_shelves_elements c_isKept c_now_width c_now_rain c_now_ear c_now_walkers c_now_seed c_shelves_sizes c_shelves_elements) [(3, .int r)] Q 115 [])
    (k2 : ∀ r, x = .inr (.inr (.inr r)) → kW p l e rm_M_wrongIn s m args below meth c D A 10 (cells_M_wrongIn cI cL cZ a_this a_now a_kept a_trial a_shelves a_tape a_paths a_sounds a_volumes a_refusals a_now_stones a_now_kinds a_now_weights a_now_chances a_shelves_marks a_shelves_sizes a_shelves_elements c_isKept c_now_width c_now_rain c_now_ear c_now_walkers c_now_seed c_shelves_sizes c_shelves_elements) [(0, .ref a_this), (2, .int v2)] Q 123 []) :
    kW p l e rm_M_wrongIn s m args below meth c D A 10 (cells_M_wrongIn cI cL cZ a_this a_now a_kept a_trial a_shelves a_tape a_paths a_sounds a_volumes a_refusals a_now_stones a_now_kinds a_now_weights a_now_chances a_shelves_marks a_shelves_sizes a_shelves_elements c_isKept c_now_width c_now_rain c_now_ear c_now_walkers c_now_seed c_shelves_sizes c_shelves_elements) [(0, .ref a_this), (1, .int v1), (2, .int v2), (3, .int v3), (6, .long v6)] Q 100 [.long t0] := by
  unfold f_M_wrongIn_j100 at h
  refine k_lstore C (lv' := [(8, .long t0), (0, .ref a_this), (1, .int v1), (2, .int v2), (3, .int v3), (6, .long v6)]) dX4_wrongIn_100 (by decide) rfl ?_
  refine k_lload C dX4_wrongIn_102 5 rfl ?_
  refine k_lload C dX4_wrongIn_104 0 rfl ?_
  refine k_lsub C dX4_wrongIn_106 ?_
  obtain ⟨x3, hx3, h⟩ := bindE h
  refine kcallE_l C (r := x3) (fun H locs ls hP hD hS hF hz => krunS C (c_JM_abs1 l D cI cL cZ H.size (v6 - t0) x3 hx3) (va_cwS 1 C.2.2.2.2.1 (gS wq_491 wq_492 wq_493 wq_490) rfl rfl rfl (by decide +kernel) ⟨(Nat.le_of_ble_eq_true rfl), (Nat.le_of_ble_eq_true rfl)⟩) kEnv_T rfl rfl (Nat.le_of_ble_eq_true rfl) dX4_wrongIn_107 hP hD hz) ?_
  refine k_lconst C (v := (1 : Int64)) dX4_wrongIn_110 (by decide) ?_
  refine k_lcmp C dX4_wrongIn_111 ?_
  refine k_if_le C (tgt := 117) dX4_wrongIn_112 (by decide) (fun c_112 => ?_) (fun c_112 => ?_)
  · have h := ifT c_112 h
    refine k_iinc C (v := (v3 + (1 : Int32))) (lv' := [(3, .int (v3 + (1 : Int32))), (8, .long t0), (0, .ref a_this), (1, .int v1), (2, .int v2), (6, .long v6)]) dX4_wrongIn_117 4 rfl rfl (by decide) rfl ?_
    refine k_goto C (tgt := 2) dX4_wrongIn_120 (by decide) ?_
    refine k_lv (lv' := [(0, .ref a_this), (1, .int v1), (2, .int v2), (3, .int (v3 + (1 : Int32)))]) [2, 3, 4, 0] rfl ?_
    exact kc _ (Option.some.inj h).symm
  · have h := ifF c_112 h
    refine k_lv (lv' := [(3, .int v3)]) [4] rfl ?_
    exact k1 _ (Option.some.inj h).symm
set_option maxRecDepth 100000 in
set_option maxHeartbeats 4000000 in
theorem s_M_wrongIn_b2 (C : kC p l e rm_M_wrongIn s m args below meth c D (tyG cI cL cZ) A 10 cX4_wrongIn yX4_wrongIn.cls (Cond.code yX4_wrongIn cX4_wrongIn 10 (some .int) :: WS) (some .int)) {X : kX} (hE : kEs X A s) {a_this : Nat} {a_now : Nat} {a_kept : Nat} {a_trial : Nat} {a_shelves : Nat} {a_tape : Nat} {a_paths : Nat} {a_sounds : Nat} {a_volumes : Nat} {a_refusals : Nat} {a_now_stones : Nat} {a_now_kinds : Nat} {a_now_weights : Nat} {a_now_chances : Nat} {a_shelves_marks : Nat} {a_shelves_sizes : Nat} {a_shelves_elements : Nat} {v1 : Int32} {v2 : Int32} {v3 : Int32} {c_isKept : Int32} {c_now_width : Int32} {c_now_rain : Int32} {c_now_ear : Int32} {c_now_walkers : Int32} {c_now_seed : Int32} {c_shelves_sizes : (Nat → Int32)} {c_shelves_elements : (Nat → Int64)} {x : (Int32 ⊕ (Int32 ⊕ (Int32 ⊕ Unit)))} (h : f_M_wrongIn_b2 v1 v2 c_now_width c_shelves_sizes c_shelves_elements v3 = some x)
    (kc : ∀ s', x = .inl s' → kW p l e rm_M_wrongIn s m args below meth c D A 10 (cells_M_wrongIn cI cL cZ a_this a_now a_kept a_trial a_shelves a_tape a_paths a_sounds a_volumes a_refusals a_now_stones a_now_kinds a_now_weights a_now_chances a_shelves_marks a_shelves_sizes a_shelves_elements c_isKept c_now_width c_now_rain c_now_ear c_now_walkers c_now_seed c_shelves_sizes c_shelves_elements) [(0, .ref a_this), (1, .int v1), (2, .int v2), (3, .int s')] Q 2 [])
    (k0 : ∀ r, x = .inr (.inl r) → kW p l e rm_M_wrongIn s m args below meth c D A 10 (cells_M_wrongIn cI cL cZ a_this a_now a_kept a_trial a_shelves a_tape a_paths a_sounds a_volumes a_refusals a_now_stones a_now_kinds a_now_weights a_now_chances a_shelves_marks a_shelves_sizes a_shelves_elements c_isKept c_now_width c_now_rain c_now_ear c_now_walkers c_now_seed c_shelves_sizes c_shelves_elements) [(3, .int r)] Q 66 [])
    (k1 : ∀ r, x = .inr (.inr (.inl r)) → kW p l e rm_M_wrongIn s m args below meth c D A 10 (cells_M_wrongIn cI cL cZ a_this a_now a_kept a_trial a_shelves a_tape a_paths a_sounds a_volumes a_refusals a_now_stones a_now_kinds a_now_weights a_now_chances a_shelves_marks a_shelves_sizes a_shelves_elements c_isKept c_now_width c_now_rain c_now_ear c_now_walkers c_now_seed c_shelves_sizes c_shelves_elements) [(3, .int r)] Q 115 [])
    (k2 : ∀ r, x = .inr (.inr (.inr r)) → kW p l e rm_M_wrongIn s m args below meth c D A 10 (cells_M_wrongIn cI cL cZ a_this a_now a_kept a_trial a_shelves a_tape a_paths a_sounds a_volumes a_refusals a_now_stones a_now_kinds a_now_weights a_now_chances a_shelves_marks a_shelves_sizes a_shelves_elements c_isKept c_now_width c_now_rain c_now_ear c_now_walkers c_now_seed c_shelves_sizes c_shelves_elements) [(0, .ref a_this), (2, .int v2)] Q 123 []) :
    kW p l e rm_M_wrongIn s m args below meth c D A 10 (cells_M_wrongIn cI cL cZ a_this a_now a_kept a_trial a_shelves a_tape a_paths a_sounds a_volumes a_refusals a_now_stones a_now_kinds a_now_weights a_now_chances a_shelves_marks a_shelves_sizes a_shelves_elements c_isKept c_now_width c_now_rain c_now_ear c_now_walkers c_now_seed c_shelves_sizes c_shelves_elements) [(0, .ref a_this), (1, .int v1), (2, .int v2), (3, .int v3)] Q 2 [] := by
  unfold f_M_wrongIn_b2 at h
  refine k_iload_n C dX4_wrongIn_2 3 rfl rfl ?_
  refine k_iload_n C dX4_wrongIn_3 2 rfl rfl ?_
  refine k_icmp_ge C (tgt := 123) dX4_wrongIn_4 (by decide) (fun c_4 => ?_) (fun c_4 => ?_)
  · have h := ifT c_4 h
    refine k_lv (lv' := [(0, .ref a_this), (2, .int v2)]) [0, 2] rfl ?_
    exact k2 _ (Option.some.inj h).symm
  · have h := ifF c_4 h
    refine k_iload_n C dX4_wrongIn_7 3 rfl rfl ?_
    refine k_i2l C dX4_wrongIn_8 ?_
    refine k_aload_n C dX4_wrongIn_9 0 rfl rfl ?_
    refine k_get C (C0 := RX4) (T := TX4) (N := 10) (fun w h => List.mem_cons_of_mem _ (us_M w h)) 0 rfl rfl 0 (by decide) (List.mem_cons_of_mem _ wq_62) rfl rfl dX4_wrongIn_10 ?_
    refine k_get C (C0 := RX0) (T := TX0) (N := 9) (fun w h => List.mem_cons_of_mem _ (us_D w h)) 1 rfl rfl 4 (by decide) (List.mem_cons_of_mem _ wq_119) rfl rfl dX4_wrongIn_13 ?_
    refine k_i2l C dX4_wrongIn_16 ?_
    refine k_lmul C dX4_wrongIn_17 ?_
    refine k_lstore C (lv' := [(4, .long ((Int32.toInt64 v3) * (Int32.toInt64 c_now_width))), (0, .ref a_this), (1, .int v1), (2, .int v2), (3, .int v3)]) dX4_wrongIn_18 (by decide) rfl ?_
    refine k_aload_n C dX4_wrongIn_20 1 rfl rfl ?_
    refine k_get C (C0 := RX4) (T := TX4) (N := 10) (fun w h => List.mem_cons_of_mem _ (us_M w h)) 0 rfl rfl 3 (by decide) (List.mem_cons_of_mem _ wq_15) rfl rfl dX4_wrongIn_21 ?_
    refine k_iload_n C dX4_wrongIn_24 2 rfl rfl ?_
    refine k_iload_n C dX4_wrongIn_25 4 rfl rfl ?_
    obtain ⟨x1, hx1, h⟩ := bindE h
    refine kcallR_l C (wc := (cells_S_elementOf cI cL cZ a_shelves a_shelves_marks a_shelves_sizes a_shelves_elements c_shelves_sizes c_shelves_elements)) (r := x1) [2, 3, 4] (fun H locs ls hP hD hS hF hz => krunV C (q0 := 0) (ci := 2) (c_S_elementOf l D cI cL cZ X H.size a_shelves a_shelves_marks a_shelves_sizes a_shelves_elements v1 v3 c_shelves_sizes c_shelves_elements x1 hx1) (cwV 2 C.2.2.2.2.1 (gV wq_58 wq_59 wq_60 wq_20 wq_57) rfl rfl rfl (by decide +kernel) ⟨(Nat.le_of_ble_eq_true rfl), (Nat.le_of_ble_eq_true rfl)⟩) rfl rfl (kEs_call hE hS hF) rfl rfl (Nat.le_of_ble_eq_true rfl) dX4_wrongIn_26 hP hD hz) rfl (by decide) ?_
    refine k_lload C dX4_wrongIn_29 0 rfl ?_
    refine k_lsub C dX4_wrongIn_31 ?_
    refine k_lstore C (lv' := [(6, .long (x1 - ((Int32.toInt64 v3) * (Int32.toInt64 c_now_width)))), (4, .long ((Int32.toInt64 v3) * (Int32.toInt64 c_now_width))), (0, .ref a_this), (1, .int v1), (2, .int v2), (3, .int v3)]) dX4_wrongIn_32 (by decide) rfl ?_
    refine k_iload_n C dX4_wrongIn_34 5 rfl rfl ?_
    refine k_aload_n C dX4_wrongIn_35 2 rfl rfl ?_
    refine k_get C (C0 := RX4) (T := TX4) (N := 10) (fun w h => List.mem_cons_of_mem _ (us_M w h)) 0 rfl rfl 0 (by decide) (List.mem_cons_of_mem _ wq_62) rfl rfl dX4_wrongIn_36 ?_
    refine k_get C (C0 := RX0) (T := TX0) (N := 9) (fun w h => List.mem_cons_of_mem _ (us_D w h)) 1 rfl rfl 4 (by decide) (List.mem_cons_of_mem _ wq_119) rfl rfl dX4_wrongIn_39 ?_
    refine k_icmp_ge C (tgt := 66) dX4_wrongIn_42 (by decide) (fun c_42 => ?_) (fun c_42 => ?_)
    · have h := ifT c_42 h
      refine k_lv (lv' := [(3, .int v3)]) [5] rfl ?_
      exact k0 _ (Option.some.inj h).symm
    · have h := ifF c_42 h
      refine k_lload C dX4_wrongIn_45 0 rfl ?_
      refine k_lconst C (v := (0 : Int64)) dX4_wrongIn_47 (by decide) ?_
      refine k_lcmp C dX4_wrongIn_48 ?_
      refine k_if_lt C (tgt := 66) dX4_wrongIn_49 (by decide) (fun c_49 => ?_) (fun c_49 => ?_)
      · have h := ifT c_49 h
        refine k_lv (lv' := [(3, .int v3)]) [5] rfl ?_
        exact k0 _ (Option.some.inj h).symm
      · have h := ifF c_49 h
        refine k_lload C dX4_wrongIn_52 0 rfl ?_
        refine k_aload_n C dX4_wrongIn_54 2 rfl rfl ?_
        refine k_get C (C0 := RX4) (T := TX4) (N := 10) (fun w h => List.mem_cons_of_mem _ (us_M w h)) 0 rfl rfl 0 (by decide) (List.mem_cons_of_mem _ wq_62) rfl rfl dX4_wrongIn_55 ?_
        refine k_get C (C0 := RX0) (T := TX0) (N := 9) (fun w h => List.mem_cons_of_mem _ (us_D w h)) 1 rfl rfl 4 (by decide) (List.mem_cons_of_mem _ wq_119) rfl rfl dX4_wrongIn_58 ?_
        refine k_i2l C dX4_wrongIn_61 ?_
        refine k_lcmp C dX4_wrongIn_62 ?_
        refine k_if_lt C (tgt := 68) dX4_wrongIn_63 (by decide) (fun c_63 => ?_) (fun c_63 => ?_)
        · have h := ifT c_63 h
          refine k_iload_n C dX4_wrongIn_68 5 rfl rfl ?_
          refine k_if_ne C (tgt := 77) dX4_wrongIn_69 (by decide) (fun c_69 => ?_) (fun c_69 => ?_)
          · have h := ifF c_69 h
            refine k_aload_n C dX4_wrongIn_77 2 rfl rfl ?_
            refine k_get C (C0 := RX4) (T := TX4) (N := 10) (fun w h => List.mem_cons_of_mem _ (us_M w h)) 0 rfl rfl 3 (by decide) (List.mem_cons_of_mem _ wq_15) rfl rfl dX4_wrongIn_78 ?_
            refine k_iload_n C dX4_wrongIn_81 3 rfl rfl ?_
            refine k_iload_n C dX4_wrongIn_82 5 rfl rfl ?_
            refine k_iconst C (v := (1 : Int32)) dX4_wrongIn_83 (by decide) ?_
            refine k_isub C dX4_wrongIn_84 ?_
            obtain ⟨x2, hx2, h⟩ := bindE h
            refine kcallR_l C (wc := (cells_S_elementOf cI cL cZ a_shelves a_shelves_marks a_shelves_sizes a_shelves_elements c_shelves_sizes c_shelves_elements)) (r := x2) [2, 3, 4] (fun H locs ls hP hD hS hF hz => krunV C (q0 := 0) (ci := 2) (c_S_elementOf l D cI cL cZ X H.size a_shelves a_shelves_marks a_shelves_sizes a_shelves_elements v1 (v3 - (1 : Int32)) c_shelves_sizes c_shelves_elements x2 hx2) (cwV 2 C.2.2.2.2.1 (gV wq_58 wq_59 wq_60 wq_20 wq_57) rfl rfl rfl (by decide +kernel) ⟨(Nat.le_of_ble_eq_true rfl), (Nat.le_of_ble_eq_true rfl)⟩) rfl rfl (kEs_call hE hS hF) rfl rfl (Nat.le_of_ble_eq_true rfl) dX4_wrongIn_85 hP hD hz) rfl (by decide) ?_
            refine k_lload C dX4_wrongIn_88 1 rfl ?_
            refine k_lsub C dX4_wrongIn_90 ?_
            refine k_aload_n C dX4_wrongIn_91 2 rfl rfl ?_
            refine k_get C (C0 := RX4) (T := TX4) (N := 10) (fun w h => List.mem_cons_of_mem _ (us_M w h)) 0 rfl rfl 0 (by decide) (List.mem_cons_of_mem _ wq_62) rfl rfl dX4_wrongIn_92 ?_
            refine k_get C (C0 := RX0) (T := TX0) (N := 9) (fun w h => List.mem_cons_of_mem _ (us_D w h)) 1 rfl rfl 4 (by decide) (List.mem_cons_of_mem _ wq_119) rfl rfl dX4_wrongIn_95 ?_
            refine k_i2l C dX4_wrongIn_98 ?_
            refine k_ladd C dX4_wrongIn_99 ?_
            refine k_lv (lv' := [(0, .ref a_this), (1, .int v1), (2, .int v2), (3, .int v3), (6, .long (x1 - ((Int32.toInt64 v3) * (Int32.toInt64 c_now_width))))]) [2, 3, 4, 5, 0] rfl ?_
            exact s_M_wrongIn_j100 C hE h kc k0 k1 k2
          · have h := ifT c_69 h
            refine k_lload C dX4_wrongIn_72 0 rfl ?_
            refine k_goto C (tgt := 100) dX4_wrongIn_74 (by decide) ?_
            refine k_lv (lv' := [(0, .ref a_this), (1, .int v1), (2, .int v2), (3, .int v3), (6, .long (x1 - ((Int32.toInt64 v3) * (Int32.toInt64 c_now_width))))]) [2, 3, 4, 5, 0] rfl ?_
            exact s_M_wrongIn_j100 C hE h kc k0 k1 k2
        · have h := ifF c_63 h
          refine k_lv (lv' := [(3, .int v3)]) [5] rfl ?_
          exact k0 _ (Option.some.inj h).symm
set_option maxRecDepth 100000 in
set_option maxHeartbeats 4000000 in
theorem s_M_wrongIn_l2 (C : kC p l e rm_M_wrongIn s m args below meth c D (tyG cI cL cZ) A 10 cX4_wrongIn yX4_wrongIn.cls (Cond.code yX4_wrongIn cX4_wrongIn 10 (some .int) :: WS) (some .int)) {X : kX} (hE : kEs X A s) {a_this : Nat} {a_now : Nat} {a_kept : Nat} {a_trial : Nat} {a_shelves : Nat} {a_tape : Nat} {a_paths : Nat} {a_sounds : Nat} {a_volumes : Nat} {a_refusals : Nat} {a_now_stones : Nat} {a_now_kinds : Nat} {a_now_weights : Nat} {a_now_chances : Nat} {a_shelves_marks : Nat} {a_shelves_sizes : Nat} {a_shelves_elements : Nat} {v1 : Int32} {v2 : Int32} {v3 : Int32} {c_isKept : Int32} {c_now_width : Int32} {c_now_rain : Int32} {c_now_ear : Int32} {c_now_walkers : Int32} {c_now_seed : Int32} {c_shelves_sizes : (Nat → Int32)} {c_shelves_elements : (Nat → Int64)} {x : (Int32 ⊕ (Int32 ⊕ Unit))} (h : f_M_wrongIn_l2 v1 v2 c_now_width c_shelves_sizes c_shelves_elements v3 = some x)
    (k0 : ∀ r, x = (.inl r) → kW p l e rm_M_wrongIn s m args below meth c D A 10 (cells_M_wrongIn cI cL cZ a_this a_now a_kept a_trial a_shelves a_tape a_paths a_sounds a_volumes a_refusals a_now_stones a_now_kinds a_now_weights a_now_chances a_shelves_marks a_shelves_sizes a_shelves_elements c_isKept c_now_width c_now_rain c_now_ear c_now_walkers c_now_seed c_shelves_sizes c_shelves_elements) [(3, .int r)] Q 66 [])
    (k1 : ∀ r, x = (.inr (.inl r)) → kW p l e rm_M_wrongIn s m args below meth c D A 10 (cells_M_wrongIn cI cL cZ a_this a_now a_kept a_trial a_shelves a_tape a_paths a_sounds a_volumes a_refusals a_now_stones a_now_kinds a_now_weights a_now_chances a_shelves_marks a_shelves_sizes a_shelves_elements c_isKept c_now_width c_now_rain c_now_ear c_now_walkers c_now_seed c_shelves_sizes c_shelves_elements) [(3, .int r)] Q 115 [])
    (k2 : ∀ r, x = (.inr (.inr r)) → kW p l e rm_M_wrongIn s m args below meth c D A 10 (cells_M_wrongIn cI cL cZ a_this a_now a_kept a_trial a_shelves a_tape a_paths a_sounds a_volumes a_refusals a_now_stones a_now_kinds a_now_weights a_now_chances a_shelves_marks a_shelves_sizes a_shelves_elements c_isKept c_now_width c_now_rain c_now_ear c_now_walkers c_now_seed c_shelves_sizes c_shelves_elements) [(0, .ref a_this), (2, .int v2)] Q 123 []) :
    kW p l e rm_M_wrongIn s m args below meth c D A 10 (cells_M_wrongIn cI cL cZ a_this a_now a_kept a_trial a_shelves a_tape a_paths a_sounds a_volumes a_refusals a_now_stones a_now_kinds a_now_weights a_now_chances a_shelves_marks a_shelves_sizes a_shelves_elements c_isKept c_now_width c_now_rain c_now_ear c_now_walkers c_now_seed c_shelves_sizes c_shelves_elements) [(0, .ref a_this), (1, .int v1), (2, .int v2), (3, .int v3)] Q 2 [] := by
  unfold f_M_wrongIn_l2 at h
  exact iter_W (T := fun sg => kW p l e rm_M_wrongIn s m args below meth c D A 10 (cells_M_wrongIn cI cL cZ a_this a_now a_kept a_trial a_shelves a_tape a_paths a_sounds a_volumes a_refusals a_now_stones a_now_kinds a_now_weights a_now_chances a_shelves_marks a_shelves_sizes a_shelves_elements c_isKept c_now_width c_now_rain c_now_ear c_now_walkers c_now_seed c_shelves_sizes c_shelves_elements) [(0, .ref a_this), (1, .int v1), (2, .int v2), (3, .int sg)] Q 2 []) (fun sg y hy hc _ hr => s_M_wrongIn_b2 C hE hy (fun s' e => hc s' e) (fun r e => k0 r (hr _ e).symm) (fun r e => k1 r (hr _ e).symm) (fun r e => k2 r (hr _ e).symm)) FUEL _ h
set_option maxRecDepth 100000 in
set_option maxHeartbeats 4000000 in
theorem s_M_wrongIn (C : kC p l e rm_M_wrongIn s m args below meth c D (tyG cI cL cZ) A 10 cX4_wrongIn yX4_wrongIn.cls (Cond.code yX4_wrongIn cX4_wrongIn 10 (some .int) :: WS) (some .int)) {X : kX} (hE : kEs X A s) {a_this : Nat} {a_now : Nat} {a_kept : Nat} {a_trial : Nat} {a_shelves : Nat} {a_tape : Nat} {a_paths : Nat} {a_sounds : Nat} {a_volumes : Nat} {a_refusals : Nat} {a_now_stones : Nat} {a_now_kinds : Nat} {a_now_weights : Nat} {a_now_chances : Nat} {a_shelves_marks : Nat} {a_shelves_sizes : Nat} {a_shelves_elements : Nat} {v1 : Int32} {v2 : Int32} {c_isKept : Int32} {c_now_width : Int32} {c_now_rain : Int32} {c_now_ear : Int32} {c_now_walkers : Int32} {c_now_seed : Int32} {c_shelves_sizes : (Nat → Int32)} {c_shelves_elements : (Nat → Int64)} {x : Int32} (h : f_M_wrongIn v1 v2 c_now_width c_shelves_sizes c_shelves_elements = some x) :
    kW p l e rm_M_wrongIn s m args below meth c D A 10 (cells_M_wrongIn cI cL cZ a_this a_now a_kept a_trial a_shelves a_tape a_paths a_sounds a_volumes a_refusals a_now_stones a_now_kinds a_now_weights a_now_chances a_shelves_marks a_shelves_sizes a_shelves_elements c_isKept c_now_width c_now_rain c_now_ear c_now_walkers c_now_seed c_shelves_sizes c_shelves_elements) [(0, .ref a_this), (1, .int v1), (2, .int v2)] (MQ below (kQi D A (cells_M_wrongIn cI cL cZ a_this a_now a_kept a_trial a_shelves a_tape a_paths a_sounds a_volumes a_refusals a_now_stones a_now_kinds a_now_weights a_now_chances a_shelves_marks a_shelves_sizes a_shelves_elements c_isKept c_now_width c_now_rain c_now_ear c_now_walkers c_now_seed c_shelves_sizes c_shelves_elements) x) args s 0 0 A) 0 [] := by
  unfold f_M_wrongIn at h
  refine k_iconst C (v := (0 : Int32)) dX4_wrongIn_0 (by decide) ?_
  refine k_istore_n C (lv' := [(3, .int (0 : Int32)), (0, .ref a_this), (1, .int v1), (2, .int v2)]) dX4_wrongIn_1 rfl (by decide) rfl ?_
  obtain ⟨x4, hx4, h⟩ := bindE h
  refine k_lv (lv' := [(0, .ref a_this), (1, .int v1), (2, .int v2), (3, .int (0 : Int32))]) [1, 2, 3, 0] rfl ?_
  refine s_M_wrongIn_l2 C hE hx4 ?_ ?_ ?_
  · intro x5 ex5
    subst ex5
    have h := sumL h
    refine k_iload_n C dX4_wrongIn_66 0 rfl rfl ?_
    obtain rfl := Option.some.inj h
    exact kret_i C rfl dX4_wrongIn_67
  · intro x7 ex7
    subst ex7
    have h := sumR h
    have h := sumL h
    refine k_iload_n C dX4_wrongIn_115 0 rfl rfl ?_
    obtain rfl := Option.some.inj h
    exact kret_i C rfl dX4_wrongIn_116
  · intro x8 ex8
    subst ex8
    have h := sumR h
    have h := sumR h
    refine k_iload_n C dX4_wrongIn_123 1 rfl rfl ?_
    refine k_aload_n C dX4_wrongIn_124 0 rfl rfl ?_
    refine k_get C (C0 := RX4) (T := TX4) (N := 10) (fun w h => List.mem_cons_of_mem _ (us_M w h)) 0 rfl rfl 0 (by decide) (List.mem_cons_of_mem _ wq_62) rfl rfl dX4_wrongIn_125 ?_
    refine k_get C (C0 := RX0) (T := TX0) (N := 9) (fun w h => List.mem_cons_of_mem _ (us_D w h)) 1 rfl rfl 4 (by decide) (List.mem_cons_of_mem _ wq_119) rfl rfl dX4_wrongIn_128 ?_
    refine k_icmp_ge C (tgt := 138) dX4_wrongIn_131 (by decide) (fun c_131 => ?_) (fun c_131 => ?_)
    · have h := ifT c_131 h
      refine k_iconst C (v := (-1 : Int32)) dX4_wrongIn_138 (by decide) ?_
      obtain rfl := Option.some.inj h
      exact kret_i C rfl dX4_wrongIn_139
    · have h := ifF c_131 h
      refine k_iload_n C dX4_wrongIn_134 1 rfl rfl ?_
      refine k_goto C (tgt := 139) dX4_wrongIn_135 (by decide) ?_
      obtain rfl := Option.some.inj h
      exact kret_i C rfl dX4_wrongIn_139
theorem c_M_wrongIn (l : Launch) (D : va_G) (cI : ClassId) (cL : ClassId) (cZ : ClassId) (X : kX) (sz : Nat) (a_this : Nat) (a_now : Nat) (a_kept : Nat) (a_trial : Nat) (a_shelves : Nat) (a_tape : Nat) (a_paths : Nat) (a_sounds : Nat) (a_volumes : Nat) (a_refusals : Nat) (a_now_stones : Nat) (a_now_kinds : Nat) (a_now_weights : Nat) (a_now_chances : Nat) (a_shelves_marks : Nat) (a_shelves_sizes : Nat) (a_shelves_elements : Nat) (v1 : Int32) (v2 : Int32) (c_isKept : Int32) (c_now_width : Int32) (c_now_rain : Int32) (c_now_ear : Int32) (c_now_walkers : Int32) (c_now_seed : Int32) (c_shelves_sizes : (Nat → Int32)) (c_shelves_elements : (Nat → Int64)) (x : Int32) (h : f_M_wrongIn v1 v2 c_now_width c_shelves_sizes c_shelves_elements = some x) :
    Met l yX4_wrongIn (Cond.code yX4_wrongIn cX4_wrongIn 10 (some .int) :: WS) rm_M_wrongIn (kP D (tyG cI cL cZ) (kEs X (va_A (cells_M_wrongIn cI cL cZ a_this a_now a_kept a_trial a_shelves a_tape a_paths a_sounds a_volumes a_refusals a_now_stones a_now_kinds a_now_weights a_now_chances a_shelves_marks a_shelves_sizes a_shelves_elements c_isKept c_now_width c_now_rain c_now_ear c_now_walkers c_now_seed c_shelves_sizes c_shelves_elements) sz)) [.ref a_this, .int v1, .int v2] sz (cells_M_wrongIn cI cL cZ a_this a_now a_kept a_trial a_shelves a_tape a_paths a_sounds a_volumes a_refusals a_now_stones a_now_kinds a_now_weights a_now_chances a_shelves_marks a_shelves_sizes a_shelves_elements c_isKept c_now_width c_now_rain c_now_ear c_now_walkers c_now_seed c_shelves_sizes c_shelves_elements)) (kQi D (va_A (cells_M_wrongIn cI cL cZ a_this a_now a_kept a_trial a_shelves a_tape a_paths a_sounds a_volumes a_refusals a_now_stones a_now_kinds a_now_weights a_now_chances a_shelves_marks a_shelves_sizes a_shelves_elements c_isKept c_now_width c_now_rain c_now_ear c_now_walkers c_now_seed c_shelves_sizes c_shelves_elements) sz) (cells_M_wrongIn cI cL cZ a_this a_now a_kept a_trial a_shelves a_tape a_paths a_sounds a_volumes a_refusals a_now_stones a_now_kinds a_now_weights a_now_chances a_shelves_marks a_shelves_sizes a_shelves_elements c_isKept c_now_width c_now_rain c_now_ear c_now_walkers c_now_seed c_shelves_sizes c_shelves_elements) x) 0 0 (va_A (cells_M_wrongIn cI cL cZ a_this a_now a_kept a_trial a_shelves a_tape a_paths a_sounds a_volumes a_refusals a_now_stones a_now_kinds a_now_weights a_now_chances a_shelves_marks a_shelves_sizes a_shelves_elements c_isKept c_now_width c_now_rain c_now_ear c_now_walkers c_now_seed c_shelves_sizes c_shelves_elements) sz) :=
  kmet (by decide) (Nat.le_of_ble_eq_true rfl) rfl (fun p e s m below meth c C hE => s_M_wrongIn C hE h)
abbrev cells_M_judge (cI : ClassId) (cL : ClassId) (cZ : ClassId) (a_this : Nat) (a_now : Nat) (a_kept : Nat) (a_trial : Nat) (a_shelves : Nat) (a_tape : Nat) (a_paths : Nat) (a_sounds : Nat) (a_volumes : Nat) (a_refusals : Nat) (a_now_stones : Nat) (a_now_kinds : Nat) (a_now_weights : Nat) (a_now_chances : Nat) (a_shelves_marks : Nat) (a_shelves_sizes : Nat) (a_shelves_elements : Nat) (c_isKept : Int32) (c_now_width : Int32) (c_now_rain : Int32) (c_now_ear : Int32) (c_now_walkers : Int32) (c_now_seed : Int32) (c_shelves_marks : (Nat → Int32)) (c_shelves_sizes : (Nat → Int32)) (c_shelves_elements : (Nat → Int64)) (c_refusals : (Nat → Int32)) : va_W := [(a_this, .inr (4, [.ref a_now, .ref a_kept, .ref a_trial, .ref a_shelves, .ref a_tape, .ref a_paths, .ref a_sounds, .ref a_volumes, .ref a_refusals, .int c_isKept])), (a_now, .inr (0, [.ref a_now_stones, .ref a_now_kinds, .ref a_now_weights, .ref a_now_chances, .int c_now_width, .int c_now_rain, .int c_now_ear, .int c_now_walkers, .int c_now_seed])), (a_shelves, .inr (2, [.ref a_shelves_marks, .ref a_shelves_sizes, .ref a_shelves_elements])), (a_shelves_marks, .inl (cI, 8, .inl c_shelves_marks)), (a_shelves_sizes, .inl (cI, 8, .inl c_shelves_sizes)), (a_shelves_elements, .inl (cL, 320, .inr (.inl c_shelves_elements))), (a_refusals, .inl (cI, 5, .inl c_refusals))]
abbrev rm_M_judge : Room := { frames := 4, cells := 0, slots := 0, locals := 92 }
set_option maxRecDepth 100000 in
set_option maxHeartbeats 4000000 in
theorem s_M_judge_j17 (C : kC p l e rm_M_judge s m args below meth c D (tyG cI cL cZ) A 4 cX4_judge yX4_judge.cls (Cond.code yX4_judge cX4_judge 4 (some .int) :: WS) (some .int)) {X : kX} (hE : kEs X A s) {a_this : Nat} {a_now : Nat} {a_kept : Nat} {a_trial : Nat} {a_shelves : Nat} {a_tape : Nat} {a_paths : Nat} {a_sounds : Nat} {a_volumes : Nat} {a_refusals : Nat} {a_now_stones : Nat} {a_now_kinds : Nat} {a_now_weights : Nat} {a_now_chances : Nat} {a_shelves_marks : Nat} {a_shelves_sizes : Nat} {a_shelves_elements : Nat} {c_isKept : Int32} {c_now_width : Int32} {c_now_rain : Int32} {c_now_ear : Int32} {c_now_walkers : Int32} {c_now_seed : Int32} {c_shelves_marks : (Nat → Int32)} {c_shelves_sizes : (Nat → Int32)} {c_shelves_elements : (Nat → Int64)} {c_refusals : (Nat → Int32)} {x : (Int32 × (Nat → Int32))} (h : f_M_judge_j17 c_refusals = some x) :
    kW p l e rm_M_judge s m args below meth c D A 4 (cells_M_judge cI cL cZ a_this a_now a_kept a_trial a_shelves a_tape a_paths a_sounds a_volumes a_refusals a_now_stones a_now_kinds a_now_weights a_now_chances a_shelves_marks a_shelves_sizes a_shelves_elements c_isKept c_now_width c_now_rain c_now_ear c_now_walkers c_now_seed c_shelves_marks c_shelves_sizes c_shelves_elements c_refusals) [(0, .ref a_this)] (MQ below (kQi D A (cells_M_judge cI cL cZ a_this a_now a_kept a_trial a_shelves a_tape a_paths a_sounds a_volumes a_refusals a_now_stones a_now_kinds a_now_weights a_now_chances a_shelves_marks a_shelves_sizes a_shelves_elements c_isKept c_now_width c_now_rain c_now_ear c_now_walkers c_now_seed c_shelves_marks c_shelves_sizes c_shelves_elements x.2) x.1) args s 0 0 A) 17 [] := by
  unfold f_M_judge_j17 at h
  refine k_aload_n C dX4_judge_17 0 rfl rfl ?_
  refine k_bipush C (v := (-2 : Int32)) dX4_judge_18 (by decide) ?_
  obtain ⟨x2, hx2, h⟩ := bindE h
  refine kcallU_i C (wc := (cells_M_refuse cI cL cZ a_this a_now a_kept a_trial a_shelves a_tape a_paths a_sounds a_volumes a_refusals c_isKept c_refusals)) (w1 := (cells_M_refuse cI cL cZ a_this a_now a_kept a_trial a_shelves a_tape a_paths a_sounds a_volumes a_refusals c_isKept x2.2)) (ws' := (cells_M_judge cI cL cZ a_this a_now a_kept a_trial a_shelves a_tape a_paths a_sounds a_volumes a_refusals a_now_stones a_now_kinds a_now_weights a_now_chances a_shelves_marks a_shelves_sizes a_shelves_elements c_isKept c_now_width c_now_rain c_now_ear c_now_walkers c_now_seed c_shelves_marks c_shelves_sizes c_shelves_elements x2.2)) (r := x2.1) [0, 6] (fun H locs ls hP hD hS hF hz => krunV C (q0 := 0) (ci := 4) (c_M_refuse l D cI cL cZ H.size a_this a_now a_kept a_trial a_shelves a_tape a_paths a_sounds a_volumes a_refusals (-2 : Int32) c_isKept c_refusals x2 hx2) (cwV 1 C.2.2.2.2.1 (gV wq_12 wq_13 wq_14 wq_3 wq_11) rfl rfl rfl (by decide +kernel) ⟨(Nat.le_of_ble_eq_true rfl), (Nat.le_of_ble_eq_true rfl)⟩) rfl rfl kEnv_T rfl rfl (Nat.le_of_ble_eq_true rfl) dX4_judge_20 hP hD hz) rfl (by decide) rfl rfl ?_
  obtain rfl := Option.some.inj h
  exact kret_i C rfl dX4_judge_23
set_option maxRecDepth 100000 in
set_option maxHeartbeats 4000000 in
theorem s_M_judge (C : kC p l e rm_M_judge s m args below meth c D (tyG cI cL cZ) A 4 cX4_judge yX4_judge.cls (Cond.code yX4_judge cX4_judge 4 (some .int) :: WS) (some .int)) {X : kX} (hE : kEs X A s) {a_this : Nat} {a_now : Nat} {a_kept : Nat} {a_trial : Nat} {a_shelves : Nat} {a_tape : Nat} {a_paths : Nat} {a_sounds : Nat} {a_volumes : Nat} {a_refusals : Nat} {a_now_stones : Nat} {a_now_kinds : Nat} {a_now_weights : Nat} {a_now_chances : Nat} {a_shelves_marks : Nat} {a_shelves_sizes : Nat} {a_shelves_elements : Nat} {v1 : Int32} {v2 : Int32} {c_isKept : Int32} {c_now_width : Int32} {c_now_rain : Int32} {c_now_ear : Int32} {c_now_walkers : Int32} {c_now_seed : Int32} {c_shelves_marks : (Nat → Int32)} {c_shelves_sizes : (Nat → Int32)} {c_shelves_elements : (Nat → Int64)} {c_refusals : (Nat → Int32)} {x : (Int32 × (Nat → Int32))} (h : f_M_judge v1 v2 c_now_width c_shelves_marks c_shelves_sizes c_shelves_elements c_refusals = some x) :
    kW p l e rm_M_judge s m args below meth c D A 4 (cells_M_judge cI cL cZ a_this a_now a_kept a_trial a_shelves a_tape a_paths a_sounds a_volumes a_refusals a_now_stones a_now_kinds a_now_weights a_now_chances a_shelves_marks a_shelves_sizes a_shelves_elements c_isKept c_now_width c_now_rain c_now_ear c_now_walkers c_now_seed c_shelves_marks c_shelves_sizes c_shelves_elements c_refusals) [(0, .ref a_this), (1, .int v1), (2, .int v2)] (MQ below (kQi D A (cells_M_judge cI cL cZ a_this a_now a_kept a_trial a_shelves a_tape a_paths a_sounds a_volumes a_refusals a_now_stones a_now_kinds a_now_weights a_now_chances a_shelves_marks a_shelves_sizes a_shelves_elements c_isKept c_now_width c_now_rain c_now_ear c_now_walkers c_now_seed c_shelves_marks c_shelves_sizes c_shelves_elements x.2) x.1) args s 0 0 A) 0 [] := by
  unfold f_M_judge at h
  refine k_iload_n C dX4_judge_0 1 rfl rfl ?_
  obtain ⟨x1, hx1, h⟩ := bindE h
  refine kcallE_i C (r := x1) (fun H locs ls hP hD hS hF hz => krunS C (c_M_isShelf l D cI cL cZ H.size v1 x1 hx1) (va_cwS 1 C.2.2.2.2.1 (gS wq_10 wq_6 wq_3 wq_5) rfl rfl rfl (by decide +kernel) ⟨(Nat.le_of_ble_eq_true rfl), (Nat.le_of_ble_eq_true rfl)⟩) kEnv_T rfl rfl (Nat.le_of_ble_eq_true rfl) dX4_judge_1 hP hD hz) ?_
  refine k_if_eq C (tgt := 17) dX4_judge_4 (by decide) (fun c_4 => ?_) (fun c_4 => ?_)
  · have h := ifT c_4 h
    refine k_lv (lv' := [(0, .ref a_this)]) [0] rfl ?_
    exact s_M_judge_j17 C hE h
  · have h := ifF c_4 h
    refine k_iload_n C dX4_judge_7 2 rfl rfl ?_
    refine k_iconst C (v := (0 : Int32)) dX4_judge_8 (by decide) ?_
    refine k_bipush C (v := (40 : Int32)) dX4_judge_9 (by decide) ?_
    obtain ⟨x3, hx3, h⟩ := bindE h
    refine kcallE_i C (r := x3) (fun H locs ls hP hD hS hF hz => krunS C (c_M_isWithin l D cI cL cZ H.size v2 (0 : Int32) (40 : Int32) x3 hx3) (va_cwS 3 C.2.2.2.2.1 (gS wq_1 wq_2 wq_3 wq_0) rfl rfl rfl (by decide +kernel) ⟨(Nat.le_of_ble_eq_true rfl), (Nat.le_of_ble_eq_true rfl)⟩) kEnv_T rfl rfl (Nat.le_of_ble_eq_true rfl) dX4_judge_11 hP hD hz) ?_
    refine k_if_ne C (tgt := 24) dX4_judge_14 (by decide) (fun c_14 => ?_) (fun c_14 => ?_)
    · have h := ifF c_14 h
      refine k_aload_n C dX4_judge_24 0 rfl rfl ?_
      refine k_iload_n C dX4_judge_25 1 rfl rfl ?_
      refine k_iload_n C dX4_judge_26 2 rfl rfl ?_
      obtain ⟨x4, hx4, h⟩ := bindE h
      refine kcallR_i C (wc := (cells_M_whyNoRowOf cI cL cZ a_this a_now a_kept a_trial a_shelves a_tape a_paths a_sounds a_volumes a_refusals a_shelves_marks a_shelves_sizes a_shelves_elements c_isKept c_shelves_marks c_shelves_sizes)) (r := x4) [0, 2, 3, 4] (fun H locs ls hP hD hS hF hz => krunV C (q0 := 0) (ci := 4) (c_M_whyNoRowOf l D cI cL cZ X H.size a_this a_now a_kept a_trial a_shelves a_tape a_paths a_sounds a_volumes a_refusals a_shelves_marks a_shelves_sizes a_shelves_elements v1 v2 c_isKept c_shelves_marks c_shelves_sizes x4 hx4) (cwV 2 C.2.2.2.2.1 (gV wq_447 wq_448 wq_449 wq_3 wq_446) rfl rfl rfl (by decide +kernel) ⟨(Nat.le_of_ble_eq_true rfl), (Nat.le_of_ble_eq_true rfl)⟩) rfl rfl (kEs_call hE hS hF) rfl rfl (Nat.le_of_ble_eq_true rfl) dX4_judge_27 hP hD hz) rfl (by decide) ?_
      refine k_istore_n C (lv' := [(3, .int x4), (0, .ref a_this), (1, .int v1), (2, .int v2)]) dX4_judge_30 rfl (by decide) rfl ?_
      refine k_iload_n C dX4_judge_31 0 rfl rfl ?_
      refine k_if_eq C (tgt := 43) dX4_judge_32 (by decide) (fun c_32 => ?_) (fun c_32 => ?_)
      · have h := ifT c_32 h
        refine k_aload_n C dX4_judge_43 1 rfl rfl ?_
        refine k_iload_n C dX4_judge_44 2 rfl rfl ?_
        refine k_iload_n C dX4_judge_45 3 rfl rfl ?_
        obtain ⟨x5, hx5, h⟩ := bindE h
        refine kcallR_i C (wc := (cells_M_wrongIn cI cL cZ a_this a_now a_kept a_trial a_shelves a_tape a_paths a_sounds a_volumes a_refusals a_now_stones a_now_kinds a_now_weights a_now_chances a_shelves_marks a_shelves_sizes a_shelves_elements c_isKept c_now_width c_now_rain c_now_ear c_now_walkers c_now_seed c_shelves_sizes c_shelves_elements)) (r := x5) [0, 1, 2, 4, 5] (fun H locs ls hP hD hS hF hz => krunV C (q0 := 0) (ci := 4) (c_M_wrongIn l D cI cL cZ X H.size a_this a_now a_kept a_trial a_shelves a_tape a_paths a_sounds a_volumes a_refusals a_now_stones a_now_kinds a_now_weights a_now_chances a_shelves_marks a_shelves_sizes a_shelves_elements v1 v2 c_isKept c_now_width c_now_rain c_now_ear c_now_walkers c_now_seed c_shelves_sizes c_shelves_elements x5 hx5) (cwV 2 C.2.2.2.2.1 (gV wq_495 wq_496 wq_497 wq_3 wq_494) rfl rfl rfl (by decide +kernel) ⟨(Nat.le_of_ble_eq_true rfl), (Nat.le_of_ble_eq_true rfl)⟩) rfl rfl (kEs_call hE hS hF) rfl rfl (Nat.le_of_ble_eq_true rfl) dX4_judge_46 hP hD hz) rfl (by decide) ?_
        obtain rfl := Option.some.inj h
        exact kret_i C rfl dX4_judge_49
      · have h := ifF c_32 h
        refine k_aload_n C dX4_judge_35 1 rfl rfl ?_
        refine k_iload_n C dX4_judge_36 0 rfl rfl ?_
        obtain ⟨x6, hx6, h⟩ := bindE h
        refine kcallU_i C (wc := (cells_M_refuse cI cL cZ a_this a_now a_kept a_trial a_shelves a_tape a_paths a_sounds a_volumes a_refusals c_isKept c_refusals)) (w1 := (cells_M_refuse cI cL cZ a_this a_now a_kept a_trial a_shelves a_tape a_paths a_sounds a_volumes a_refusals c_isKept x6.2)) (ws' := (cells_M_judge cI cL cZ a_this a_now a_kept a_trial a_shelves a_tape a_paths a_sounds a_volumes a_refusals a_now_stones a_now_kinds a_now_weights a_now_chances a_shelves_marks a_shelves_sizes a_shelves_elements c_isKept c_now_width c_now_rain c_now_ear c_now_walkers c_now_seed c_shelves_marks c_shelves_sizes c_shelves_elements x6.2)) (r := x6.1) [0, 6] (fun H locs ls hP hD hS hF hz => krunV C (q0 := 0) (ci := 4) (c_M_refuse l D cI cL cZ H.size a_this a_now a_kept a_trial a_shelves a_tape a_paths a_sounds a_volumes a_refusals x4 c_isKept c_refusals x6 hx6) (cwV 1 C.2.2.2.2.1 (gV wq_12 wq_13 wq_14 wq_3 wq_11) rfl rfl rfl (by decide +kernel) ⟨(Nat.le_of_ble_eq_true rfl), (Nat.le_of_ble_eq_true rfl)⟩) rfl rfl kEnv_T rfl rfl (Nat.le_of_ble_eq_true rfl) dX4_judge_37 hP hD hz) rfl (by decide) rfl rfl ?_
        refine k_goto C (tgt := 49) dX4_judge_40 (by decide) ?_
        obtain rfl := Option.some.inj h
        exact kret_i C rfl dX4_judge_49
    · have h := ifT c_14 h
      refine k_lv (lv' := [(0, .ref a_this)]) [0] rfl ?_
      exact s_M_judge_j17 C hE h
theorem c_M_judge (l : Launch) (D : va_G) (cI : ClassId) (cL : ClassId) (cZ : ClassId) (X : kX) (sz : Nat) (a_this : Nat) (a_now : Nat) (a_kept : Nat) (a_trial : Nat) (a_shelves : Nat) (a_tape : Nat) (a_paths : Nat) (a_sounds : Nat) (a_volumes : Nat) (a_refusals : Nat) (a_now_stones : Nat) (a_now_kinds : Nat) (a_now_weights : Nat) (a_now_chances : Nat) (a_shelves_marks : Nat) (a_shelves_sizes : Nat) (a_shelves_elements : Nat) (v1 : Int32) (v2 : Int32) (c_isKept : Int32) (c_now_width : Int32) (c_now_rain : Int32) (c_now_ear : Int32) (c_now_walkers : Int32) (c_now_seed : Int32) (c_shelves_marks : (Nat → Int32)) (c_shelves_sizes : (Nat → Int32)) (c_shelves_elements : (Nat → Int64)) (c_refusals : (Nat → Int32)) (x : (Int32 × (Nat → Int32))) (h : f_M_judge v1 v2 c_now_width c_shelves_marks c_shelves_sizes c_shelves_elements c_refusals = some x) :
    Met l yX4_judge (Cond.code yX4_judge cX4_judge 4 (some .int) :: WS) rm_M_judge (kP D (tyG cI cL cZ) (kEs X (va_A (cells_M_judge cI cL cZ a_this a_now a_kept a_trial a_shelves a_tape a_paths a_sounds a_volumes a_refusals a_now_stones a_now_kinds a_now_weights a_now_chances a_shelves_marks a_shelves_sizes a_shelves_elements c_isKept c_now_width c_now_rain c_now_ear c_now_walkers c_now_seed c_shelves_marks c_shelves_sizes c_shelves_elements c_refusals) sz)) [.ref a_this, .int v1, .int v2] sz (cells_M_judge cI cL cZ a_this a_now a_kept a_trial a_shelves a_tape a_paths a_sounds a_volumes a_refusals a_now_stones a_now_kinds a_now_weights a_now_chances a_shelves_marks a_shelves_sizes a_shelves_elements c_isKept c_now_width c_now_rain c_now_ear c_now_walkers c_now_seed c_shelves_marks c_shelves_sizes c_shelves_elements c_refusals)) (kQi D (va_A (cells_M_judge cI cL cZ a_this a_now a_kept a_trial a_shelves a_tape a_paths a_sounds a_volumes a_refusals a_now_stones a_now_kinds a_now_weights a_now_chances a_shelves_marks a_shelves_sizes a_shelves_elements c_isKept c_now_width c_now_rain c_now_ear c_now_walkers c_now_seed c_shelves_marks c_shelves_sizes c_shelves_elements c_refusals) sz) (cells_M_judge cI cL cZ a_this a_now a_kept a_trial a_shelves a_tape a_paths a_sounds a_volumes a_refusals a_now_stones a_now_kinds a_now_weights a_now_chances a_shelves_marks a_shelves_sizes a_shelves_elements c_isKept c_now_width c_now_rain c_now_ear c_now_walkers c_now_seed c_shelves_marks c_shelves_sizes c_shelves_elements x.2) x.1) 0 0 (va_A (cells_M_judge cI cL cZ a_this a_now a_kept a_trial a_shelves a_tape a_paths a_sounds a_volumes a_refusals a_now_stones a_now_kinds a_now_weights a_now_chances a_shelves_marks a_shelves_sizes a_shelves_elements c_isKept c_now_width c_now_rain c_now_ear c_now_walkers c_now_seed c_shelves_marks c_shelves_sizes c_shelves_elements c_refusals) sz) :=
  kmet (by decide) (Nat.le_of_ble_eq_true rfl) rfl (fun p e s m below meth c C hE => s_M_judge C hE h)
abbrev cells_M_whyNoWay (cI : ClassId) (cL : ClassId) (cZ : ClassId) (a_this : Nat) (a_now : Nat) (a_kept : Nat) (a_trial : Nat) (a_shelves : Nat) (a_tape : Nat) (a_paths : Nat) (a_sounds : Nat) (a_volumes : Nat) (a_refusals : Nat) (a_now_stones : Nat) (a_now_kinds : Nat) (a_now_weights : Nat) (a_now_chances : Nat) (a_shelves_marks : Nat) (a_shelves_sizes : Nat) (a_shelves_elements : Nat) (c_isKept : Int32) (c_now_width : Int32) (c_now_rain : Int32) (c_now_ear : Int32) (c_now_walkers : Int32) (c_now_seed : Int32) (c_shelves_marks : (Nat → Int32)) (c_shelves_sizes : (Nat → Int32)) (c_shelves_elements : (Nat → Int64)) : va_W := [(a_this, .inr (4, [.ref a_now, .ref a_kept, .ref a_trial, .ref a_shelves, .ref a_tape, .ref a_paths, .ref a_sounds, .ref a_volumes, .ref a_refusals, .int c_isKept])), (a_now, .inr (0, [.ref a_now_stones, .ref a_now_kinds, .ref a_now_weights, .ref a_now_chances, .int c_now_width, .int c_now_rain, .int c_now_ear, .int c_now_walkers, .int c_now_seed])), (a_shelves, .inr (2, [.ref a_shelves_marks, .ref a_shelves_sizes, .ref a_shelves_elements])), (a_shelves_marks, .inl (cI, 8, .inl c_shelves_marks)), (a_shelves_sizes, .inl (cI, 8, .inl c_shelves_sizes)), (a_shelves_elements, .inl (cL, 320, .inr (.inl c_shelves_elements)))]
abbrev rm_M_whyNoWay : Room := { frames := 4, cells := 0, slots := 0, locals := 92 }
set_option maxRecDepth 100000 in
set_option maxHeartbeats 4000000 in
theorem s_M_whyNoWay (C : kC p l e rm_M_whyNoWay s m args below meth c D (tyG cI cL cZ) A 4 cX4_whyNoWay yX4_whyNoWay.cls (Cond.code yX4_whyNoWay cX4_whyNoWay 4 (some .int) :: WS) (some .int)) {X : kX} (hE : kEs X A s) {a_this : Nat} {a_now : Nat} {a_kept : Nat} {a_trial : Nat} {a_shelves : Nat} {a_tape : Nat} {a_paths : Nat} {a_sounds : Nat} {a_volumes : Nat} {a_refusals : Nat} {a_now_stones : Nat} {a_now_kinds : Nat} {a_now_weights : Nat} {a_now_chances : Nat} {a_shelves_marks : Nat} {a_shelves_sizes : Nat} {a_shelves_elements : Nat} {v1 : Int32} {v2 : Int32} {c_isKept : Int32} {c_now_width : Int32} {c_now_rain : Int32} {c_now_ear : Int32} {c_now_walkers : Int32} {c_now_seed : Int32} {c_shelves_marks : (Nat → Int32)} {c_shelves_sizes : (Nat → Int32)} {c_shelves_elements : (Nat → Int64)} {x : Int32} (h : f_M_whyNoWay v1 v2 c_now_width c_shelves_marks c_shelves_sizes c_shelves_elements = some x) :
    kW p l e rm_M_whyNoWay s m args below meth c D A 4 (cells_M_whyNoWay cI cL cZ a_this a_now a_kept a_trial a_shelves a_tape a_paths a_sounds a_volumes a_refusals a_now_stones a_now_kinds a_now_weights a_now_chances a_shelves_marks a_shelves_sizes a_shelves_elements c_isKept c_now_width c_now_rain c_now_ear c_now_walkers c_now_seed c_shelves_marks c_shelves_sizes c_shelves_elements) [(0, .ref a_this), (1, .int v1), (2, .int v2)] (MQ below (kQi D A (cells_M_whyNoWay cI cL cZ a_this a_now a_kept a_trial a_shelves a_tape a_paths a_sounds a_volumes a_refusals a_now_stones a_now_kinds a_now_weights a_now_chances a_shelves_marks a_shelves_sizes a_shelves_elements c_isKept c_now_width c_now_rain c_now_ear c_now_walkers c_now_seed c_shelves_marks c_shelves_sizes c_shelves_elements) x) args s 0 0 A) 0 [] := by
  unfold f_M_whyNoWay at h
  refine k_aload_n C dX4_whyNoWay_0 0 rfl rfl ?_
  refine k_iload_n C dX4_whyNoWay_1 1 rfl rfl ?_
  refine k_iload_n C dX4_whyNoWay_2 2 rfl rfl ?_
  obtain ⟨x1, hx1, h⟩ := bindE h
  refine kcallR_i C (wc := (cells_M_whyNoRowOf cI cL cZ a_this a_now a_kept a_trial a_shelves a_tape a_paths a_sounds a_volumes a_refusals a_shelves_marks a_shelves_sizes a_shelves_elements c_isKept c_shelves_marks c_shelves_sizes)) (r := x1) [0, 2, 3, 4] (fun H locs ls hP hD hS hF hz => krunV C (q0 := 0) (ci := 4) (c_M_whyNoRowOf l D cI cL cZ X H.size a_this a_now a_kept a_trial a_shelves a_tape a_paths a_sounds a_volumes a_refusals a_shelves_marks a_shelves_sizes a_shelves_elements v1 v2 c_isKept c_shelves_marks c_shelves_sizes x1 hx1) (cwV 2 C.2.2.2.2.1 (gV wq_447 wq_448 wq_449 wq_3 wq_446) rfl rfl rfl (by decide +kernel) ⟨(Nat.le_of_ble_eq_true rfl), (Nat.le_of_ble_eq_true rfl)⟩) rfl rfl (kEs_call hE hS hF) rfl rfl (Nat.le_of_ble_eq_true rfl) dX4_whyNoWay_3 hP hD hz) rfl (by decide) ?_
  refine k_istore_n C (lv' := [(3, .int x1), (0, .ref a_this), (1, .int v1), (2, .int v2)]) dX4_whyNoWay_6 rfl (by decide) rfl ?_
  refine k_iload_n C dX4_whyNoWay_7 0 rfl rfl ?_
  refine k_if_eq C (tgt := 13) dX4_whyNoWay_8 (by decide) (fun c_8 => ?_) (fun c_8 => ?_)
  · have h := ifT c_8 h
    refine k_aload_n C dX4_whyNoWay_13 1 rfl rfl ?_
    refine k_iload_n C dX4_whyNoWay_14 2 rfl rfl ?_
    refine k_iload_n C dX4_whyNoWay_15 3 rfl rfl ?_
    obtain ⟨x2, hx2, h⟩ := bindE h
    refine kcallR_i C (wc := (cells_M_wrongIn cI cL cZ a_this a_now a_kept a_trial a_shelves a_tape a_paths a_sounds a_volumes a_refusals a_now_stones a_now_kinds a_now_weights a_now_chances a_shelves_marks a_shelves_sizes a_shelves_elements c_isKept c_now_width c_now_rain c_now_ear c_now_walkers c_now_seed c_shelves_sizes c_shelves_elements)) (r := x2) [0, 1, 2, 4, 5] (fun H locs ls hP hD hS hF hz => krunV C (q0 := 0) (ci := 4) (c_M_wrongIn l D cI cL cZ X H.size a_this a_now a_kept a_trial a_shelves a_tape a_paths a_sounds a_volumes a_refusals a_now_stones a_now_kinds a_now_weights a_now_chances a_shelves_marks a_shelves_sizes a_shelves_elements v1 v2 c_isKept c_now_width c_now_rain c_now_ear c_now_walkers c_now_seed c_shelves_sizes c_shelves_elements x2 hx2) (cwV 2 C.2.2.2.2.1 (gV wq_495 wq_496 wq_497 wq_3 wq_494) rfl rfl rfl (by decide +kernel) ⟨(Nat.le_of_ble_eq_true rfl), (Nat.le_of_ble_eq_true rfl)⟩) rfl rfl (kEs_call hE hS hF) rfl rfl (Nat.le_of_ble_eq_true rfl) dX4_whyNoWay_16 hP hD hz) rfl (by decide) ?_
    refine k_iconst C (v := (-1 : Int32)) dX4_whyNoWay_19 (by decide) ?_
    refine k_icmp_ne C (tgt := 27) dX4_whyNoWay_20 (by decide) (fun c_20 => ?_) (fun c_20 => ?_)
    · have h := ifF c_20 h
      refine k_bipush C (v := (-5 : Int32)) dX4_whyNoWay_27 (by decide) ?_
      obtain rfl := Option.some.inj h
      exact kret_i C rfl dX4_whyNoWay_29
    · have h := ifT c_20 h
      refine k_iconst C (v := (0 : Int32)) dX4_whyNoWay_23 (by decide) ?_
      refine k_goto C (tgt := 29) dX4_whyNoWay_24 (by decide) ?_
      obtain rfl := Option.some.inj h
      exact kret_i C rfl dX4_whyNoWay_29
  · have h := ifF c_8 h
    refine k_iload_n C dX4_whyNoWay_11 0 rfl rfl ?_
    obtain rfl := Option.some.inj h
    exact kret_i C rfl dX4_whyNoWay_12
theorem c_M_whyNoWay (l : Launch) (D : va_G) (cI : ClassId) (cL : ClassId) (cZ : ClassId) (X : kX) (sz : Nat) (a_this : Nat) (a_now : Nat) (a_kept : Nat) (a_trial : Nat) (a_shelves : Nat) (a_tape : Nat) (a_paths : Nat) (a_sounds : Nat) (a_volumes : Nat) (a_refusals : Nat) (a_now_stones : Nat) (a_now_kinds : Nat) (a_now_weights : Nat) (a_now_chances : Nat) (a_shelves_marks : Nat) (a_shelves_sizes : Nat) (a_shelves_elements : Nat) (v1 : Int32) (v2 : Int32) (c_isKept : Int32) (c_now_width : Int32) (c_now_rain : Int32) (c_now_ear : Int32) (c_now_walkers : Int32) (c_now_seed : Int32) (c_shelves_marks : (Nat → Int32)) (c_shelves_sizes : (Nat → Int32)) (c_shelves_elements : (Nat → Int64)) (x : Int32) (h : f_M_whyNoWay v1 v2 c_now_width c_shelves_marks c_shelves_sizes c_shelves_elements = some x) :
    Met l yX4_whyNoWay (Cond.code yX4_whyNoWay cX4_whyNoWay 4 (some .int) :: WS) rm_M_whyNoWay (kP D (tyG cI cL cZ) (kEs X (va_A (cells_M_whyNoWay cI cL cZ a_this a_now a_kept a_trial a_shelves a_tape a_paths a_sounds a_volumes a_refusals a_now_stones a_now_kinds a_now_weights a_now_chances a_shelves_marks a_shelves_sizes a_shelves_elements c_isKept c_now_width c_now_rain c_now_ear c_now_walkers c_now_seed c_shelves_marks c_shelves_sizes c_shelves_elements) sz)) [.ref a_this, .int v1, .int v2] sz (cells_M_whyNoWay cI cL cZ a_this a_now a_kept a_trial a_shelves a_tape a_paths a_sounds a_volumes a_refusals a_now_stones a_now_kinds a_now_weights a_now_chances a_shelves_marks a_shelves_sizes a_shelves_elements c_isKept c_now_width c_now_rain c_now_ear c_now_walkers c_now_seed c_shelves_marks c_shelves_sizes c_shelves_elements)) (kQi D (va_A (cells_M_whyNoWay cI cL cZ a_this a_now a_kept a_trial a_shelves a_tape a_paths a_sounds a_volumes a_refusals a_now_stones a_now_kinds a_now_weights a_now_chances a_shelves_marks a_shelves_sizes a_shelves_elements c_isKept c_now_width c_now_rain c_now_ear c_now_walkers c_now_seed c_shelves_marks c_shelves_sizes c_shelves_elements) sz) (cells_M_whyNoWay cI cL cZ a_this a_now a_kept a_trial a_shelves a_tape a_paths a_sounds a_volumes a_refusals a_now_stones a_now_kinds a_now_weights a_now_chances a_shelves_marks a_shelves_sizes a_shelves_elements c_isKept c_now_width c_now_rain c_now_ear c_now_walkers c_now_seed c_shelves_marks c_shelves_sizes c_shelves_elements) x) 0 0 (va_A (cells_M_whyNoWay cI cL cZ a_this a_now a_kept a_trial a_shelves a_tape a_paths a_sounds a_volumes a_refusals a_now_stones a_now_kinds a_now_weights a_now_chances a_shelves_marks a_shelves_sizes a_shelves_elements c_isKept c_now_width c_now_rain c_now_ear c_now_walkers c_now_seed c_shelves_marks c_shelves_sizes c_shelves_elements) sz) :=
  kmet (by decide) (Nat.le_of_ble_eq_true rfl) rfl (fun p e s m below meth c C hE => s_M_whyNoWay C hE h)
abbrev cells_M_allAlong (cI : ClassId) (cL : ClassId) (cZ : ClassId) (a_this : Nat) (a_now : Nat) (a_kept : Nat) (a_trial : Nat) (a_shelves : Nat) (a_tape : Nat) (a_paths : Nat) (a_sounds : Nat) (a_volumes : Nat) (a_refusals : Nat) (a_now_stones : Nat) (a_now_kinds : Nat) (a_now_weights : Nat) (a_now_chances : Nat) (a_shelves_marks : Nat) (a_shelves_sizes : Nat) (a_shelves_elements : Nat) (c_isKept : Int32) (c_now_width : Int32) (c_now_rain : Int32) (c_now_ear : Int32) (c_now_walkers : Int32) (c_now_seed : Int32) (c_now_stones : (Nat → Int32)) (c_now_kinds : (Nat → Int32)) (c_now_weights : (Nat → Int32)) (c_shelves_sizes : (Nat → Int32)) (c_shelves_elements : (Nat → Int64)) : va_W := [(a_this, .inr (4, [.ref a_now, .ref a_kept, .ref a_trial, .ref a_shelves, .ref a_tape, .ref a_paths, .ref a_sounds, .ref a_volumes, .ref a_refusals, .int c_isKept])), (a_now, .inr (0, [.ref a_now_stones, .ref a_now_kinds, .ref a_now_weights, .ref a_now_chances, .int c_now_width, .int c_now_rain, .int c_now_ear, .int c_now_walkers, .int c_now_seed])), (a_now_stones, .inl (cI, 36, .inl c_now_stones)), (a_now_kinds, .inl (cI, 8, .inl c_now_kinds)), (a_now_weights, .inl (cI, 8, .inl c_now_weights)), (a_shelves, .inr (2, [.ref a_shelves_marks, .ref a_shelves_sizes, .ref a_shelves_elements])), (a_shelves_sizes, .inl (cI, 8, .inl c_shelves_sizes)), (a_shelves_elements, .inl (cL, 320, .inr (.inl c_shelves_elements)))]
abbrev rm_M_allAlong : Room := { frames := 4, cells := 0, slots := 0, locals := 104 }
set_option maxRecDepth 100000 in
set_option maxHeartbeats 4000000 in
theorem s_M_allAlong_b5 (C : kC p l e rm_M_allAlong s m args below meth c D (tyG cI cL cZ) A 5 cX4_allAlong yX4_allAlong.cls (Cond.code yX4_allAlong cX4_allAlong 5 (some .int) :: WS) (some .int)) {X : kX} (hE : kEs X A s) {a_this : Nat} {a_now : Nat} {a_kept : Nat} {a_trial : Nat} {a_shelves : Nat} {a_tape : Nat} {a_paths : Nat} {a_sounds : Nat} {a_volumes : Nat} {a_refusals : Nat} {a_now_stones : Nat} {a_now_kinds : Nat} {a_now_weights : Nat} {a_now_chances : Nat} {a_shelves_marks : Nat} {a_shelves_sizes : Nat} {a_shelves_elements : Nat} {v1 : Int32} {v2 : Int32} {v3 : Int32} {v4 : Int32} {c_isKept : Int32} {c_now_width : Int32} {c_now_rain : Int32} {c_now_ear : Int32} {c_now_walkers : Int32} {c_now_seed : Int32} {c_now_stones : (Nat → Int32)} {c_now_kinds : (Nat → Int32)} {c_now_weights : (Nat → Int32)} {c_shelves_sizes : (Nat → Int32)} {c_shelves_elements : (Nat → Int64)} {x : ((Int32 × Int32) ⊕ Int32)} (h : f_M_allAlong_b5 v1 v2 c_now_width c_now_rain c_now_stones c_now_kinds c_now_weights c_shelves_sizes c_shelves_elements v3 v4 = some x)
    (kc : ∀ s', x = .inl s' → kW p l e rm_M_allAlong s m args below meth c D A 5 (cells_M_allAlong cI cL cZ a_this a_now a_kept a_trial a_shelves a_tape a_paths a_sounds a_volumes a_refusals a_now_stones a_now_kinds a_now_weights a_now_chances a_shelves_marks a_shelves_sizes a_shelves_elements c_isKept c_now_width c_now_rain c_now_ear c_now_walkers c_now_seed c_now_stones c_now_kinds c_now_weights c_shelves_sizes c_shelves_elements) [(0, .ref a_this), (1, .int v1), (2, .int v2), (3, .int s'.1), (4, .int s'.2)] Q 5 [])
    (k0 : ∀ r, x = .inr r → kW p l e rm_M_allAlong s m args below meth c D A 5 (cells_M_allAlong cI cL cZ a_this a_now a_kept a_trial a_shelves a_tape a_paths a_sounds a_volumes a_refusals a_now_stones a_now_kinds a_now_weights a_now_chances a_shelves_marks a_shelves_sizes a_shelves_elements c_isKept c_now_width c_now_rain c_now_ear c_now_walkers c_now_seed c_now_stones c_now_kinds c_now_weights c_shelves_sizes c_shelves_elements) [(3, .int r)] Q 45 []) :
    kW p l e rm_M_allAlong s m args below meth c D A 5 (cells_M_allAlong cI cL cZ a_this a_now a_kept a_trial a_shelves a_tape a_paths a_sounds a_volumes a_refusals a_now_stones a_now_kinds a_now_weights a_now_chances a_shelves_marks a_shelves_sizes a_shelves_elements c_isKept c_now_width c_now_rain c_now_ear c_now_walkers c_now_seed c_now_stones c_now_kinds c_now_weights c_shelves_sizes c_shelves_elements) [(0, .ref a_this), (1, .int v1), (2, .int v2), (3, .int v3), (4, .int v4)] Q 5 [] := by
  unfold f_M_allAlong_b5 at h
  refine k_iload C dX4_allAlong_5 4 rfl ?_
  refine k_aload_n C dX4_allAlong_7 0 rfl rfl ?_
  refine k_get C (C0 := RX4) (T := TX4) (N := 10) (fun w h => List.mem_cons_of_mem _ (us_M w h)) 0 rfl rfl 0 (by decide) (List.mem_cons_of_mem _ wq_62) rfl rfl dX4_allAlong_8 ?_
  refine k_get C (C0 := RX0) (T := TX0) (N := 9) (fun w h => List.mem_cons_of_mem _ (us_D w h)) 1 rfl rfl 4 (by decide) (List.mem_cons_of_mem _ wq_119) rfl rfl dX4_allAlong_11 ?_
  refine k_icmp_ge C (tgt := 45) dX4_allAlong_14 (by decide) (fun c_14 => ?_) (fun c_14 => ?_)
  · have h := ifT c_14 h
    refine k_lv (lv' := [(3, .int v3)]) [3] rfl ?_
    exact k0 _ (Option.some.inj h).symm
  · have h := ifF c_14 h
    refine k_iload_n C dX4_allAlong_17 3 rfl rfl ?_
    refine k_aload_n C dX4_allAlong_18 0 rfl rfl ?_
    refine k_get C (C0 := RX4) (T := TX4) (N := 10) (fun w h => List.mem_cons_of_mem _ (us_M w h)) 0 rfl rfl 0 (by decide) (List.mem_cons_of_mem _ wq_62) rfl rfl dX4_allAlong_19 ?_
    refine k_iload_n C dX4_allAlong_22 2 rfl rfl ?_
    refine k_aload_n C dX4_allAlong_23 0 rfl rfl ?_
    refine k_get C (C0 := RX4) (T := TX4) (N := 10) (fun w h => List.mem_cons_of_mem _ (us_M w h)) 0 rfl rfl 3 (by decide) (List.mem_cons_of_mem _ wq_15) rfl rfl dX4_allAlong_24 ?_
    refine k_iload_n C dX4_allAlong_27 1 rfl rfl ?_
    refine k_iload C dX4_allAlong_28 4 rfl ?_
    obtain ⟨x1, hx1, h⟩ := bindE h
    refine kcallR_l C (wc := (cells_S_elementOf cI cL cZ a_shelves a_shelves_marks a_shelves_sizes a_shelves_elements c_shelves_sizes c_shelves_elements)) (r := x1) [5, 6, 7] (fun H locs ls hP hD hS hF hz => krunV C (q0 := 0) (ci := 2) (c_S_elementOf l D cI cL cZ X H.size a_shelves a_shelves_marks a_shelves_sizes a_shelves_elements v1 v4 c_shelves_sizes c_shelves_elements x1 hx1) (cwV 2 C.2.2.2.2.1 (gV wq_58 wq_59 wq_60 wq_20 wq_57) rfl rfl rfl (by decide +kernel) ⟨(Nat.le_of_ble_eq_true rfl), (Nat.le_of_ble_eq_true rfl)⟩) rfl rfl (kEs_call hE hS hF) rfl rfl (Nat.le_of_ble_eq_true rfl) dX4_allAlong_30 hP hD hz) rfl (by decide) ?_
    refine k_l2i C dX4_allAlong_33 ?_
    obtain ⟨x2, hx2, h⟩ := bindE h
    refine kcallR_i C (wc := (cells_D_stepOn cI cL cZ a_now a_now_stones a_now_kinds a_now_weights a_now_chances c_now_width c_now_rain c_now_ear c_now_walkers c_now_seed c_now_stones c_now_kinds c_now_weights)) (r := x2) [1, 2, 3, 4] (fun H locs ls hP hD hS hF hz => krunV C (q0 := 0) (ci := 0) (c_D_stepOn l D cI cL cZ X H.size a_now a_now_stones a_now_kinds a_now_weights a_now_chances v2 (Int64.toInt32 x1) c_now_width c_now_rain c_now_ear c_now_walkers c_now_seed c_now_stones c_now_kinds c_now_weights x2 hx2) (cwV 2 C.2.2.2.2.1 (gV wq_257 wq_258 wq_259 wq_81 wq_256) rfl rfl rfl (by decide +kernel) ⟨(Nat.le_of_ble_eq_true rfl), (Nat.le_of_ble_eq_true rfl)⟩) rfl rfl (kEs_call hE hS hF) rfl rfl (Nat.le_of_ble_eq_true rfl) dX4_allAlong_34 hP hD hz) rfl (by decide) ?_
    refine k_iadd C dX4_allAlong_37 ?_
    refine k_istore_n C (lv' := [(3, .int (v3 + x2)), (0, .ref a_this), (1, .int v1), (2, .int v2), (4, .int v4)]) dX4_allAlong_38 rfl (by decide) rfl ?_
    refine k_iinc C (v := (v4 + (1 : Int32))) (lv' := [(4, .int (v4 + (1 : Int32))), (3, .int (v3 + x2)), (0, .ref a_this), (1, .int v1), (2, .int v2)]) dX4_allAlong_39 4 rfl rfl (by decide) rfl ?_
    refine k_goto C (tgt := 5) dX4_allAlong_42 (by decide) ?_
    refine k_lv (lv' := [(0, .ref a_this), (1, .int v1), (2, .int v2), (3, .int (v3 + x2)), (4, .int (v4 + (1 : Int32)))]) [2, 3, 4, 1, 0] rfl ?_
    exact kc _ (Option.some.inj h).symm
set_option maxRecDepth 100000 in
set_option maxHeartbeats 4000000 in
theorem s_M_allAlong_l5 (C : kC p l e rm_M_allAlong s m args below meth c D (tyG cI cL cZ) A 5 cX4_allAlong yX4_allAlong.cls (Cond.code yX4_allAlong cX4_allAlong 5 (some .int) :: WS) (some .int)) {X : kX} (hE : kEs X A s) {a_this : Nat} {a_now : Nat} {a_kept : Nat} {a_trial : Nat} {a_shelves : Nat} {a_tape : Nat} {a_paths : Nat} {a_sounds : Nat} {a_volumes : Nat} {a_refusals : Nat} {a_now_stones : Nat} {a_now_kinds : Nat} {a_now_weights : Nat} {a_now_chances : Nat} {a_shelves_marks : Nat} {a_shelves_sizes : Nat} {a_shelves_elements : Nat} {v1 : Int32} {v2 : Int32} {v3 : Int32} {v4 : Int32} {c_isKept : Int32} {c_now_width : Int32} {c_now_rain : Int32} {c_now_ear : Int32} {c_now_walkers : Int32} {c_now_seed : Int32} {c_now_stones : (Nat → Int32)} {c_now_kinds : (Nat → Int32)} {c_now_weights : (Nat → Int32)} {c_shelves_sizes : (Nat → Int32)} {c_shelves_elements : (Nat → Int64)} {x : Int32} (h : f_M_allAlong_l5 v1 v2 c_now_width c_now_rain c_now_stones c_now_kinds c_now_weights c_shelves_sizes c_shelves_elements v3 v4 = some x)
    (k0 : kW p l e rm_M_allAlong s m args below meth c D A 5 (cells_M_allAlong cI cL cZ a_this a_now a_kept a_trial a_shelves a_tape a_paths a_sounds a_volumes a_refusals a_now_stones a_now_kinds a_now_weights a_now_chances a_shelves_marks a_shelves_sizes a_shelves_elements c_isKept c_now_width c_now_rain c_now_ear c_now_walkers c_now_seed c_now_stones c_now_kinds c_now_weights c_shelves_sizes c_shelves_elements) [(3, .int x)] Q 45 []) :
    kW p l e rm_M_allAlong s m args below meth c D A 5 (cells_M_allAlong cI cL cZ a_this a_now a_kept a_trial a_shelves a_tape a_paths a_sounds a_volumes a_refusals a_now_stones a_now_kinds a_now_weights a_now_chances a_shelves_marks a_shelves_sizes a_shelves_elements c_isKept c_now_width c_now_rain c_now_ear c_now_walkers c_now_seed c_now_stones c_now_kinds c_now_weights c_shelves_sizes c_shelves_elements) [(0, .ref a_this), (1, .int v1), (2, .int v2), (3, .int v3), (4, .int v4)] Q 5 [] := by
  unfold f_M_allAlong_l5 at h
  exact iter_W (T := fun sg => kW p l e rm_M_allAlong s m args below meth c D A 5 (cells_M_allAlong cI cL cZ a_this a_now a_kept a_trial a_shelves a_tape a_paths a_sounds a_volumes a_refusals a_now_stones a_now_kinds a_now_weights a_now_chances a_shelves_marks a_shelves_sizes a_shelves_elements c_isKept c_now_width c_now_rain c_now_ear c_now_walkers c_now_seed c_now_stones c_now_kinds c_now_weights c_shelves_sizes c_shelves_elements) [(0, .ref a_this), (1, .int v1), (2, .int v2), (3, .int sg.1), (4, .int sg.2)] Q 5 []) (fun sg y hy hc _ hr => s_M_allAlong_b5 C hE hy (fun s' e => hc s' e) (fun r e => by rw [hr r e]; exact k0)) FUEL _ h
set_option maxRecDepth 100000 in
set_option maxHeartbeats 4000000 in
theorem s_M_allAlong (C : kC p l e rm_M_allAlong s m args below meth c D (tyG cI cL cZ) A 5 cX4_allAlong yX4_allAlong.cls (Cond.code yX4_allAlong cX4_allAlong 5 (some .int) :: WS) (some .int)) {X : kX} (hE : kEs X A s) {a_this : Nat} {a_now : Nat} {a_kept : Nat} {a_trial : Nat} {a_shelves : Nat} {a_tape : Nat} {a_paths : Nat} {a_sounds : Nat} {a_volumes : Nat} {a_refusals : Nat} {a_now_stones : Nat} {a_now_kinds : Nat} {a_now_weights : Nat} {a_now_chances : Nat} {a_shelves_marks : Nat} {a_shelves_sizes : Nat} {a_shelves_elements : Nat} {v1 : Int32} {v2 : Int32} {c_isKept : Int32} {c_now_width : Int32} {c_now_rain : Int32} {c_now_ear : Int32} {c_now_walkers : Int32} {c_now_seed : Int32} {c_now_stones : (Nat → Int32)} {c_now_kinds : (Nat → Int32)} {c_now_weights : (Nat → Int32)} {c_shelves_sizes : (Nat → Int32)} {c_shelves_elements : (Nat → Int64)} {x : Int32} (h : f_M_allAlong v1 v2 c_now_width c_now_rain c_now_stones c_now_kinds c_now_weights c_shelves_sizes c_shelves_elements = some x) :
    kW p l e rm_M_allAlong s m args below meth c D A 5 (cells_M_allAlong cI cL cZ a_this a_now a_kept a_trial a_shelves a_tape a_paths a_sounds a_volumes a_refusals a_now_stones a_now_kinds a_now_weights a_now_chances a_shelves_marks a_shelves_sizes a_shelves_elements c_isKept c_now_width c_now_rain c_now_ear c_now_walkers c_now_seed c_now_stones c_now_kinds c_now_weights c_shelves_sizes c_shelves_elements) [(0, .ref a_this), (1, .int v1), (2, .int v2)] (MQ below (kQi D A (cells_M_allAlong cI cL cZ a_this a_now a_kept a_trial a_shelves a_tape a_paths a_sounds a_volumes a_refusals a_now_stones a_now_kinds a_now_weights a_now_chances a_shelves_marks a_shelves_sizes a_shelves_elements c_isKept c_now_width c_now_rain c_now_ear c_now_walkers c_now_seed c_now_stones c_now_kinds c_now_weights c_shelves_sizes c_shelves_elements) x) args s 0 0 A) 0 [] := by
  unfold f_M_allAlong at h
  refine k_iconst C (v := (0 : Int32)) dX4_allAlong_0 (by decide) ?_
  refine k_istore_n C (lv' := [(3, .int (0 : Int32)), (0, .ref a_this), (1, .int v1), (2, .int v2)]) dX4_allAlong_1 rfl (by decide) rfl ?_
  refine k_iconst C (v := (0 : Int32)) dX4_allAlong_2 (by decide) ?_
  refine k_istore C (lv' := [(4, .int (0 : Int32)), (3, .int (0 : Int32)), (0, .ref a_this), (1, .int v1), (2, .int v2)]) dX4_allAlong_3 (by decide) rfl ?_
  obtain ⟨x3, hx3, h⟩ := bindE h
  refine k_lv (lv' := [(0, .ref a_this), (1, .int v1), (2, .int v2), (3, .int (0 : Int32)), (4, .int (0 : Int32))]) [2, 3, 4, 1, 0] rfl ?_
  refine s_M_allAlong_l5 C hE hx3 ?_
  refine k_iload_n C dX4_allAlong_45 0 rfl rfl ?_
  obtain rfl := Option.some.inj h
  exact kret_i C rfl dX4_allAlong_46
theorem c_M_allAlong (l : Launch) (D : va_G) (cI : ClassId) (cL : ClassId) (cZ : ClassId) (X : kX) (sz : Nat) (a_this : Nat) (a_now : Nat) (a_kept : Nat) (a_trial : Nat) (a_shelves : Nat) (a_tape : Nat) (a_paths : Nat) (a_sounds : Nat) (a_volumes : Nat) (a_refusals : Nat) (a_now_stones : Nat) (a_now_kinds : Nat) (a_now_weights : Nat) (a_now_chances : Nat) (a_shelves_marks : Nat) (a_shelves_sizes : Nat) (a_shelves_elements : Nat) (v1 : Int32) (v2 : Int32) (c_isKept : Int32) (c_now_width : Int32) (c_now_rain : Int32) (c_now_ear : Int32) (c_now_walkers : Int32) (c_now_seed : Int32) (c_now_stones : (Nat → Int32)) (c_now_kinds : (Nat → Int32)) (c_now_weights : (Nat → Int32)) (c_shelves_sizes : (Nat → Int32)) (c_shelves_elements : (Nat → Int64)) (x : Int32) (h : f_M_allAlong v1 v2 c_now_width c_now_rain c_now_stones c_now_kinds c_now_weights c_shelves_sizes c_shelves_elements = some x) :
    Met l yX4_allAlong (Cond.code yX4_allAlong cX4_allAlong 5 (some .int) :: WS) rm_M_allAlong (kP D (tyG cI cL cZ) (kEs X (va_A (cells_M_allAlong cI cL cZ a_this a_now a_kept a_trial a_shelves a_tape a_paths a_sounds a_volumes a_refusals a_now_stones a_now_kinds a_now_weights a_now_chances a_shelves_marks a_shelves_sizes a_shelves_elements c_isKept c_now_width c_now_rain c_now_ear c_now_walkers c_now_seed c_now_stones c_now_kinds c_now_weights c_shelves_sizes c_shelves_elements) sz)) [.ref a_this, .int v1, .int v2] sz (cells_M_allAlong cI cL cZ a_this a_now a_kept a_trial a_shelves a_tape a_paths a_sounds a_volumes a_refusals a_now_stones a_now_kinds a_now_weights a_now_chances a_shelves_marks a_shelves_sizes a_shelves_elements c_isKept c_now_width c_now_rain c_now_ear c_now_walkers c_now_seed c_now_stones c_now_kinds c_now_weights c_shelves_sizes c_shelves_elements)) (kQi D (va_A (cells_M_allAlong cI cL cZ a_this a_now a_kept a_trial a_shelves a_tape a_paths a_sounds a_volumes a_refusals a_now_stones a_now_kinds a_now_weights a_now_chances a_shelves_marks a_shelves_sizes a_shelves_elements c_isKept c_now_width c_now_rain c_now_ear c_now_walkers c_now_seed c_now_stones c_now_kinds c_now_weights c_shelves_sizes c_shelves_elements) sz) (cells_M_allAlong cI cL cZ a_this a_now a_kept a_trial a_shelves a_tape a_paths a_sounds a_volumes a_refusals a_now_stones a_now_kinds a_now_weights a_now_chances a_shelves_marks a_shelves_sizes a_shelves_elements c_isKept c_now_width c_now_rain c_now_ear c_now_walkers c_now_seed c_now_stones c_now_kinds c_now_weights c_shelves_sizes c_shelves_elements) x) 0 0 (va_A (cells_M_allAlong cI cL cZ a_this a_now a_kept a_trial a_shelves a_tape a_paths a_sounds a_volumes a_refusals a_now_stones a_now_kinds a_now_weights a_now_chances a_shelves_marks a_shelves_sizes a_shelves_elements c_isKept c_now_width c_now_rain c_now_ear c_now_walkers c_now_seed c_now_stones c_now_kinds c_now_weights c_shelves_sizes c_shelves_elements) sz) :=
  kmet (by decide) (Nat.le_of_ble_eq_true rfl) rfl (fun p e s m below meth c C hE => s_M_allAlong C hE h)
abbrev cells_M_firstHeardAlong (cI : ClassId) (cL : ClassId) (cZ : ClassId) (a_this : Nat) (a_now : Nat) (a_kept : Nat) (a_trial : Nat) (a_shelves : Nat) (a_tape : Nat) (a_paths : Nat) (a_sounds : Nat) (a_volumes : Nat) (a_refusals : Nat) (a_now_stones : Nat) (a_now_kinds : Nat) (a_now_weights : Nat) (a_now_chances : Nat) (a_shelves_marks : Nat) (a_shelves_sizes : Nat) (a_shelves_elements : Nat) (c_isKept : Int32) (c_now_width : Int32) (c_now_rain : Int32) (c_now_ear : Int32) (c_now_walkers : Int32) (c_now_seed : Int32) (c_now_stones : (Nat → Int32)) (c_now_kinds : (Nat → Int32)) (c_now_weights : (Nat → Int32)) (c_shelves_sizes : (Nat → Int32)) (c_shelves_elements : (Nat → Int64)) : va_W := [(a_this, .inr (4, [.ref a_now, .ref a_kept, .ref a_trial, .ref a_shelves, .ref a_tape, .ref a_paths, .ref a_sounds, .ref a_volumes, .ref a_refusals, .int c_isKept])), (a_now, .inr (0, [.ref a_now_stones, .ref a_now_kinds, .ref a_now_weights, .ref a_now_chances, .int c_now_width, .int c_now_rain, .int c_now_ear, .int c_now_walkers, .int c_now_seed])), (a_now_stones, .inl (cI, 36, .inl c_now_stones)), (a_now_kinds, .inl (cI, 8, .inl c_now_kinds)), (a_now_weights, .inl (cI, 8, .inl c_now_weights)), (a_shelves, .inr (2, [.ref a_shelves_marks, .ref a_shelves_sizes, .ref a_shelves_elements])), (a_shelves_sizes, .inl (cI, 8, .inl c_shelves_sizes)), (a_shelves_elements, .inl (cL, 320, .inr (.inl c_shelves_elements)))]
abbrev rm_M_firstHeardAlong : Room := { frames := 4, cells := 0, slots := 0, locals := 104 }
set_option maxRecDepth 100000 in
set_option maxHeartbeats 4000000 in
theorem s_M_firstHeardAlong_b2 (C : kC p l e rm_M_firstHeardAlong s m args below meth c D (tyG cI cL cZ) A 4 cX4_firstHeardAlong yX4_firstHeardAlong.cls (Cond.code yX4_firstHeardAlong cX4_firstHeardAlong 4 (some .int) :: WS) (some .int)) {X : kX} (hE : kEs X A s) {a_this : Nat} {a_now : Nat} {a_kept : Nat} {a_trial : Nat} {a_shelves : Nat} {a_tape : Nat} {a_paths : Nat} {a_sounds : Nat} {a_volumes : Nat} {a_refusals : Nat} {a_now_stones : Nat} {a_now_kinds : Nat} {a_now_weights : Nat} {a_now_chances : Nat} {a_shelves_marks : Nat} {a_shelves_sizes : Nat} {a_shelves_elements : Nat} {v1 : Int32} {v2 : Int32} {v3 : Int32} {c_isKept : Int32} {c_now_width : Int32} {c_now_rain : Int32} {c_now_ear : Int32} {c_now_walkers : Int32} {c_now_seed : Int32} {c_now_stones : (Nat → Int32)} {c_now_kinds : (Nat → Int32)} {c_now_weights : (Nat → Int32)} {c_shelves_sizes : (Nat → Int32)} {c_shelves_elements : (Nat → Int64)} {x : (Int32 ⊕ (Int32 ⊕ Unit))} (h : f_M_firstHeardAlong_b2 v1 v2 c_now_width c_now_rain c_now_ear c_now_stones c_now_kinds c_now_weights c_shelves_sizes c_shelves_elements v3 = some x)
    (kc : ∀ s', x = .inl s' → kW p l e rm_M_firstHeardAlong s m args below meth c D A 4 (cells_M_firstHeardAlong cI cL cZ a_this a_now a_kept a_trial a_shelves a_tape a_paths a_sounds a_volumes a_refusals a_now_stones a_now_kinds a_now_weights a_now_chances a_shelves_marks a_shelves_sizes a_shelves_elements c_isKept c_now_width c_now_rain c_now_ear c_now_walkers c_now_seed c_now_stones c_now_kinds c_now_weights c_shelves_sizes c_shelves_elements) [(0, .ref a_this), (1, .int v1), (2, .int v2), (3, .int s')] Q 2 [])
    (k0 : ∀ r, x = .inr (.inl r) → kW p l e rm_M_firstHeardAlong s m args below meth c D A 4 (cells_M_firstHeardAlong cI cL cZ a_this a_now a_kept a_trial a_shelves a_tape a_paths a_sounds a_volumes a_refusals a_now_stones a_now_kinds a_now_weights a_now_chances a_shelves_marks a_shelves_sizes a_shelves_elements c_isKept c_now_width c_now_rain c_now_ear c_now_walkers c_now_seed c_now_stones c_now_kinds c_now_weights c_shelves_sizes c_shelves_elements) [(3, .int r)] Q 41 [])
    (k1 : ∀ r, x = .inr (.inr r) → kW p l e rm_M_firstHeardAlong s m args below meth c D A 4 (cells_M_firstHeardAlong cI cL cZ a_this a_now a_kept a_trial a_shelves a_tape a_paths a_sounds a_volumes a_refusals a_now_stones a_now_kinds a_now_weights a_now_chances a_shelves_marks a_shelves_sizes a_shelves_elements c_isKept c_now_width c_now_rain c_now_ear c_now_walkers c_now_seed c_now_stones c_now_kinds c_now_weights c_shelves_sizes c_shelves_elements) [] Q 49 []) :
    kW p l e rm_M_firstHeardAlong s m args below meth c D A 4 (cells_M_firstHeardAlong cI cL cZ a_this a_now a_kept a_trial a_shelves a_tape a_paths a_sounds a_volumes a_refusals a_now_stones a_now_kinds a_now_weights a_now_chances a_shelves_marks a_shelves_sizes a_shelves_elements c_isKept c_now_width c_now_rain c_now_ear c_now_walkers c_now_seed c_now_stones c_now_kinds c_now_weights c_shelves_sizes c_shelves_elements) [(0, .ref a_this), (1, .int v1), (2, .int v2), (3, .int v3)] Q 2 [] := by
  unfold f_M_firstHeardAlong_b2 at h
  refine k_iload_n C dX4_firstHeardAlong_2 3 rfl rfl ?_
  refine k_aload_n C dX4_firstHeardAlong_3 0 rfl rfl ?_
  refine k_get C (C0 := RX4) (T := TX4) (N := 10) (fun w h => List.mem_cons_of_mem _ (us_M w h)) 0 rfl rfl 0 (by decide) (List.mem_cons_of_mem _ wq_62) rfl rfl dX4_firstHeardAlong_4 ?_
  refine k_get C (C0 := RX0) (T := TX0) (N := 9) (fun w h => List.mem_cons_of_mem _ (us_D w h)) 1 rfl rfl 4 (by decide) (List.mem_cons_of_mem _ wq_119) rfl rfl dX4_firstHeardAlong_7 ?_
  refine k_icmp_ge C (tgt := 49) dX4_firstHeardAlong_10 (by decide) (fun c_10 => ?_) (fun c_10 => ?_)
  · have h := ifT c_10 h
    refine k_lv (lv' := []) [] rfl ?_
    exact k1 _ (Option.some.inj h).symm
  · have h := ifF c_10 h
    refine k_aload_n C dX4_firstHeardAlong_13 0 rfl rfl ?_
    refine k_get C (C0 := RX4) (T := TX4) (N := 10) (fun w h => List.mem_cons_of_mem _ (us_M w h)) 0 rfl rfl 0 (by decide) (List.mem_cons_of_mem _ wq_62) rfl rfl dX4_firstHeardAlong_14 ?_
    refine k_iload_n C dX4_firstHeardAlong_17 2 rfl rfl ?_
    refine k_aload_n C dX4_firstHeardAlong_18 0 rfl rfl ?_
    refine k_get C (C0 := RX4) (T := TX4) (N := 10) (fun w h => List.mem_cons_of_mem _ (us_M w h)) 0 rfl rfl 3 (by decide) (List.mem_cons_of_mem _ wq_15) rfl rfl dX4_firstHeardAlong_19 ?_
    refine k_iload_n C dX4_firstHeardAlong_22 1 rfl rfl ?_
    refine k_iload_n C dX4_firstHeardAlong_23 3 rfl rfl ?_
    obtain ⟨x1, hx1, h⟩ := bindE h
    refine kcallR_l C (wc := (cells_S_elementOf cI cL cZ a_shelves a_shelves_marks a_shelves_sizes a_shelves_elements c_shelves_sizes c_shelves_elements)) (r := x1) [5, 6, 7] (fun H locs ls hP hD hS hF hz => krunV C (q0 := 0) (ci := 2) (c_S_elementOf l D cI cL cZ X H.size a_shelves a_shelves_marks a_shelves_sizes a_shelves_elements v1 v3 c_shelves_sizes c_shelves_elements x1 hx1) (cwV 2 C.2.2.2.2.1 (gV wq_58 wq_59 wq_60 wq_20 wq_57) rfl rfl rfl (by decide +kernel) ⟨(Nat.le_of_ble_eq_true rfl), (Nat.le_of_ble_eq_true rfl)⟩) rfl rfl (kEs_call hE hS hF) rfl rfl (Nat.le_of_ble_eq_true rfl) dX4_firstHeardAlong_24 hP hD hz) rfl (by decide) ?_
    refine k_l2i C dX4_firstHeardAlong_27 ?_
    obtain ⟨x2, hx2, h⟩ := bindE h
    refine kcallR_i C (wc := (cells_D_stepOn cI cL cZ a_now a_now_stones a_now_kinds a_now_weights a_now_chances c_now_width c_now_rain c_now_ear c_now_walkers c_now_seed c_now_stones c_now_kinds c_now_weights)) (r := x2) [1, 2, 3, 4] (fun H locs ls hP hD hS hF hz => krunV C (q0 := 0) (ci := 0) (c_D_stepOn l D cI cL cZ X H.size a_now a_now_stones a_now_kinds a_now_weights a_now_chances v2 (Int64.toInt32 x1) c_now_width c_now_rain c_now_ear c_now_walkers c_now_seed c_now_stones c_now_kinds c_now_weights x2 hx2) (cwV 2 C.2.2.2.2.1 (gV wq_257 wq_258 wq_259 wq_81 wq_256) rfl rfl rfl (by decide +kernel) ⟨(Nat.le_of_ble_eq_true rfl), (Nat.le_of_ble_eq_true rfl)⟩) rfl rfl (kEs_call hE hS hF) rfl rfl (Nat.le_of_ble_eq_true rfl) dX4_firstHeardAlong_28 hP hD hz) rfl (by decide) ?_
    refine k_aload_n C dX4_firstHeardAlong_31 0 rfl rfl ?_
    refine k_get C (C0 := RX4) (T := TX4) (N := 10) (fun w h => List.mem_cons_of_mem _ (us_M w h)) 0 rfl rfl 0 (by decide) (List.mem_cons_of_mem _ wq_62) rfl rfl dX4_firstHeardAlong_32 ?_
    refine k_get C (C0 := RX0) (T := TX0) (N := 9) (fun w h => List.mem_cons_of_mem _ (us_D w h)) 1 rfl rfl 6 (by decide) (List.mem_cons_of_mem _ wq_140) rfl rfl dX4_firstHeardAlong_35 ?_
    refine k_icmp_lt C (tgt := 43) dX4_firstHeardAlong_38 (by decide) (fun c_38 => ?_) (fun c_38 => ?_)
    · have h := ifT c_38 h
      refine k_iinc C (v := (v3 + (1 : Int32))) (lv' := [(3, .int (v3 + (1 : Int32))), (0, .ref a_this), (1, .int v1), (2, .int v2)]) dX4_firstHeardAlong_43 3 rfl rfl (by decide) rfl ?_
      refine k_goto C (tgt := 2) dX4_firstHeardAlong_46 (by decide) ?_
      refine k_lv (lv' := [(0, .ref a_this), (1, .int v1), (2, .int v2), (3, .int (v3 + (1 : Int32)))]) [1, 2, 3, 0] rfl ?_
      exact kc _ (Option.some.inj h).symm
    · have h := ifF c_38 h
      refine k_lv (lv' := [(3, .int v3)]) [3] rfl ?_
      exact k0 _ (Option.some.inj h).symm
set_option maxRecDepth 100000 in
set_option maxHeartbeats 4000000 in
theorem s_M_firstHeardAlong_l2 (C : kC p l e rm_M_firstHeardAlong s m args below meth c D (tyG cI cL cZ) A 4 cX4_firstHeardAlong yX4_firstHeardAlong.cls (Cond.code yX4_firstHeardAlong cX4_firstHeardAlong 4 (some .int) :: WS) (some .int)) {X : kX} (hE : kEs X A s) {a_this : Nat} {a_now : Nat} {a_kept : Nat} {a_trial : Nat} {a_shelves : Nat} {a_tape : Nat} {a_paths : Nat} {a_sounds : Nat} {a_volumes : Nat} {a_refusals : Nat} {a_now_stones : Nat} {a_now_kinds : Nat} {a_now_weights : Nat} {a_now_chances : Nat} {a_shelves_marks : Nat} {a_shelves_sizes : Nat} {a_shelves_elements : Nat} {v1 : Int32} {v2 : Int32} {v3 : Int32} {c_isKept : Int32} {c_now_width : Int32} {c_now_rain : Int32} {c_now_ear : Int32} {c_now_walkers : Int32} {c_now_seed : Int32} {c_now_stones : (Nat → Int32)} {c_now_kinds : (Nat → Int32)} {c_now_weights : (Nat → Int32)} {c_shelves_sizes : (Nat → Int32)} {c_shelves_elements : (Nat → Int64)} {x : (Int32 ⊕ Unit)} (h : f_M_firstHeardAlong_l2 v1 v2 c_now_width c_now_rain c_now_ear c_now_stones c_now_kinds c_now_weights c_shelves_sizes c_shelves_elements v3 = some x)
    (k0 : ∀ r, x = (.inl r) → kW p l e rm_M_firstHeardAlong s m args below meth c D A 4 (cells_M_firstHeardAlong cI cL cZ a_this a_now a_kept a_trial a_shelves a_tape a_paths a_sounds a_volumes a_refusals a_now_stones a_now_kinds a_now_weights a_now_chances a_shelves_marks a_shelves_sizes a_shelves_elements c_isKept c_now_width c_now_rain c_now_ear c_now_walkers c_now_seed c_now_stones c_now_kinds c_now_weights c_shelves_sizes c_shelves_elements) [(3, .int r)] Q 41 [])
    (k1 : ∀ r, x = (.inr r) → kW p l e rm_M_firstHeardAlong s m args below meth c D A 4 (cells_M_firstHeardAlong cI cL cZ a_this a_now a_kept a_trial a_shelves a_tape a_paths a_sounds a_volumes a_refusals a_now_stones a_now_kinds a_now_weights a_now_chances a_shelves_marks a_shelves_sizes a_shelves_elements c_isKept c_now_width c_now_rain c_now_ear c_now_walkers c_now_seed c_now_stones c_now_kinds c_now_weights c_shelves_sizes c_shelves_elements) [] Q 49 []) :
    kW p l e rm_M_firstHeardAlong s m args below meth c D A 4 (cells_M_firstHeardAlong cI cL cZ a_this a_now a_kept a_trial a_shelves a_tape a_paths a_sounds a_volumes a_refusals a_now_stones a_now_kinds a_now_weights a_now_chances a_shelves_marks a_shelves_sizes a_shelves_elements c_isKept c_now_width c_now_rain c_now_ear c_now_walkers c_now_seed c_now_stones c_now_kinds c_now_weights c_shelves_sizes c_shelves_elements) [(0, .ref a_this), (1, .int v1), (2, .int v2), (3, .int v3)] Q 2 [] := by
  unfold f_M_firstHeardAlong_l2 at h
  exact iter_W (T := fun sg => kW p l e rm_M_firstHeardAlong s m args below meth c D A 4 (cells_M_firstHeardAlong cI cL cZ a_this a_now a_kept a_trial a_shelves a_tape a_paths a_sounds a_volumes a_refusals a_now_stones a_now_kinds a_now_weights a_now_chances a_shelves_marks a_shelves_sizes a_shelves_elements c_isKept c_now_width c_now_rain c_now_ear c_now_walkers c_now_seed c_now_stones c_now_kinds c_now_weights c_shelves_sizes c_shelves_elements) [(0, .ref a_this), (1, .int v1), (2, .int v2), (3, .int sg)] Q 2 []) (fun sg y hy hc _ hr => s_M_firstHeardAlong_b2 C hE hy (fun s' e => hc s' e) (fun r e => k0 r (hr _ e).symm) (fun r e => k1 r (hr _ e).symm)) FUEL _ h
set_option maxRecDepth 100000 in
set_option maxHeartbeats 4000000 in
theorem s_M_firstHeardAlong (C : kC p l e rm_M_firstHeardAlong s m args below meth c D (tyG cI cL cZ) A 4 cX4_firstHeardAlong yX4_firstHeardAlong.cls (Cond.code yX4_firstHeardAlong cX4_firstHeardAlong 4 (some .int) :: WS) (some .int)) {X : kX} (hE : kEs X A s) {a_this : Nat} {a_now : Nat} {a_kept : Nat} {a_trial : Nat} {a_shelves : Nat} {a_tape : Nat} {a_paths : Nat} {a_sounds : Nat} {a_volumes : Nat} {a_refusals : Nat} {a_now_stones : Nat} {a_now_kinds : Nat} {a_now_weights : Nat} {a_now_chances : Nat} {a_shelves_marks : Nat} {a_shelves_sizes : Nat} {a_shelves_elements : Nat} {v1 : Int32} {v2 : Int32} {c_isKept : Int32} {c_now_width : Int32} {c_now_rain : Int32} {c_now_ear : Int32} {c_now_walkers : Int32} {c_now_seed : Int32} {c_now_stones : (Nat → Int32)} {c_now_kinds : (Nat → Int32)} {c_now_weights : (Nat → Int32)} {c_shelves_sizes : (Nat → Int32)} {c_shelves_elements : (Nat → Int64)} {x : Int32} (h : f_M_firstHeardAlong v1 v2 c_now_width c_now_rain c_now_ear c_now_stones c_now_kinds c_now_weights c_shelves_sizes c_shelves_elements = some x) :
    kW p l e rm_M_firstHeardAlong s m args below meth c D A 4 (cells_M_firstHeardAlong cI cL cZ a_this a_now a_kept a_trial a_shelves a_tape a_paths a_sounds a_volumes a_refusals a_now_stones a_now_kinds a_now_weights a_now_chances a_shelves_marks a_shelves_sizes a_shelves_elements c_isKept c_now_width c_now_rain c_now_ear c_now_walkers c_now_seed c_now_stones c_now_kinds c_now_weights c_shelves_sizes c_shelves_elements) [(0, .ref a_this), (1, .int v1), (2, .int v2)] (MQ below (kQi D A (cells_M_firstHeardAlong cI cL cZ a_this a_now a_kept a_trial a_shelves a_tape a_paths a_sounds a_volumes a_refusals a_now_stones a_now_kinds a_now_weights a_now_chances a_shelves_marks a_shelves_sizes a_shelves_elements c_isKept c_now_width c_now_rain c_now_ear c_now_walkers c_now_seed c_now_stones c_now_kinds c_now_weights c_shelves_sizes c_shelves_elements) x) args s 0 0 A) 0 [] := by
  unfold f_M_firstHeardAlong at h
  refine k_iconst C (v := (0 : Int32)) dX4_firstHeardAlong_0 (by decide) ?_
  refine k_istore_n C (lv' := [(3, .int (0 : Int32)), (0, .ref a_this), (1, .int v1), (2, .int v2)]) dX4_firstHeardAlong_1 rfl (by decide) rfl ?_
  obtain ⟨x3, hx3, h⟩ := bindE h
  refine k_lv (lv' := [(0, .ref a_this), (1, .int v1), (2, .int v2), (3, .int (0 : Int32))]) [1, 2, 3, 0] rfl ?_
  refine s_M_firstHeardAlong_l2 C hE hx3 ?_ ?_
  · intro x4 ex4
    subst ex4
    have h := sumL h
    refine k_iload_n C dX4_firstHeardAlong_41 0 rfl rfl ?_
    obtain rfl := Option.some.inj h
    exact kret_i C rfl dX4_firstHeardAlong_42
  · intro x5 ex5
    subst ex5
    have h := sumR h
    refine k_iconst C (v := (-1 : Int32)) dX4_firstHeardAlong_49 (by decide) ?_
    obtain rfl := Option.some.inj h
    exact kret_i C rfl dX4_firstHeardAlong_50
theorem c_M_firstHeardAlong (l : Launch) (D : va_G) (cI : ClassId) (cL : ClassId) (cZ : ClassId) (X : kX) (sz : Nat) (a_this : Nat) (a_now : Nat) (a_kept : Nat) (a_trial : Nat) (a_shelves : Nat) (a_tape : Nat) (a_paths : Nat) (a_sounds : Nat) (a_volumes : Nat) (a_refusals : Nat) (a_now_stones : Nat) (a_now_kinds : Nat) (a_now_weights : Nat) (a_now_chances : Nat) (a_shelves_marks : Nat) (a_shelves_sizes : Nat) (a_shelves_elements : Nat) (v1 : Int32) (v2 : Int32) (c_isKept : Int32) (c_now_width : Int32) (c_now_rain : Int32) (c_now_ear : Int32) (c_now_walkers : Int32) (c_now_seed : Int32) (c_now_stones : (Nat → Int32)) (c_now_kinds : (Nat → Int32)) (c_now_weights : (Nat → Int32)) (c_shelves_sizes : (Nat → Int32)) (c_shelves_elements : (Nat → Int64)) (x : Int32) (h : f_M_firstHeardAlong v1 v2 c_now_width c_now_rain c_now_ear c_now_stones c_now_kinds c_now_weights c_shelves_sizes c_shelves_elements = some x) :
    Met l yX4_firstHeardAlong (Cond.code yX4_firstHeardAlong cX4_firstHeardAlong 4 (some .int) :: WS) rm_M_firstHeardAlong (kP D (tyG cI cL cZ) (kEs X (va_A (cells_M_firstHeardAlong cI cL cZ a_this a_now a_kept a_trial a_shelves a_tape a_paths a_sounds a_volumes a_refusals a_now_stones a_now_kinds a_now_weights a_now_chances a_shelves_marks a_shelves_sizes a_shelves_elements c_isKept c_now_width c_now_rain c_now_ear c_now_walkers c_now_seed c_now_stones c_now_kinds c_now_weights c_shelves_sizes c_shelves_elements) sz)) [.ref a_this, .int v1, .int v2] sz (cells_M_firstHeardAlong cI cL cZ a_this a_now a_kept a_trial a_shelves a_tape a_paths a_sounds a_volumes a_refusals a_now_stones a_now_kinds a_now_weights a_now_chances a_shelves_marks a_shelves_sizes a_shelves_elements c_isKept c_now_width c_now_rain c_now_ear c_now_walkers c_now_seed c_now_stones c_now_kinds c_now_weights c_shelves_sizes c_shelves_elements)) (kQi D (va_A (cells_M_firstHeardAlong cI cL cZ a_this a_now a_kept a_trial a_shelves a_tape a_paths a_sounds a_volumes a_refusals a_now_stones a_now_kinds a_now_weights a_now_chances a_shelves_marks a_shelves_sizes a_shelves_elements c_isKept c_now_width c_now_rain c_now_ear c_now_walkers c_now_seed c_now_stones c_now_kinds c_now_weights c_shelves_sizes c_shelves_elements) sz) (cells_M_firstHeardAlong cI cL cZ a_this a_now a_kept a_trial a_shelves a_tape a_paths a_sounds a_volumes a_refusals a_now_stones a_now_kinds a_now_weights a_now_chances a_shelves_marks a_shelves_sizes a_shelves_elements c_isKept c_now_width c_now_rain c_now_ear c_now_walkers c_now_seed c_now_stones c_now_kinds c_now_weights c_shelves_sizes c_shelves_elements) x) 0 0 (va_A (cells_M_firstHeardAlong cI cL cZ a_this a_now a_kept a_trial a_shelves a_tape a_paths a_sounds a_volumes a_refusals a_now_stones a_now_kinds a_now_weights a_now_chances a_shelves_marks a_shelves_sizes a_shelves_elements c_isKept c_now_width c_now_rain c_now_ear c_now_walkers c_now_seed c_now_stones c_now_kinds c_now_weights c_shelves_sizes c_shelves_elements) sz) :=
  kmet (by decide) (Nat.le_of_ble_eq_true rfl) rfl (fun p e s m below meth c C hE => s_M_firstHeardAlong C hE h)
abbrev cells_M_loud (cI : ClassId) (cL : ClassId) (cZ : ClassId) (a_this : Nat) (a_now : Nat) (a_kept : Nat) (a_trial : Nat) (a_shelves : Nat) (a_tape : Nat) (a_paths : Nat) (a_sounds : Nat) (a_volumes : Nat) (a_refusals : Nat) (a_now_stones : Nat) (a_now_kinds : Nat) (a_now_weights : Nat) (a_now_chances : Nat) (a_shelves_marks : Nat) (a_shelves_sizes : Nat) (a_shelves_elements : Nat) (c_isKept : Int32) (c_now_width : Int32) (c_now_rain : Int32) (c_now_ear : Int32) (c_now_walkers : Int32) (c_now_seed : Int32) (c_now_stones : (Nat → Int32)) (c_now_kinds : (Nat → Int32)) (c_now_weights : (Nat → Int32)) (c_shelves_marks : (Nat → Int32)) (c_shelves_sizes : (Nat → Int32)) (c_shelves_elements : (Nat → Int64)) (c_refusals : (Nat → Int32)) : va_W := [(a_this, .inr (4, [.ref a_now, .ref a_kept, .ref a_trial, .ref a_shelves, .ref a_tape, .ref a_paths, .ref a_sounds, .ref a_volumes, .ref a_refusals, .int c_isKept])), (a_now, .inr (0, [.ref a_now_stones, .ref a_now_kinds, .ref a_now_weights, .ref a_now_chances, .int c_now_width, .int c_now_rain, .int c_now_ear, .int c_now_walkers, .int c_now_seed])), (a_now_stones, .inl (cI, 36, .inl c_now_stones)), (a_now_kinds, .inl (cI, 8, .inl c_now_kinds)), (a_now_weights, .inl (cI, 8, .inl c_now_weights)), (a_shelves, .inr (2, [.ref a_shelves_marks, .ref a_shelves_sizes, .ref a_shelves_elements])), (a_shelves_marks, .inl (cI, 8, .inl c_shelves_marks)), (a_shelves_sizes, .inl (cI, 8, .inl c_shelves_sizes)), (a_shelves_elements, .inl (cL, 320, .inr (.inl c_shelves_elements))), (a_refusals, .inl (cI, 5, .inl c_refusals))]
abbrev rm_M_loud : Room := { frames := 5, cells := 0, slots := 0, locals := 128 }
set_option maxRecDepth 100000 in
set_option maxHeartbeats 4000000 in
theorem s_M_loud_j35 (C : kC p l e rm_M_loud s m args below meth c D (tyG cI cL cZ) A 6 cX4_loud yX4_loud.cls (Cond.code yX4_loud cX4_loud 6 (some .int) :: WS) (some .int)) {X : kX} (hE : kEs X A s) {a_this : Nat} {a_now : Nat} {a_kept : Nat} {a_trial : Nat} {a_shelves : Nat} {a_tape : Nat} {a_paths : Nat} {a_sounds : Nat} {a_volumes : Nat} {a_refusals : Nat} {a_now_stones : Nat} {a_now_kinds : Nat} {a_now_weights : Nat} {a_now_chances : Nat} {a_shelves_marks : Nat} {a_shelves_sizes : Nat} {a_shelves_elements : Nat} {c_isKept : Int32} {c_now_width : Int32} {c_now_rain : Int32} {c_now_ear : Int32} {c_now_walkers : Int32} {c_now_seed : Int32} {c_now_stones : (Nat → Int32)} {c_now_kinds : (Nat → Int32)} {c_now_weights : (Nat → Int32)} {c_shelves_marks : (Nat → Int32)} {c_shelves_sizes : (Nat → Int32)} {c_shelves_elements : (Nat → Int64)} {c_refusals : (Nat → Int32)} {x : (Int32 × (Nat → Int32))} (h : f_M_loud_j35 c_refusals = some x) :
    kW p l e rm_M_loud s m args below meth c D A 6 (cells_M_loud cI cL cZ a_this a_now a_kept a_trial a_shelves a_tape a_paths a_sounds a_volumes a_refusals a_now_stones a_now_kinds a_now_weights a_now_chances a_shelves_marks a_shelves_sizes a_shelves_elements c_isKept c_now_width c_now_rain c_now_ear c_now_walkers c_now_seed c_now_stones c_now_kinds c_now_weights c_shelves_marks c_shelves_sizes c_shelves_elements c_refusals) [(0, .ref a_this)] (MQ below (kQi D A (cells_M_loud cI cL cZ a_this a_now a_kept a_trial a_shelves a_tape a_paths a_sounds a_volumes a_refusals a_now_stones a_now_kinds a_now_weights a_now_chances a_shelves_marks a_shelves_sizes a_shelves_elements c_isKept c_now_width c_now_rain c_now_ear c_now_walkers c_now_seed c_now_stones c_now_kinds c_now_weights c_shelves_marks c_shelves_sizes c_shelves_elements x.2) x.1) args s 0 0 A) 35 [] := by
  unfold f_M_loud_j35 at h
  refine k_aload_n C dX4_loud_35 0 rfl rfl ?_
  refine k_bipush C (v := (-2 : Int32)) dX4_loud_36 (by decide) ?_
  obtain ⟨x2, hx2, h⟩ := bindE h
  refine kcallU_i C (wc := (cells_M_refuse cI cL cZ a_this a_now a_kept a_trial a_shelves a_tape a_paths a_sounds a_volumes a_refusals c_isKept c_refusals)) (w1 := (cells_M_refuse cI cL cZ a_this a_now a_kept a_trial a_shelves a_tape a_paths a_sounds a_volumes a_refusals c_isKept x2.2)) (ws' := (cells_M_loud cI cL cZ a_this a_now a_kept a_trial a_shelves a_tape a_paths a_sounds a_volumes a_refusals a_now_stones a_now_kinds a_now_weights a_now_chances a_shelves_marks a_shelves_sizes a_shelves_elements c_isKept c_now_width c_now_rain c_now_ear c_now_walkers c_now_seed c_now_stones c_now_kinds c_now_weights c_shelves_marks c_shelves_sizes c_shelves_elements x2.2)) (r := x2.1) [0, 9] (fun H locs ls hP hD hS hF hz => krunV C (q0 := 0) (ci := 4) (c_M_refuse l D cI cL cZ H.size a_this a_now a_kept a_trial a_shelves a_tape a_paths a_sounds a_volumes a_refusals (-2 : Int32) c_isKept c_refusals x2 hx2) (cwV 1 C.2.2.2.2.1 (gV wq_12 wq_13 wq_14 wq_3 wq_11) rfl rfl rfl (by decide +kernel) ⟨(Nat.le_of_ble_eq_true rfl), (Nat.le_of_ble_eq_true rfl)⟩) rfl rfl kEnv_T rfl rfl (Nat.le_of_ble_eq_true rfl) dX4_loud_38 hP hD hz) rfl (by decide) rfl rfl ?_
  obtain rfl := Option.some.inj h
  exact kret_i C rfl dX4_loud_41
set_option maxRecDepth 100000 in
set_option maxHeartbeats 4000000 in
theorem s_M_loud (C : kC p l e rm_M_loud s m args below meth c D (tyG cI cL cZ) A 6 cX4_loud yX4_loud.cls (Cond.code yX4_loud cX4_loud 6 (some .int) :: WS) (some .int)) {X : kX} (hE : kEs X A s) {a_this : Nat} {a_now : Nat} {a_kept : Nat} {a_trial : Nat} {a_shelves : Nat} {a_tape : Nat} {a_paths : Nat} {a_sounds : Nat} {a_volumes : Nat} {a_refusals : Nat} {a_now_stones : Nat} {a_now_kinds : Nat} {a_now_weights : Nat} {a_now_chances : Nat} {a_shelves_marks : Nat} {a_shelves_sizes : Nat} {a_shelves_elements : Nat} {v1 : Int32} {v2 : Int32} {v3 : Int32} {v4 : Int32} {c_isKept : Int32} {c_now_width : Int32} {c_now_rain : Int32} {c_now_ear : Int32} {c_now_walkers : Int32} {c_now_seed : Int32} {c_now_stones : (Nat → Int32)} {c_now_kinds : (Nat → Int32)} {c_now_weights : (Nat → Int32)} {c_shelves_marks : (Nat → Int32)} {c_shelves_sizes : (Nat → Int32)} {c_shelves_elements : (Nat → Int64)} {c_refusals : (Nat → Int32)} {x : (Int32 × (Nat → Int32))} (h : f_M_loud v1 v2 v3 v4 c_now_width c_now_rain c_now_ear c_now_walkers c_now_stones c_now_kinds c_now_weights c_shelves_marks c_shelves_sizes c_shelves_elements c_refusals = some x) :
    kW p l e rm_M_loud s m args below meth c D A 6 (cells_M_loud cI cL cZ a_this a_now a_kept a_trial a_shelves a_tape a_paths a_sounds a_volumes a_refusals a_now_stones a_now_kinds a_now_weights a_now_chances a_shelves_marks a_shelves_sizes a_shelves_elements c_isKept c_now_width c_now_rain c_now_ear c_now_walkers c_now_seed c_now_stones c_now_kinds c_now_weights c_shelves_marks c_shelves_sizes c_shelves_elements c_refusals) [(0, .ref a_this), (1, .int v1), (2, .int v2), (3, .int v3), (4, .int v4)] (MQ below (kQi D A (cells_M_loud cI cL cZ a_this a_now a_kept a_trial a_shelves a_tape a_paths a_sounds a_volumes a_refusals a_now_stones a_now_kinds a_now_weights a_now_chances a_shelves_marks a_shelves_sizes a_shelves_elements c_isKept c_now_width c_now_rain c_now_ear c_now_walkers c_now_seed c_now_stones c_now_kinds c_now_weights c_shelves_marks c_shelves_sizes c_shelves_elements x.2) x.1) args s 0 0 A) 0 [] := by
  unfold f_M_loud at h
  refine k_iload_n C dX4_loud_0 1 rfl rfl ?_
  obtain ⟨x1, hx1, h⟩ := bindE h
  refine kcallE_i C (r := x1) (fun H locs ls hP hD hS hF hz => krunS C (c_M_isShelf l D cI cL cZ H.size v1 x1 hx1) (va_cwS 1 C.2.2.2.2.1 (gS wq_10 wq_6 wq_3 wq_5) rfl rfl rfl (by decide +kernel) ⟨(Nat.le_of_ble_eq_true rfl), (Nat.le_of_ble_eq_true rfl)⟩) kEnv_T rfl rfl (Nat.le_of_ble_eq_true rfl) dX4_loud_1 hP hD hz) ?_
  refine k_if_eq C (tgt := 35) dX4_loud_4 (by decide) (fun c_4 => ?_) (fun c_4 => ?_)
  · have h := ifT c_4 h
    refine k_lv (lv' := [(0, .ref a_this)]) [0] rfl ?_
    exact s_M_loud_j35 C hE h
  · have h := ifF c_4 h
    refine k_iload_n C dX4_loud_7 2 rfl rfl ?_
    refine k_iconst C (v := (0 : Int32)) dX4_loud_8 (by decide) ?_
    refine k_bipush C (v := (40 : Int32)) dX4_loud_9 (by decide) ?_
    obtain ⟨x3, hx3, h⟩ := bindE h
    refine kcallE_i C (r := x3) (fun H locs ls hP hD hS hF hz => krunS C (c_M_isWithin l D cI cL cZ H.size v2 (0 : Int32) (40 : Int32) x3 hx3) (va_cwS 3 C.2.2.2.2.1 (gS wq_1 wq_2 wq_3 wq_0) rfl rfl rfl (by decide +kernel) ⟨(Nat.le_of_ble_eq_true rfl), (Nat.le_of_ble_eq_true rfl)⟩) kEnv_T rfl rfl (Nat.le_of_ble_eq_true rfl) dX4_loud_11 hP hD hz) ?_
    refine k_if_eq C (tgt := 35) dX4_loud_14 (by decide) (fun c_14 => ?_) (fun c_14 => ?_)
    · have h := ifT c_14 h
      refine k_lv (lv' := [(0, .ref a_this)]) [0] rfl ?_
      exact s_M_loud_j35 C hE h
    · have h := ifF c_14 h
      refine k_aload_n C dX4_loud_17 0 rfl rfl ?_
      refine k_iload_n C dX4_loud_18 3 rfl rfl ?_
      obtain ⟨x4, hx4, h⟩ := bindE h
      refine kcallR_i C (wc := (cells_M_isFeet cI cL cZ a_this a_now a_kept a_trial a_shelves a_tape a_paths a_sounds a_volumes a_refusals a_now_stones a_now_kinds a_now_weights a_now_chances c_isKept c_now_width c_now_rain c_now_ear c_now_walkers c_now_seed)) (r := x4) [0, 1] (fun H locs ls hP hD hS hF hz => krunV C (q0 := 0) (ci := 4) (c_M_isFeet l D cI cL cZ H.size a_this a_now a_kept a_trial a_shelves a_tape a_paths a_sounds a_volumes a_refusals a_now_stones a_now_kinds a_now_weights a_now_chances v3 c_isKept c_now_width c_now_rain c_now_ear c_now_walkers c_now_seed x4 hx4) (cwV 1 C.2.2.2.2.1 (gV wq_69 wq_70 wq_71 wq_3 wq_68) rfl rfl rfl (by decide +kernel) ⟨(Nat.le_of_ble_eq_true rfl), (Nat.le_of_ble_eq_true rfl)⟩) rfl rfl kEnv_T rfl rfl (Nat.le_of_ble_eq_true rfl) dX4_loud_19 hP hD hz) rfl (by decide) ?_
      refine k_if_eq C (tgt := 35) dX4_loud_22 (by decide) (fun c_22 => ?_) (fun c_22 => ?_)
      · have h := ifT c_22 h
        refine k_lv (lv' := [(0, .ref a_this)]) [0] rfl ?_
        exact s_M_loud_j35 C hE h
      · have h := ifF c_22 h
        refine k_iload C dX4_loud_25 4 rfl ?_
        refine k_iconst C (v := (0 : Int32)) dX4_loud_27 (by decide) ?_
        refine k_iconst C (v := (1 : Int32)) dX4_loud_28 (by decide) ?_
        obtain ⟨x5, hx5, h⟩ := bindE h
        refine kcallE_i C (r := x5) (fun H locs ls hP hD hS hF hz => krunS C (c_M_isWithin l D cI cL cZ H.size v4 (0 : Int32) (1 : Int32) x5 hx5) (va_cwS 3 C.2.2.2.2.1 (gS wq_1 wq_2 wq_3 wq_0) rfl rfl rfl (by decide +kernel) ⟨(Nat.le_of_ble_eq_true rfl), (Nat.le_of_ble_eq_true rfl)⟩) kEnv_T rfl rfl (Nat.le_of_ble_eq_true rfl) dX4_loud_29 hP hD hz) ?_
        refine k_if_ne C (tgt := 42) dX4_loud_32 (by decide) (fun c_32 => ?_) (fun c_32 => ?_)
        · have h := ifF c_32 h
          refine k_aload_n C dX4_loud_42 0 rfl rfl ?_
          refine k_iload_n C dX4_loud_43 1 rfl rfl ?_
          refine k_iload_n C dX4_loud_44 2 rfl rfl ?_
          obtain ⟨x6, hx6, h⟩ := bindE h
          refine kcallR_i C (wc := (cells_M_whyNoWay cI cL cZ a_this a_now a_kept a_trial a_shelves a_tape a_paths a_sounds a_volumes a_refusals a_now_stones a_now_kinds a_now_weights a_now_chances a_shelves_marks a_shelves_sizes a_shelves_elements c_isKept c_now_width c_now_rain c_now_ear c_now_walkers c_now_seed c_shelves_marks c_shelves_sizes c_shelves_elements)) (r := x6) [0, 1, 5, 6, 7, 8] (fun H locs ls hP hD hS hF hz => krunV C (q0 := 0) (ci := 4) (c_M_whyNoWay l D cI cL cZ X H.size a_this a_now a_kept a_trial a_shelves a_tape a_paths a_sounds a_volumes a_refusals a_now_stones a_now_kinds a_now_weights a_now_chances a_shelves_marks a_shelves_sizes a_shelves_elements v1 v2 c_isKept c_now_width c_now_rain c_now_ear c_now_walkers c_now_seed c_shelves_marks c_shelves_sizes c_shelves_elements x6 hx6) (cwV 2 C.2.2.2.2.1 (gV wq_499 wq_500 wq_501 wq_3 wq_498) rfl rfl rfl (by decide +kernel) ⟨(Nat.le_of_ble_eq_true rfl), (Nat.le_of_ble_eq_true rfl)⟩) rfl rfl (kEs_call hE hS hF) rfl rfl (Nat.le_of_ble_eq_true rfl) dX4_loud_45 hP hD hz) rfl (by decide) ?_
          refine k_istore C (lv' := [(5, .int x6), (0, .ref a_this), (1, .int v1), (2, .int v2), (3, .int v3), (4, .int v4)]) dX4_loud_48 (by decide) rfl ?_
          refine k_iload C dX4_loud_50 0 rfl ?_
          refine k_if_eq C (tgt := 62) dX4_loud_52 (by decide) (fun c_52 => ?_) (fun c_52 => ?_)
          · have h := ifT c_52 h
            refine k_iload C dX4_loud_62 5 rfl ?_
            refine k_if_ne C (tgt := 76) dX4_loud_64 (by decide) (fun c_64 => ?_) (fun c_64 => ?_)
            · have h := ifF c_64 h
              refine k_aload_n C dX4_loud_76 1 rfl rfl ?_
              refine k_iload_n C dX4_loud_77 2 rfl rfl ?_
              refine k_iload_n C dX4_loud_78 4 rfl rfl ?_
              obtain ⟨x7, hx7, h⟩ := bindE h
              refine kcallR_i C (wc := (cells_M_firstHeardAlong cI cL cZ a_this a_now a_kept a_trial a_shelves a_tape a_paths a_sounds a_volumes a_refusals a_now_stones a_now_kinds a_now_weights a_now_chances a_shelves_marks a_shelves_sizes a_shelves_elements c_isKept c_now_width c_now_rain c_now_ear c_now_walkers c_now_seed c_now_stones c_now_kinds c_now_weights c_shelves_sizes c_shelves_elements)) (r := x7) [0, 1, 2, 3, 4, 5, 7, 8] (fun H locs ls hP hD hS hF hz => krunV C (q0 := 0) (ci := 4) (c_M_firstHeardAlong l D cI cL cZ X H.size a_this a_now a_kept a_trial a_shelves a_tape a_paths a_sounds a_volumes a_refusals a_now_stones a_now_kinds a_now_weights a_now_chances a_shelves_marks a_shelves_sizes a_shelves_elements v1 v3 c_isKept c_now_width c_now_rain c_now_ear c_now_walkers c_now_seed c_now_stones c_now_kinds c_now_weights c_shelves_sizes c_shelves_elements x7 hx7) (cwV 2 C.2.2.2.2.1 (gV wq_503 wq_504 wq_505 wq_3 wq_502) rfl rfl rfl (by decide +kernel) ⟨(Nat.le_of_ble_eq_true rfl), (Nat.le_of_ble_eq_true rfl)⟩) rfl rfl (kEs_call hE hS hF) rfl rfl (Nat.le_of_ble_eq_true rfl) dX4_loud_79 hP hD hz) rfl (by decide) ?_
              obtain rfl := Option.some.inj h
              exact kret_i C rfl dX4_loud_82
            · have h := ifT c_64 h
              refine k_aload_n C dX4_loud_67 1 rfl rfl ?_
              refine k_iload_n C dX4_loud_68 2 rfl rfl ?_
              refine k_iload_n C dX4_loud_69 4 rfl rfl ?_
              obtain ⟨x8, hx8, h⟩ := bindE h
              refine kcallR_i C (wc := (cells_M_allAlong cI cL cZ a_this a_now a_kept a_trial a_shelves a_tape a_paths a_sounds a_volumes a_refusals a_now_stones a_now_kinds a_now_weights a_now_chances a_shelves_marks a_shelves_sizes a_shelves_elements c_isKept c_now_width c_now_rain c_now_ear c_now_walkers c_now_seed c_now_stones c_now_kinds c_now_weights c_shelves_sizes c_shelves_elements)) (r := x8) [0, 1, 2, 3, 4, 5, 7, 8] (fun H locs ls hP hD hS hF hz => krunV C (q0 := 0) (ci := 4) (c_M_allAlong l D cI cL cZ X H.size a_this a_now a_kept a_trial a_shelves a_tape a_paths a_sounds a_volumes a_refusals a_now_stones a_now_kinds a_now_weights a_now_chances a_shelves_marks a_shelves_sizes a_shelves_elements v1 v3 c_isKept c_now_width c_now_rain c_now_ear c_now_walkers c_now_seed c_now_stones c_now_kinds c_now_weights c_shelves_sizes c_shelves_elements x8 hx8) (cwV 2 C.2.2.2.2.1 (gV wq_507 wq_508 wq_509 wq_3 wq_506) rfl rfl rfl (by decide +kernel) ⟨(Nat.le_of_ble_eq_true rfl), (Nat.le_of_ble_eq_true rfl)⟩) rfl rfl (kEs_call hE hS hF) rfl rfl (Nat.le_of_ble_eq_true rfl) dX4_loud_70 hP hD hz) rfl (by decide) ?_
              refine k_goto C (tgt := 82) dX4_loud_73 (by decide) ?_
              obtain rfl := Option.some.inj h
              exact kret_i C rfl dX4_loud_82
          · have h := ifF c_52 h
            refine k_aload_n C dX4_loud_55 1 rfl rfl ?_
            refine k_iload C dX4_loud_56 0 rfl ?_
            obtain ⟨x9, hx9, h⟩ := bindE h
            refine kcallU_i C (wc := (cells_M_refuse cI cL cZ a_this a_now a_kept a_trial a_shelves a_tape a_paths a_sounds a_volumes a_refusals c_isKept c_refusals)) (w1 := (cells_M_refuse cI cL cZ a_this a_now a_kept a_trial a_shelves a_tape a_paths a_sounds a_volumes a_refusals c_isKept x9.2)) (ws' := (cells_M_loud cI cL cZ a_this a_now a_kept a_trial a_shelves a_tape a_paths a_sounds a_volumes a_refusals a_now_stones a_now_kinds a_now_weights a_now_chances a_shelves_marks a_shelves_sizes a_shelves_elements c_isKept c_now_width c_now_rain c_now_ear c_now_walkers c_now_seed c_now_stones c_now_kinds c_now_weights c_shelves_marks c_shelves_sizes c_shelves_elements x9.2)) (r := x9.1) [0, 9] (fun H locs ls hP hD hS hF hz => krunV C (q0 := 0) (ci := 4) (c_M_refuse l D cI cL cZ H.size a_this a_now a_kept a_trial a_shelves a_tape a_paths a_sounds a_volumes a_refusals x6 c_isKept c_refusals x9 hx9) (cwV 1 C.2.2.2.2.1 (gV wq_12 wq_13 wq_14 wq_3 wq_11) rfl rfl rfl (by decide +kernel) ⟨(Nat.le_of_ble_eq_true rfl), (Nat.le_of_ble_eq_true rfl)⟩) rfl rfl kEnv_T rfl rfl (Nat.le_of_ble_eq_true rfl) dX4_loud_58 hP hD hz) rfl (by decide) rfl rfl ?_
            obtain rfl := Option.some.inj h
            exact kret_i C rfl dX4_loud_61
        · have h := ifT c_32 h
          refine k_lv (lv' := [(0, .ref a_this)]) [0] rfl ?_
          exact s_M_loud_j35 C hE h

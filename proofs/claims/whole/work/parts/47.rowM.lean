variable {p : Program} {l : Launch} {e : Env} {s : State} {m : MethodId} {args : Array Value} {below : List Frame} {meth : Method} {c : Code} {D : va_G} {A : Nat → Prop} {cI cL cZ : ClassId} {Q : State → Prop}
set_option maxRecDepth 100000 in
set_option maxHeartbeats 4000000 in
theorem s_M_arrivals (C : kC p l e rm_M_arrivals s m args below meth c D (tyG cI cL cZ) A 5 cX4_arrivals yX4_arrivals.cls (Cond.code yX4_arrivals cX4_arrivals 5 (some .int) :: WS) (some .int)) {X : kX} (hE : kEs X A s) {a_this : Nat} {a_now : Nat} {a_kept : Nat} {a_trial : Nat} {a_shelves : Nat} {a_tape : Nat} {a_paths : Nat} {a_sounds : Nat} {a_volumes : Nat} {a_refusals : Nat} {a_now_stones : Nat} {a_now_kinds : Nat} {a_now_weights : Nat} {a_now_chances : Nat} {v1 : Int32} {c_isKept : Int32} {c_now_width : Int32} {c_now_rain : Int32} {c_now_ear : Int32} {c_now_walkers : Int32} {c_now_seed : Int32} {c_now_stones : (Nat → Int32)} {c_now_kinds : (Nat → Int32)} {c_now_weights : (Nat → Int32)} {c_now_chances : (Nat → Int32)} {c_sounds : (Nat → Int64)} {c_refusals : (Nat → Int32)} {x : (Int32 × Int32 × (Nat → Int64) × (Nat → Int32))} (h : f_M_arrivals v1 c_now_width c_now_rain c_now_walkers c_now_seed c_now_stones c_now_kinds c_now_weights c_now_chances c_sounds c_refusals = some x) :
    kW p l e rm_M_arrivals s m args below meth c D A 5 (cells_M_arrivals cI cL cZ a_this a_now a_kept a_trial a_shelves a_tape a_paths a_sounds a_volumes a_refusals a_now_stones a_now_kinds a_now_weights a_now_chances c_isKept c_now_width c_now_rain c_now_ear c_now_walkers c_now_seed c_now_stones c_now_kinds c_now_weights c_now_chances c_sounds c_refusals) [(0, .ref a_this), (1, .int v1)] (MQ below (kQi D A (cells_M_arrivals cI cL cZ a_this a_now a_kept a_trial a_shelves a_tape a_paths a_sounds a_volumes a_refusals a_now_stones a_now_kinds a_now_weights a_now_chances c_isKept c_now_width c_now_rain c_now_ear c_now_walkers x.2.1 c_now_stones c_now_kinds c_now_weights c_now_chances x.2.2.1 x.2.2.2) x.1) args s 0 0 A) 0 [] := by
  unfold f_M_arrivals at h
  refine k_iload_n C dX4_arrivals_0 1 rfl rfl ?_
  refine k_iconst C (v := (1 : Int32)) dX4_arrivals_1 (by decide) ?_
  refine k_bipush C (v := (60 : Int32)) dX4_arrivals_2 (by decide) ?_
  obtain ⟨x1, hx1, h⟩ := bindE h
  refine kcallE_i C (r := x1) (fun H locs ls hP hD hS hF hz => krunS C (c_M_isWithin l D cI cL cZ H.size v1 (1 : Int32) (60 : Int32) x1 hx1) (va_cwS 3 C.2.2.2.2.1 (gS wq_1 wq_2 wq_3 wq_0) rfl rfl rfl (by decide +kernel) ⟨(Nat.le_of_ble_eq_true rfl), (Nat.le_of_ble_eq_true rfl)⟩) kEnv_T rfl rfl (Nat.le_of_ble_eq_true rfl) dX4_arrivals_4 hP hD hz) ?_
  refine k_if_ne C (tgt := 17) dX4_arrivals_7 (by decide) (fun c_7 => ?_) (fun c_7 => ?_)
  · have h := ifF c_7 h
    refine k_aload_n C dX4_arrivals_17 0 rfl rfl ?_
    refine k_get C (C0 := RX4) (T := TX4) (N := 10) (fun w h => List.mem_cons_of_mem _ (us_M w h)) 0 rfl rfl 0 (by decide) (List.mem_cons_of_mem _ wq_67) rfl rfl dX4_arrivals_18 ?_
    obtain ⟨x2, hx2, h⟩ := bindE h
    refine kcallR_i C (wc := (cells_D_count cI cL cZ a_now a_now_stones a_now_kinds a_now_weights a_now_chances c_now_width c_now_rain c_now_ear c_now_walkers c_now_seed)) (r := x2) [1] (fun H locs ls hP hD hS hF hz => krunV C (q0 := 0) (ci := 0) (c_D_count l D cI cL cZ H.size a_now a_now_stones a_now_kinds a_now_weights a_now_chances c_now_width c_now_rain c_now_ear c_now_walkers c_now_seed x2 hx2) (cwV 0 C.2.2.2.2.1 (gV wq_69 wq_70 wq_71 wq_72 wq_68) rfl rfl rfl (by decide +kernel) ⟨(Nat.le_of_ble_eq_true rfl), (Nat.le_of_ble_eq_true rfl)⟩) rfl rfl kEnv_T rfl rfl (Nat.le_of_ble_eq_true rfl) dX4_arrivals_21 hP hD hz) rfl (by decide) ?_
    refine k_if_ne C (tgt := 34) dX4_arrivals_24 (by decide) (fun c_24 => ?_) (fun c_24 => ?_)
    · have h := ifF c_24 h
      refine k_iconst C (v := (0 : Int32)) dX4_arrivals_34 (by decide) ?_
      refine k_istore_n C (lv' := [(2, .int (0 : Int32)), (0, .ref a_this), (1, .int v1)]) dX4_arrivals_35 rfl (by decide) rfl ?_
      refine k_iconst C (v := (0 : Int32)) dX4_arrivals_36 (by decide) ?_
      refine k_istore_n C (lv' := [(3, .int (0 : Int32)), (2, .int (0 : Int32)), (0, .ref a_this), (1, .int v1)]) dX4_arrivals_37 rfl (by decide) rfl ?_
      obtain ⟨x8, hx8, h⟩ := bindE h
      refine k_lv (lv' := [(0, .ref a_this), (1, .int v1), (2, .int (0 : Int32)), (3, .int (0 : Int32))]) [2, 3, 1, 0] rfl ?_
      refine s_M_arrivals_l38 C hE hx8 ?_
      refine k_iload_n C dX4_arrivals_101 0 rfl rfl ?_
      obtain rfl := Option.some.inj h
      exact kret_i C rfl dX4_arrivals_102
    · have h := ifT c_24 h
      refine k_aload_n C dX4_arrivals_27 0 rfl rfl ?_
      refine k_bipush C (v := (-5 : Int32)) dX4_arrivals_28 (by decide) ?_
      obtain ⟨x9, hx9, h⟩ := bindE h
      refine kcallU_i C (wc := (cells_M_refuse cI cL cZ a_this a_now a_kept a_trial a_shelves a_tape a_paths a_sounds a_volumes a_refusals c_isKept c_refusals)) (w1 := (cells_M_refuse cI cL cZ a_this a_now a_kept a_trial a_shelves a_tape a_paths a_sounds a_volumes a_refusals c_isKept x9.2)) (ws' := (cells_M_arrivals cI cL cZ a_this a_now a_kept a_trial a_shelves a_tape a_paths a_sounds a_volumes a_refusals a_now_stones a_now_kinds a_now_weights a_now_chances c_isKept c_now_width c_now_rain c_now_ear c_now_walkers c_now_seed c_now_stones c_now_kinds c_now_weights c_now_chances c_sounds x9.2)) (r := x9.1) [0, 7] (fun H locs ls hP hD hS hF hz => krunV C (q0 := 0) (ci := 4) (c_M_refuse l D cI cL cZ H.size a_this a_now a_kept a_trial a_shelves a_tape a_paths a_sounds a_volumes a_refusals (-5 : Int32) c_isKept c_refusals x9 hx9) (cwV 1 C.2.2.2.2.1 (gV wq_12 wq_13 wq_14 wq_3 wq_11) rfl rfl rfl (by decide +kernel) ⟨(Nat.le_of_ble_eq_true rfl), (Nat.le_of_ble_eq_true rfl)⟩) rfl rfl kEnv_T rfl rfl (Nat.le_of_ble_eq_true rfl) dX4_arrivals_30 hP hD hz) rfl (by decide) rfl rfl ?_
      obtain rfl := Option.some.inj h
      exact kret_i C rfl dX4_arrivals_33
  · have h := ifT c_7 h
    refine k_aload_n C dX4_arrivals_10 0 rfl rfl ?_
    refine k_bipush C (v := (-2 : Int32)) dX4_arrivals_11 (by decide) ?_
    obtain ⟨x10, hx10, h⟩ := bindE h
    refine kcallU_i C (wc := (cells_M_refuse cI cL cZ a_this a_now a_kept a_trial a_shelves a_tape a_paths a_sounds a_volumes a_refusals c_isKept c_refusals)) (w1 := (cells_M_refuse cI cL cZ a_this a_now a_kept a_trial a_shelves a_tape a_paths a_sounds a_volumes a_refusals c_isKept x10.2)) (ws' := (cells_M_arrivals cI cL cZ a_this a_now a_kept a_trial a_shelves a_tape a_paths a_sounds a_volumes a_refusals a_now_stones a_now_kinds a_now_weights a_now_chances c_isKept c_now_width c_now_rain c_now_ear c_now_walkers c_now_seed c_now_stones c_now_kinds c_now_weights c_now_chances c_sounds x10.2)) (r := x10.1) [0, 7] (fun H locs ls hP hD hS hF hz => krunV C (q0 := 0) (ci := 4) (c_M_refuse l D cI cL cZ H.size a_this a_now a_kept a_trial a_shelves a_tape a_paths a_sounds a_volumes a_refusals (-2 : Int32) c_isKept c_refusals x10 hx10) (cwV 1 C.2.2.2.2.1 (gV wq_12 wq_13 wq_14 wq_3 wq_11) rfl rfl rfl (by decide +kernel) ⟨(Nat.le_of_ble_eq_true rfl), (Nat.le_of_ble_eq_true rfl)⟩) rfl rfl kEnv_T rfl rfl (Nat.le_of_ble_eq_true rfl) dX4_arrivals_13 hP hD hz) rfl (by decide) rfl rfl ?_
    obtain rfl := Option.some.inj h
    exact kret_i C rfl dX4_arrivals_16
theorem c_M_arrivals (l : Launch) (D : va_G) (cI : ClassId) (cL : ClassId) (cZ : ClassId) (X : kX) (sz : Nat) (a_this : Nat) (a_now : Nat) (a_kept : Nat) (a_trial : Nat) (a_shelves : Nat) (a_tape : Nat) (a_paths : Nat) (a_sounds : Nat) (a_volumes : Nat) (a_refusals : Nat) (a_now_stones : Nat) (a_now_kinds : Nat) (a_now_weights : Nat) (a_now_chances : Nat) (v1 : Int32) (c_isKept : Int32) (c_now_width : Int32) (c_now_rain : Int32) (c_now_ear : Int32) (c_now_walkers : Int32) (c_now_seed : Int32) (c_now_stones : (Nat → Int32)) (c_now_kinds : (Nat → Int32)) (c_now_weights : (Nat → Int32)) (c_now_chances : (Nat → Int32)) (c_sounds : (Nat → Int64)) (c_refusals : (Nat → Int32)) (x : (Int32 × Int32 × (Nat → Int64) × (Nat → Int32))) (h : f_M_arrivals v1 c_now_width c_now_rain c_now_walkers c_now_seed c_now_stones c_now_kinds c_now_weights c_now_chances c_sounds c_refusals = some x) :
    Met l yX4_arrivals (Cond.code yX4_arrivals cX4_arrivals 5 (some .int) :: WS) rm_M_arrivals (kP D (tyG cI cL cZ) (kEs X (va_A (cells_M_arrivals cI cL cZ a_this a_now a_kept a_trial a_shelves a_tape a_paths a_sounds a_volumes a_refusals a_now_stones a_now_kinds a_now_weights a_now_chances c_isKept c_now_width c_now_rain c_now_ear c_now_walkers c_now_seed c_now_stones c_now_kinds c_now_weights c_now_chances c_sounds c_refusals) sz)) [.ref a_this, .int v1] sz (cells_M_arrivals cI cL cZ a_this a_now a_kept a_trial a_shelves a_tape a_paths a_sounds a_volumes a_refusals a_now_stones a_now_kinds a_now_weights a_now_chances c_isKept c_now_width c_now_rain c_now_ear c_now_walkers c_now_seed c_now_stones c_now_kinds c_now_weights c_now_chances c_sounds c_refusals)) (kQi D (va_A (cells_M_arrivals cI cL cZ a_this a_now a_kept a_trial a_shelves a_tape a_paths a_sounds a_volumes a_refusals a_now_stones a_now_kinds a_now_weights a_now_chances c_isKept c_now_width c_now_rain c_now_ear c_now_walkers c_now_seed c_now_stones c_now_kinds c_now_weights c_now_chances c_sounds c_refusals) sz) (cells_M_arrivals cI cL cZ a_this a_now a_kept a_trial a_shelves a_tape a_paths a_sounds a_volumes a_refusals a_now_stones a_now_kinds a_now_weights a_now_chances c_isKept c_now_width c_now_rain c_now_ear c_now_walkers x.2.1 c_now_stones c_now_kinds c_now_weights c_now_chances x.2.2.1 x.2.2.2) x.1) 0 0 (va_A (cells_M_arrivals cI cL cZ a_this a_now a_kept a_trial a_shelves a_tape a_paths a_sounds a_volumes a_refusals a_now_stones a_now_kinds a_now_weights a_now_chances c_isKept c_now_width c_now_rain c_now_ear c_now_walkers c_now_seed c_now_stones c_now_kinds c_now_weights c_now_chances c_sounds c_refusals) sz) :=
  kmet (by decide) (Nat.le_of_ble_eq_true rfl) rfl (fun p e s m below meth c C hE => s_M_arrivals C hE h)
abbrev cells_M_seed (cI : ClassId) (cL : ClassId) (cZ : ClassId) (a_this : Nat) (a_now : Nat) (a_kept : Nat) (a_trial : Nat) (a_shelves : Nat) (a_tape : Nat) (a_paths : Nat) (a_sounds : Nat) (a_volumes : Nat) (a_refusals : Nat) (a_now_stones : Nat) (a_now_kinds : Nat) (a_now_weights : Nat) (a_now_chances : Nat) (c_isKept : Int32) (c_now_width : Int32) (c_now_rain : Int32) (c_now_ear : Int32) (c_now_walkers : Int32) (c_now_seed : Int32) : va_W := [(a_this, .inr (4, [.ref a_now, .ref a_kept, .ref a_trial, .ref a_shelves, .ref a_tape, .ref a_paths, .ref a_sounds, .ref a_volumes, .ref a_refusals, .int c_isKept])), (a_now, .inr (0, [.ref a_now_stones, .ref a_now_kinds, .ref a_now_weights, .ref a_now_chances, .int c_now_width, .int c_now_rain, .int c_now_ear, .int c_now_walkers, .int c_now_seed]))]
abbrev rm_M_seed : Room := { frames := 0, cells := 0, slots := 0, locals := 0 }
set_option maxRecDepth 100000 in
set_option maxHeartbeats 4000000 in
theorem s_M_seed (C : kC p l e rm_M_seed s m args below meth c D (tyG cI cL cZ) A 3 cX4_seed yX4_seed.cls (Cond.code yX4_seed cX4_seed 3 (some .int) :: WS) (some .int)) {a_this : Nat} {a_now : Nat} {a_kept : Nat} {a_trial : Nat} {a_shelves : Nat} {a_tape : Nat} {a_paths : Nat} {a_sounds : Nat} {a_volumes : Nat} {a_refusals : Nat} {a_now_stones : Nat} {a_now_kinds : Nat} {a_now_weights : Nat} {a_now_chances : Nat} {v1 : Int32} {c_isKept : Int32} {c_now_width : Int32} {c_now_rain : Int32} {c_now_ear : Int32} {c_now_walkers : Int32} {c_now_seed : Int32} {x : (Int32 × Int32)} (h : f_M_seed v1 c_now_seed = some x) :
    kW p l e rm_M_seed s m args below meth c D A 3 (cells_M_seed cI cL cZ a_this a_now a_kept a_trial a_shelves a_tape a_paths a_sounds a_volumes a_refusals a_now_stones a_now_kinds a_now_weights a_now_chances c_isKept c_now_width c_now_rain c_now_ear c_now_walkers c_now_seed) [(0, .ref a_this), (1, .int v1)] (MQ below (kQi D A (cells_M_seed cI cL cZ a_this a_now a_kept a_trial a_shelves a_tape a_paths a_sounds a_volumes a_refusals a_now_stones a_now_kinds a_now_weights a_now_chances c_isKept c_now_width c_now_rain c_now_ear c_now_walkers x.2) x.1) args s 0 0 A) 0 [] := by
  unfold f_M_seed at h
  refine k_aload_n C dX4_seed_0 0 rfl rfl ?_
  refine k_get C (C0 := RX4) (T := TX4) (N := 10) (fun w h => List.mem_cons_of_mem _ (us_M w h)) 0 rfl rfl 0 (by decide) (List.mem_cons_of_mem _ wq_67) rfl rfl dX4_seed_1 ?_
  refine k_get C (C0 := RX0) (T := TX0) (N := 9) (fun w h => List.mem_cons_of_mem _ (us_D w h)) 1 rfl rfl 8 (by decide) (List.mem_cons_of_mem _ wq_534) rfl rfl dX4_seed_4 ?_
  refine k_istore_n C (lv' := [(2, .int c_now_seed), (0, .ref a_this), (1, .int v1)]) dX4_seed_7 rfl (by decide) rfl ?_
  refine k_aload_n C dX4_seed_8 1 rfl rfl ?_
  refine k_get C (C0 := RX4) (T := TX4) (N := 10) (fun w h => List.mem_cons_of_mem _ (us_M w h)) 0 rfl rfl 0 (by decide) (List.mem_cons_of_mem _ wq_67) rfl rfl dX4_seed_9 ?_
  refine k_iload_n C dX4_seed_12 2 rfl rfl ?_
  refine k_put C (C0 := RX0) (T := TX0) (N := 9) (ws' := (cells_M_seed cI cL cZ a_this a_now a_kept a_trial a_shelves a_tape a_paths a_sounds a_volumes a_refusals a_now_stones a_now_kinds a_now_weights a_now_chances c_isKept c_now_width c_now_rain c_now_ear c_now_walkers v1)) (fun w h => List.mem_cons_of_mem _ (us_D w h)) tyX0 tyX0_ok nmX0 1 rfl rfl 8 (by decide) (List.mem_cons_of_mem _ wq_534) rfl rfl (tyX0_ok 8 (by decide)) rfl rfl (Nat.le_of_ble_eq_true rfl) rfl dX4_seed_13 ?_
  refine k_iload_n C dX4_seed_16 0 rfl rfl ?_
  obtain rfl := Option.some.inj h
  exact kret_i C rfl dX4_seed_17
theorem c_M_seed (l : Launch) (D : va_G) (cI : ClassId) (cL : ClassId) (cZ : ClassId) (sz : Nat) (a_this : Nat) (a_now : Nat) (a_kept : Nat) (a_trial : Nat) (a_shelves : Nat) (a_tape : Nat) (a_paths : Nat) (a_sounds : Nat) (a_volumes : Nat) (a_refusals : Nat) (a_now_stones : Nat) (a_now_kinds : Nat) (a_now_weights : Nat) (a_now_chances : Nat) (v1 : Int32) (c_isKept : Int32) (c_now_width : Int32) (c_now_rain : Int32) (c_now_ear : Int32) (c_now_walkers : Int32) (c_now_seed : Int32) (x : (Int32 × Int32)) (h : f_M_seed v1 c_now_seed = some x) :
    Met l yX4_seed (Cond.code yX4_seed cX4_seed 3 (some .int) :: WS) rm_M_seed (kP D (tyG cI cL cZ) kTrue [.ref a_this, .int v1] sz (cells_M_seed cI cL cZ a_this a_now a_kept a_trial a_shelves a_tape a_paths a_sounds a_volumes a_refusals a_now_stones a_now_kinds a_now_weights a_now_chances c_isKept c_now_width c_now_rain c_now_ear c_now_walkers c_now_seed)) (kQi D (va_A (cells_M_seed cI cL cZ a_this a_now a_kept a_trial a_shelves a_tape a_paths a_sounds a_volumes a_refusals a_now_stones a_now_kinds a_now_weights a_now_chances c_isKept c_now_width c_now_rain c_now_ear c_now_walkers c_now_seed) sz) (cells_M_seed cI cL cZ a_this a_now a_kept a_trial a_shelves a_tape a_paths a_sounds a_volumes a_refusals a_now_stones a_now_kinds a_now_weights a_now_chances c_isKept c_now_width c_now_rain c_now_ear c_now_walkers x.2) x.1) 0 0 (va_A (cells_M_seed cI cL cZ a_this a_now a_kept a_trial a_shelves a_tape a_paths a_sounds a_volumes a_refusals a_now_stones a_now_kinds a_now_weights a_now_chances c_isKept c_now_width c_now_rain c_now_ear c_now_walkers c_now_seed) sz) :=
  kmet (by decide) (Nat.le_of_ble_eq_true rfl) rfl (fun p e s m below meth c C hE => s_M_seed C h)
abbrev cells_M_image (cI : ClassId) (cL : ClassId) (cZ : ClassId) (a_this : Nat) (a_now : Nat) (a_kept : Nat) (a_trial : Nat) (a_shelves : Nat) (a_tape : Nat) (a_paths : Nat) (a_sounds : Nat) (a_volumes : Nat) (a_refusals : Nat) (a_now_stones : Nat) (a_now_kinds : Nat) (a_now_weights : Nat) (a_now_chances : Nat) (a_kept_stones : Nat) (a_kept_kinds : Nat) (a_kept_weights : Nat) (a_kept_chances : Nat) (c_isKept : Int32) (c_now_width : Int32) (c_now_rain : Int32) (c_now_ear : Int32) (c_now_walkers : Int32) (c_now_seed : Int32) (c_now_stones : (Nat → Int32)) (c_now_kinds : (Nat → Int32)) (c_now_weights : (Nat → Int32)) (c_now_chances : (Nat → Int32)) (c_kept_width : Int32) (c_kept_rain : Int32) (c_kept_ear : Int32) (c_kept_walkers : Int32) (c_kept_seed : Int32) (c_kept_stones : (Nat → Int32)) (c_kept_kinds : (Nat → Int32)) (c_kept_weights : (Nat → Int32)) (c_kept_chances : (Nat → Int32)) : va_W := [(a_this, .inr (4, [.ref a_now, .ref a_kept, .ref a_trial, .ref a_shelves, .ref a_tape, .ref a_paths, .ref a_sounds, .ref a_volumes, .ref a_refusals, .int c_isKept])), (a_now, .inr (0, [.ref a_now_stones, .ref a_now_kinds, .ref a_now_weights, .ref a_now_chances, .int c_now_width, .int c_now_rain, .int c_now_ear, .int c_now_walkers, .int c_now_seed])), (a_now_stones, .inl (cI, 36, .inl c_now_stones)), (a_now_kinds, .inl (cI, 8, .inl c_now_kinds)), (a_now_weights, .inl (cI, 8, .inl c_now_weights)), (a_now_chances, .inl (cI, 8, .inl c_now_chances)), (a_kept, .inr (0, [.ref a_kept_stones, .ref a_kept_kinds, .ref a_kept_weights, .ref a_kept_chances, .int c_kept_width, .int c_kept_rain, .int c_kept_ear, .int c_kept_walkers, .int c_kept_seed])), (a_kept_stones, .inl (cI, 36, .inl c_kept_stones)), (a_kept_kinds, .inl (cI, 8, .inl c_kept_kinds)), (a_kept_weights, .inl (cI, 8, .inl c_kept_weights)), (a_kept_chances, .inl (cI, 8, .inl c_kept_chances))]
abbrev rm_M_image : Room := { frames := 2, cells := 0, slots := 0, locals := 61 }
set_option maxRecDepth 100000 in
set_option maxHeartbeats 4000000 in
theorem s_M_image (C : kC p l e rm_M_image s m args below meth c D (tyG cI cL cZ) A 1 cX4_image yX4_image.cls (Cond.code yX4_image cX4_image 1 (some .int) :: WS) (some .int)) {a_this : Nat} {a_now : Nat} {a_kept : Nat} {a_trial : Nat} {a_shelves : Nat} {a_tape : Nat} {a_paths : Nat} {a_sounds : Nat} {a_volumes : Nat} {a_refusals : Nat} {a_now_stones : Nat} {a_now_kinds : Nat} {a_now_weights : Nat} {a_now_chances : Nat} {a_kept_stones : Nat} {a_kept_kinds : Nat} {a_kept_weights : Nat} {a_kept_chances : Nat} {c_isKept : Int32} {c_now_width : Int32} {c_now_rain : Int32} {c_now_ear : Int32} {c_now_walkers : Int32} {c_now_seed : Int32} {c_now_stones : (Nat → Int32)} {c_now_kinds : (Nat → Int32)} {c_now_weights : (Nat → Int32)} {c_now_chances : (Nat → Int32)} {c_kept_width : Int32} {c_kept_rain : Int32} {c_kept_ear : Int32} {c_kept_walkers : Int32} {c_kept_seed : Int32} {c_kept_stones : (Nat → Int32)} {c_kept_kinds : (Nat → Int32)} {c_kept_weights : (Nat → Int32)} {c_kept_chances : (Nat → Int32)} {x : (Int32 × Int32 × Int32 × Int32 × Int32 × Int32 × Int32 × (Nat → Int32) × (Nat → Int32) × (Nat → Int32) × (Nat → Int32))} (h : f_M_image c_isKept c_now_width c_now_rain c_now_ear c_now_walkers c_now_seed c_now_stones c_now_kinds c_now_weights c_now_chances c_kept_width c_kept_rain c_kept_ear c_kept_walkers c_kept_seed c_kept_stones c_kept_kinds c_kept_weights c_kept_chances = some x) :
    kW p l e rm_M_image s m args below meth c D A 1 (cells_M_image cI cL cZ a_this a_now a_kept a_trial a_shelves a_tape a_paths a_sounds a_volumes a_refusals a_now_stones a_now_kinds a_now_weights a_now_chances a_kept_stones a_kept_kinds a_kept_weights a_kept_chances c_isKept c_now_width c_now_rain c_now_ear c_now_walkers c_now_seed c_now_stones c_now_kinds c_now_weights c_now_chances c_kept_width c_kept_rain c_kept_ear c_kept_walkers c_kept_seed c_kept_stones c_kept_kinds c_kept_weights c_kept_chances) [(0, .ref a_this)] (MQ below (kQi D A (cells_M_image cI cL cZ a_this a_now a_kept a_trial a_shelves a_tape a_paths a_sounds a_volumes a_refusals a_now_stones a_now_kinds a_now_weights a_now_chances a_kept_stones a_kept_kinds a_kept_weights a_kept_chances x.2.1 c_now_width c_now_rain c_now_ear c_now_walkers c_now_seed c_now_stones c_now_kinds c_now_weights c_now_chances x.2.2.1 x.2.2.2.1 x.2.2.2.2.1 x.2.2.2.2.2.1 x.2.2.2.2.2.2.1 x.2.2.2.2.2.2.2.1 x.2.2.2.2.2.2.2.2.1 x.2.2.2.2.2.2.2.2.2.1 x.2.2.2.2.2.2.2.2.2.2) x.1) args s 0 0 A) 0 [] := by
  unfold f_M_image at h
  refine k_aload_n C dX4_image_0 0 rfl rfl ?_
  refine k_get C (C0 := RX4) (T := TX4) (N := 10) (fun w h => List.mem_cons_of_mem _ (us_M w h)) 0 rfl rfl 1 (by decide) (List.mem_cons_of_mem _ wq_535) rfl rfl dX4_image_1 ?_
  refine k_aload_n C dX4_image_4 0 rfl rfl ?_
  refine k_get C (C0 := RX4) (T := TX4) (N := 10) (fun w h => List.mem_cons_of_mem _ (us_M w h)) 0 rfl rfl 0 (by decide) (List.mem_cons_of_mem _ wq_67) rfl rfl dX4_image_5 ?_
  obtain ⟨x1, hx1, h⟩ := bindE h
  refine kcallU_v C (wc := (cells_D_takeFrom cI cL cZ a_kept a_kept_stones a_kept_kinds a_kept_weights a_kept_chances a_now a_now_stones a_now_kinds a_now_weights a_now_chances c_kept_width c_kept_rain c_kept_ear c_kept_walkers c_kept_seed c_kept_stones c_kept_kinds c_kept_weights c_kept_chances c_now_width c_now_rain c_now_ear c_now_walkers c_now_seed c_now_stones c_now_kinds c_now_weights c_now_chances)) (w1 := (cells_D_takeFrom cI cL cZ a_kept a_kept_stones a_kept_kinds a_kept_weights a_kept_chances a_now a_now_stones a_now_kinds a_now_weights a_now_chances x1.1 x1.2.1 x1.2.2.1 x1.2.2.2.1 x1.2.2.2.2.1 x1.2.2.2.2.2.1 x1.2.2.2.2.2.2.1 x1.2.2.2.2.2.2.2.1 x1.2.2.2.2.2.2.2.2 c_now_width c_now_rain c_now_ear c_now_walkers c_now_seed c_now_stones c_now_kinds c_now_weights c_now_chances)) (ws' := (cells_M_image cI cL cZ a_this a_now a_kept a_trial a_shelves a_tape a_paths a_sounds a_volumes a_refusals a_now_stones a_now_kinds a_now_weights a_now_chances a_kept_stones a_kept_kinds a_kept_weights a_kept_chances c_isKept c_now_width c_now_rain c_now_ear c_now_walkers c_now_seed c_now_stones c_now_kinds c_now_weights c_now_chances x1.1 x1.2.1 x1.2.2.1 x1.2.2.2.1 x1.2.2.2.2.1 x1.2.2.2.2.2.1 x1.2.2.2.2.2.2.1 x1.2.2.2.2.2.2.2.1 x1.2.2.2.2.2.2.2.2)) [6, 7, 8, 9, 10, 1, 2, 3, 4, 5] (fun H locs ls hP hD hS hF hz => krunV C (q0 := 0) (ci := 0) (c_D_takeFrom l D cI cL cZ H.size a_kept a_kept_stones a_kept_kinds a_kept_weights a_kept_chances a_now a_now_stones a_now_kinds a_now_weights a_now_chances c_kept_width c_kept_rain c_kept_ear c_kept_walkers c_kept_seed c_kept_stones c_kept_kinds c_kept_weights c_kept_chances c_now_width c_now_rain c_now_ear c_now_walkers c_now_seed c_now_stones c_now_kinds c_now_weights c_now_chances x1 hx1) (cwV 1 C.2.2.2.2.1 (gV wq_243 wq_244 wq_245 wq_72 wq_242) rfl rfl rfl (by decide +kernel) ⟨(Nat.le_of_ble_eq_true rfl), (Nat.le_of_ble_eq_true rfl)⟩) rfl rfl kEnv_T rfl rfl (Nat.le_of_ble_eq_true rfl) dX4_image_8 hP hD hz) rfl (by decide) rfl rfl ?_
  refine k_aload_n C dX4_image_11 0 rfl rfl ?_
  refine k_iconst C (v := (1 : Int32)) dX4_image_12 (by decide) ?_
  refine k_put C (C0 := RX4) (T := TX4) (N := 10) (ws' := (cells_M_image cI cL cZ a_this a_now a_kept a_trial a_shelves a_tape a_paths a_sounds a_volumes a_refusals a_now_stones a_now_kinds a_now_weights a_now_chances a_kept_stones a_kept_kinds a_kept_weights a_kept_chances (1 : Int32) c_now_width c_now_rain c_now_ear c_now_walkers c_now_seed c_now_stones c_now_kinds c_now_weights c_now_chances x1.1 x1.2.1 x1.2.2.1 x1.2.2.2.1 x1.2.2.2.2.1 x1.2.2.2.2.2.1 x1.2.2.2.2.2.2.1 x1.2.2.2.2.2.2.2.1 x1.2.2.2.2.2.2.2.2)) (fun w h => List.mem_cons_of_mem _ (us_M w h)) tyX4 tyX4_ok nmX4 0 rfl rfl 9 (by decide) (List.mem_cons_of_mem _ wq_536) rfl rfl (tyX4_ok 9 (by decide)) rfl rfl (Nat.le_of_ble_eq_true rfl) rfl dX4_image_13 ?_
  refine k_iconst C (v := (1 : Int32)) dX4_image_16 (by decide) ?_
  obtain rfl := Option.some.inj h
  exact kret_i C rfl dX4_image_17
theorem c_M_image (l : Launch) (D : va_G) (cI : ClassId) (cL : ClassId) (cZ : ClassId) (sz : Nat) (a_this : Nat) (a_now : Nat) (a_kept : Nat) (a_trial : Nat) (a_shelves : Nat) (a_tape : Nat) (a_paths : Nat) (a_sounds : Nat) (a_volumes : Nat) (a_refusals : Nat) (a_now_stones : Nat) (a_now_kinds : Nat) (a_now_weights : Nat) (a_now_chances : Nat) (a_kept_stones : Nat) (a_kept_kinds : Nat) (a_kept_weights : Nat) (a_kept_chances : Nat) (c_isKept : Int32) (c_now_width : Int32) (c_now_rain : Int32) (c_now_ear : Int32) (c_now_walkers : Int32) (c_now_seed : Int32) (c_now_stones : (Nat → Int32)) (c_now_kinds : (Nat → Int32)) (c_now_weights : (Nat → Int32)) (c_now_chances : (Nat → Int32)) (c_kept_width : Int32) (c_kept_rain : Int32) (c_kept_ear : Int32) (c_kept_walkers : Int32) (c_kept_seed : Int32) (c_kept_stones : (Nat → Int32)) (c_kept_kinds : (Nat → Int32)) (c_kept_weights : (Nat → Int32)) (c_kept_chances : (Nat → Int32)) (x : (Int32 × Int32 × Int32 × Int32 × Int32 × Int32 × Int32 × (Nat → Int32) × (Nat → Int32) × (Nat → Int32) × (Nat → Int32))) (h : f_M_image c_isKept c_now_width c_now_rain c_now_ear c_now_walkers c_now_seed c_now_stones c_now_kinds c_now_weights c_now_chances c_kept_width c_kept_rain c_kept_ear c_kept_walkers c_kept_seed c_kept_stones c_kept_kinds c_kept_weights c_kept_chances = some x) :
    Met l yX4_image (Cond.code yX4_image cX4_image 1 (some .int) :: WS) rm_M_image (kP D (tyG cI cL cZ) kTrue [.ref a_this] sz (cells_M_image cI cL cZ a_this a_now a_kept a_trial a_shelves a_tape a_paths a_sounds a_volumes a_refusals a_now_stones a_now_kinds a_now_weights a_now_chances a_kept_stones a_kept_kinds a_kept_weights a_kept_chances c_isKept c_now_width c_now_rain c_now_ear c_now_walkers c_now_seed c_now_stones c_now_kinds c_now_weights c_now_chances c_kept_width c_kept_rain c_kept_ear c_kept_walkers c_kept_seed c_kept_stones c_kept_kinds c_kept_weights c_kept_chances)) (kQi D (va_A (cells_M_image cI cL cZ a_this a_now a_kept a_trial a_shelves a_tape a_paths a_sounds a_volumes a_refusals a_now_stones a_now_kinds a_now_weights a_now_chances a_kept_stones a_kept_kinds a_kept_weights a_kept_chances c_isKept c_now_width c_now_rain c_now_ear c_now_walkers c_now_seed c_now_stones c_now_kinds c_now_weights c_now_chances c_kept_width c_kept_rain c_kept_ear c_kept_walkers c_kept_seed c_kept_stones c_kept_kinds c_kept_weights c_kept_chances) sz) (cells_M_image cI cL cZ a_this a_now a_kept a_trial a_shelves a_tape a_paths a_sounds a_volumes a_refusals a_now_stones a_now_kinds a_now_weights a_now_chances a_kept_stones a_kept_kinds a_kept_weights a_kept_chances x.2.1 c_now_width c_now_rain c_now_ear c_now_walkers c_now_seed c_now_stones c_now_kinds c_now_weights c_now_chances x.2.2.1 x.2.2.2.1 x.2.2.2.2.1 x.2.2.2.2.2.1 x.2.2.2.2.2.2.1 x.2.2.2.2.2.2.2.1 x.2.2.2.2.2.2.2.2.1 x.2.2.2.2.2.2.2.2.2.1 x.2.2.2.2.2.2.2.2.2.2) x.1) 0 0 (va_A (cells_M_image cI cL cZ a_this a_now a_kept a_trial a_shelves a_tape a_paths a_sounds a_volumes a_refusals a_now_stones a_now_kinds a_now_weights a_now_chances a_kept_stones a_kept_kinds a_kept_weights a_kept_chances c_isKept c_now_width c_now_rain c_now_ear c_now_walkers c_now_seed c_now_stones c_now_kinds c_now_weights c_now_chances c_kept_width c_kept_rain c_kept_ear c_kept_walkers c_kept_seed c_kept_stones c_kept_kinds c_kept_weights c_kept_chances) sz) :=
  kmet (by decide) (Nat.le_of_ble_eq_true rfl) rfl (fun p e s m below meth c C hE => s_M_image C h)
abbrev cells_S_dropFeetFrom (cI : ClassId) (cL : ClassId) (cZ : ClassId) (a_this : Nat) (a_marks : Nat) (a_sizes : Nat) (a_elements : Nat) (c_marks : (Nat → Int32)) : va_W := [(a_this, .inr (2, [.ref a_marks, .ref a_sizes, .ref a_elements])), (a_marks, .inl (cI, 8, .inl c_marks))]
abbrev rm_S_dropFeetFrom : Room := { frames := 0, cells := 0, slots := 0, locals := 0 }
set_option maxRecDepth 100000 in
set_option maxHeartbeats 4000000 in
theorem s_S_dropFeetFrom_b2 (C : kC p l e rm_S_dropFeetFrom s m args below meth c D (tyG cI cL cZ) A 3 cX2_dropFeetFrom yX2_dropFeetFrom.cls (Cond.code yX2_dropFeetFrom cX2_dropFeetFrom 3 none :: WS) none) {a_this : Nat} {a_marks : Nat} {a_sizes : Nat} {a_elements : Nat} {v1 : Int32} {v2 : Int32} {c_marks : (Nat → Int32)} {x : ((Int32 × (Nat → Int32)) ⊕ (Nat → Int32))} (h : f_S_dropFeetFrom_b2 v1 v2 c_marks = some x)
    (kc : ∀ s', x = .inl s' → kW p l e rm_S_dropFeetFrom s m args below meth c D A 3 (cells_S_dropFeetFrom cI cL cZ a_this a_marks a_sizes a_elements s'.2) [(0, .ref a_this), (1, .int v1), (2, .int s'.1)] Q 2 [])
    (k0 : ∀ r, x = .inr r → kW p l e rm_S_dropFeetFrom s m args below meth c D A 3 (cells_S_dropFeetFrom cI cL cZ a_this a_marks a_sizes a_elements r) [] Q 34 []) :
    kW p l e rm_S_dropFeetFrom s m args below meth c D A 3 (cells_S_dropFeetFrom cI cL cZ a_this a_marks a_sizes a_elements c_marks) [(0, .ref a_this), (1, .int v1), (2, .int v2)] Q 2 [] := by
  unfold f_S_dropFeetFrom_b2 at h
  refine k_iload_n C dX2_dropFeetFrom_2 2 rfl rfl ?_
  refine k_bipush C (v := (8 : Int32)) dX2_dropFeetFrom_3 (by decide) ?_
  refine k_icmp_ge C (tgt := 34) dX2_dropFeetFrom_5 (by decide) (fun c_5 => ?_) (fun c_5 => ?_)
  · have h := ifT c_5 h
    refine k_lv (lv' := []) [] rfl ?_
    exact k0 _ (Option.some.inj h).symm
  · have h := ifF c_5 h
    refine k_aload_n C dX2_dropFeetFrom_8 0 rfl rfl ?_
    refine k_get C (C0 := RX2) (T := TX2) (N := 3) (fun w h => List.mem_cons_of_mem _ (us_S w h)) 0 rfl rfl 0 (by decide) (List.mem_cons_of_mem _ wq_7) rfl rfl dX2_dropFeetFrom_9 ?_
    refine k_iload_n C dX2_dropFeetFrom_12 2 rfl rfl ?_
    obtain ⟨x1, hx1, h⟩ := bindE h
    refine k_iald C 1 0 rfl rfl hx1 dX2_dropFeetFrom_13 ?_
    refine k_bipush C (v := (10 : Int32)) dX2_dropFeetFrom_14 (by decide) ?_
    refine k_iload_n C dX2_dropFeetFrom_16 1 rfl rfl ?_
    refine k_iadd C dX2_dropFeetFrom_17 ?_
    refine k_icmp_lt C (tgt := 28) dX2_dropFeetFrom_18 (by decide) (fun c_18 => ?_) (fun c_18 => ?_)
    · have h := ifT c_18 h
      refine k_iinc C (v := (v2 + (1 : Int32))) (lv' := [(2, .int (v2 + (1 : Int32))), (0, .ref a_this), (1, .int v1)]) dX2_dropFeetFrom_28 2 rfl rfl (by decide) rfl ?_
      refine k_goto C (tgt := 2) dX2_dropFeetFrom_31 (by decide) ?_
      refine k_lv (lv' := [(0, .ref a_this), (1, .int v1), (2, .int (v2 + (1 : Int32)))]) [1, 2, 0] rfl ?_
      exact kc _ (Option.some.inj h).symm
    · have h := ifF c_18 h
      refine k_aload_n C dX2_dropFeetFrom_21 0 rfl rfl ?_
      refine k_get C (C0 := RX2) (T := TX2) (N := 3) (fun w h => List.mem_cons_of_mem _ (us_S w h)) 0 rfl rfl 0 (by decide) (List.mem_cons_of_mem _ wq_7) rfl rfl dX2_dropFeetFrom_22 ?_
      refine k_iload_n C dX2_dropFeetFrom_25 2 rfl rfl ?_
      refine k_iconst C (v := (-1 : Int32)) dX2_dropFeetFrom_26 (by decide) ?_
      obtain ⟨x2, hx2, h⟩ := bindE h
      refine k_iast C 1 0 (ws' := (cells_S_dropFeetFrom cI cL cZ a_this a_marks a_sizes a_elements x2)) rfl rfl hx2 rfl dX2_dropFeetFrom_27 ?_
      refine k_iinc C (v := (v2 + (1 : Int32))) (lv' := [(2, .int (v2 + (1 : Int32))), (0, .ref a_this), (1, .int v1)]) dX2_dropFeetFrom_28 2 rfl rfl (by decide) rfl ?_
      refine k_goto C (tgt := 2) dX2_dropFeetFrom_31 (by decide) ?_
      refine k_lv (lv' := [(0, .ref a_this), (1, .int v1), (2, .int (v2 + (1 : Int32)))]) [1, 2, 0] rfl ?_
      exact kc _ (Option.some.inj h).symm
set_option maxRecDepth 100000 in
set_option maxHeartbeats 4000000 in
theorem s_S_dropFeetFrom_l2 (C : kC p l e rm_S_dropFeetFrom s m args below meth c D (tyG cI cL cZ) A 3 cX2_dropFeetFrom yX2_dropFeetFrom.cls (Cond.code yX2_dropFeetFrom cX2_dropFeetFrom 3 none :: WS) none) {a_this : Nat} {a_marks : Nat} {a_sizes : Nat} {a_elements : Nat} {v1 : Int32} {v2 : Int32} {c_marks : (Nat → Int32)} {x : (Nat → Int32)} (h : f_S_dropFeetFrom_l2 v1 v2 c_marks = some x)
    (k0 : kW p l e rm_S_dropFeetFrom s m args below meth c D A 3 (cells_S_dropFeetFrom cI cL cZ a_this a_marks a_sizes a_elements x) [] Q 34 []) :
    kW p l e rm_S_dropFeetFrom s m args below meth c D A 3 (cells_S_dropFeetFrom cI cL cZ a_this a_marks a_sizes a_elements c_marks) [(0, .ref a_this), (1, .int v1), (2, .int v2)] Q 2 [] := by
  unfold f_S_dropFeetFrom_l2 at h
  exact iter_W (body := fun s => f_S_dropFeetFrom_b2 v1 s.1 s.2) (r := x) (T := fun sg => kW p l e rm_S_dropFeetFrom s m args below meth c D A 3 (cells_S_dropFeetFrom cI cL cZ a_this a_marks a_sizes a_elements sg.2) [(0, .ref a_this), (1, .int v1), (2, .int sg.1)] Q 2 []) (fun sg y hy hc _ hr => s_S_dropFeetFrom_b2 C (v1 := v1) (v2 := sg.1) (c_marks := sg.2) (x := y) hy hc (fun r e => by rw [hr r e]; exact k0)) FUEL (v2, c_marks) h
set_option maxRecDepth 100000 in
set_option maxHeartbeats 4000000 in
theorem s_S_dropFeetFrom (C : kC p l e rm_S_dropFeetFrom s m args below meth c D (tyG cI cL cZ) A 3 cX2_dropFeetFrom yX2_dropFeetFrom.cls (Cond.code yX2_dropFeetFrom cX2_dropFeetFrom 3 none :: WS) none) {a_this : Nat} {a_marks : Nat} {a_sizes : Nat} {a_elements : Nat} {v1 : Int32} {c_marks : (Nat → Int32)} {x : (Nat → Int32)} (h : f_S_dropFeetFrom v1 c_marks = some x) :
    kW p l e rm_S_dropFeetFrom s m args below meth c D A 3 (cells_S_dropFeetFrom cI cL cZ a_this a_marks a_sizes a_elements c_marks) [(0, .ref a_this), (1, .int v1)] (MQ below (kQv D A (cells_S_dropFeetFrom cI cL cZ a_this a_marks a_sizes a_elements x)) args s 0 0 A) 0 [] := by
  unfold f_S_dropFeetFrom at h
  refine k_iconst C (v := (0 : Int32)) dX2_dropFeetFrom_0 (by decide) ?_
  refine k_istore_n C (lv' := [(2, .int (0 : Int32)), (0, .ref a_this), (1, .int v1)]) dX2_dropFeetFrom_1 rfl (by decide) rfl ?_
  obtain ⟨x3, hx3, h⟩ := bindE h
  refine k_lv (lv' := [(0, .ref a_this), (1, .int v1), (2, .int (0 : Int32))]) [1, 2, 0] rfl ?_
  refine s_S_dropFeetFrom_l2 C hx3 ?_
  obtain rfl := Option.some.inj h
  exact kret_v C rfl dX2_dropFeetFrom_34
theorem c_S_dropFeetFrom (l : Launch) (D : va_G) (cI : ClassId) (cL : ClassId) (cZ : ClassId) (sz : Nat) (a_this : Nat) (a_marks : Nat) (a_sizes : Nat) (a_elements : Nat) (v1 : Int32) (c_marks : (Nat → Int32)) (x : (Nat → Int32)) (h : f_S_dropFeetFrom v1 c_marks = some x) :
    Met l yX2_dropFeetFrom (Cond.code yX2_dropFeetFrom cX2_dropFeetFrom 3 none :: WS) rm_S_dropFeetFrom (kP D (tyG cI cL cZ) kTrue [.ref a_this, .int v1] sz (cells_S_dropFeetFrom cI cL cZ a_this a_marks a_sizes a_elements c_marks)) (kQv D (va_A (cells_S_dropFeetFrom cI cL cZ a_this a_marks a_sizes a_elements c_marks) sz) (cells_S_dropFeetFrom cI cL cZ a_this a_marks a_sizes a_elements x)) 0 0 (va_A (cells_S_dropFeetFrom cI cL cZ a_this a_marks a_sizes a_elements c_marks) sz) :=
  kmet (by decide) (Nat.le_of_ble_eq_true rfl) rfl (fun p e s m below meth c C hE => s_S_dropFeetFrom C h)
abbrev cells_M_back (cI : ClassId) (cL : ClassId) (cZ : ClassId) (a_this : Nat) (a_now : Nat) (a_kept : Nat) (a_trial : Nat) (a_shelves : Nat) (a_tape : Nat) (a_paths : Nat) (a_sounds : Nat) (a_volumes : Nat) (a_refusals : Nat) (a_now_stones : Nat) (a_now_kinds : Nat) (a_now_weights : Nat) (a_now_chances : Nat) (a_kept_stones : Nat) (a_kept_kinds : Nat) (a_kept_weights : Nat) (a_kept_chances : Nat) (a_shelves_marks : Nat) (a_shelves_sizes : Nat) (a_shelves_elements : Nat) (c_isKept : Int32) (c_now_width : Int32) (c_now_rain : Int32) (c_now_ear : Int32) (c_now_walkers : Int32) (c_now_seed : Int32) (c_now_stones : (Nat → Int32)) (c_now_kinds : (Nat → Int32)) (c_now_weights : (Nat → Int32)) (c_now_chances : (Nat → Int32)) (c_kept_width : Int32) (c_kept_rain : Int32) (c_kept_ear : Int32) (c_kept_walkers : Int32) (c_kept_seed : Int32) (c_kept_stones : (Nat → Int32)) (c_kept_kinds : (Nat → Int32)) (c_kept_weights : (Nat → Int32)) (c_kept_chances : (Nat → Int32)) (c_shelves_marks : (Nat → Int32)) (c_refusals : (Nat → Int32)) : va_W := [(a_this, .inr (4, [.ref a_now, .ref a_kept, .ref a_trial, .ref a_shelves, .ref a_tape, .ref a_paths, .ref a_sounds, .ref a_volumes, .ref a_refusals, .int c_isKept])), (a_now, .inr (0, [.ref a_now_stones, .ref a_now_kinds, .ref a_now_weights, .ref a_now_chances, .int c_now_width, .int c_now_rain, .int c_now_ear, .int c_now_walkers, .int c_now_seed])), (a_now_stones, .inl (cI, 36, .inl c_now_stones)), (a_now_kinds, .inl (cI, 8, .inl c_now_kinds)), (a_now_weights, .inl (cI, 8, .inl c_now_weights)), (a_now_chances, .inl (cI, 8, .inl c_now_chances)), (a_kept, .inr (0, [.ref a_kept_stones, .ref a_kept_kinds, .ref a_kept_weights, .ref a_kept_chances, .int c_kept_width, .int c_kept_rain, .int c_kept_ear, .int c_kept_walkers, .int c_kept_seed])), (a_kept_stones, .inl (cI, 36, .inl c_kept_stones)), (a_kept_kinds, .inl (cI, 8, .inl c_kept_kinds)), (a_kept_weights, .inl (cI, 8, .inl c_kept_weights)), (a_kept_chances, .inl (cI, 8, .inl c_kept_chances)), (a_shelves, .inr (2, [.ref a_shelves_marks, .ref a_shelves_sizes, .ref a_shelves_elements])), (a_shelves_marks, .inl (cI, 8, .inl c_shelves_marks)), (a_refusals, .inl (cI, 5, .inl c_refusals))]
abbrev rm_M_back : Room := { frames := 2, cells := 0, slots := 0, locals := 61 }
set_option maxRecDepth 100000 in
set_option maxHeartbeats 4000000 in
theorem s_M_back (C : kC p l e rm_M_back s m args below meth c D (tyG cI cL cZ) A 1 cX4_back yX4_back.cls (Cond.code yX4_back cX4_back 1 (some .int) :: WS) (some .int)) {a_this : Nat} {a_now : Nat} {a_kept : Nat} {a_trial : Nat} {a_shelves : Nat} {a_tape : Nat} {a_paths : Nat} {a_sounds : Nat} {a_volumes : Nat} {a_refusals : Nat} {a_now_stones : Nat} {a_now_kinds : Nat} {a_now_weights : Nat} {a_now_chances : Nat} {a_kept_stones : Nat} {a_kept_kinds : Nat} {a_kept_weights : Nat} {a_kept_chances : Nat} {a_shelves_marks : Nat} {a_shelves_sizes : Nat} {a_shelves_elements : Nat} {c_isKept : Int32} {c_now_width : Int32} {c_now_rain : Int32} {c_now_ear : Int32} {c_now_walkers : Int32} {c_now_seed : Int32} {c_now_stones : (Nat → Int32)} {c_now_kinds : (Nat → Int32)} {c_now_weights : (Nat → Int32)} {c_now_chances : (Nat → Int32)} {c_kept_width : Int32} {c_kept_rain : Int32} {c_kept_ear : Int32} {c_kept_walkers : Int32} {c_kept_seed : Int32} {c_kept_stones : (Nat → Int32)} {c_kept_kinds : (Nat → Int32)} {c_kept_weights : (Nat → Int32)} {c_kept_chances : (Nat → Int32)} {c_shelves_marks : (Nat → Int32)} {c_refusals : (Nat → Int32)} {x : (Int32 × Int32 × Int32 × Int32 × Int32 × Int32 × (Nat → Int32) × (Nat → Int32) × (Nat → Int32) × (Nat → Int32) × (Nat → Int32) × (Nat → Int32))} (h : f_M_back c_isKept c_now_width c_now_rain c_now_ear c_now_walkers c_now_seed c_now_stones c_now_kinds c_now_weights c_now_chances c_kept_width c_kept_rain c_kept_ear c_kept_walkers c_kept_seed c_kept_stones c_kept_kinds c_kept_weights c_kept_chances c_shelves_marks c_refusals = some x) :
    kW p l e rm_M_back s m args below meth c D A 1 (cells_M_back cI cL cZ a_this a_now a_kept a_trial a_shelves a_tape a_paths a_sounds a_volumes a_refusals a_now_stones a_now_kinds a_now_weights a_now_chances a_kept_stones a_kept_kinds a_kept_weights a_kept_chances a_shelves_marks a_shelves_sizes a_shelves_elements c_isKept c_now_width c_now_rain c_now_ear c_now_walkers c_now_seed c_now_stones c_now_kinds c_now_weights c_now_chances c_kept_width c_kept_rain c_kept_ear c_kept_walkers c_kept_seed c_kept_stones c_kept_kinds c_kept_weights c_kept_chances c_shelves_marks c_refusals) [(0, .ref a_this)] (MQ below (kQi D A (cells_M_back cI cL cZ a_this a_now a_kept a_trial a_shelves a_tape a_paths a_sounds a_volumes a_refusals a_now_stones a_now_kinds a_now_weights a_now_chances a_kept_stones a_kept_kinds a_kept_weights a_kept_chances a_shelves_marks a_shelves_sizes a_shelves_elements c_isKept x.2.1 x.2.2.1 x.2.2.2.1 x.2.2.2.2.1 x.2.2.2.2.2.1 x.2.2.2.2.2.2.1 x.2.2.2.2.2.2.2.1 x.2.2.2.2.2.2.2.2.1 x.2.2.2.2.2.2.2.2.2.1 c_kept_width c_kept_rain c_kept_ear c_kept_walkers c_kept_seed c_kept_stones c_kept_kinds c_kept_weights c_kept_chances x.2.2.2.2.2.2.2.2.2.2.1 x.2.2.2.2.2.2.2.2.2.2.2) x.1) args s 0 0 A) 0 [] := by
  unfold f_M_back at h
  refine k_aload_n C dX4_back_0 0 rfl rfl ?_
  refine k_get C (C0 := RX4) (T := TX4) (N := 10) (fun w h => List.mem_cons_of_mem _ (us_M w h)) 0 rfl rfl 9 (by decide) (List.mem_cons_of_mem _ wq_536) rfl rfl dX4_back_1 ?_
  refine k_if_ne C (tgt := 14) dX4_back_4 (by decide) (fun c_4 => ?_) (fun c_4 => ?_)
  · have h := ifF c_4 h
    refine k_aload_n C dX4_back_14 0 rfl rfl ?_
    refine k_get C (C0 := RX4) (T := TX4) (N := 10) (fun w h => List.mem_cons_of_mem _ (us_M w h)) 0 rfl rfl 0 (by decide) (List.mem_cons_of_mem _ wq_67) rfl rfl dX4_back_15 ?_
    refine k_aload_n C dX4_back_18 0 rfl rfl ?_
    refine k_get C (C0 := RX4) (T := TX4) (N := 10) (fun w h => List.mem_cons_of_mem _ (us_M w h)) 0 rfl rfl 1 (by decide) (List.mem_cons_of_mem _ wq_535) rfl rfl dX4_back_19 ?_
    obtain ⟨x1, hx1, h⟩ := bindE h
    refine kcallU_v C (wc := (cells_D_takeFrom cI cL cZ a_now a_now_stones a_now_kinds a_now_weights a_now_chances a_kept a_kept_stones a_kept_kinds a_kept_weights a_kept_chances c_now_width c_now_rain c_now_ear c_now_walkers c_now_seed c_now_stones c_now_kinds c_now_weights c_now_chances c_kept_width c_kept_rain c_kept_ear c_kept_walkers c_kept_seed c_kept_stones c_kept_kinds c_kept_weights c_kept_chances)) (w1 := (cells_D_takeFrom cI cL cZ a_now a_now_stones a_now_kinds a_now_weights a_now_chances a_kept a_kept_stones a_kept_kinds a_kept_weights a_kept_chances x1.1 x1.2.1 x1.2.2.1 x1.2.2.2.1 x1.2.2.2.2.1 x1.2.2.2.2.2.1 x1.2.2.2.2.2.2.1 x1.2.2.2.2.2.2.2.1 x1.2.2.2.2.2.2.2.2 c_kept_width c_kept_rain c_kept_ear c_kept_walkers c_kept_seed c_kept_stones c_kept_kinds c_kept_weights c_kept_chances)) (ws' := (cells_M_back cI cL cZ a_this a_now a_kept a_trial a_shelves a_tape a_paths a_sounds a_volumes a_refusals a_now_stones a_now_kinds a_now_weights a_now_chances a_kept_stones a_kept_kinds a_kept_weights a_kept_chances a_shelves_marks a_shelves_sizes a_shelves_elements c_isKept x1.1 x1.2.1 x1.2.2.1 x1.2.2.2.1 x1.2.2.2.2.1 x1.2.2.2.2.2.1 x1.2.2.2.2.2.2.1 x1.2.2.2.2.2.2.2.1 x1.2.2.2.2.2.2.2.2 c_kept_width c_kept_rain c_kept_ear c_kept_walkers c_kept_seed c_kept_stones c_kept_kinds c_kept_weights c_kept_chances c_shelves_marks c_refusals)) [1, 2, 3, 4, 5, 6, 7, 8, 9, 10] (fun H locs ls hP hD hS hF hz => krunV C (q0 := 0) (ci := 0) (c_D_takeFrom l D cI cL cZ H.size a_now a_now_stones a_now_kinds a_now_weights a_now_chances a_kept a_kept_stones a_kept_kinds a_kept_weights a_kept_chances c_now_width c_now_rain c_now_ear c_now_walkers c_now_seed c_now_stones c_now_kinds c_now_weights c_now_chances c_kept_width c_kept_rain c_kept_ear c_kept_walkers c_kept_seed c_kept_stones c_kept_kinds c_kept_weights c_kept_chances x1 hx1) (cwV 1 C.2.2.2.2.1 (gV wq_243 wq_244 wq_245 wq_72 wq_242) rfl rfl rfl (by decide +kernel) ⟨(Nat.le_of_ble_eq_true rfl), (Nat.le_of_ble_eq_true rfl)⟩) rfl rfl kEnv_T rfl rfl (Nat.le_of_ble_eq_true rfl) dX4_back_22 hP hD hz) rfl (by decide) rfl rfl ?_
    refine k_aload_n C dX4_back_25 0 rfl rfl ?_
    refine k_get C (C0 := RX4) (T := TX4) (N := 10) (fun w h => List.mem_cons_of_mem _ (us_M w h)) 0 rfl rfl 3 (by decide) (List.mem_cons_of_mem _ wq_15) rfl rfl dX4_back_26 ?_
    refine k_aload_n C dX4_back_29 0 rfl rfl ?_
    refine k_get C (C0 := RX4) (T := TX4) (N := 10) (fun w h => List.mem_cons_of_mem _ (us_M w h)) 0 rfl rfl 0 (by decide) (List.mem_cons_of_mem _ wq_67) rfl rfl dX4_back_30 ?_
    obtain ⟨x2, hx2, h⟩ := bindE h
    refine kcallR_i C (wc := (cells_D_count cI cL cZ a_now a_now_stones a_now_kinds a_now_weights a_now_chances x1.1 x1.2.1 x1.2.2.1 x1.2.2.2.1 x1.2.2.2.2.1)) (r := x2) [1] (fun H locs ls hP hD hS hF hz => krunV C (q0 := 0) (ci := 0) (c_D_count l D cI cL cZ H.size a_now a_now_stones a_now_kinds a_now_weights a_now_chances x1.1 x1.2.1 x1.2.2.1 x1.2.2.2.1 x1.2.2.2.2.1 x2 hx2) (cwV 0 C.2.2.2.2.1 (gV wq_69 wq_70 wq_71 wq_72 wq_68) rfl rfl rfl (by decide +kernel) ⟨(Nat.le_of_ble_eq_true rfl), (Nat.le_of_ble_eq_true rfl)⟩) rfl rfl kEnv_T rfl rfl (Nat.le_of_ble_eq_true rfl) dX4_back_33 hP hD hz) rfl (by decide) ?_
    obtain ⟨x3, hx3, h⟩ := bindE h
    refine kcallU_v C (wc := (cells_S_dropFeetFrom cI cL cZ a_shelves a_shelves_marks a_shelves_sizes a_shelves_elements c_shelves_marks)) (w1 := (cells_S_dropFeetFrom cI cL cZ a_shelves a_shelves_marks a_shelves_sizes a_shelves_elements x3)) (ws' := (cells_M_back cI cL cZ a_this a_now a_kept a_trial a_shelves a_tape a_paths a_sounds a_volumes a_refusals a_now_stones a_now_kinds a_now_weights a_now_chances a_kept_stones a_kept_kinds a_kept_weights a_kept_chances a_shelves_marks a_shelves_sizes a_shelves_elements c_isKept x1.1 x1.2.1 x1.2.2.1 x1.2.2.2.1 x1.2.2.2.2.1 x1.2.2.2.2.2.1 x1.2.2.2.2.2.2.1 x1.2.2.2.2.2.2.2.1 x1.2.2.2.2.2.2.2.2 c_kept_width c_kept_rain c_kept_ear c_kept_walkers c_kept_seed c_kept_stones c_kept_kinds c_kept_weights c_kept_chances x3 c_refusals)) [11, 12] (fun H locs ls hP hD hS hF hz => krunV C (q0 := 0) (ci := 2) (c_S_dropFeetFrom l D cI cL cZ H.size a_shelves a_shelves_marks a_shelves_sizes a_shelves_elements x2 c_shelves_marks x3 hx3) (cwV 1 C.2.2.2.2.1 (gV wq_538 wq_539 wq_540 wq_20 wq_537) rfl rfl rfl (by decide +kernel) ⟨(Nat.le_of_ble_eq_true rfl), (Nat.le_of_ble_eq_true rfl)⟩) rfl rfl kEnv_T rfl rfl (Nat.le_of_ble_eq_true rfl) dX4_back_36 hP hD hz) rfl (by decide) rfl rfl ?_
    refine k_iconst C (v := (1 : Int32)) dX4_back_39 (by decide) ?_
    obtain rfl := Option.some.inj h
    exact kret_i C rfl dX4_back_40
  · have h := ifT c_4 h
    refine k_aload_n C dX4_back_7 0 rfl rfl ?_
    refine k_bipush C (v := (-5 : Int32)) dX4_back_8 (by decide) ?_
    obtain ⟨x4, hx4, h⟩ := bindE h
    refine kcallU_i C (wc := (cells_M_refuse cI cL cZ a_this a_now a_kept a_trial a_shelves a_tape a_paths a_sounds a_volumes a_refusals c_isKept c_refusals)) (w1 := (cells_M_refuse cI cL cZ a_this a_now a_kept a_trial a_shelves a_tape a_paths a_sounds a_volumes a_refusals c_isKept x4.2)) (ws' := (cells_M_back cI cL cZ a_this a_now a_kept a_trial a_shelves a_tape a_paths a_sounds a_volumes a_refusals a_now_stones a_now_kinds a_now_weights a_now_chances a_kept_stones a_kept_kinds a_kept_weights a_kept_chances a_shelves_marks a_shelves_sizes a_shelves_elements c_isKept c_now_width c_now_rain c_now_ear c_now_walkers c_now_seed c_now_stones c_now_kinds c_now_weights c_now_chances c_kept_width c_kept_rain c_kept_ear c_kept_walkers c_kept_seed c_kept_stones c_kept_kinds c_kept_weights c_kept_chances c_shelves_marks x4.2)) (r := x4.1) [0, 13] (fun H locs ls hP hD hS hF hz => krunV C (q0 := 0) (ci := 4) (c_M_refuse l D cI cL cZ H.size a_this a_now a_kept a_trial a_shelves a_tape a_paths a_sounds a_volumes a_refusals (-5 : Int32) c_isKept c_refusals x4 hx4) (cwV 1 C.2.2.2.2.1 (gV wq_12 wq_13 wq_14 wq_3 wq_11) rfl rfl rfl (by decide +kernel) ⟨(Nat.le_of_ble_eq_true rfl), (Nat.le_of_ble_eq_true rfl)⟩) rfl rfl kEnv_T rfl rfl (Nat.le_of_ble_eq_true rfl) dX4_back_10 hP hD hz) rfl (by decide) rfl rfl ?_
    obtain rfl := Option.some.inj h
    exact kret_i C rfl dX4_back_13
theorem c_M_back (l : Launch) (D : va_G) (cI : ClassId) (cL : ClassId) (cZ : ClassId) (sz : Nat) (a_this : Nat) (a_now : Nat) (a_kept : Nat) (a_trial : Nat) (a_shelves : Nat) (a_tape : Nat) (a_paths : Nat) (a_sounds : Nat) (a_volumes : Nat) (a_refusals : Nat) (a_now_stones : Nat) (a_now_kinds : Nat) (a_now_weights : Nat) (a_now_chances : Nat) (a_kept_stones : Nat) (a_kept_kinds : Nat) (a_kept_weights : Nat) (a_kept_chances : Nat) (a_shelves_marks : Nat) (a_shelves_sizes : Nat) (a_shelves_elements : Nat) (c_isKept : Int32) (c_now_width : Int32) (c_now_rain : Int32) (c_now_ear : Int32) (c_now_walkers : Int32) (c_now_seed : Int32) (c_now_stones : (Nat → Int32)) (c_now_kinds : (Nat → Int32)) (c_now_weights : (Nat → Int32)) (c_now_chances : (Nat → Int32)) (c_kept_width : Int32) (c_kept_rain : Int32) (c_kept_ear : Int32) (c_kept_walkers : Int32) (c_kept_seed : Int32) (c_kept_stones : (Nat → Int32)) (c_kept_kinds : (Nat → Int32)) (c_kept_weights : (Nat → Int32)) (c_kept_chances : (Nat → Int32)) (c_shelves_marks : (Nat → Int32)) (c_refusals : (Nat → Int32)) (x : (Int32 × Int32 × Int32 × Int32 × Int32 × Int32 × (Nat → Int32) × (Nat → Int32) × (Nat → Int32) × (Nat → Int32) × (Nat → Int32) × (Nat → Int32))) (h : f_M_back c_isKept c_now_width c_now_rain c_now_ear c_now_walkers c_now_seed c_now_stones c_now_kinds c_now_weights c_now_chances c_kept_width c_kept_rain c_kept_ear c_kept_walkers c_kept_seed c_kept_stones c_kept_kinds c_kept_weights c_kept_chances c_shelves_marks c_refusals = some x) :
    Met l yX4_back (Cond.code yX4_back cX4_back 1 (some .int) :: WS) rm_M_back (kP D (tyG cI cL cZ) kTrue [.ref a_this] sz (cells_M_back cI cL cZ a_this a_now a_kept a_trial a_shelves a_tape a_paths a_sounds a_volumes a_refusals a_now_stones a_now_kinds a_now_weights a_now_chances a_kept_stones a_kept_kinds a_kept_weights a_kept_chances a_shelves_marks a_shelves_sizes a_shelves_elements c_isKept c_now_width c_now_rain c_now_ear c_now_walkers c_now_seed c_now_stones c_now_kinds c_now_weights c_now_chances c_kept_width c_kept_rain c_kept_ear c_kept_walkers c_kept_seed c_kept_stones c_kept_kinds c_kept_weights c_kept_chances c_shelves_marks c_refusals)) (kQi D (va_A (cells_M_back cI cL cZ a_this a_now a_kept a_trial a_shelves a_tape a_paths a_sounds a_volumes a_refusals a_now_stones a_now_kinds a_now_weights a_now_chances a_kept_stones a_kept_kinds a_kept_weights a_kept_chances a_shelves_marks a_shelves_sizes a_shelves_elements c_isKept c_now_width c_now_rain c_now_ear c_now_walkers c_now_seed c_now_stones c_now_kinds c_now_weights c_now_chances c_kept_width c_kept_rain c_kept_ear c_kept_walkers c_kept_seed c_kept_stones c_kept_kinds c_kept_weights c_kept_chances c_shelves_marks c_refusals) sz) (cells_M_back cI cL cZ a_this a_now a_kept a_trial a_shelves a_tape a_paths a_sounds a_volumes a_refusals a_now_stones a_now_kinds a_now_weights a_now_chances a_kept_stones a_kept_kinds a_kept_weights a_kept_chances a_shelves_marks a_shelves_sizes a_shelves_elements c_isKept x.2.1 x.2.2.1 x.2.2.2.1 x.2.2.2.2.1 x.2.2.2.2.2.1 x.2.2.2.2.2.2.1 x.2.2.2.2.2.2.2.1 x.2.2.2.2.2.2.2.2.1 x.2.2.2.2.2.2.2.2.2.1 c_kept_width c_kept_rain c_kept_ear c_kept_walkers c_kept_seed c_kept_stones c_kept_kinds c_kept_weights c_kept_chances x.2.2.2.2.2.2.2.2.2.2.1 x.2.2.2.2.2.2.2.2.2.2.2) x.1) 0 0 (va_A (cells_M_back cI cL cZ a_this a_now a_kept a_trial a_shelves a_tape a_paths a_sounds a_volumes a_refusals a_now_stones a_now_kinds a_now_weights a_now_chances a_kept_stones a_kept_kinds a_kept_weights a_kept_chances a_shelves_marks a_shelves_sizes a_shelves_elements c_isKept c_now_width c_now_rain c_now_ear c_now_walkers c_now_seed c_now_stones c_now_kinds c_now_weights c_now_chances c_kept_width c_kept_rain c_kept_ear c_kept_walkers c_kept_seed c_kept_stones c_kept_kinds c_kept_weights c_kept_chances c_shelves_marks c_refusals) sz) :=
  kmet (by decide) (Nat.le_of_ble_eq_true rfl) rfl (fun p e s m below meth c C hE => s_M_back C h)
abbrev cells_S_taken (cI : ClassId) (cL : ClassId) (cZ : ClassId) (a_this : Nat) (a_marks : Nat) (a_sizes : Nat) (a_elements : Nat) (c_marks : (Nat → Int32)) : va_W := [(a_this, .inr (2, [.ref a_marks, .ref a_sizes, .ref a_elements])), (a_marks, .inl (cI, 8, .inl c_marks))]
abbrev rm_S_taken : Room := { frames := 0, cells := 0, slots := 0, locals := 0 }
set_option maxRecDepth 100000 in
set_option maxHeartbeats 4000000 in
theorem s_S_taken_b4 (C : kC p l e rm_S_taken s m args below meth c D (tyG cI cL cZ) A 3 cX2_taken yX2_taken.cls (Cond.code yX2_taken cX2_taken 3 (some .int) :: WS) (some .int)) {a_this : Nat} {a_marks : Nat} {a_sizes : Nat} {a_elements : Nat} {v1 : Int32} {v2 : Int32} {c_marks : (Nat → Int32)} {x : ((Int32 × Int32) ⊕ Int32)} (h : f_S_taken_b4 c_marks v1 v2 = some x)
    (kc : ∀ s', x = .inl s' → kW p l e rm_S_taken s m args below meth c D A 3 (cells_S_taken cI cL cZ a_this a_marks a_sizes a_elements c_marks) [(0, .ref a_this), (1, .int s'.1), (2, .int s'.2)] Q 4 [])
    (k0 : ∀ r, x = .inr r → kW p l e rm_S_taken s m args below meth c D A 3 (cells_S_taken cI cL cZ a_this a_marks a_sizes a_elements c_marks) [(1, .int r)] Q 29 []) :
    kW p l e rm_S_taken s m args below meth c D A 3 (cells_S_taken cI cL cZ a_this a_marks a_sizes a_elements c_marks) [(0, .ref a_this), (1, .int v1), (2, .int v2)] Q 4 [] := by
  unfold f_S_taken_b4 at h
  refine k_iload_n C dX2_taken_4 2 rfl rfl ?_
  refine k_bipush C (v := (8 : Int32)) dX2_taken_5 (by decide) ?_
  refine k_icmp_ge C (tgt := 29) dX2_taken_7 (by decide) (fun c_7 => ?_) (fun c_7 => ?_)
  · have h := ifT c_7 h
    refine k_lv (lv' := [(1, .int v1)]) [1] rfl ?_
    exact k0 _ (Option.some.inj h).symm
  · have h := ifF c_7 h
    refine k_aload_n C dX2_taken_10 0 rfl rfl ?_
    refine k_get C (C0 := RX2) (T := TX2) (N := 3) (fun w h => List.mem_cons_of_mem _ (us_S w h)) 0 rfl rfl 0 (by decide) (List.mem_cons_of_mem _ wq_7) rfl rfl dX2_taken_11 ?_
    refine k_iload_n C dX2_taken_14 2 rfl rfl ?_
    obtain ⟨x1, hx1, h⟩ := bindE h
    refine k_iald C 1 0 rfl rfl hx1 dX2_taken_15 ?_
    refine k_iconst C (v := (-1 : Int32)) dX2_taken_16 (by decide) ?_
    refine k_icmp_eq C (tgt := 23) dX2_taken_17 (by decide) (fun c_17 => ?_) (fun c_17 => ?_)
    · have h := ifT c_17 h
      refine k_iinc C (v := (v2 + (1 : Int32))) (lv' := [(2, .int (v2 + (1 : Int32))), (0, .ref a_this), (1, .int v1)]) dX2_taken_23 2 rfl rfl (by decide) rfl ?_
      refine k_goto C (tgt := 4) dX2_taken_26 (by decide) ?_
      refine k_lv (lv' := [(0, .ref a_this), (1, .int v1), (2, .int (v2 + (1 : Int32)))]) [1, 2, 0] rfl ?_
      exact kc _ (Option.some.inj h).symm
    · have h := ifF c_17 h
      refine k_iinc C (v := (v1 + (1 : Int32))) (lv' := [(1, .int (v1 + (1 : Int32))), (0, .ref a_this), (2, .int v2)]) dX2_taken_20 1 rfl rfl (by decide) rfl ?_
      refine k_iinc C (v := (v2 + (1 : Int32))) (lv' := [(2, .int (v2 + (1 : Int32))), (1, .int (v1 + (1 : Int32))), (0, .ref a_this)]) dX2_taken_23 2 rfl rfl (by decide) rfl ?_
      refine k_goto C (tgt := 4) dX2_taken_26 (by decide) ?_
      refine k_lv (lv' := [(0, .ref a_this), (1, .int (v1 + (1 : Int32))), (2, .int (v2 + (1 : Int32)))]) [2, 1, 0] rfl ?_
      exact kc _ (Option.some.inj h).symm
set_option maxRecDepth 100000 in
set_option maxHeartbeats 4000000 in
theorem s_S_taken_l4 (C : kC p l e rm_S_taken s m args below meth c D (tyG cI cL cZ) A 3 cX2_taken yX2_taken.cls (Cond.code yX2_taken cX2_taken 3 (some .int) :: WS) (some .int)) {a_this : Nat} {a_marks : Nat} {a_sizes : Nat} {a_elements : Nat} {v1 : Int32} {v2 : Int32} {c_marks : (Nat → Int32)} {x : Int32} (h : f_S_taken_l4 c_marks v1 v2 = some x)
    (k0 : kW p l e rm_S_taken s m args below meth c D A 3 (cells_S_taken cI cL cZ a_this a_marks a_sizes a_elements c_marks) [(1, .int x)] Q 29 []) :
    kW p l e rm_S_taken s m args below meth c D A 3 (cells_S_taken cI cL cZ a_this a_marks a_sizes a_elements c_marks) [(0, .ref a_this), (1, .int v1), (2, .int v2)] Q 4 [] := by
  unfold f_S_taken_l4 at h
  exact iter_W (body := fun s => f_S_taken_b4 c_marks s.1 s.2) (r := x) (T := fun sg => kW p l e rm_S_taken s m args below meth c D A 3 (cells_S_taken cI cL cZ a_this a_marks a_sizes a_elements c_marks) [(0, .ref a_this), (1, .int sg.1), (2, .int sg.2)] Q 4 []) (fun sg y hy hc _ hr => s_S_taken_b4 C (v1 := sg.1) (v2 := sg.2) (c_marks := c_marks) (x := y) hy hc (fun r e => by rw [hr r e]; exact k0)) FUEL (v1, v2) h
set_option maxRecDepth 100000 in
set_option maxHeartbeats 4000000 in
theorem s_S_taken (C : kC p l e rm_S_taken s m args below meth c D (tyG cI cL cZ) A 3 cX2_taken yX2_taken.cls (Cond.code yX2_taken cX2_taken 3 (some .int) :: WS) (some .int)) {a_this : Nat} {a_marks : Nat} {a_sizes : Nat} {a_elements : Nat} {c_marks : (Nat → Int32)} {x : Int32} (h : f_S_taken c_marks = some x) :
    kW p l e rm_S_taken s m args below meth c D A 3 (cells_S_taken cI cL cZ a_this a_marks a_sizes a_elements c_marks) [(0, .ref a_this)] (MQ below (kQi D A (cells_S_taken cI cL cZ a_this a_marks a_sizes a_elements c_marks) x) args s 0 0 A) 0 [] := by
  unfold f_S_taken at h
  refine k_iconst C (v := (0 : Int32)) dX2_taken_0 (by decide) ?_
  refine k_istore_n C (lv' := [(1, .int (0 : Int32)), (0, .ref a_this)]) dX2_taken_1 rfl (by decide) rfl ?_
  refine k_iconst C (v := (0 : Int32)) dX2_taken_2 (by decide) ?_
  refine k_istore_n C (lv' := [(2, .int (0 : Int32)), (1, .int (0 : Int32)), (0, .ref a_this)]) dX2_taken_3 rfl (by decide) rfl ?_
  obtain ⟨x2, hx2, h⟩ := bindE h
  refine k_lv (lv' := [(0, .ref a_this), (1, .int (0 : Int32)), (2, .int (0 : Int32))]) [2, 1, 0] rfl ?_
  refine s_S_taken_l4 C hx2 ?_
  refine k_iload_n C dX2_taken_29 0 rfl rfl ?_
  obtain rfl := Option.some.inj h
  exact kret_i C rfl dX2_taken_30
theorem c_S_taken (l : Launch) (D : va_G) (cI : ClassId) (cL : ClassId) (cZ : ClassId) (sz : Nat) (a_this : Nat) (a_marks : Nat) (a_sizes : Nat) (a_elements : Nat) (c_marks : (Nat → Int32)) (x : Int32) (h : f_S_taken c_marks = some x) :
    Met l yX2_taken (Cond.code yX2_taken cX2_taken 3 (some .int) :: WS) rm_S_taken (kP D (tyG cI cL cZ) kTrue [.ref a_this] sz (cells_S_taken cI cL cZ a_this a_marks a_sizes a_elements c_marks)) (kQi D (va_A (cells_S_taken cI cL cZ a_this a_marks a_sizes a_elements c_marks) sz) (cells_S_taken cI cL cZ a_this a_marks a_sizes a_elements c_marks) x) 0 0 (va_A (cells_S_taken cI cL cZ a_this a_marks a_sizes a_elements c_marks) sz) :=
  kmet (by decide) (Nat.le_of_ble_eq_true rfl) rfl (fun p e s m below meth c C hE => s_S_taken C h)
abbrev cells_M_status (cI : ClassId) (cL : ClassId) (cZ : ClassId) (a_this : Nat) (a_now : Nat) (a_kept : Nat) (a_trial : Nat) (a_shelves : Nat) (a_tape : Nat) (a_paths : Nat) (a_sounds : Nat) (a_volumes : Nat) (a_refusals : Nat) (a_now_stones : Nat) (a_now_kinds : Nat) (a_now_weights : Nat) (a_now_chances : Nat) (a_shelves_marks : Nat) (a_shelves_sizes : Nat) (a_shelves_elements : Nat) (a_tape_letters : Nat) (c_isKept : Int32) (c_now_width : Int32) (c_now_rain : Int32) (c_now_ear : Int32) (c_now_walkers : Int32) (c_now_seed : Int32) (c_now_stones : (Nat → Int32)) (c_now_chances : (Nat → Int32)) (c_shelves_marks : (Nat → Int32)) (c_tape_size : Int32) (c_tape_token : Int32) (c_tape_place : Int32) (c_tape_end : Int32) (c_refusals : (Nat → Int32)) : va_W := [(a_this, .inr (4, [.ref a_now, .ref a_kept, .ref a_trial, .ref a_shelves, .ref a_tape, .ref a_paths, .ref a_sounds, .ref a_volumes, .ref a_refusals, .int c_isKept])), (a_now, .inr (0, [.ref a_now_stones, .ref a_now_kinds, .ref a_now_weights, .ref a_now_chances, .int c_now_width, .int c_now_rain, .int c_now_ear, .int c_now_walkers, .int c_now_seed])), (a_now_stones, .inl (cI, 36, .inl c_now_stones)), (a_now_chances, .inl (cI, 8, .inl c_now_chances)), (a_shelves, .inr (2, [.ref a_shelves_marks, .ref a_shelves_sizes, .ref a_shelves_elements])), (a_shelves_marks, .inl (cI, 8, .inl c_shelves_marks)), (a_tape, .inr (3, [.ref a_tape_letters, .int c_tape_size, .int c_tape_token, .int c_tape_place, .int c_tape_end])), (a_refusals, .inl (cI, 5, .inl c_refusals))]
abbrev rm_M_status : Room := { frames := 3, cells := 0, slots := 0, locals := 74 }
set_option maxRecDepth 100000 in
set_option maxHeartbeats 4000000 in
theorem s_M_status (C : kC p l e rm_M_status s m args below meth c D (tyG cI cL cZ) A 2 cX4_status yX4_status.cls (Cond.code yX4_status cX4_status 2 (some .int) :: WS) (some .int)) {X : kX} (hE : kEs X A s) {a_this : Nat} {a_now : Nat} {a_kept : Nat} {a_trial : Nat} {a_shelves : Nat} {a_tape : Nat} {a_paths : Nat} {a_sounds : Nat} {a_volumes : Nat} {a_refusals : Nat} {a_now_stones : Nat} {a_now_kinds : Nat} {a_now_weights : Nat} {a_now_chances : Nat} {a_shelves_marks : Nat} {a_shelves_sizes : Nat} {a_shelves_elements : Nat} {a_tape_letters : Nat} {v1 : Int32} {c_isKept : Int32} {c_now_width : Int32} {c_now_rain : Int32} {c_now_ear : Int32} {c_now_walkers : Int32} {c_now_seed : Int32} {c_now_stones : (Nat → Int32)} {c_now_chances : (Nat → Int32)} {c_shelves_marks : (Nat → Int32)} {c_tape_size : Int32} {c_tape_token : Int32} {c_tape_place : Int32} {c_tape_end : Int32} {c_refusals : (Nat → Int32)} {x : Int32} (h : f_M_status v1 c_now_width c_now_rain c_now_ear c_now_walkers c_now_seed c_now_stones c_now_chances c_shelves_marks c_tape_size c_refusals = some x) :
    kW p l e rm_M_status s m args below meth c D A 2 (cells_M_status cI cL cZ a_this a_now a_kept a_trial a_shelves a_tape a_paths a_sounds a_volumes a_refusals a_now_stones a_now_kinds a_now_weights a_now_chances a_shelves_marks a_shelves_sizes a_shelves_elements a_tape_letters c_isKept c_now_width c_now_rain c_now_ear c_now_walkers c_now_seed c_now_stones c_now_chances c_shelves_marks c_tape_size c_tape_token c_tape_place c_tape_end c_refusals) [(0, .ref a_this), (1, .int v1)] (MQ below (kQi D A (cells_M_status cI cL cZ a_this a_now a_kept a_trial a_shelves a_tape a_paths a_sounds a_volumes a_refusals a_now_stones a_now_kinds a_now_weights a_now_chances a_shelves_marks a_shelves_sizes a_shelves_elements a_tape_letters c_isKept c_now_width c_now_rain c_now_ear c_now_walkers c_now_seed c_now_stones c_now_chances c_shelves_marks c_tape_size c_tape_token c_tape_place c_tape_end c_refusals) x) args s 0 0 A) 0 [] := by
  unfold f_M_status at h
  refine k_iload_n C dX4_status_0 1 rfl rfl ?_
  by_cases e_1_0 : v1 = (0 : Int32)
  · have h := ifT e_1_0 h
    have z : Int32.toInt v1 = 0 := by rw [e_1_0]; decide
    refine k_tableIn C (off := 51) (tgt := 52) dX4_status_1 (by rw [z]; decide) (by rw [z]; decide) (by rw [z]; rfl) (by decide) ?_
    refine k_aload_n C dX4_status_52 0 rfl rfl ?_
    refine k_get C (C0 := RX4) (T := TX4) (N := 10) (fun w h => List.mem_cons_of_mem _ (us_M w h)) 0 rfl rfl 0 (by decide) (List.mem_cons_of_mem _ wq_67) rfl rfl dX4_status_53 ?_
    obtain ⟨x1, hx1, h⟩ := bindE h
    refine kcallR_i C (wc := (cells_D_count cI cL cZ a_now a_now_stones a_now_kinds a_now_weights a_now_chances c_now_width c_now_rain c_now_ear c_now_walkers c_now_seed)) (r := x1) [1] (fun H locs ls hP hD hS hF hz => krunV C (q0 := 0) (ci := 0) (c_D_count l D cI cL cZ H.size a_now a_now_stones a_now_kinds a_now_weights a_now_chances c_now_width c_now_rain c_now_ear c_now_walkers c_now_seed x1 hx1) (cwV 0 C.2.2.2.2.1 (gV wq_69 wq_70 wq_71 wq_72 wq_68) rfl rfl rfl (by decide +kernel) ⟨(Nat.le_of_ble_eq_true rfl), (Nat.le_of_ble_eq_true rfl)⟩) rfl rfl kEnv_T rfl rfl (Nat.le_of_ble_eq_true rfl) dX4_status_56 hP hD hz) rfl (by decide) ?_
    obtain rfl := Option.some.inj h
    exact kret_i C rfl dX4_status_59
  have h := ifF e_1_0 h
  by_cases e_1_1 : v1 = (1 : Int32)
  · have h := ifT e_1_1 h
    have z : Int32.toInt v1 = 1 := by rw [e_1_1]; decide
    refine k_tableIn C (off := 59) (tgt := 60) dX4_status_1 (by rw [z]; decide) (by rw [z]; decide) (by rw [z]; rfl) (by decide) ?_
    refine k_aload_n C dX4_status_60 0 rfl rfl ?_
    refine k_get C (C0 := RX4) (T := TX4) (N := 10) (fun w h => List.mem_cons_of_mem _ (us_M w h)) 0 rfl rfl 0 (by decide) (List.mem_cons_of_mem _ wq_67) rfl rfl dX4_status_61 ?_
    refine k_get C (C0 := RX0) (T := TX0) (N := 9) (fun w h => List.mem_cons_of_mem _ (us_D w h)) 1 rfl rfl 4 (by decide) (List.mem_cons_of_mem _ wq_126) rfl rfl dX4_status_64 ?_
    obtain rfl := Option.some.inj h
    exact kret_i C rfl dX4_status_67
  have h := ifF e_1_1 h
  by_cases e_1_2 : v1 = (2 : Int32)
  · have h := ifT e_1_2 h
    have z : Int32.toInt v1 = 2 := by rw [e_1_2]; decide
    refine k_tableIn C (off := 67) (tgt := 68) dX4_status_1 (by rw [z]; decide) (by rw [z]; decide) (by rw [z]; rfl) (by decide) ?_
    refine k_aload_n C dX4_status_68 0 rfl rfl ?_
    refine k_get C (C0 := RX4) (T := TX4) (N := 10) (fun w h => List.mem_cons_of_mem _ (us_M w h)) 0 rfl rfl 0 (by decide) (List.mem_cons_of_mem _ wq_67) rfl rfl dX4_status_69 ?_
    refine k_get C (C0 := RX0) (T := TX0) (N := 9) (fun w h => List.mem_cons_of_mem _ (us_D w h)) 1 rfl rfl 5 (by decide) (List.mem_cons_of_mem _ wq_145) rfl rfl dX4_status_72 ?_
    obtain rfl := Option.some.inj h
    exact kret_i C rfl dX4_status_75
  have h := ifF e_1_2 h
  by_cases e_1_3 : v1 = (3 : Int32)
  · have h := ifT e_1_3 h
    have z : Int32.toInt v1 = 3 := by rw [e_1_3]; decide
    refine k_tableIn C (off := 75) (tgt := 76) dX4_status_1 (by rw [z]; decide) (by rw [z]; decide) (by rw [z]; rfl) (by decide) ?_
    refine k_aload_n C dX4_status_76 0 rfl rfl ?_
    refine k_get C (C0 := RX4) (T := TX4) (N := 10) (fun w h => List.mem_cons_of_mem _ (us_M w h)) 0 rfl rfl 0 (by decide) (List.mem_cons_of_mem _ wq_67) rfl rfl dX4_status_77 ?_
    refine k_get C (C0 := RX0) (T := TX0) (N := 9) (fun w h => List.mem_cons_of_mem _ (us_D w h)) 1 rfl rfl 6 (by decide) (List.mem_cons_of_mem _ wq_144) rfl rfl dX4_status_80 ?_
    obtain rfl := Option.some.inj h
    exact kret_i C rfl dX4_status_83
  have h := ifF e_1_3 h
  by_cases e_1_4 : v1 = (4 : Int32)
  · have h := ifT e_1_4 h
    have z : Int32.toInt v1 = 4 := by rw [e_1_4]; decide
    refine k_tableIn C (off := 83) (tgt := 84) dX4_status_1 (by rw [z]; decide) (by rw [z]; decide) (by rw [z]; rfl) (by decide) ?_
    refine k_aload_n C dX4_status_84 0 rfl rfl ?_
    refine k_get C (C0 := RX4) (T := TX4) (N := 10) (fun w h => List.mem_cons_of_mem _ (us_M w h)) 0 rfl rfl 0 (by decide) (List.mem_cons_of_mem _ wq_67) rfl rfl dX4_status_85 ?_
    obtain ⟨x2, hx2, h⟩ := bindE h
    refine kcallR_i C (wc := (cells_D_allStones cI cL cZ a_now a_now_stones a_now_kinds a_now_weights a_now_chances c_now_width c_now_rain c_now_ear c_now_walkers c_now_seed c_now_stones)) (r := x2) [1, 2] (fun H locs ls hP hD hS hF hz => krunV C (q0 := 0) (ci := 0) (c_D_allStones l D cI cL cZ H.size a_now a_now_stones a_now_kinds a_now_weights a_now_chances c_now_width c_now_rain c_now_ear c_now_walkers c_now_seed c_now_stones x2 hx2) (cwV 0 C.2.2.2.2.1 (gV wq_520 wq_521 wq_522 wq_72 wq_519) rfl rfl rfl (by decide +kernel) ⟨(Nat.le_of_ble_eq_true rfl), (Nat.le_of_ble_eq_true rfl)⟩) rfl rfl kEnv_T rfl rfl (Nat.le_of_ble_eq_true rfl) dX4_status_88 hP hD hz) rfl (by decide) ?_
    obtain rfl := Option.some.inj h
    exact kret_i C rfl dX4_status_91
  have h := ifF e_1_4 h
  by_cases e_1_5 : v1 = (5 : Int32)
  · have h := ifT e_1_5 h
    have z : Int32.toInt v1 = 5 := by rw [e_1_5]; decide
    refine k_tableIn C (off := 91) (tgt := 92) dX4_status_1 (by rw [z]; decide) (by rw [z]; decide) (by rw [z]; rfl) (by decide) ?_
    refine k_aload_n C dX4_status_92 0 rfl rfl ?_
    refine k_get C (C0 := RX4) (T := TX4) (N := 10) (fun w h => List.mem_cons_of_mem _ (us_M w h)) 0 rfl rfl 0 (by decide) (List.mem_cons_of_mem _ wq_67) rfl rfl dX4_status_93 ?_
    obtain ⟨x3, hx3, h⟩ := bindE h
    refine kcallR_i C (wc := (cells_D_allChances cI cL cZ a_now a_now_stones a_now_kinds a_now_weights a_now_chances c_now_width c_now_rain c_now_ear c_now_walkers c_now_seed c_now_chances)) (r := x3) [1, 3] (fun H locs ls hP hD hS hF hz => krunV C (q0 := 0) (ci := 0) (c_D_allChances l D cI cL cZ X H.size a_now a_now_stones a_now_kinds a_now_weights a_now_chances c_now_width c_now_rain c_now_ear c_now_walkers c_now_seed c_now_chances x3 hx3) (cwV 0 C.2.2.2.2.1 (gV wq_431 wq_432 wq_433 wq_72 wq_430) rfl rfl rfl (by decide +kernel) ⟨(Nat.le_of_ble_eq_true rfl), (Nat.le_of_ble_eq_true rfl)⟩) rfl rfl (kEs_call hE hS hF) rfl rfl (Nat.le_of_ble_eq_true rfl) dX4_status_96 hP hD hz) rfl (by decide) ?_
    obtain rfl := Option.some.inj h
    exact kret_i C rfl dX4_status_99
  have h := ifF e_1_5 h
  by_cases e_1_6 : v1 = (6 : Int32)
  · have h := ifT e_1_6 h
    have z : Int32.toInt v1 = 6 := by rw [e_1_6]; decide
    refine k_tableIn C (off := 99) (tgt := 100) dX4_status_1 (by rw [z]; decide) (by rw [z]; decide) (by rw [z]; rfl) (by decide) ?_
    refine k_aload_n C dX4_status_100 0 rfl rfl ?_
    refine k_get C (C0 := RX4) (T := TX4) (N := 10) (fun w h => List.mem_cons_of_mem _ (us_M w h)) 0 rfl rfl 4 (by decide) (List.mem_cons_of_mem _ wq_156) rfl rfl dX4_status_101 ?_
    refine k_get C (C0 := RX3) (T := TX3) (N := 5) (fun w h => List.mem_cons_of_mem _ (us_T w h)) 6 rfl rfl 1 (by decide) (List.mem_cons_of_mem _ wq_541) rfl rfl dX4_status_104 ?_
    obtain rfl := Option.some.inj h
    exact kret_i C rfl dX4_status_107
  have h := ifF e_1_6 h
  by_cases e_1_7 : v1 = (7 : Int32)
  · have h := ifT e_1_7 h
    have z : Int32.toInt v1 = 7 := by rw [e_1_7]; decide
    refine k_tableIn C (off := 107) (tgt := 108) dX4_status_1 (by rw [z]; decide) (by rw [z]; decide) (by rw [z]; rfl) (by decide) ?_
    refine k_aload_n C dX4_status_108 0 rfl rfl ?_
    refine k_get C (C0 := RX4) (T := TX4) (N := 10) (fun w h => List.mem_cons_of_mem _ (us_M w h)) 0 rfl rfl 0 (by decide) (List.mem_cons_of_mem _ wq_67) rfl rfl dX4_status_109 ?_
    refine k_get C (C0 := RX0) (T := TX0) (N := 9) (fun w h => List.mem_cons_of_mem _ (us_D w h)) 1 rfl rfl 8 (by decide) (List.mem_cons_of_mem _ wq_534) rfl rfl dX4_status_112 ?_
    obtain rfl := Option.some.inj h
    exact kret_i C rfl dX4_status_115
  have h := ifF e_1_7 h
  by_cases e_1_8 : v1 = (8 : Int32)
  · have h := ifT e_1_8 h
    have z : Int32.toInt v1 = 8 := by rw [e_1_8]; decide
    refine k_tableIn C (off := 115) (tgt := 116) dX4_status_1 (by rw [z]; decide) (by rw [z]; decide) (by rw [z]; rfl) (by decide) ?_
    refine k_aload_n C dX4_status_116 0 rfl rfl ?_
    refine k_get C (C0 := RX4) (T := TX4) (N := 10) (fun w h => List.mem_cons_of_mem _ (us_M w h)) 0 rfl rfl 3 (by decide) (List.mem_cons_of_mem _ wq_15) rfl rfl dX4_status_117 ?_
    obtain ⟨x4, hx4, h⟩ := bindE h
    refine kcallR_i C (wc := (cells_S_taken cI cL cZ a_shelves a_shelves_marks a_shelves_sizes a_shelves_elements c_shelves_marks)) (r := x4) [4, 5] (fun H locs ls hP hD hS hF hz => krunV C (q0 := 0) (ci := 2) (c_S_taken l D cI cL cZ H.size a_shelves a_shelves_marks a_shelves_sizes a_shelves_elements c_shelves_marks x4 hx4) (cwV 0 C.2.2.2.2.1 (gV wq_543 wq_544 wq_545 wq_20 wq_542) rfl rfl rfl (by decide +kernel) ⟨(Nat.le_of_ble_eq_true rfl), (Nat.le_of_ble_eq_true rfl)⟩) rfl rfl kEnv_T rfl rfl (Nat.le_of_ble_eq_true rfl) dX4_status_120 hP hD hz) rfl (by decide) ?_
    obtain rfl := Option.some.inj h
    exact kret_i C rfl dX4_status_123
  have h := ifF e_1_8 h
  have ze_1_0 := lv_neT e_1_0 (a := 0) (by decide)
  have ze_1_1 := lv_neT e_1_1 (a := 1) (by decide)
  have ze_1_2 := lv_neT e_1_2 (a := 2) (by decide)
  have ze_1_3 := lv_neT e_1_3 (a := 3) (by decide)
  have ze_1_4 := lv_neT e_1_4 (a := 4) (by decide)
  have ze_1_5 := lv_neT e_1_5 (a := 5) (by decide)
  have ze_1_6 := lv_neT e_1_6 (a := 6) (by decide)
  have ze_1_7 := lv_neT e_1_7 (a := 7) (by decide)
  have ze_1_8 := lv_neT e_1_8 (a := 8) (by decide)
  refine k_tableOut C (tgt := 124) dX4_status_1 (by omega) (by decide) ?_
  refine k_iload_n C dX4_status_124 1 rfl rfl ?_
  refine k_bipush C (v := (12 : Int32)) dX4_status_125 (by decide) ?_
  refine k_bipush C (v := (16 : Int32)) dX4_status_127 (by decide) ?_
  obtain ⟨x5, hx5, h⟩ := bindE h
  refine kcallE_i C (r := x5) (fun H locs ls hP hD hS hF hz => krunS C (c_M_isWithin l D cI cL cZ H.size v1 (12 : Int32) (16 : Int32) x5 hx5) (va_cwS 3 C.2.2.2.2.1 (gS wq_1 wq_2 wq_3 wq_0) rfl rfl rfl (by decide +kernel) ⟨(Nat.le_of_ble_eq_true rfl), (Nat.le_of_ble_eq_true rfl)⟩) kEnv_T rfl rfl (Nat.le_of_ble_eq_true rfl) dX4_status_129 hP hD hz) ?_
  refine k_if_eq C (tgt := 147) dX4_status_132 (by decide) (fun c_132 => ?_) (fun c_132 => ?_)
  · have h := ifT c_132 h
    refine k_iconst C (v := (-1 : Int32)) dX4_status_147 (by decide) ?_
    obtain rfl := Option.some.inj h
    exact kret_i C rfl dX4_status_148
  · have h := ifF c_132 h
    refine k_aload_n C dX4_status_135 0 rfl rfl ?_
    refine k_get C (C0 := RX4) (T := TX4) (N := 10) (fun w h => List.mem_cons_of_mem _ (us_M w h)) 0 rfl rfl 8 (by decide) (List.mem_cons_of_mem _ wq_4) rfl rfl dX4_status_136 ?_
    refine k_iload_n C dX4_status_139 1 rfl rfl ?_
    refine k_bipush C (v := (12 : Int32)) dX4_status_140 (by decide) ?_
    refine k_isub C dX4_status_142 ?_
    obtain ⟨x6, hx6, h⟩ := bindE h
    refine k_iald C 7 0 rfl rfl hx6 dX4_status_143 ?_
    refine k_goto C (tgt := 148) dX4_status_144 (by decide) ?_
    obtain rfl := Option.some.inj h
    exact kret_i C rfl dX4_status_148
theorem c_M_status (l : Launch) (D : va_G) (cI : ClassId) (cL : ClassId) (cZ : ClassId) (X : kX) (sz : Nat) (a_this : Nat) (a_now : Nat) (a_kept : Nat) (a_trial : Nat) (a_shelves : Nat) (a_tape : Nat) (a_paths : Nat) (a_sounds : Nat) (a_volumes : Nat) (a_refusals : Nat) (a_now_stones : Nat) (a_now_kinds : Nat) (a_now_weights : Nat) (a_now_chances : Nat) (a_shelves_marks : Nat) (a_shelves_sizes : Nat) (a_shelves_elements : Nat) (a_tape_letters : Nat) (v1 : Int32) (c_isKept : Int32) (c_now_width : Int32) (c_now_rain : Int32) (c_now_ear : Int32) (c_now_walkers : Int32) (c_now_seed : Int32) (c_now_stones : (Nat → Int32)) (c_now_chances : (Nat → Int32)) (c_shelves_marks : (Nat → Int32)) (c_tape_size : Int32) (c_tape_token : Int32) (c_tape_place : Int32) (c_tape_end : Int32) (c_refusals : (Nat → Int32)) (x : Int32) (h : f_M_status v1 c_now_width c_now_rain c_now_ear c_now_walkers c_now_seed c_now_stones c_now_chances c_shelves_marks c_tape_size c_refusals = some x) :
    Met l yX4_status (Cond.code yX4_status cX4_status 2 (some .int) :: WS) rm_M_status (kP D (tyG cI cL cZ) (kEs X (va_A (cells_M_status cI cL cZ a_this a_now a_kept a_trial a_shelves a_tape a_paths a_sounds a_volumes a_refusals a_now_stones a_now_kinds a_now_weights a_now_chances a_shelves_marks a_shelves_sizes a_shelves_elements a_tape_letters c_isKept c_now_width c_now_rain c_now_ear c_now_walkers c_now_seed c_now_stones c_now_chances c_shelves_marks c_tape_size c_tape_token c_tape_place c_tape_end c_refusals) sz)) [.ref a_this, .int v1] sz (cells_M_status cI cL cZ a_this a_now a_kept a_trial a_shelves a_tape a_paths a_sounds a_volumes a_refusals a_now_stones a_now_kinds a_now_weights a_now_chances a_shelves_marks a_shelves_sizes a_shelves_elements a_tape_letters c_isKept c_now_width c_now_rain c_now_ear c_now_walkers c_now_seed c_now_stones c_now_chances c_shelves_marks c_tape_size c_tape_token c_tape_place c_tape_end c_refusals)) (kQi D (va_A (cells_M_status cI cL cZ a_this a_now a_kept a_trial a_shelves a_tape a_paths a_sounds a_volumes a_refusals a_now_stones a_now_kinds a_now_weights a_now_chances a_shelves_marks a_shelves_sizes a_shelves_elements a_tape_letters c_isKept c_now_width c_now_rain c_now_ear c_now_walkers c_now_seed c_now_stones c_now_chances c_shelves_marks c_tape_size c_tape_token c_tape_place c_tape_end c_refusals) sz) (cells_M_status cI cL cZ a_this a_now a_kept a_trial a_shelves a_tape a_paths a_sounds a_volumes a_refusals a_now_stones a_now_kinds a_now_weights a_now_chances a_shelves_marks a_shelves_sizes a_shelves_elements a_tape_letters c_isKept c_now_width c_now_rain c_now_ear c_now_walkers c_now_seed c_now_stones c_now_chances c_shelves_marks c_tape_size c_tape_token c_tape_place c_tape_end c_refusals) x) 0 0 (va_A (cells_M_status cI cL cZ a_this a_now a_kept a_trial a_shelves a_tape a_paths a_sounds a_volumes a_refusals a_now_stones a_now_kinds a_now_weights a_now_chances a_shelves_marks a_shelves_sizes a_shelves_elements a_tape_letters c_isKept c_now_width c_now_rain c_now_ear c_now_walkers c_now_seed c_now_stones c_now_chances c_shelves_marks c_tape_size c_tape_token c_tape_place c_tape_end c_refusals) sz) :=
  kmet (by decide) (Nat.le_of_ble_eq_true rfl) rfl (fun p e s m below meth c C hE => s_M_status C hE h)

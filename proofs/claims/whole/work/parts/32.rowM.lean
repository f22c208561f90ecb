variable {p : Program} {l : Launch} {e : Env} {s : State} {m : MethodId} {args : Array Value} {below : List Frame} {meth : Method} {c : Code} {D : va_G} {A : Nat → Prop} {cI cL cZ : ClassId} {Q : State → Prop}
set_option maxRecDepth 100000 in
set_option maxHeartbeats 4000000 in
theorem s_D_pour (C : kC p l e rm_D_pour s m args below meth c D (tyG cI cL cZ) A 3 cX0_pour yX0_pour.cls (Cond.code yX0_pour cX0_pour 3 none :: WS) none) {X : kX} (hE : kEs X A s) {a_this : Nat} {a_stones : Nat} {a_kinds : Nat} {a_weights : Nat} {a_chances : Nat} {v1 : Int32} {v2 : Int32} {c_width : Int32} {c_rain : Int32} {c_ear : Int32} {c_walkers : Int32} {c_seed : Int32} {c_stones : (Nat → Int32)} {x : (Nat → Int32)} (h : f_D_pour v1 v2 c_stones = some x) :
    kW p l e rm_D_pour s m args below meth c D A 3 (cells_D_pour cI cL cZ a_this a_stones a_kinds a_weights a_chances c_width c_rain c_ear c_walkers c_seed c_stones) [(0, .ref a_this), (1, .int v1), (2, .int v2)] (MQ below (kQv D A (cells_D_pour cI cL cZ a_this a_stones a_kinds a_weights a_chances c_width c_rain c_ear c_walkers c_seed x)) args s 0 0 A) 0 [] := by
  unfold f_D_pour at h
  refine k_iload_n C dX0_pour_0 1 rfl rfl ?_
  refine k_iconst C (v := (0 : Int32)) dX0_pour_1 (by decide) ?_
  refine k_bipush C (v := (35 : Int32)) dX0_pour_2 (by decide) ?_
  obtain ⟨x1, hx1, h⟩ := bindE h
  refine kcallE_i C (r := x1) (fun H locs ls hP hD hS hF hz => krunSN C (c_M_isWithin l D cI cL cZ H.size v1 (0 : Int32) (35 : Int32) x1 hx1) ⟨va_cnB 3 C.2.2.2.2.1 (gW wq_0) rfl rfl rfl (hE.2.2.2.2.2.2.2 (RX0, 56, yX4_isWithin) (by decide +kernel)) (C.2.2.2.2.1 _ (List.mem_cons_of_mem _ wq_3)) (by decide +kernel) ⟨(Nat.le_of_ble_eq_true rfl), (Nat.le_of_ble_eq_true rfl)⟩, C.2.2.2.2.1 _ (List.mem_cons_of_mem _ wq_2), trivial⟩ kEnv_T rfl rfl (Nat.le_of_ble_eq_true rfl) dX0_pour_4 hP hD hz) ?_
  refine k_if_eq C (tgt := 17) dX0_pour_7 (by decide) (fun c_7 => ?_) (fun c_7 => ?_)
  · have h := ifT c_7 h
    obtain rfl := Option.some.inj h
    exact kret_v C rfl dX0_pour_17
  · have h := ifF c_7 h
    refine k_aload_n C dX0_pour_10 0 rfl rfl ?_
    refine k_get C (C0 := RX0) (T := TX0) (N := 9) (fun w h => List.mem_cons_of_mem _ (us_D w h)) 0 rfl rfl 0 (by decide) (List.mem_cons_of_mem _ wq_85) rfl rfl dX0_pour_11 ?_
    refine k_iload_n C dX0_pour_14 1 rfl rfl ?_
    refine k_iload_n C dX0_pour_15 2 rfl rfl ?_
    obtain ⟨x2, hx2, h⟩ := bindE h
    refine k_iast C 1 0 (ws' := (cells_D_pour cI cL cZ a_this a_stones a_kinds a_weights a_chances c_width c_rain c_ear c_walkers c_seed x2)) rfl rfl hx2 rfl dX0_pour_16 ?_
    obtain rfl := Option.some.inj h
    exact kret_v C rfl dX0_pour_17
theorem c_D_pour (l : Launch) (D : va_G) (cI : ClassId) (cL : ClassId) (cZ : ClassId) (X : kX) (sz : Nat) (a_this : Nat) (a_stones : Nat) (a_kinds : Nat) (a_weights : Nat) (a_chances : Nat) (v1 : Int32) (v2 : Int32) (c_width : Int32) (c_rain : Int32) (c_ear : Int32) (c_walkers : Int32) (c_seed : Int32) (c_stones : (Nat → Int32)) (x : (Nat → Int32)) (h : f_D_pour v1 v2 c_stones = some x) :
    Met l yX0_pour (Cond.code yX0_pour cX0_pour 3 none :: WS) rm_D_pour (kP D (tyG cI cL cZ) (kEs X (va_A (cells_D_pour cI cL cZ a_this a_stones a_kinds a_weights a_chances c_width c_rain c_ear c_walkers c_seed c_stones) sz)) [.ref a_this, .int v1, .int v2] sz (cells_D_pour cI cL cZ a_this a_stones a_kinds a_weights a_chances c_width c_rain c_ear c_walkers c_seed c_stones)) (kQv D (va_A (cells_D_pour cI cL cZ a_this a_stones a_kinds a_weights a_chances c_width c_rain c_ear c_walkers c_seed c_stones) sz) (cells_D_pour cI cL cZ a_this a_stones a_kinds a_weights a_chances c_width c_rain c_ear c_walkers c_seed x)) 0 0 (va_A (cells_D_pour cI cL cZ a_this a_stones a_kinds a_weights a_chances c_width c_rain c_ear c_walkers c_seed c_stones) sz) :=
  kmet (by decide) (Nat.le_of_ble_eq_true rfl) rfl (fun p e s m below meth c C hE => s_D_pour C hE h)
abbrev cells_M_gravel (cI : ClassId) (cL : ClassId) (cZ : ClassId) (a_this : Nat) (a_now : Nat) (a_kept : Nat) (a_trial : Nat) (a_shelves : Nat) (a_tape : Nat) (a_paths : Nat) (a_sounds : Nat) (a_volumes : Nat) (a_refusals : Nat) (a_now_stones : Nat) (a_now_kinds : Nat) (a_now_weights : Nat) (a_now_chances : Nat) (c_isKept : Int32) (c_now_width : Int32) (c_now_rain : Int32) (c_now_ear : Int32) (c_now_walkers : Int32) (c_now_seed : Int32) (c_now_stones : (Nat → Int32)) (c_refusals : (Nat → Int32)) : va_W := [(a_this, .inr (4, [.ref a_now, .ref a_kept, .ref a_trial, .ref a_shelves, .ref a_tape, .ref a_paths, .ref a_sounds, .ref a_volumes, .ref a_refusals, .int c_isKept])), (a_now, .inr (0, [.ref a_now_stones, .ref a_now_kinds, .ref a_now_weights, .ref a_now_chances, .int c_now_width, .int c_now_rain, .int c_now_ear, .int c_now_walkers, .int c_now_seed])), (a_now_stones, .inl (cI, 36, .inl c_now_stones)), (a_refusals, .inl (cI, 5, .inl c_refusals))]
abbrev rm_M_gravel : Room := { frames := 3, cells := 0, slots := 0, locals := 73 }
set_option maxRecDepth 100000 in
set_option maxHeartbeats 4000000 in
theorem s_M_gravel_j18 (C : kC p l e rm_M_gravel s m args below meth c D (tyG cI cL cZ) A 4 cX4_gravel yX4_gravel.cls (Cond.code yX4_gravel cX4_gravel 4 (some .int) :: WS) (some .int)) {X : kX} (hE : kEs X A s) {a_this : Nat} {a_now : Nat} {a_kept : Nat} {a_trial : Nat} {a_shelves : Nat} {a_tape : Nat} {a_paths : Nat} {a_sounds : Nat} {a_volumes : Nat} {a_refusals : Nat} {a_now_stones : Nat} {a_now_kinds : Nat} {a_now_weights : Nat} {a_now_chances : Nat} {c_isKept : Int32} {c_now_width : Int32} {c_now_rain : Int32} {c_now_ear : Int32} {c_now_walkers : Int32} {c_now_seed : Int32} {c_now_stones : (Nat → Int32)} {c_refusals : (Nat → Int32)} {x : (Int32 × (Nat → Int32) × (Nat → Int32))} (h : f_M_gravel_j18 c_now_stones c_refusals = some x) :
    kW p l e rm_M_gravel s m args below meth c D A 4 (cells_M_gravel cI cL cZ a_this a_now a_kept a_trial a_shelves a_tape a_paths a_sounds a_volumes a_refusals a_now_stones a_now_kinds a_now_weights a_now_chances c_isKept c_now_width c_now_rain c_now_ear c_now_walkers c_now_seed c_now_stones c_refusals) [(0, .ref a_this)] (MQ below (kQi D A (cells_M_gravel cI cL cZ a_this a_now a_kept a_trial a_shelves a_tape a_paths a_sounds a_volumes a_refusals a_now_stones a_now_kinds a_now_weights a_now_chances c_isKept c_now_width c_now_rain c_now_ear c_now_walkers c_now_seed x.2.1 x.2.2) x.1) args s 0 0 A) 18 [] := by
  unfold f_M_gravel_j18 at h
  refine k_aload_n C dX4_gravel_18 0 rfl rfl ?_
  refine k_bipush C (v := (-2 : Int32)) dX4_gravel_19 (by decide) ?_
  obtain ⟨x2, hx2, h⟩ := bindE h
  refine kcallU_i C (wc := (cells_M_refuse cI cL cZ a_this a_now a_kept a_trial a_shelves a_tape a_paths a_sounds a_volumes a_refusals c_isKept c_refusals)) (w1 := (cells_M_refuse cI cL cZ a_this a_now a_kept a_trial a_shelves a_tape a_paths a_sounds a_volumes a_refusals c_isKept x2.2)) (ws' := (cells_M_gravel cI cL cZ a_this a_now a_kept a_trial a_shelves a_tape a_paths a_sounds a_volumes a_refusals a_now_stones a_now_kinds a_now_weights a_now_chances c_isKept c_now_width c_now_rain c_now_ear c_now_walkers c_now_seed c_now_stones x2.2)) (r := x2.1) [0, 3] (fun H locs ls hP hD hS hF hz => krunV C (q0 := 0) (ci := 4) (c_M_refuse l D cI cL cZ H.size a_this a_now a_kept a_trial a_shelves a_tape a_paths a_sounds a_volumes a_refusals (-2 : Int32) c_isKept c_refusals x2 hx2) (cwV 1 C.2.2.2.2.1 (gV wq_12 wq_13 wq_14 wq_3 wq_11) rfl rfl rfl (by decide +kernel) ⟨(Nat.le_of_ble_eq_true rfl), (Nat.le_of_ble_eq_true rfl)⟩) rfl rfl kEnv_T rfl rfl (Nat.le_of_ble_eq_true rfl) dX4_gravel_21 hP hD hz) rfl (by decide) rfl rfl ?_
  obtain rfl := Option.some.inj h
  exact kret_i C rfl dX4_gravel_24
set_option maxRecDepth 100000 in
set_option maxHeartbeats 4000000 in
theorem s_M_gravel (C : kC p l e rm_M_gravel s m args below meth c D (tyG cI cL cZ) A 4 cX4_gravel yX4_gravel.cls (Cond.code yX4_gravel cX4_gravel 4 (some .int) :: WS) (some .int)) {X : kX} (hE : kEs X A s) {a_this : Nat} {a_now : Nat} {a_kept : Nat} {a_trial : Nat} {a_shelves : Nat} {a_tape : Nat} {a_paths : Nat} {a_sounds : Nat} {a_volumes : Nat} {a_refusals : Nat} {a_now_stones : Nat} {a_now_kinds : Nat} {a_now_weights : Nat} {a_now_chances : Nat} {v1 : Int32} {v2 : Int32} {c_isKept : Int32} {c_now_width : Int32} {c_now_rain : Int32} {c_now_ear : Int32} {c_now_walkers : Int32} {c_now_seed : Int32} {c_now_stones : (Nat → Int32)} {c_refusals : (Nat → Int32)} {x : (Int32 × (Nat → Int32) × (Nat → Int32))} (h : f_M_gravel v1 v2 c_now_width c_now_stones c_refusals = some x) :
    kW p l e rm_M_gravel s m args below meth c D A 4 (cells_M_gravel cI cL cZ a_this a_now a_kept a_trial a_shelves a_tape a_paths a_sounds a_volumes a_refusals a_now_stones a_now_kinds a_now_weights a_now_chances c_isKept c_now_width c_now_rain c_now_ear c_now_walkers c_now_seed c_now_stones c_refusals) [(0, .ref a_this), (1, .int v1), (2, .int v2)] (MQ below (kQi D A (cells_M_gravel cI cL cZ a_this a_now a_kept a_trial a_shelves a_tape a_paths a_sounds a_volumes a_refusals a_now_stones a_now_kinds a_now_weights a_now_chances c_isKept c_now_width c_now_rain c_now_ear c_now_walkers c_now_seed x.2.1 x.2.2) x.1) args s 0 0 A) 0 [] := by
  unfold f_M_gravel at h
  refine k_aload_n C dX4_gravel_0 0 rfl rfl ?_
  refine k_iload_n C dX4_gravel_1 1 rfl rfl ?_
  obtain ⟨x1, hx1, h⟩ := bindE h
  refine kcallR_i C (wc := (cells_M_isCell cI cL cZ a_this a_now a_kept a_trial a_shelves a_tape a_paths a_sounds a_volumes a_refusals a_now_stones a_now_kinds a_now_weights a_now_chances c_isKept c_now_width c_now_rain c_now_ear c_now_walkers c_now_seed)) (r := x1) [0, 1] (fun H locs ls hP hD hS hF hz => krunV C (q0 := 0) (ci := 4) (c_M_isCell l D cI cL cZ H.size a_this a_now a_kept a_trial a_shelves a_tape a_paths a_sounds a_volumes a_refusals a_now_stones a_now_kinds a_now_weights a_now_chances v1 c_isKept c_now_width c_now_rain c_now_ear c_now_walkers c_now_seed x1 hx1) (cwV 1 C.2.2.2.2.1 (gV wq_136 wq_137 wq_138 wq_3 wq_135) rfl rfl rfl (by decide +kernel) ⟨(Nat.le_of_ble_eq_true rfl), (Nat.le_of_ble_eq_true rfl)⟩) rfl rfl kEnv_T rfl rfl (Nat.le_of_ble_eq_true rfl) dX4_gravel_2 hP hD hz) rfl (by decide) ?_
  refine k_if_eq C (tgt := 18) dX4_gravel_5 (by decide) (fun c_5 => ?_) (fun c_5 => ?_)
  · have h := ifT c_5 h
    refine k_lv (lv' := [(0, .ref a_this)]) [0] rfl ?_
    exact s_M_gravel_j18 C hE h
  · have h := ifF c_5 h
    refine k_iload_n C dX4_gravel_8 2 rfl rfl ?_
    refine k_iconst C (v := (0 : Int32)) dX4_gravel_9 (by decide) ?_
    refine k_bipush C (v := (9 : Int32)) dX4_gravel_10 (by decide) ?_
    obtain ⟨x3, hx3, h⟩ := bindE h
    refine kcallE_i C (r := x3) (fun H locs ls hP hD hS hF hz => krunS C (c_M_isWithin l D cI cL cZ H.size v2 (0 : Int32) (9 : Int32) x3 hx3) (va_cwS 3 C.2.2.2.2.1 (gS wq_1 wq_2 wq_3 wq_0) rfl rfl rfl (by decide +kernel) ⟨(Nat.le_of_ble_eq_true rfl), (Nat.le_of_ble_eq_true rfl)⟩) kEnv_T rfl rfl (Nat.le_of_ble_eq_true rfl) dX4_gravel_12 hP hD hz) ?_
    refine k_if_ne C (tgt := 25) dX4_gravel_15 (by decide) (fun c_15 => ?_) (fun c_15 => ?_)
    · have h := ifF c_15 h
      refine k_aload_n C dX4_gravel_25 0 rfl rfl ?_
      refine k_get C (C0 := RX4) (T := TX4) (N := 10) (fun w h => List.mem_cons_of_mem _ (us_M w h)) 0 rfl rfl 0 (by decide) (List.mem_cons_of_mem _ wq_67) rfl rfl dX4_gravel_26 ?_
      refine k_iload_n C dX4_gravel_29 1 rfl rfl ?_
      obtain ⟨x4, hx4, h⟩ := bindE h
      refine kcallR_i C (wc := (cells_D_stonesOn cI cL cZ a_now a_now_stones a_now_kinds a_now_weights a_now_chances c_now_width c_now_rain c_now_ear c_now_walkers c_now_seed c_now_stones)) (r := x4) [1, 2] (fun H locs ls hP hD hS hF hz => krunV C (q0 := 0) (ci := 0) (c_D_stonesOn l D cI cL cZ H.size a_now a_now_stones a_now_kinds a_now_weights a_now_chances v1 c_now_width c_now_rain c_now_ear c_now_walkers c_now_seed c_now_stones x4 hx4) (cwV 1 C.2.2.2.2.1 (gV wq_139 wq_88 wq_89 wq_72 wq_86) rfl rfl rfl (by decide +kernel) ⟨(Nat.le_of_ble_eq_true rfl), (Nat.le_of_ble_eq_true rfl)⟩) rfl rfl kEnv_T rfl rfl (Nat.le_of_ble_eq_true rfl) dX4_gravel_30 hP hD hz) rfl (by decide) ?_
      refine k_istore_n C (lv' := [(3, .int x4), (0, .ref a_this), (1, .int v1), (2, .int v2)]) dX4_gravel_33 rfl (by decide) rfl ?_
      refine k_aload_n C dX4_gravel_34 1 rfl rfl ?_
      refine k_get C (C0 := RX4) (T := TX4) (N := 10) (fun w h => List.mem_cons_of_mem _ (us_M w h)) 0 rfl rfl 0 (by decide) (List.mem_cons_of_mem _ wq_67) rfl rfl dX4_gravel_35 ?_
      refine k_iload_n C dX4_gravel_38 2 rfl rfl ?_
      refine k_iload_n C dX4_gravel_39 3 rfl rfl ?_
      obtain ⟨x5, hx5, h⟩ := bindE h
      refine kcallU_v C (wc := (cells_D_pour cI cL cZ a_now a_now_stones a_now_kinds a_now_weights a_now_chances c_now_width c_now_rain c_now_ear c_now_walkers c_now_seed c_now_stones)) (w1 := (cells_D_pour cI cL cZ a_now a_now_stones a_now_kinds a_now_weights a_now_chances c_now_width c_now_rain c_now_ear c_now_walkers c_now_seed x5)) (ws' := (cells_M_gravel cI cL cZ a_this a_now a_kept a_trial a_shelves a_tape a_paths a_sounds a_volumes a_refusals a_now_stones a_now_kinds a_now_weights a_now_chances c_isKept c_now_width c_now_rain c_now_ear c_now_walkers c_now_seed x5 c_refusals)) [1, 2] (fun H locs ls hP hD hS hF hz => krunV C (q0 := 0) (ci := 0) (c_D_pour l D cI cL cZ X H.size a_now a_now_stones a_now_kinds a_now_weights a_now_chances v1 v2 c_now_width c_now_rain c_now_ear c_now_walkers c_now_seed c_now_stones x5 hx5) (cwV 2 C.2.2.2.2.1 (gV wq_141 wq_142 wq_143 wq_72 wq_140) rfl rfl rfl (by decide +kernel) ⟨(Nat.le_of_ble_eq_true rfl), (Nat.le_of_ble_eq_true rfl)⟩) rfl rfl (kEs_call hE hS hF) rfl rfl (Nat.le_of_ble_eq_true rfl) dX4_gravel_40 hP hD hz) rfl (by decide) rfl rfl ?_
      refine k_iload_n C dX4_gravel_43 0 rfl rfl ?_
      obtain rfl := Option.some.inj h
      exact kret_i C rfl dX4_gravel_44
    · have h := ifT c_15 h
      refine k_lv (lv' := [(0, .ref a_this)]) [0] rfl ?_
      exact s_M_gravel_j18 C hE h
theorem c_M_gravel (l : Launch) (D : va_G) (cI : ClassId) (cL : ClassId) (cZ : ClassId) (X : kX) (sz : Nat) (a_this : Nat) (a_now : Nat) (a_kept : Nat) (a_trial : Nat) (a_shelves : Nat) (a_tape : Nat) (a_paths : Nat) (a_sounds : Nat) (a_volumes : Nat) (a_refusals : Nat) (a_now_stones : Nat) (a_now_kinds : Nat) (a_now_weights : Nat) (a_now_chances : Nat) (v1 : Int32) (v2 : Int32) (c_isKept : Int32) (c_now_width : Int32) (c_now_rain : Int32) (c_now_ear : Int32) (c_now_walkers : Int32) (c_now_seed : Int32) (c_now_stones : (Nat → Int32)) (c_refusals : (Nat → Int32)) (x : (Int32 × (Nat → Int32) × (Nat → Int32))) (h : f_M_gravel v1 v2 c_now_width c_now_stones c_refusals = some x) :
    Met l yX4_gravel (Cond.code yX4_gravel cX4_gravel 4 (some .int) :: WS) rm_M_gravel (kP D (tyG cI cL cZ) (kEs X (va_A (cells_M_gravel cI cL cZ a_this a_now a_kept a_trial a_shelves a_tape a_paths a_sounds a_volumes a_refusals a_now_stones a_now_kinds a_now_weights a_now_chances c_isKept c_now_width c_now_rain c_now_ear c_now_walkers c_now_seed c_now_stones c_refusals) sz)) [.ref a_this, .int v1, .int v2] sz (cells_M_gravel cI cL cZ a_this a_now a_kept a_trial a_shelves a_tape a_paths a_sounds a_volumes a_refusals a_now_stones a_now_kinds a_now_weights a_now_chances c_isKept c_now_width c_now_rain c_now_ear c_now_walkers c_now_seed c_now_stones c_refusals)) (kQi D (va_A (cells_M_gravel cI cL cZ a_this a_now a_kept a_trial a_shelves a_tape a_paths a_sounds a_volumes a_refusals a_now_stones a_now_kinds a_now_weights a_now_chances c_isKept c_now_width c_now_rain c_now_ear c_now_walkers c_now_seed c_now_stones c_refusals) sz) (cells_M_gravel cI cL cZ a_this a_now a_kept a_trial a_shelves a_tape a_paths a_sounds a_volumes a_refusals a_now_stones a_now_kinds a_now_weights a_now_chances c_isKept c_now_width c_now_rain c_now_ear c_now_walkers c_now_seed x.2.1 x.2.2) x.1) 0 0 (va_A (cells_M_gravel cI cL cZ a_this a_now a_kept a_trial a_shelves a_tape a_paths a_sounds a_volumes a_refusals a_now_stones a_now_kinds a_now_weights a_now_chances c_isKept c_now_width c_now_rain c_now_ear c_now_walkers c_now_seed c_now_stones c_refusals) sz) :=
  kmet (by decide) (Nat.le_of_ble_eq_true rfl) rfl (fun p e s m below meth c C hE => s_M_gravel C hE h)
abbrev cells_M_ask (cI : ClassId) (cL : ClassId) (cZ : ClassId) (a_this : Nat) (a_now : Nat) (a_kept : Nat) (a_trial : Nat) (a_shelves : Nat) (a_tape : Nat) (a_paths : Nat) (a_sounds : Nat) (a_volumes : Nat) (a_refusals : Nat) (a_now_stones : Nat) (a_now_kinds : Nat) (a_now_weights : Nat) (a_now_chances : Nat) (c_isKept : Int32) (c_now_width : Int32) (c_now_rain : Int32) (c_now_ear : Int32) (c_now_walkers : Int32) (c_now_seed : Int32) (c_refusals : (Nat → Int32)) : va_W := [(a_this, .inr (4, [.ref a_now, .ref a_kept, .ref a_trial, .ref a_shelves, .ref a_tape, .ref a_paths, .ref a_sounds, .ref a_volumes, .ref a_refusals, .int c_isKept])), (a_now, .inr (0, [.ref a_now_stones, .ref a_now_kinds, .ref a_now_weights, .ref a_now_chances, .int c_now_width, .int c_now_rain, .int c_now_ear, .int c_now_walkers, .int c_now_seed])), (a_refusals, .inl (cI, 5, .inl c_refusals))]
abbrev rm_M_ask : Room := { frames := 2, cells := 0, slots := 0, locals := 44 }
set_option maxRecDepth 100000 in
set_option maxHeartbeats 4000000 in
theorem s_M_ask_j67 (C : kC p l e rm_M_ask s m args below meth c D (tyG cI cL cZ) A 4 cX4_ask yX4_ask.cls (Cond.code yX4_ask cX4_ask 4 (some .int) :: WS) (some .int)) {a_this : Nat} {a_now : Nat} {a_kept : Nat} {a_trial : Nat} {a_shelves : Nat} {a_tape : Nat} {a_paths : Nat} {a_sounds : Nat} {a_volumes : Nat} {a_refusals : Nat} {a_now_stones : Nat} {a_now_kinds : Nat} {a_now_weights : Nat} {a_now_chances : Nat} {c_isKept : Int32} {c_now_width : Int32} {c_now_rain : Int32} {c_now_ear : Int32} {c_now_walkers : Int32} {c_now_seed : Int32} {c_refusals : (Nat → Int32)} {x : (Int32 × Int32 × Int32 × (Nat → Int32))} (h : f_M_ask_j67 c_now_rain c_now_ear c_refusals = some x) :
    kW p l e rm_M_ask s m args below meth c D A 4 (cells_M_ask cI cL cZ a_this a_now a_kept a_trial a_shelves a_tape a_paths a_sounds a_volumes a_refusals a_now_stones a_now_kinds a_now_weights a_now_chances c_isKept c_now_width c_now_rain c_now_ear c_now_walkers c_now_seed c_refusals) [(0, .ref a_this)] (MQ below (kQi D A (cells_M_ask cI cL cZ a_this a_now a_kept a_trial a_shelves a_tape a_paths a_sounds a_volumes a_refusals a_now_stones a_now_kinds a_now_weights a_now_chances c_isKept c_now_width x.2.1 x.2.2.1 c_now_walkers c_now_seed x.2.2.2) x.1) args s 0 0 A) 67 [] := by
  unfold f_M_ask_j67 at h
  refine k_aload_n C dX4_ask_67 0 rfl rfl ?_
  refine k_bipush C (v := (-2 : Int32)) dX4_ask_68 (by decide) ?_
  obtain ⟨x1, hx1, h⟩ := bindE h
  refine kcallU_i C (wc := (cells_M_refuse cI cL cZ a_this a_now a_kept a_trial a_shelves a_tape a_paths a_sounds a_volumes a_refusals c_isKept c_refusals)) (w1 := (cells_M_refuse cI cL cZ a_this a_now a_kept a_trial a_shelves a_tape a_paths a_sounds a_volumes a_refusals c_isKept x1.2)) (ws' := (cells_M_ask cI cL cZ a_this a_now a_kept a_trial a_shelves a_tape a_paths a_sounds a_volumes a_refusals a_now_stones a_now_kinds a_now_weights a_now_chances c_isKept c_now_width c_now_rain c_now_ear c_now_walkers c_now_seed x1.2)) (r := x1.1) [0, 2] (fun H locs ls hP hD hS hF hz => krunV C (q0 := 0) (ci := 4) (c_M_refuse l D cI cL cZ H.size a_this a_now a_kept a_trial a_shelves a_tape a_paths a_sounds a_volumes a_refusals (-2 : Int32) c_isKept c_refusals x1 hx1) (cwV 1 C.2.2.2.2.1 (gV wq_12 wq_13 wq_14 wq_3 wq_11) rfl rfl rfl (by decide +kernel) ⟨(Nat.le_of_ble_eq_true rfl), (Nat.le_of_ble_eq_true rfl)⟩) rfl rfl kEnv_T rfl rfl (Nat.le_of_ble_eq_true rfl) dX4_ask_70 hP hD hz) rfl (by decide) rfl rfl ?_
  refine k_istore_n C (lv' := [(3, .int x1.1), (0, .ref a_this)]) dX4_ask_73 rfl (by decide) rfl ?_
  refine k_iload_n C dX4_ask_74 0 rfl rfl ?_
  obtain rfl := Option.some.inj h
  exact kret_i C rfl dX4_ask_75
set_option maxRecDepth 100000 in
set_option maxHeartbeats 4000000 in
theorem s_M_ask_j33 (C : kC p l e rm_M_ask s m args below meth c D (tyG cI cL cZ) A 4 cX4_ask yX4_ask.cls (Cond.code yX4_ask cX4_ask 4 (some .int) :: WS) (some .int)) {a_this : Nat} {a_now : Nat} {a_kept : Nat} {a_trial : Nat} {a_shelves : Nat} {a_tape : Nat} {a_paths : Nat} {a_sounds : Nat} {a_volumes : Nat} {a_refusals : Nat} {a_now_stones : Nat} {a_now_kinds : Nat} {a_now_weights : Nat} {a_now_chances : Nat} {v1 : Int32} {v2 : Int32} {c_isKept : Int32} {c_now_width : Int32} {c_now_rain : Int32} {c_now_ear : Int32} {c_now_walkers : Int32} {c_now_seed : Int32} {c_refusals : (Nat → Int32)} {x : (Int32 × Int32 × Int32 × (Nat → Int32))} (h : f_M_ask_j33 v1 v2 c_now_rain c_now_ear c_refusals = some x) :
    kW p l e rm_M_ask s m args below meth c D A 4 (cells_M_ask cI cL cZ a_this a_now a_kept a_trial a_shelves a_tape a_paths a_sounds a_volumes a_refusals a_now_stones a_now_kinds a_now_weights a_now_chances c_isKept c_now_width c_now_rain c_now_ear c_now_walkers c_now_seed c_refusals) [(0, .ref a_this), (1, .int v1), (2, .int v2)] (MQ below (kQi D A (cells_M_ask cI cL cZ a_this a_now a_kept a_trial a_shelves a_tape a_paths a_sounds a_volumes a_refusals a_now_stones a_now_kinds a_now_weights a_now_chances c_isKept c_now_width x.2.1 x.2.2.1 c_now_walkers c_now_seed x.2.2.2) x.1) args s 0 0 A) 33 [] := by
  unfold f_M_ask_j33 at h
  refine k_iload_n C dX4_ask_33 1 rfl rfl ?_
  refine k_iconst C (v := (1 : Int32)) dX4_ask_34 (by decide) ?_
  refine k_icmp_ne C (tgt := 67) dX4_ask_35 (by decide) (fun c_35 => ?_) (fun c_35 => ?_)
  · have h := ifF c_35 h
    refine k_lv (lv' := [(0, .ref a_this)]) [0] rfl ?_
    exact s_M_ask_j67 C h
  · have h := ifT c_35 h
    refine k_iload_n C dX4_ask_38 2 rfl rfl ?_
    refine k_iconst C (v := (1 : Int32)) dX4_ask_39 (by decide) ?_
    refine k_bipush C (v := (99 : Int32)) dX4_ask_40 (by decide) ?_
    obtain ⟨x2, hx2, h⟩ := bindE h
    refine kcallE_i C (r := x2) (fun H locs ls hP hD hS hF hz => krunS C (c_M_isWithin l D cI cL cZ H.size v2 (1 : Int32) (99 : Int32) x2 hx2) (va_cwS 3 C.2.2.2.2.1 (gS wq_1 wq_2 wq_3 wq_0) rfl rfl rfl (by decide +kernel) ⟨(Nat.le_of_ble_eq_true rfl), (Nat.le_of_ble_eq_true rfl)⟩) kEnv_T rfl rfl (Nat.le_of_ble_eq_true rfl) dX4_ask_42 hP hD hz) ?_
    refine k_if_eq C (tgt := 67) dX4_ask_45 (by decide) (fun c_45 => ?_) (fun c_45 => ?_)
    · have h := ifT c_45 h
      refine k_lv (lv' := [(0, .ref a_this)]) [0] rfl ?_
      exact s_M_ask_j67 C h
    · have h := ifF c_45 h
      refine k_aload_n C dX4_ask_48 0 rfl rfl ?_
      refine k_get C (C0 := RX4) (T := TX4) (N := 10) (fun w h => List.mem_cons_of_mem _ (us_M w h)) 0 rfl rfl 0 (by decide) (List.mem_cons_of_mem _ wq_67) rfl rfl dX4_ask_49 ?_
      refine k_get C (C0 := RX0) (T := TX0) (N := 9) (fun w h => List.mem_cons_of_mem _ (us_D w h)) 1 rfl rfl 6 (by decide) (List.mem_cons_of_mem _ wq_144) rfl rfl dX4_ask_52 ?_
      refine k_istore_n C (lv' := [(3, .int c_now_ear), (0, .ref a_this), (1, .int v1), (2, .int v2)]) dX4_ask_55 rfl (by decide) rfl ?_
      refine k_aload_n C dX4_ask_56 1 rfl rfl ?_
      refine k_get C (C0 := RX4) (T := TX4) (N := 10) (fun w h => List.mem_cons_of_mem _ (us_M w h)) 0 rfl rfl 0 (by decide) (List.mem_cons_of_mem _ wq_67) rfl rfl dX4_ask_57 ?_
      refine k_iload_n C dX4_ask_60 3 rfl rfl ?_
      refine k_put C (C0 := RX0) (T := TX0) (N := 9) (ws' := (cells_M_ask cI cL cZ a_this a_now a_kept a_trial a_shelves a_tape a_paths a_sounds a_volumes a_refusals a_now_stones a_now_kinds a_now_weights a_now_chances c_isKept c_now_width c_now_rain v2 c_now_walkers c_now_seed c_refusals)) (fun w h => List.mem_cons_of_mem _ (us_D w h)) tyX0 tyX0_ok nmX0 1 rfl rfl 6 (by decide) (List.mem_cons_of_mem _ wq_144) rfl rfl (tyX0_ok 6 (by decide)) rfl rfl (Nat.le_of_ble_eq_true rfl) rfl dX4_ask_61 ?_
      refine k_goto C (tgt := 74) dX4_ask_64 (by decide) ?_
      refine k_iload_n C dX4_ask_74 0 rfl rfl ?_
      obtain rfl := Option.some.inj h
      exact kret_i C rfl dX4_ask_75
set_option maxRecDepth 100000 in
set_option maxHeartbeats 4000000 in
theorem s_M_ask (C : kC p l e rm_M_ask s m args below meth c D (tyG cI cL cZ) A 4 cX4_ask yX4_ask.cls (Cond.code yX4_ask cX4_ask 4 (some .int) :: WS) (some .int)) {a_this : Nat} {a_now : Nat} {a_kept : Nat} {a_trial : Nat} {a_shelves : Nat} {a_tape : Nat} {a_paths : Nat} {a_sounds : Nat} {a_volumes : Nat} {a_refusals : Nat} {a_now_stones : Nat} {a_now_kinds : Nat} {a_now_weights : Nat} {a_now_chances : Nat} {v1 : Int32} {v2 : Int32} {c_isKept : Int32} {c_now_width : Int32} {c_now_rain : Int32} {c_now_ear : Int32} {c_now_walkers : Int32} {c_now_seed : Int32} {c_refusals : (Nat → Int32)} {x : (Int32 × Int32 × Int32 × (Nat → Int32))} (h : f_M_ask v1 v2 c_now_rain c_now_ear c_refusals = some x) :
    kW p l e rm_M_ask s m args below meth c D A 4 (cells_M_ask cI cL cZ a_this a_now a_kept a_trial a_shelves a_tape a_paths a_sounds a_volumes a_refusals a_now_stones a_now_kinds a_now_weights a_now_chances c_isKept c_now_width c_now_rain c_now_ear c_now_walkers c_now_seed c_refusals) [(0, .ref a_this), (1, .int v1), (2, .int v2)] (MQ below (kQi D A (cells_M_ask cI cL cZ a_this a_now a_kept a_trial a_shelves a_tape a_paths a_sounds a_volumes a_refusals a_now_stones a_now_kinds a_now_weights a_now_chances c_isKept c_now_width x.2.1 x.2.2.1 c_now_walkers c_now_seed x.2.2.2) x.1) args s 0 0 A) 0 [] := by
  unfold f_M_ask at h
  refine k_iload_n C dX4_ask_0 1 rfl rfl ?_
  refine k_if_ne C (tgt := 33) dX4_ask_1 (by decide) (fun c_1 => ?_) (fun c_1 => ?_)
  · have h := ifF c_1 h
    exact s_M_ask_j33 C h
  · have h := ifT c_1 h
    refine k_iload_n C dX4_ask_4 2 rfl rfl ?_
    refine k_iconst C (v := (0 : Int32)) dX4_ask_5 (by decide) ?_
    refine k_bipush C (v := (9 : Int32)) dX4_ask_6 (by decide) ?_
    obtain ⟨x3, hx3, h⟩ := bindE h
    refine kcallE_i C (r := x3) (fun H locs ls hP hD hS hF hz => krunS C (c_M_isWithin l D cI cL cZ H.size v2 (0 : Int32) (9 : Int32) x3 hx3) (va_cwS 3 C.2.2.2.2.1 (gS wq_1 wq_2 wq_3 wq_0) rfl rfl rfl (by decide +kernel) ⟨(Nat.le_of_ble_eq_true rfl), (Nat.le_of_ble_eq_true rfl)⟩) kEnv_T rfl rfl (Nat.le_of_ble_eq_true rfl) dX4_ask_8 hP hD hz) ?_
    refine k_if_eq C (tgt := 33) dX4_ask_11 (by decide) (fun c_11 => ?_) (fun c_11 => ?_)
    · have h := ifT c_11 h
      exact s_M_ask_j33 C h
    · have h := ifF c_11 h
      refine k_aload_n C dX4_ask_14 0 rfl rfl ?_
      refine k_get C (C0 := RX4) (T := TX4) (N := 10) (fun w h => List.mem_cons_of_mem _ (us_M w h)) 0 rfl rfl 0 (by decide) (List.mem_cons_of_mem _ wq_67) rfl rfl dX4_ask_15 ?_
      refine k_get C (C0 := RX0) (T := TX0) (N := 9) (fun w h => List.mem_cons_of_mem _ (us_D w h)) 1 rfl rfl 5 (by decide) (List.mem_cons_of_mem _ wq_145) rfl rfl dX4_ask_18 ?_
      refine k_istore_n C (lv' := [(3, .int c_now_rain), (0, .ref a_this), (1, .int v1), (2, .int v2)]) dX4_ask_21 rfl (by decide) rfl ?_
      refine k_aload_n C dX4_ask_22 1 rfl rfl ?_
      refine k_get C (C0 := RX4) (T := TX4) (N := 10) (fun w h => List.mem_cons_of_mem _ (us_M w h)) 0 rfl rfl 0 (by decide) (List.mem_cons_of_mem _ wq_67) rfl rfl dX4_ask_23 ?_
      refine k_iload_n C dX4_ask_26 3 rfl rfl ?_
      refine k_put C (C0 := RX0) (T := TX0) (N := 9) (ws' := (cells_M_ask cI cL cZ a_this a_now a_kept a_trial a_shelves a_tape a_paths a_sounds a_volumes a_refusals a_now_stones a_now_kinds a_now_weights a_now_chances c_isKept c_now_width v2 c_now_ear c_now_walkers c_now_seed c_refusals)) (fun w h => List.mem_cons_of_mem _ (us_D w h)) tyX0 tyX0_ok nmX0 1 rfl rfl 5 (by decide) (List.mem_cons_of_mem _ wq_145) rfl rfl (tyX0_ok 5 (by decide)) rfl rfl (Nat.le_of_ble_eq_true rfl) rfl dX4_ask_27 ?_
      refine k_goto C (tgt := 74) dX4_ask_30 (by decide) ?_
      refine k_iload_n C dX4_ask_74 0 rfl rfl ?_
      obtain rfl := Option.some.inj h
      exact kret_i C rfl dX4_ask_75
theorem c_M_ask (l : Launch) (D : va_G) (cI : ClassId) (cL : ClassId) (cZ : ClassId) (sz : Nat) (a_this : Nat) (a_now : Nat) (a_kept : Nat) (a_trial : Nat) (a_shelves : Nat) (a_tape : Nat) (a_paths : Nat) (a_sounds : Nat) (a_volumes : Nat) (a_refusals : Nat) (a_now_stones : Nat) (a_now_kinds : Nat) (a_now_weights : Nat) (a_now_chances : Nat) (v1 : Int32) (v2 : Int32) (c_isKept : Int32) (c_now_width : Int32) (c_now_rain : Int32) (c_now_ear : Int32) (c_now_walkers : Int32) (c_now_seed : Int32) (c_refusals : (Nat → Int32)) (x : (Int32 × Int32 × Int32 × (Nat → Int32))) (h : f_M_ask v1 v2 c_now_rain c_now_ear c_refusals = some x) :
    Met l yX4_ask (Cond.code yX4_ask cX4_ask 4 (some .int) :: WS) rm_M_ask (kP D (tyG cI cL cZ) kTrue [.ref a_this, .int v1, .int v2] sz (cells_M_ask cI cL cZ a_this a_now a_kept a_trial a_shelves a_tape a_paths a_sounds a_volumes a_refusals a_now_stones a_now_kinds a_now_weights a_now_chances c_isKept c_now_width c_now_rain c_now_ear c_now_walkers c_now_seed c_refusals)) (kQi D (va_A (cells_M_ask cI cL cZ a_this a_now a_kept a_trial a_shelves a_tape a_paths a_sounds a_volumes a_refusals a_now_stones a_now_kinds a_now_weights a_now_chances c_isKept c_now_width c_now_rain c_now_ear c_now_walkers c_now_seed c_refusals) sz) (cells_M_ask cI cL cZ a_this a_now a_kept a_trial a_shelves a_tape a_paths a_sounds a_volumes a_refusals a_now_stones a_now_kinds a_now_weights a_now_chances c_isKept c_now_width x.2.1 x.2.2.1 c_now_walkers c_now_seed x.2.2.2) x.1) 0 0 (va_A (cells_M_ask cI cL cZ a_this a_now a_kept a_trial a_shelves a_tape a_paths a_sounds a_volumes a_refusals a_now_stones a_now_kinds a_now_weights a_now_chances c_isKept c_now_width c_now_rain c_now_ear c_now_walkers c_now_seed c_refusals) sz) :=
  kmet (by decide) (Nat.le_of_ble_eq_true rfl) rfl (fun p e s m below meth c C hE => s_M_ask C h)
abbrev cells_D_isFull (cI : ClassId) (cL : ClassId) (cZ : ClassId) (a_this : Nat) (a_stones : Nat) (a_kinds : Nat) (a_weights : Nat) (a_chances : Nat) (c_width : Int32) (c_rain : Int32) (c_ear : Int32) (c_walkers : Int32) (c_seed : Int32) : va_W := [(a_this, .inr (0, [.ref a_stones, .ref a_kinds, .ref a_weights, .ref a_chances, .int c_width, .int c_rain, .int c_ear, .int c_walkers, .int c_seed]))]
abbrev rm_D_isFull : Room := { frames := 0, cells := 0, slots := 0, locals := 0 }
set_option maxRecDepth 100000 in
set_option maxHeartbeats 4000000 in
theorem s_D_isFull (C : kC p l e rm_D_isFull s m args below meth c D (tyG cI cL cZ) A 1 cX0_isFull yX0_isFull.cls (Cond.code yX0_isFull cX0_isFull 1 (some .boolean) :: WS) (some .boolean)) {a_this : Nat} {a_stones : Nat} {a_kinds : Nat} {a_weights : Nat} {a_chances : Nat} {c_width : Int32} {c_rain : Int32} {c_ear : Int32} {c_walkers : Int32} {c_seed : Int32} {x : Int32} (h : f_D_isFull c_walkers = some x) :
    kW p l e rm_D_isFull s m args below meth c D A 1 (cells_D_isFull cI cL cZ a_this a_stones a_kinds a_weights a_chances c_width c_rain c_ear c_walkers c_seed) [(0, .ref a_this)] (MQ below (kQi D A (cells_D_isFull cI cL cZ a_this a_stones a_kinds a_weights a_chances c_width c_rain c_ear c_walkers c_seed) x) args s 0 0 A) 0 [] := by
  unfold f_D_isFull at h
  refine k_aload_n C dX0_isFull_0 0 rfl rfl ?_
  refine k_get C (C0 := RX0) (T := TX0) (N := 9) (fun w h => List.mem_cons_of_mem _ (us_D w h)) 0 rfl rfl 7 (by decide) (List.mem_cons_of_mem _ wq_62) rfl rfl dX0_isFull_1 ?_
  refine k_bipush C (v := (8 : Int32)) dX0_isFull_4 (by decide) ?_
  refine k_icmp_lt C (tgt := 13) dX0_isFull_6 (by decide) (fun c_6 => ?_) (fun c_6 => ?_)
  · have h := ifT c_6 h
    refine k_iconst C (v := (0 : Int32)) dX0_isFull_13 (by decide) ?_
    obtain rfl := Option.some.inj h
    exact kret_z C rfl nz0 dX0_isFull_14
  · have h := ifF c_6 h
    refine k_iconst C (v := (1 : Int32)) dX0_isFull_9 (by decide) ?_
    refine k_goto C (tgt := 14) dX0_isFull_10 (by decide) ?_
    obtain rfl := Option.some.inj h
    exact kret_z C rfl nz1 dX0_isFull_14
theorem c_D_isFull (l : Launch) (D : va_G) (cI : ClassId) (cL : ClassId) (cZ : ClassId) (sz : Nat) (a_this : Nat) (a_stones : Nat) (a_kinds : Nat) (a_weights : Nat) (a_chances : Nat) (c_width : Int32) (c_rain : Int32) (c_ear : Int32) (c_walkers : Int32) (c_seed : Int32) (x : Int32) (h : f_D_isFull c_walkers = some x) :
    Met l yX0_isFull (Cond.code yX0_isFull cX0_isFull 1 (some .boolean) :: WS) rm_D_isFull (kP D (tyG cI cL cZ) kTrue [.ref a_this] sz (cells_D_isFull cI cL cZ a_this a_stones a_kinds a_weights a_chances c_width c_rain c_ear c_walkers c_seed)) (kQi D (va_A (cells_D_isFull cI cL cZ a_this a_stones a_kinds a_weights a_chances c_width c_rain c_ear c_walkers c_seed) sz) (cells_D_isFull cI cL cZ a_this a_stones a_kinds a_weights a_chances c_width c_rain c_ear c_walkers c_seed) x) 0 0 (va_A (cells_D_isFull cI cL cZ a_this a_stones a_kinds a_weights a_chances c_width c_rain c_ear c_walkers c_seed) sz) :=
  kmet (by decide) (Nat.le_of_ble_eq_true rfl) rfl (fun p e s m below meth c C hE => s_D_isFull C h)
abbrev cells_D_welcome (cI : ClassId) (cL : ClassId) (cZ : ClassId) (a_this : Nat) (a_stones : Nat) (a_kinds : Nat) (a_weights : Nat) (a_chances : Nat) (c_width : Int32) (c_rain : Int32) (c_ear : Int32) (c_walkers : Int32) (c_seed : Int32) (c_kinds : (Nat → Int32)) (c_weights : (Nat → Int32)) (c_chances : (Nat → Int32)) : va_W := [(a_this, .inr (0, [.ref a_stones, .ref a_kinds, .ref a_weights, .ref a_chances, .int c_width, .int c_rain, .int c_ear, .int c_walkers, .int c_seed])), (a_kinds, .inl (cI, 8, .inl c_kinds)), (a_weights, .inl (cI, 8, .inl c_weights)), (a_chances, .inl (cI, 8, .inl c_chances))]
abbrev rm_D_welcome : Room := { frames := 1, cells := 0, slots := 0, locals := 22 }
set_option maxRecDepth 100000 in
set_option maxHeartbeats 4000000 in
theorem s_D_welcome (C : kC p l e rm_D_welcome s m args below meth c D (tyG cI cL cZ) A 4 cX0_welcome yX0_welcome.cls (Cond.code yX0_welcome cX0_welcome 4 (some .int) :: WS) (some .int)) {X : kX} (hE : kEs X A s) {a_this : Nat} {a_stones : Nat} {a_kinds : Nat} {a_weights : Nat} {a_chances : Nat} {v1 : Int32} {v2 : Int32} {v3 : Int32} {c_width : Int32} {c_rain : Int32} {c_ear : Int32} {c_walkers : Int32} {c_seed : Int32} {c_kinds : (Nat → Int32)} {c_weights : (Nat → Int32)} {c_chances : (Nat → Int32)} {x : (Int32 × Int32 × (Nat → Int32) × (Nat → Int32) × (Nat → Int32))} (h : f_D_welcome v1 v2 v3 c_walkers c_kinds c_weights c_chances = some x) :
    kW p l e rm_D_welcome s m args below meth c D A 4 (cells_D_welcome cI cL cZ a_this a_stones a_kinds a_weights a_chances c_width c_rain c_ear c_walkers c_seed c_kinds c_weights c_chances) [(0, .ref a_this), (1, .int v1), (2, .int v2), (3, .int v3)] (MQ below (kQi D A (cells_D_welcome cI cL cZ a_this a_stones a_kinds a_weights a_chances c_width c_rain c_ear x.2.1 c_seed x.2.2.1 x.2.2.2.1 x.2.2.2.2) x.1) args s 0 0 A) 0 [] := by
  unfold f_D_welcome at h
  refine k_aload_n C dX0_welcome_0 0 rfl rfl ?_
  refine k_get C (C0 := RX0) (T := TX0) (N := 9) (fun w h => List.mem_cons_of_mem _ (us_D w h)) 0 rfl rfl 7 (by decide) (List.mem_cons_of_mem _ wq_62) rfl rfl dX0_welcome_1 ?_
  refine k_iconst C (v := (0 : Int32)) dX0_welcome_4 (by decide) ?_
  refine k_bipush C (v := (7 : Int32)) dX0_welcome_5 (by decide) ?_
  obtain ⟨x1, hx1, h⟩ := bindE h
  refine kcallE_i C (r := x1) (fun H locs ls hP hD hS hF hz => krunSN C (c_M_isWithin l D cI cL cZ H.size c_walkers (0 : Int32) (7 : Int32) x1 hx1) ⟨va_cnB 3 C.2.2.2.2.1 (gW wq_0) rfl rfl rfl (hE.2.2.2.2.2.2.2 (RX0, 56, yX4_isWithin) (by decide +kernel)) (C.2.2.2.2.1 _ (List.mem_cons_of_mem _ wq_3)) (by decide +kernel) ⟨(Nat.le_of_ble_eq_true rfl), (Nat.le_of_ble_eq_true rfl)⟩, C.2.2.2.2.1 _ (List.mem_cons_of_mem _ wq_2), trivial⟩ kEnv_T rfl rfl (Nat.le_of_ble_eq_true rfl) dX0_welcome_7 hP hD hz) ?_
  refine k_if_ne C (tgt := 15) dX0_welcome_10 (by decide) (fun c_10 => ?_) (fun c_10 => ?_)
  · have h := ifF c_10 h
    refine k_aload_n C dX0_welcome_15 0 rfl rfl ?_
    refine k_get C (C0 := RX0) (T := TX0) (N := 9) (fun w h => List.mem_cons_of_mem _ (us_D w h)) 0 rfl rfl 1 (by decide) (List.mem_cons_of_mem _ wq_81) rfl rfl dX0_welcome_16 ?_
    refine k_aload_n C dX0_welcome_19 0 rfl rfl ?_
    refine k_get C (C0 := RX0) (T := TX0) (N := 9) (fun w h => List.mem_cons_of_mem _ (us_D w h)) 0 rfl rfl 7 (by decide) (List.mem_cons_of_mem _ wq_62) rfl rfl dX0_welcome_20 ?_
    refine k_iload_n C dX0_welcome_23 1 rfl rfl ?_
    obtain ⟨x2, hx2, h⟩ := bindE h
    refine k_iast C 1 0 (ws' := (cells_D_welcome cI cL cZ a_this a_stones a_kinds a_weights a_chances c_width c_rain c_ear c_walkers c_seed x2 c_weights c_chances)) rfl rfl hx2 rfl dX0_welcome_24 ?_
    refine k_aload_n C dX0_welcome_25 0 rfl rfl ?_
    refine k_get C (C0 := RX0) (T := TX0) (N := 9) (fun w h => List.mem_cons_of_mem _ (us_D w h)) 0 rfl rfl 2 (by decide) (List.mem_cons_of_mem _ wq_84) rfl rfl dX0_welcome_26 ?_
    refine k_aload_n C dX0_welcome_29 0 rfl rfl ?_
    refine k_get C (C0 := RX0) (T := TX0) (N := 9) (fun w h => List.mem_cons_of_mem _ (us_D w h)) 0 rfl rfl 7 (by decide) (List.mem_cons_of_mem _ wq_62) rfl rfl dX0_welcome_30 ?_
    refine k_iload_n C dX0_welcome_33 2 rfl rfl ?_
    obtain ⟨x3, hx3, h⟩ := bindE h
    refine k_iast C 2 0 (ws' := (cells_D_welcome cI cL cZ a_this a_stones a_kinds a_weights a_chances c_width c_rain c_ear c_walkers c_seed x2 x3 c_chances)) rfl rfl hx3 rfl dX0_welcome_34 ?_
    refine k_aload_n C dX0_welcome_35 0 rfl rfl ?_
    refine k_get C (C0 := RX0) (T := TX0) (N := 9) (fun w h => List.mem_cons_of_mem _ (us_D w h)) 0 rfl rfl 3 (by decide) (List.mem_cons_of_mem _ wq_83) rfl rfl dX0_welcome_36 ?_
    refine k_aload_n C dX0_welcome_39 0 rfl rfl ?_
    refine k_get C (C0 := RX0) (T := TX0) (N := 9) (fun w h => List.mem_cons_of_mem _ (us_D w h)) 0 rfl rfl 7 (by decide) (List.mem_cons_of_mem _ wq_62) rfl rfl dX0_welcome_40 ?_
    refine k_iload_n C dX0_welcome_43 3 rfl rfl ?_
    obtain ⟨x4, hx4, h⟩ := bindE h
    refine k_iast C 3 0 (ws' := (cells_D_welcome cI cL cZ a_this a_stones a_kinds a_weights a_chances c_width c_rain c_ear c_walkers c_seed x2 x3 x4)) rfl rfl hx4 rfl dX0_welcome_44 ?_
    refine k_aload_n C dX0_welcome_45 0 rfl rfl ?_
    refine k_dup C dX0_welcome_46 rfl ?_
    refine k_get C (C0 := RX0) (T := TX0) (N := 9) (fun w h => List.mem_cons_of_mem _ (us_D w h)) 0 rfl rfl 7 (by decide) (List.mem_cons_of_mem _ wq_62) rfl rfl dX0_welcome_47 ?_
    refine k_dup_x1 C dX0_welcome_50 rfl rfl ?_
    refine k_iconst C (v := (1 : Int32)) dX0_welcome_51 (by decide) ?_
    refine k_iadd C dX0_welcome_52 ?_
    refine k_put C (C0 := RX0) (T := TX0) (N := 9) (ws' := (cells_D_welcome cI cL cZ a_this a_stones a_kinds a_weights a_chances c_width c_rain c_ear (c_walkers + (1 : Int32)) c_seed x2 x3 x4)) (fun w h => List.mem_cons_of_mem _ (us_D w h)) tyX0 tyX0_ok nmX0 0 rfl rfl 7 (by decide) (List.mem_cons_of_mem _ wq_62) rfl rfl (tyX0_ok 7 (by decide)) rfl rfl (Nat.le_of_ble_eq_true rfl) rfl dX0_welcome_53 ?_
    obtain rfl := Option.some.inj h
    exact kret_i C rfl dX0_welcome_56
  · have h := ifT c_10 h
    refine k_iconst C (v := (-1 : Int32)) dX0_welcome_13 (by decide) ?_
    obtain rfl := Option.some.inj h
    exact kret_i C rfl dX0_welcome_14
theorem c_D_welcome (l : Launch) (D : va_G) (cI : ClassId) (cL : ClassId) (cZ : ClassId) (X : kX) (sz : Nat) (a_this : Nat) (a_stones : Nat) (a_kinds : Nat) (a_weights : Nat) (a_chances : Nat) (v1 : Int32) (v2 : Int32) (v3 : Int32) (c_width : Int32) (c_rain : Int32) (c_ear : Int32) (c_walkers : Int32) (c_seed : Int32) (c_kinds : (Nat → Int32)) (c_weights : (Nat → Int32)) (c_chances : (Nat → Int32)) (x : (Int32 × Int32 × (Nat → Int32) × (Nat → Int32) × (Nat → Int32))) (h : f_D_welcome v1 v2 v3 c_walkers c_kinds c_weights c_chances = some x) :
    Met l yX0_welcome (Cond.code yX0_welcome cX0_welcome 4 (some .int) :: WS) rm_D_welcome (kP D (tyG cI cL cZ) (kEs X (va_A (cells_D_welcome cI cL cZ a_this a_stones a_kinds a_weights a_chances c_width c_rain c_ear c_walkers c_seed c_kinds c_weights c_chances) sz)) [.ref a_this, .int v1, .int v2, .int v3] sz (cells_D_welcome cI cL cZ a_this a_stones a_kinds a_weights a_chances c_width c_rain c_ear c_walkers c_seed c_kinds c_weights c_chances)) (kQi D (va_A (cells_D_welcome cI cL cZ a_this a_stones a_kinds a_weights a_chances c_width c_rain c_ear c_walkers c_seed c_kinds c_weights c_chances) sz) (cells_D_welcome cI cL cZ a_this a_stones a_kinds a_weights a_chances c_width c_rain c_ear x.2.1 c_seed x.2.2.1 x.2.2.2.1 x.2.2.2.2) x.1) 0 0 (va_A (cells_D_welcome cI cL cZ a_this a_stones a_kinds a_weights a_chances c_width c_rain c_ear c_walkers c_seed c_kinds c_weights c_chances) sz) :=
  kmet (by decide) (Nat.le_of_ble_eq_true rfl) rfl (fun p e s m below meth c C hE => s_D_welcome C hE h)
abbrev cells_M_feet (cI : ClassId) (cL : ClassId) (cZ : ClassId) (a_this : Nat) (a_now : Nat) (a_kept : Nat) (a_trial : Nat) (a_shelves : Nat) (a_tape : Nat) (a_paths : Nat) (a_sounds : Nat) (a_volumes : Nat) (a_refusals : Nat) (a_now_stones : Nat) (a_now_kinds : Nat) (a_now_weights : Nat) (a_now_chances : Nat) (c_isKept : Int32) (c_now_width : Int32) (c_now_rain : Int32) (c_now_ear : Int32) (c_now_walkers : Int32) (c_now_seed : Int32) (c_now_kinds : (Nat → Int32)) (c_now_weights : (Nat → Int32)) (c_now_chances : (Nat → Int32)) (c_refusals : (Nat → Int32)) : va_W := [(a_this, .inr (4, [.ref a_now, .ref a_kept, .ref a_trial, .ref a_shelves, .ref a_tape, .ref a_paths, .ref a_sounds, .ref a_volumes, .ref a_refusals, .int c_isKept])), (a_now, .inr (0, [.ref a_now_stones, .ref a_now_kinds, .ref a_now_weights, .ref a_now_chances, .int c_now_width, .int c_now_rain, .int c_now_ear, .int c_now_walkers, .int c_now_seed])), (a_now_kinds, .inl (cI, 8, .inl c_now_kinds)), (a_now_weights, .inl (cI, 8, .inl c_now_weights)), (a_now_chances, .inl (cI, 8, .inl c_now_chances)), (a_refusals, .inl (cI, 5, .inl c_refusals))]
abbrev rm_M_feet : Room := { frames := 2, cells := 0, slots := 0, locals := 45 }
set_option maxRecDepth 100000 in
set_option maxHeartbeats 4000000 in
theorem s_M_feet_j29 (C : kC p l e rm_M_feet s m args below meth c D (tyG cI cL cZ) A 4 cX4_feet yX4_feet.cls (Cond.code yX4_feet cX4_feet 4 (some .int) :: WS) (some .int)) {X : kX} (hE : kEs X A s) {a_this : Nat} {a_now : Nat} {a_kept : Nat} {a_trial : Nat} {a_shelves : Nat} {a_tape : Nat} {a_paths : Nat} {a_sounds : Nat} {a_volumes : Nat} {a_refusals : Nat} {a_now_stones : Nat} {a_now_kinds : Nat} {a_now_weights : Nat} {a_now_chances : Nat} {c_isKept : Int32} {c_now_width : Int32} {c_now_rain : Int32} {c_now_ear : Int32} {c_now_walkers : Int32} {c_now_seed : Int32} {c_now_kinds : (Nat → Int32)} {c_now_weights : (Nat → Int32)} {c_now_chances : (Nat → Int32)} {c_refusals : (Nat → Int32)} {x : (Int32 × Int32 × (Nat → Int32) × (Nat → Int32) × (Nat → Int32) × (Nat → Int32))} (h : f_M_feet_j29 c_now_walkers c_now_kinds c_now_weights c_now_chances c_refusals = some x) :
    kW p l e rm_M_feet s m args below meth c D A 4 (cells_M_feet cI cL cZ a_this a_now a_kept a_trial a_shelves a_tape a_paths a_sounds a_volumes a_refusals a_now_stones a_now_kinds a_now_weights a_now_chances c_isKept c_now_width c_now_rain c_now_ear c_now_walkers c_now_seed c_now_kinds c_now_weights c_now_chances c_refusals) [(0, .ref a_this)] (MQ below (kQi D A (cells_M_feet cI cL cZ a_this a_now a_kept a_trial a_shelves a_tape a_paths a_sounds a_volumes a_refusals a_now_stones a_now_kinds a_now_weights a_now_chances c_isKept c_now_width c_now_rain c_now_ear x.2.1 c_now_seed x.2.2.1 x.2.2.2.1 x.2.2.2.2.1 x.2.2.2.2.2) x.1) args s 0 0 A) 29 [] := by
  unfold f_M_feet_j29 at h
  refine k_aload_n C dX4_feet_29 0 rfl rfl ?_
  refine k_bipush C (v := (-2 : Int32)) dX4_feet_30 (by decide) ?_
  obtain ⟨x2, hx2, h⟩ := bindE h
  refine kcallU_i C (wc := (cells_M_refuse cI cL cZ a_this a_now a_kept a_trial a_shelves a_tape a_paths a_sounds a_volumes a_refusals c_isKept c_refusals)) (w1 := (cells_M_refuse cI cL cZ a_this a_now a_kept a_trial a_shelves a_tape a_paths a_sounds a_volumes a_refusals c_isKept x2.2)) (ws' := (cells_M_feet cI cL cZ a_this a_now a_kept a_trial a_shelves a_tape a_paths a_sounds a_volumes a_refusals a_now_stones a_now_kinds a_now_weights a_now_chances c_isKept c_now_width c_now_rain c_now_ear c_now_walkers c_now_seed c_now_kinds c_now_weights c_now_chances x2.2)) (r := x2.1) [0, 5] (fun H locs ls hP hD hS hF hz => krunV C (q0 := 0) (ci := 4) (c_M_refuse l D cI cL cZ H.size a_this a_now a_kept a_trial a_shelves a_tape a_paths a_sounds a_volumes a_refusals (-2 : Int32) c_isKept c_refusals x2 hx2) (cwV 1 C.2.2.2.2.1 (gV wq_12 wq_13 wq_14 wq_3 wq_11) rfl rfl rfl (by decide +kernel) ⟨(Nat.le_of_ble_eq_true rfl), (Nat.le_of_ble_eq_true rfl)⟩) rfl rfl kEnv_T rfl rfl (Nat.le_of_ble_eq_true rfl) dX4_feet_32 hP hD hz) rfl (by decide) rfl rfl ?_
  obtain rfl := Option.some.inj h
  exact kret_i C rfl dX4_feet_35
set_option maxRecDepth 100000 in
set_option maxHeartbeats 4000000 in
theorem s_M_feet (C : kC p l e rm_M_feet s m args below meth c D (tyG cI cL cZ) A 4 cX4_feet yX4_feet.cls (Cond.code yX4_feet cX4_feet 4 (some .int) :: WS) (some .int)) {X : kX} (hE : kEs X A s) {a_this : Nat} {a_now : Nat} {a_kept : Nat} {a_trial : Nat} {a_shelves : Nat} {a_tape : Nat} {a_paths : Nat} {a_sounds : Nat} {a_volumes : Nat} {a_refusals : Nat} {a_now_stones : Nat} {a_now_kinds : Nat} {a_now_weights : Nat} {a_now_chances : Nat} {v1 : Int32} {v2 : Int32} {v3 : Int32} {c_isKept : Int32} {c_now_width : Int32} {c_now_rain : Int32} {c_now_ear : Int32} {c_now_walkers : Int32} {c_now_seed : Int32} {c_now_kinds : (Nat → Int32)} {c_now_weights : (Nat → Int32)} {c_now_chances : (Nat → Int32)} {c_refusals : (Nat → Int32)} {x : (Int32 × Int32 × (Nat → Int32) × (Nat → Int32) × (Nat → Int32) × (Nat → Int32))} (h : f_M_feet v1 v2 v3 c_now_walkers c_now_kinds c_now_weights c_now_chances c_refusals = some x) :
    kW p l e rm_M_feet s m args below meth c D A 4 (cells_M_feet cI cL cZ a_this a_now a_kept a_trial a_shelves a_tape a_paths a_sounds a_volumes a_refusals a_now_stones a_now_kinds a_now_weights a_now_chances c_isKept c_now_width c_now_rain c_now_ear c_now_walkers c_now_seed c_now_kinds c_now_weights c_now_chances c_refusals) [(0, .ref a_this), (1, .int v1), (2, .int v2), (3, .int v3)] (MQ below (kQi D A (cells_M_feet cI cL cZ a_this a_now a_kept a_trial a_shelves a_tape a_paths a_sounds a_volumes a_refusals a_now_stones a_now_kinds a_now_weights a_now_chances c_isKept c_now_width c_now_rain c_now_ear x.2.1 c_now_seed x.2.2.1 x.2.2.2.1 x.2.2.2.2.1 x.2.2.2.2.2) x.1) args s 0 0 A) 0 [] := by
  unfold f_M_feet at h
  refine k_iload_n C dX4_feet_0 1 rfl rfl ?_
  refine k_iconst C (v := (0 : Int32)) dX4_feet_1 (by decide) ?_
  refine k_iconst C (v := (5 : Int32)) dX4_feet_2 (by decide) ?_
  obtain ⟨x1, hx1, h⟩ := bindE h
  refine kcallE_i C (r := x1) (fun H locs ls hP hD hS hF hz => krunS C (c_M_isWithin l D cI cL cZ H.size v1 (0 : Int32) (5 : Int32) x1 hx1) (va_cwS 3 C.2.2.2.2.1 (gS wq_1 wq_2 wq_3 wq_0) rfl rfl rfl (by decide +kernel) ⟨(Nat.le_of_ble_eq_true rfl), (Nat.le_of_ble_eq_true rfl)⟩) kEnv_T rfl rfl (Nat.le_of_ble_eq_true rfl) dX4_feet_3 hP hD hz) ?_
  refine k_if_eq C (tgt := 29) dX4_feet_6 (by decide) (fun c_6 => ?_) (fun c_6 => ?_)
  · have h := ifT c_6 h
    refine k_lv (lv' := [(0, .ref a_this)]) [0] rfl ?_
    exact s_M_feet_j29 C hE h
  · have h := ifF c_6 h
    refine k_iload_n C dX4_feet_9 2 rfl rfl ?_
    refine k_iconst C (v := (0 : Int32)) dX4_feet_10 (by decide) ?_
    refine k_bipush C (v := (9 : Int32)) dX4_feet_11 (by decide) ?_
    obtain ⟨x3, hx3, h⟩ := bindE h
    refine kcallE_i C (r := x3) (fun H locs ls hP hD hS hF hz => krunS C (c_M_isWithin l D cI cL cZ H.size v2 (0 : Int32) (9 : Int32) x3 hx3) (va_cwS 3 C.2.2.2.2.1 (gS wq_1 wq_2 wq_3 wq_0) rfl rfl rfl (by decide +kernel) ⟨(Nat.le_of_ble_eq_true rfl), (Nat.le_of_ble_eq_true rfl)⟩) kEnv_T rfl rfl (Nat.le_of_ble_eq_true rfl) dX4_feet_13 hP hD hz) ?_
    refine k_if_eq C (tgt := 29) dX4_feet_16 (by decide) (fun c_16 => ?_) (fun c_16 => ?_)
    · have h := ifT c_16 h
      refine k_lv (lv' := [(0, .ref a_this)]) [0] rfl ?_
      exact s_M_feet_j29 C hE h
    · have h := ifF c_16 h
      refine k_iload_n C dX4_feet_19 3 rfl rfl ?_
      refine k_iconst C (v := (1 : Int32)) dX4_feet_20 (by decide) ?_
      refine k_bipush C (v := (99 : Int32)) dX4_feet_21 (by decide) ?_
      obtain ⟨x4, hx4, h⟩ := bindE h
      refine kcallE_i C (r := x4) (fun H locs ls hP hD hS hF hz => krunS C (c_M_isWithin l D cI cL cZ H.size v3 (1 : Int32) (99 : Int32) x4 hx4) (va_cwS 3 C.2.2.2.2.1 (gS wq_1 wq_2 wq_3 wq_0) rfl rfl rfl (by decide +kernel) ⟨(Nat.le_of_ble_eq_true rfl), (Nat.le_of_ble_eq_true rfl)⟩) kEnv_T rfl rfl (Nat.le_of_ble_eq_true rfl) dX4_feet_23 hP hD hz) ?_
      refine k_if_ne C (tgt := 36) dX4_feet_26 (by decide) (fun c_26 => ?_) (fun c_26 => ?_)
      · have h := ifF c_26 h
        refine k_aload_n C dX4_feet_36 0 rfl rfl ?_
        refine k_get C (C0 := RX4) (T := TX4) (N := 10) (fun w h => List.mem_cons_of_mem _ (us_M w h)) 0 rfl rfl 0 (by decide) (List.mem_cons_of_mem _ wq_67) rfl rfl dX4_feet_37 ?_
        obtain ⟨x5, hx5, h⟩ := bindE h
        refine kcallR_i C (wc := (cells_D_isFull cI cL cZ a_now a_now_stones a_now_kinds a_now_weights a_now_chances c_now_width c_now_rain c_now_ear c_now_walkers c_now_seed)) (r := x5) [1] (fun H locs ls hP hD hS hF hz => krunV C (q0 := 0) (ci := 0) (c_D_isFull l D cI cL cZ H.size a_now a_now_stones a_now_kinds a_now_weights a_now_chances c_now_width c_now_rain c_now_ear c_now_walkers c_now_seed x5 hx5) (cwV 0 C.2.2.2.2.1 (gV wq_147 wq_148 wq_149 wq_72 wq_146) rfl rfl rfl (by decide +kernel) ⟨(Nat.le_of_ble_eq_true rfl), (Nat.le_of_ble_eq_true rfl)⟩) rfl rfl kEnv_T rfl rfl (Nat.le_of_ble_eq_true rfl) dX4_feet_40 hP hD hz) rfl (by decide) ?_
        refine k_if_eq C (tgt := 53) dX4_feet_43 (by decide) (fun c_43 => ?_) (fun c_43 => ?_)
        · have h := ifT c_43 h
          refine k_aload_n C dX4_feet_53 0 rfl rfl ?_
          refine k_get C (C0 := RX4) (T := TX4) (N := 10) (fun w h => List.mem_cons_of_mem _ (us_M w h)) 0 rfl rfl 0 (by decide) (List.mem_cons_of_mem _ wq_67) rfl rfl dX4_feet_54 ?_
          refine k_iload_n C dX4_feet_57 1 rfl rfl ?_
          refine k_iload_n C dX4_feet_58 2 rfl rfl ?_
          refine k_iload_n C dX4_feet_59 3 rfl rfl ?_
          obtain ⟨x6, hx6, h⟩ := bindE h
          refine kcallU_i C (wc := (cells_D_welcome cI cL cZ a_now a_now_stones a_now_kinds a_now_weights a_now_chances c_now_width c_now_rain c_now_ear c_now_walkers c_now_seed c_now_kinds c_now_weights c_now_chances)) (w1 := (cells_D_welcome cI cL cZ a_now a_now_stones a_now_kinds a_now_weights a_now_chances c_now_width c_now_rain c_now_ear x6.2.1 c_now_seed x6.2.2.1 x6.2.2.2.1 x6.2.2.2.2)) (ws' := (cells_M_feet cI cL cZ a_this a_now a_kept a_trial a_shelves a_tape a_paths a_sounds a_volumes a_refusals a_now_stones a_now_kinds a_now_weights a_now_chances c_isKept c_now_width c_now_rain c_now_ear x6.2.1 c_now_seed x6.2.2.1 x6.2.2.2.1 x6.2.2.2.2 c_refusals)) (r := x6.1) [1, 2, 3, 4] (fun H locs ls hP hD hS hF hz => krunV C (q0 := 0) (ci := 0) (c_D_welcome l D cI cL cZ X H.size a_now a_now_stones a_now_kinds a_now_weights a_now_chances v1 v2 v3 c_now_width c_now_rain c_now_ear c_now_walkers c_now_seed c_now_kinds c_now_weights c_now_chances x6 hx6) (cwV 3 C.2.2.2.2.1 (gV wq_151 wq_152 wq_153 wq_72 wq_150) rfl rfl rfl (by decide +kernel) ⟨(Nat.le_of_ble_eq_true rfl), (Nat.le_of_ble_eq_true rfl)⟩) rfl rfl (kEs_call hE hS hF) rfl rfl (Nat.le_of_ble_eq_true rfl) dX4_feet_60 hP hD hz) rfl (by decide) rfl rfl ?_
          obtain rfl := Option.some.inj h
          exact kret_i C rfl dX4_feet_63
        · have h := ifF c_43 h
          refine k_aload_n C dX4_feet_46 0 rfl rfl ?_
          refine k_bipush C (v := (-6 : Int32)) dX4_feet_47 (by decide) ?_
          obtain ⟨x7, hx7, h⟩ := bindE h
          refine kcallU_i C (wc := (cells_M_refuse cI cL cZ a_this a_now a_kept a_trial a_shelves a_tape a_paths a_sounds a_volumes a_refusals c_isKept c_refusals)) (w1 := (cells_M_refuse cI cL cZ a_this a_now a_kept a_trial a_shelves a_tape a_paths a_sounds a_volumes a_refusals c_isKept x7.2)) (ws' := (cells_M_feet cI cL cZ a_this a_now a_kept a_trial a_shelves a_tape a_paths a_sounds a_volumes a_refusals a_now_stones a_now_kinds a_now_weights a_now_chances c_isKept c_now_width c_now_rain c_now_ear c_now_walkers c_now_seed c_now_kinds c_now_weights c_now_chances x7.2)) (r := x7.1) [0, 5] (fun H locs ls hP hD hS hF hz => krunV C (q0 := 0) (ci := 4) (c_M_refuse l D cI cL cZ H.size a_this a_now a_kept a_trial a_shelves a_tape a_paths a_sounds a_volumes a_refusals (-6 : Int32) c_isKept c_refusals x7 hx7) (cwV 1 C.2.2.2.2.1 (gV wq_12 wq_13 wq_14 wq_3 wq_11) rfl rfl rfl (by decide +kernel) ⟨(Nat.le_of_ble_eq_true rfl), (Nat.le_of_ble_eq_true rfl)⟩) rfl rfl kEnv_T rfl rfl (Nat.le_of_ble_eq_true rfl) dX4_feet_49 hP hD hz) rfl (by decide) rfl rfl ?_
          obtain rfl := Option.some.inj h
          exact kret_i C rfl dX4_feet_52
      · have h := ifT c_26 h
        refine k_lv (lv' := [(0, .ref a_this)]) [0] rfl ?_
        exact s_M_feet_j29 C hE h
theorem c_M_feet (l : Launch) (D : va_G) (cI : ClassId) (cL : ClassId) (cZ : ClassId) (X : kX) (sz : Nat) (a_this : Nat) (a_now : Nat) (a_kept : Nat) (a_trial : Nat) (a_shelves : Nat) (a_tape : Nat) (a_paths : Nat) (a_sounds : Nat) (a_volumes : Nat) (a_refusals : Nat) (a_now_stones : Nat) (a_now_kinds : Nat) (a_now_weights : Nat) (a_now_chances : Nat) (v1 : Int32) (v2 : Int32) (v3 : Int32) (c_isKept : Int32) (c_now_width : Int32) (c_now_rain : Int32) (c_now_ear : Int32) (c_now_walkers : Int32) (c_now_seed : Int32) (c_now_kinds : (Nat → Int32)) (c_now_weights : (Nat → Int32)) (c_now_chances : (Nat → Int32)) (c_refusals : (Nat → Int32)) (x : (Int32 × Int32 × (Nat → Int32) × (Nat → Int32) × (Nat → Int32) × (Nat → Int32))) (h : f_M_feet v1 v2 v3 c_now_walkers c_now_kinds c_now_weights c_now_chances c_refusals = some x) :
    Met l yX4_feet (Cond.code yX4_feet cX4_feet 4 (some .int) :: WS) rm_M_feet (kP D (tyG cI cL cZ) (kEs X (va_A (cells_M_feet cI cL cZ a_this a_now a_kept a_trial a_shelves a_tape a_paths a_sounds a_volumes a_refusals a_now_stones a_now_kinds a_now_weights a_now_chances c_isKept c_now_width c_now_rain c_now_ear c_now_walkers c_now_seed c_now_kinds c_now_weights c_now_chances c_refusals) sz)) [.ref a_this, .int v1, .int v2, .int v3] sz (cells_M_feet cI cL cZ a_this a_now a_kept a_trial a_shelves a_tape a_paths a_sounds a_volumes a_refusals a_now_stones a_now_kinds a_now_weights a_now_chances c_isKept c_now_width c_now_rain c_now_ear c_now_walkers c_now_seed c_now_kinds c_now_weights c_now_chances c_refusals)) (kQi D (va_A (cells_M_feet cI cL cZ a_this a_now a_kept a_trial a_shelves a_tape a_paths a_sounds a_volumes a_refusals a_now_stones a_now_kinds a_now_weights a_now_chances c_isKept c_now_width c_now_rain c_now_ear c_now_walkers c_now_seed c_now_kinds c_now_weights c_now_chances c_refusals) sz) (cells_M_feet cI cL cZ a_this a_now a_kept a_trial a_shelves a_tape a_paths a_sounds a_volumes a_refusals a_now_stones a_now_kinds a_now_weights a_now_chances c_isKept c_now_width c_now_rain c_now_ear x.2.1 c_now_seed x.2.2.1 x.2.2.2.1 x.2.2.2.2.1 x.2.2.2.2.2) x.1) 0 0 (va_A (cells_M_feet cI cL cZ a_this a_now a_kept a_trial a_shelves a_tape a_paths a_sounds a_volumes a_refusals a_now_stones a_now_kinds a_now_weights a_now_chances c_isKept c_now_width c_now_rain c_now_ear c_now_walkers c_now_seed c_now_kinds c_now_weights c_now_chances c_refusals) sz) :=
  kmet (by decide) (Nat.le_of_ble_eq_true rfl) rfl (fun p e s m below meth c C hE => s_M_feet C hE h)
abbrev cells_T_isFull (cI : ClassId) (cL : ClassId) (cZ : ClassId) (a_this : Nat) (a_letters : Nat) (c_size : Int32) (c_token : Int32) (c_place : Int32) (c_end : Int32) : va_W := [(a_this, .inr (3, [.ref a_letters, .int c_size, .int c_token, .int c_place, .int c_end]))]
abbrev rm_T_isFull : Room := { frames := 0, cells := 0, slots := 0, locals := 0 }
set_option maxRecDepth 100000 in
set_option maxHeartbeats 4000000 in
theorem s_T_isFull (C : kC p l e rm_T_isFull s m args below meth c D (tyG cI cL cZ) A 1 cX3_isFull yX3_isFull.cls (Cond.code yX3_isFull cX3_isFull 1 (some .boolean) :: WS) (some .boolean)) {a_this : Nat} {a_letters : Nat} {c_size : Int32} {c_token : Int32} {c_place : Int32} {c_end : Int32} {x : Int32} (h : f_T_isFull c_size = some x) :
    kW p l e rm_T_isFull s m args below meth c D A 1 (cells_T_isFull cI cL cZ a_this a_letters c_size c_token c_place c_end) [(0, .ref a_this)] (MQ below (kQi D A (cells_T_isFull cI cL cZ a_this a_letters c_size c_token c_place c_end) x) args s 0 0 A) 0 [] := by
  unfold f_T_isFull at h
  refine k_aload_n C dX3_isFull_0 0 rfl rfl ?_
  refine k_get C (C0 := RX3) (T := TX3) (N := 5) (fun w h => List.mem_cons_of_mem _ (us_T w h)) 0 rfl rfl 1 (by decide) (List.mem_cons_of_mem _ wq_154) rfl rfl dX3_isFull_1 ?_
  refine k_sipush C (v := (250 : Int32)) dX3_isFull_4 (by decide) ?_
  refine k_icmp_lt C (tgt := 14) dX3_isFull_7 (by decide) (fun c_7 => ?_) (fun c_7 => ?_)
  · have h := ifT c_7 h
    refine k_iconst C (v := (0 : Int32)) dX3_isFull_14 (by decide) ?_
    obtain rfl := Option.some.inj h
    exact kret_z C rfl nz0 dX3_isFull_15
  · have h := ifF c_7 h
    refine k_iconst C (v := (1 : Int32)) dX3_isFull_10 (by decide) ?_
    refine k_goto C (tgt := 15) dX3_isFull_11 (by decide) ?_
    obtain rfl := Option.some.inj h
    exact kret_z C rfl nz1 dX3_isFull_15
theorem c_T_isFull (l : Launch) (D : va_G) (cI : ClassId) (cL : ClassId) (cZ : ClassId) (sz : Nat) (a_this : Nat) (a_letters : Nat) (c_size : Int32) (c_token : Int32) (c_place : Int32) (c_end : Int32) (x : Int32) (h : f_T_isFull c_size = some x) :
    Met l yX3_isFull (Cond.code yX3_isFull cX3_isFull 1 (some .boolean) :: WS) rm_T_isFull (kP D (tyG cI cL cZ) kTrue [.ref a_this] sz (cells_T_isFull cI cL cZ a_this a_letters c_size c_token c_place c_end)) (kQi D (va_A (cells_T_isFull cI cL cZ a_this a_letters c_size c_token c_place c_end) sz) (cells_T_isFull cI cL cZ a_this a_letters c_size c_token c_place c_end) x) 0 0 (va_A (cells_T_isFull cI cL cZ a_this a_letters c_size c_token c_place c_end) sz) :=
  kmet (by decide) (Nat.le_of_ble_eq_true rfl) rfl (fun p e s m below meth c C hE => s_T_isFull C h)
abbrev cells_T_append (cI : ClassId) (cL : ClassId) (cZ : ClassId) (a_this : Nat) (a_letters : Nat) (c_size : Int32) (c_token : Int32) (c_place : Int32) (c_end : Int32) (c_letters : (Nat → Int32)) : va_W := [(a_this, .inr (3, [.ref a_letters, .int c_size, .int c_token, .int c_place, .int c_end])), (a_letters, .inl (cI, 250, .inl c_letters))]
abbrev rm_T_append : Room := { frames := 1, cells := 0, slots := 0, locals := 22 }
set_option maxRecDepth 100000 in
set_option maxHeartbeats 4000000 in
theorem s_T_append (C : kC p l e rm_T_append s m args below meth c D (tyG cI cL cZ) A 2 cX3_append yX3_append.cls (Cond.code yX3_append cX3_append 2 (some .int) :: WS) (some .int)) {X : kX} (hE : kEs X A s) {a_this : Nat} {a_letters : Nat} {v1 : Int32} {c_size : Int32} {c_token : Int32} {c_place : Int32} {c_end : Int32} {c_letters : (Nat → Int32)} {x : (Int32 × Int32 × (Nat → Int32))} (h : f_T_append v1 c_size c_letters = some x) :
    kW p l e rm_T_append s m args below meth c D A 2 (cells_T_append cI cL cZ a_this a_letters c_size c_token c_place c_end c_letters) [(0, .ref a_this), (1, .int v1)] (MQ below (kQi D A (cells_T_append cI cL cZ a_this a_letters x.2.1 c_token c_place c_end x.2.2) x.1) args s 0 0 A) 0 [] := by
  unfold f_T_append at h
  refine k_aload_n C dX3_append_0 0 rfl rfl ?_
  refine k_get C (C0 := RX3) (T := TX3) (N := 5) (fun w h => List.mem_cons_of_mem _ (us_T w h)) 0 rfl rfl 1 (by decide) (List.mem_cons_of_mem _ wq_154) rfl rfl dX3_append_1 ?_
  refine k_iconst C (v := (0 : Int32)) dX3_append_4 (by decide) ?_
  refine k_sipush C (v := (249 : Int32)) dX3_append_5 (by decide) ?_
  obtain ⟨x1, hx1, h⟩ := bindE h
  refine kcallE_i C (r := x1) (fun H locs ls hP hD hS hF hz => krunSN C (c_M_isWithin l D cI cL cZ H.size c_size (0 : Int32) (249 : Int32) x1 hx1) ⟨va_cnB 3 C.2.2.2.2.1 (gW wq_0) rfl rfl rfl (hE.2.2.2.2.2.2.2 (RX3, 19, yX4_isWithin) (by decide +kernel)) (C.2.2.2.2.1 _ (List.mem_cons_of_mem _ wq_3)) (by decide +kernel) ⟨(Nat.le_of_ble_eq_true rfl), (Nat.le_of_ble_eq_true rfl)⟩, C.2.2.2.2.1 _ (List.mem_cons_of_mem _ wq_2), trivial⟩ kEnv_T rfl rfl (Nat.le_of_ble_eq_true rfl) dX3_append_8 hP hD hz) ?_
  refine k_if_eq C (tgt := 34) dX3_append_11 (by decide) (fun c_11 => ?_) (fun c_11 => ?_)
  · have h := ifT c_11 h
    refine k_aload_n C dX3_append_34 0 rfl rfl ?_
    refine k_get C (C0 := RX3) (T := TX3) (N := 5) (fun w h => List.mem_cons_of_mem _ (us_T w h)) 0 rfl rfl 1 (by decide) (List.mem_cons_of_mem _ wq_154) rfl rfl dX3_append_35 ?_
    obtain rfl := Option.some.inj h
    exact kret_i C rfl dX3_append_38
  · have h := ifF c_11 h
    refine k_aload_n C dX3_append_14 0 rfl rfl ?_
    refine k_get C (C0 := RX3) (T := TX3) (N := 5) (fun w h => List.mem_cons_of_mem _ (us_T w h)) 0 rfl rfl 0 (by decide) (List.mem_cons_of_mem _ wq_155) rfl rfl dX3_append_15 ?_
    refine k_aload_n C dX3_append_18 0 rfl rfl ?_
    refine k_get C (C0 := RX3) (T := TX3) (N := 5) (fun w h => List.mem_cons_of_mem _ (us_T w h)) 0 rfl rfl 1 (by decide) (List.mem_cons_of_mem _ wq_154) rfl rfl dX3_append_19 ?_
    refine k_iload_n C dX3_append_22 1 rfl rfl ?_
    obtain ⟨x2, hx2, h⟩ := bindE h
    refine k_iast C 1 0 (ws' := (cells_T_append cI cL cZ a_this a_letters c_size c_token c_place c_end x2)) rfl rfl hx2 rfl dX3_append_23 ?_
    refine k_aload_n C dX3_append_24 0 rfl rfl ?_
    refine k_dup C dX3_append_25 rfl ?_
    refine k_get C (C0 := RX3) (T := TX3) (N := 5) (fun w h => List.mem_cons_of_mem _ (us_T w h)) 0 rfl rfl 1 (by decide) (List.mem_cons_of_mem _ wq_154) rfl rfl dX3_append_26 ?_
    refine k_iconst C (v := (1 : Int32)) dX3_append_29 (by decide) ?_
    refine k_iadd C dX3_append_30 ?_
    refine k_put C (C0 := RX3) (T := TX3) (N := 5) (ws' := (cells_T_append cI cL cZ a_this a_letters (c_size + (1 : Int32)) c_token c_place c_end x2)) (fun w h => List.mem_cons_of_mem _ (us_T w h)) tyX3 tyX3_ok nmX3 0 rfl rfl 1 (by decide) (List.mem_cons_of_mem _ wq_154) rfl rfl (tyX3_ok 1 (by decide)) rfl rfl (Nat.le_of_ble_eq_true rfl) rfl dX3_append_31 ?_
    refine k_aload_n C dX3_append_34 0 rfl rfl ?_
    refine k_get C (C0 := RX3) (T := TX3) (N := 5) (fun w h => List.mem_cons_of_mem _ (us_T w h)) 0 rfl rfl 1 (by decide) (List.mem_cons_of_mem _ wq_154) rfl rfl dX3_append_35 ?_
    obtain rfl := Option.some.inj h
    exact kret_i C rfl dX3_append_38
theorem c_T_append (l : Launch) (D : va_G) (cI : ClassId) (cL : ClassId) (cZ : ClassId) (X : kX) (sz : Nat) (a_this : Nat) (a_letters : Nat) (v1 : Int32) (c_size : Int32) (c_token : Int32) (c_place : Int32) (c_end : Int32) (c_letters : (Nat → Int32)) (x : (Int32 × Int32 × (Nat → Int32))) (h : f_T_append v1 c_size c_letters = some x) :
    Met l yX3_append (Cond.code yX3_append cX3_append 2 (some .int) :: WS) rm_T_append (kP D (tyG cI cL cZ) (kEs X (va_A (cells_T_append cI cL cZ a_this a_letters c_size c_token c_place c_end c_letters) sz)) [.ref a_this, .int v1] sz (cells_T_append cI cL cZ a_this a_letters c_size c_token c_place c_end c_letters)) (kQi D (va_A (cells_T_append cI cL cZ a_this a_letters c_size c_token c_place c_end c_letters) sz) (cells_T_append cI cL cZ a_this a_letters x.2.1 c_token c_place c_end x.2.2) x.1) 0 0 (va_A (cells_T_append cI cL cZ a_this a_letters c_size c_token c_place c_end c_letters) sz) :=
  kmet (by decide) (Nat.le_of_ble_eq_true rfl) rfl (fun p e s m below meth c C hE => s_T_append C hE h)
abbrev cells_M_feed (cI : ClassId) (cL : ClassId) (cZ : ClassId) (a_this : Nat) (a_now : Nat) (a_kept : Nat) (a_trial : Nat) (a_shelves : Nat) (a_tape : Nat) (a_paths : Nat) (a_sounds : Nat) (a_volumes : Nat) (a_refusals : Nat) (a_tape_letters : Nat) (c_isKept : Int32) (c_tape_size : Int32) (c_tape_token : Int32) (c_tape_place : Int32) (c_tape_end : Int32) (c_tape_letters : (Nat → Int32)) (c_refusals : (Nat → Int32)) : va_W := [(a_this, .inr (4, [.ref a_now, .ref a_kept, .ref a_trial, .ref a_shelves, .ref a_tape, .ref a_paths, .ref a_sounds, .ref a_volumes, .ref a_refusals, .int c_isKept])), (a_tape, .inr (3, [.ref a_tape_letters, .int c_tape_size, .int c_tape_token, .int c_tape_place, .int c_tape_end])), (a_tape_letters, .inl (cI, 250, .inl c_tape_letters)), (a_refusals, .inl (cI, 5, .inl c_refusals))]
abbrev rm_M_feed : Room := { frames := 2, cells := 0, slots := 0, locals := 44 }
set_option maxRecDepth 100000 in
set_option maxHeartbeats 4000000 in
theorem s_M_feed (C : kC p l e rm_M_feed s m args below meth c D (tyG cI cL cZ) A 2 cX4_feed yX4_feed.cls (Cond.code yX4_feed cX4_feed 2 (some .int) :: WS) (some .int)) {X : kX} (hE : kEs X A s) {a_this : Nat} {a_now : Nat} {a_kept : Nat} {a_trial : Nat} {a_shelves : Nat} {a_tape : Nat} {a_paths : Nat} {a_sounds : Nat} {a_volumes : Nat} {a_refusals : Nat} {a_tape_letters : Nat} {v1 : Int32} {c_isKept : Int32} {c_tape_size : Int32} {c_tape_token : Int32} {c_tape_place : Int32} {c_tape_end : Int32} {c_tape_letters : (Nat → Int32)} {c_refusals : (Nat → Int32)} {x : (Int32 × Int32 × (Nat → Int32) × (Nat → Int32))} (h : f_M_feed v1 c_tape_size c_tape_letters c_refusals = some x) :
    kW p l e rm_M_feed s m args below meth c D A 2 (cells_M_feed cI cL cZ a_this a_now a_kept a_trial a_shelves a_tape a_paths a_sounds a_volumes a_refusals a_tape_letters c_isKept c_tape_size c_tape_token c_tape_place c_tape_end c_tape_letters c_refusals) [(0, .ref a_this), (1, .int v1)] (MQ below (kQi D A (cells_M_feed cI cL cZ a_this a_now a_kept a_trial a_shelves a_tape a_paths a_sounds a_volumes a_refusals a_tape_letters c_isKept x.2.1 c_tape_token c_tape_place c_tape_end x.2.2.1 x.2.2.2) x.1) args s 0 0 A) 0 [] := by
  unfold f_M_feed at h
  refine k_iload_n C dX4_feed_0 1 rfl rfl ?_
  refine k_iconst C (v := (0 : Int32)) dX4_feed_1 (by decide) ?_
  refine k_sipush C (v := (255 : Int32)) dX4_feed_2 (by decide) ?_
  obtain ⟨x1, hx1, h⟩ := bindE h
  refine kcallE_i C (r := x1) (fun H locs ls hP hD hS hF hz => krunS C (c_M_isWithin l D cI cL cZ H.size v1 (0 : Int32) (255 : Int32) x1 hx1) (va_cwS 3 C.2.2.2.2.1 (gS wq_1 wq_2 wq_3 wq_0) rfl rfl rfl (by decide +kernel) ⟨(Nat.le_of_ble_eq_true rfl), (Nat.le_of_ble_eq_true rfl)⟩) kEnv_T rfl rfl (Nat.le_of_ble_eq_true rfl) dX4_feed_5 hP hD hz) ?_
  refine k_if_ne C (tgt := 18) dX4_feed_8 (by decide) (fun c_8 => ?_) (fun c_8 => ?_)
  · have h := ifF c_8 h
    refine k_aload_n C dX4_feed_18 0 rfl rfl ?_
    refine k_get C (C0 := RX4) (T := TX4) (N := 10) (fun w h => List.mem_cons_of_mem _ (us_M w h)) 0 rfl rfl 4 (by decide) (List.mem_cons_of_mem _ wq_156) rfl rfl dX4_feed_19 ?_
    obtain ⟨x2, hx2, h⟩ := bindE h
    refine kcallR_i C (wc := (cells_T_isFull cI cL cZ a_tape a_tape_letters c_tape_size c_tape_token c_tape_place c_tape_end)) (r := x2) [1] (fun H locs ls hP hD hS hF hz => krunV C (q0 := 0) (ci := 3) (c_T_isFull l D cI cL cZ H.size a_tape a_tape_letters c_tape_size c_tape_token c_tape_place c_tape_end x2 hx2) (cwV 0 C.2.2.2.2.1 (gV wq_158 wq_159 wq_160 wq_161 wq_157) rfl rfl rfl (by decide +kernel) ⟨(Nat.le_of_ble_eq_true rfl), (Nat.le_of_ble_eq_true rfl)⟩) rfl rfl kEnv_T rfl rfl (Nat.le_of_ble_eq_true rfl) dX4_feed_22 hP hD hz) rfl (by decide) ?_
    refine k_if_eq C (tgt := 35) dX4_feed_25 (by decide) (fun c_25 => ?_) (fun c_25 => ?_)
    · have h := ifT c_25 h
      refine k_aload_n C dX4_feed_35 0 rfl rfl ?_
      refine k_get C (C0 := RX4) (T := TX4) (N := 10) (fun w h => List.mem_cons_of_mem _ (us_M w h)) 0 rfl rfl 4 (by decide) (List.mem_cons_of_mem _ wq_156) rfl rfl dX4_feed_36 ?_
      refine k_iload_n C dX4_feed_39 1 rfl rfl ?_
      obtain ⟨x3, hx3, h⟩ := bindE h
      refine kcallU_i C (wc := (cells_T_append cI cL cZ a_tape a_tape_letters c_tape_size c_tape_token c_tape_place c_tape_end c_tape_letters)) (w1 := (cells_T_append cI cL cZ a_tape a_tape_letters x3.2.1 c_tape_token c_tape_place c_tape_end x3.2.2)) (ws' := (cells_M_feed cI cL cZ a_this a_now a_kept a_trial a_shelves a_tape a_paths a_sounds a_volumes a_refusals a_tape_letters c_isKept x3.2.1 c_tape_token c_tape_place c_tape_end x3.2.2 c_refusals)) (r := x3.1) [1, 2] (fun H locs ls hP hD hS hF hz => krunV C (q0 := 0) (ci := 3) (c_T_append l D cI cL cZ X H.size a_tape a_tape_letters v1 c_tape_size c_tape_token c_tape_place c_tape_end c_tape_letters x3 hx3) (cwV 1 C.2.2.2.2.1 (gV wq_163 wq_164 wq_165 wq_161 wq_162) rfl rfl rfl (by decide +kernel) ⟨(Nat.le_of_ble_eq_true rfl), (Nat.le_of_ble_eq_true rfl)⟩) rfl rfl (kEs_call hE hS hF) rfl rfl (Nat.le_of_ble_eq_true rfl) dX4_feed_40 hP hD hz) rfl (by decide) rfl rfl ?_
      obtain rfl := Option.some.inj h
      exact kret_i C rfl dX4_feed_43
    · have h := ifF c_25 h
      refine k_aload_n C dX4_feed_28 0 rfl rfl ?_
      refine k_bipush C (v := (-6 : Int32)) dX4_feed_29 (by decide) ?_
      obtain ⟨x4, hx4, h⟩ := bindE h
      refine kcallU_i C (wc := (cells_M_refuse cI cL cZ a_this a_now a_kept a_trial a_shelves a_tape a_paths a_sounds a_volumes a_refusals c_isKept c_refusals)) (w1 := (cells_M_refuse cI cL cZ a_this a_now a_kept a_trial a_shelves a_tape a_paths a_sounds a_volumes a_refusals c_isKept x4.2)) (ws' := (cells_M_feed cI cL cZ a_this a_now a_kept a_trial a_shelves a_tape a_paths a_sounds a_volumes a_refusals a_tape_letters c_isKept c_tape_size c_tape_token c_tape_place c_tape_end c_tape_letters x4.2)) (r := x4.1) [0, 3] (fun H locs ls hP hD hS hF hz => krunV C (q0 := 0) (ci := 4) (c_M_refuse l D cI cL cZ H.size a_this a_now a_kept a_trial a_shelves a_tape a_paths a_sounds a_volumes a_refusals (-6 : Int32) c_isKept c_refusals x4 hx4) (cwV 1 C.2.2.2.2.1 (gV wq_12 wq_13 wq_14 wq_3 wq_11) rfl rfl rfl (by decide +kernel) ⟨(Nat.le_of_ble_eq_true rfl), (Nat.le_of_ble_eq_true rfl)⟩) rfl rfl kEnv_T rfl rfl (Nat.le_of_ble_eq_true rfl) dX4_feed_31 hP hD hz) rfl (by decide) rfl rfl ?_
      obtain rfl := Option.some.inj h
      exact kret_i C rfl dX4_feed_34
  · have h := ifT c_8 h
    refine k_aload_n C dX4_feed_11 0 rfl rfl ?_
    refine k_bipush C (v := (-2 : Int32)) dX4_feed_12 (by decide) ?_
    obtain ⟨x5, hx5, h⟩ := bindE h
    refine kcallU_i C (wc := (cells_M_refuse cI cL cZ a_this a_now a_kept a_trial a_shelves a_tape a_paths a_sounds a_volumes a_refusals c_isKept c_refusals)) (w1 := (cells_M_refuse cI cL cZ a_this a_now a_kept a_trial a_shelves a_tape a_paths a_sounds a_volumes a_refusals c_isKept x5.2)) (ws' := (cells_M_feed cI cL cZ a_this a_now a_kept a_trial a_shelves a_tape a_paths a_sounds a_volumes a_refusals a_tape_letters c_isKept c_tape_size c_tape_token c_tape_place c_tape_end c_tape_letters x5.2)) (r := x5.1) [0, 3] (fun H locs ls hP hD hS hF hz => krunV C (q0 := 0) (ci := 4) (c_M_refuse l D cI cL cZ H.size a_this a_now a_kept a_trial a_shelves a_tape a_paths a_sounds a_volumes a_refusals (-2 : Int32) c_isKept c_refusals x5 hx5) (cwV 1 C.2.2.2.2.1 (gV wq_12 wq_13 wq_14 wq_3 wq_11) rfl rfl rfl (by decide +kernel) ⟨(Nat.le_of_ble_eq_true rfl), (Nat.le_of_ble_eq_true rfl)⟩) rfl rfl kEnv_T rfl rfl (Nat.le_of_ble_eq_true rfl) dX4_feed_14 hP hD hz) rfl (by decide) rfl rfl ?_
    obtain rfl := Option.some.inj h
    exact kret_i C rfl dX4_feed_17
theorem c_M_feed (l : Launch) (D : va_G) (cI : ClassId) (cL : ClassId) (cZ : ClassId) (X : kX) (sz : Nat) (a_this : Nat) (a_now : Nat) (a_kept : Nat) (a_trial : Nat) (a_shelves : Nat) (a_tape : Nat) (a_paths : Nat) (a_sounds : Nat) (a_volumes : Nat) (a_refusals : Nat) (a_tape_letters : Nat) (v1 : Int32) (c_isKept : Int32) (c_tape_size : Int32) (c_tape_token : Int32) (c_tape_place : Int32) (c_tape_end : Int32) (c_tape_letters : (Nat → Int32)) (c_refusals : (Nat → Int32)) (x : (Int32 × Int32 × (Nat → Int32) × (Nat → Int32))) (h : f_M_feed v1 c_tape_size c_tape_letters c_refusals = some x) :
    Met l yX4_feed (Cond.code yX4_feed cX4_feed 2 (some .int) :: WS) rm_M_feed (kP D (tyG cI cL cZ) (kEs X (va_A (cells_M_feed cI cL cZ a_this a_now a_kept a_trial a_shelves a_tape a_paths a_sounds a_volumes a_refusals a_tape_letters c_isKept c_tape_size c_tape_token c_tape_place c_tape_end c_tape_letters c_refusals) sz)) [.ref a_this, .int v1] sz (cells_M_feed cI cL cZ a_this a_now a_kept a_trial a_shelves a_tape a_paths a_sounds a_volumes a_refusals a_tape_letters c_isKept c_tape_size c_tape_token c_tape_place c_tape_end c_tape_letters c_refusals)) (kQi D (va_A (cells_M_feed cI cL cZ a_this a_now a_kept a_trial a_shelves a_tape a_paths a_sounds a_volumes a_refusals a_tape_letters c_isKept c_tape_size c_tape_token c_tape_place c_tape_end c_tape_letters c_refusals) sz) (cells_M_feed cI cL cZ a_this a_now a_kept a_trial a_shelves a_tape a_paths a_sounds a_volumes a_refusals a_tape_letters c_isKept x.2.1 c_tape_token c_tape_place c_tape_end x.2.2.1 x.2.2.2) x.1) 0 0 (va_A (cells_M_feed cI cL cZ a_this a_now a_kept a_trial a_shelves a_tape a_paths a_sounds a_volumes a_refusals a_tape_letters c_isKept c_tape_size c_tape_token c_tape_place c_tape_end c_tape_letters c_refusals) sz) :=
  kmet (by decide) (Nat.le_of_ble_eq_true rfl) rfl (fun p e s m below meth c C hE => s_M_feed C hE h)
abbrev cells_T_cut (cI : ClassId) (cL : ClassId) (cZ : ClassId) (a_this : Nat) (a_letters : Nat) (c_size : Int32) (c_token : Int32) (c_place : Int32) (c_end : Int32) : va_W := [(a_this, .inr (3, [.ref a_letters, .int c_size, .int c_token, .int c_place, .int c_end]))]
abbrev rm_T_cut : Room := { frames := 0, cells := 0, slots := 0, locals := 0 }
set_option maxRecDepth 100000 in
set_option maxHeartbeats 4000000 in
theorem s_T_cut (C : kC p l e rm_T_cut s m args below meth c D (tyG cI cL cZ) A 2 cX3_cut yX3_cut.cls (Cond.code yX3_cut cX3_cut 2 (some .int) :: WS) (some .int)) {a_this : Nat} {a_letters : Nat} {c_size : Int32} {c_token : Int32} {c_place : Int32} {c_end : Int32} {x : (Int32 × Int32)} (h : f_T_cut c_size = some x) :
    kW p l e rm_T_cut s m args below meth c D A 2 (cells_T_cut cI cL cZ a_this a_letters c_size c_token c_place c_end) [(0, .ref a_this)] (MQ below (kQi D A (cells_T_cut cI cL cZ a_this a_letters x.2 c_token c_place c_end) x.1) args s 0 0 A) 0 [] := by
  unfold f_T_cut at h
  refine k_aload_n C dX3_cut_0 0 rfl rfl ?_
  refine k_get C (C0 := RX3) (T := TX3) (N := 5) (fun w h => List.mem_cons_of_mem _ (us_T w h)) 0 rfl rfl 1 (by decide) (List.mem_cons_of_mem _ wq_154) rfl rfl dX3_cut_1 ?_
  refine k_istore_n C (lv' := [(1, .int c_size), (0, .ref a_this)]) dX3_cut_4 rfl (by decide) rfl ?_
  refine k_aload_n C dX3_cut_5 1 rfl rfl ?_
  refine k_iconst C (v := (0 : Int32)) dX3_cut_6 (by decide) ?_
  refine k_put C (C0 := RX3) (T := TX3) (N := 5) (ws' := (cells_T_cut cI cL cZ a_this a_letters (0 : Int32) c_token c_place c_end)) (fun w h => List.mem_cons_of_mem _ (us_T w h)) tyX3 tyX3_ok nmX3 0 rfl rfl 1 (by decide) (List.mem_cons_of_mem _ wq_154) rfl rfl (tyX3_ok 1 (by decide)) rfl rfl (Nat.le_of_ble_eq_true rfl) rfl dX3_cut_7 ?_
  refine k_iload_n C dX3_cut_10 0 rfl rfl ?_
  obtain rfl := Option.some.inj h
  exact kret_i C rfl dX3_cut_11
theorem c_T_cut (l : Launch) (D : va_G) (cI : ClassId) (cL : ClassId) (cZ : ClassId) (sz : Nat) (a_this : Nat) (a_letters : Nat) (c_size : Int32) (c_token : Int32) (c_place : Int32) (c_end : Int32) (x : (Int32 × Int32)) (h : f_T_cut c_size = some x) :
    Met l yX3_cut (Cond.code yX3_cut cX3_cut 2 (some .int) :: WS) rm_T_cut (kP D (tyG cI cL cZ) kTrue [.ref a_this] sz (cells_T_cut cI cL cZ a_this a_letters c_size c_token c_place c_end)) (kQi D (va_A (cells_T_cut cI cL cZ a_this a_letters c_size c_token c_place c_end) sz) (cells_T_cut cI cL cZ a_this a_letters x.2 c_token c_place c_end) x.1) 0 0 (va_A (cells_T_cut cI cL cZ a_this a_letters c_size c_token c_place c_end) sz) :=
  kmet (by decide) (Nat.le_of_ble_eq_true rfl) rfl (fun p e s m below meth c C hE => s_T_cut C h)
abbrev cells_M_wipe (cI : ClassId) (cL : ClassId) (cZ : ClassId) (a_this : Nat) (a_now : Nat) (a_kept : Nat) (a_trial : Nat) (a_shelves : Nat) (a_tape : Nat) (a_paths : Nat) (a_sounds : Nat) (a_volumes : Nat) (a_refusals : Nat) (a_tape_letters : Nat) (c_isKept : Int32) (c_tape_size : Int32) (c_tape_token : Int32) (c_tape_place : Int32) (c_tape_end : Int32) : va_W := [(a_this, .inr (4, [.ref a_now, .ref a_kept, .ref a_trial, .ref a_shelves, .ref a_tape, .ref a_paths, .ref a_sounds, .ref a_volumes, .ref a_refusals, .int c_isKept])), (a_tape, .inr (3, [.ref a_tape_letters, .int c_tape_size, .int c_tape_token, .int c_tape_place, .int c_tape_end]))]
abbrev rm_M_wipe : Room := { frames := 1, cells := 0, slots := 0, locals := 21 }
set_option maxRecDepth 100000 in
set_option maxHeartbeats 4000000 in
theorem s_M_wipe (C : kC p l e rm_M_wipe s m args below meth c D (tyG cI cL cZ) A 1 cX4_wipe yX4_wipe.cls (Cond.code yX4_wipe cX4_wipe 1 (some .int) :: WS) (some .int)) {a_this : Nat} {a_now : Nat} {a_kept : Nat} {a_trial : Nat} {a_shelves : Nat} {a_tape : Nat} {a_paths : Nat} {a_sounds : Nat} {a_volumes : Nat} {a_refusals : Nat} {a_tape_letters : Nat} {c_isKept : Int32} {c_tape_size : Int32} {c_tape_token : Int32} {c_tape_place : Int32} {c_tape_end : Int32} {x : (Int32 × Int32)} (h : f_M_wipe c_tape_size = some x) :
    kW p l e rm_M_wipe s m args below meth c D A 1 (cells_M_wipe cI cL cZ a_this a_now a_kept a_trial a_shelves a_tape a_paths a_sounds a_volumes a_refusals a_tape_letters c_isKept c_tape_size c_tape_token c_tape_place c_tape_end) [(0, .ref a_this)] (MQ below (kQi D A (cells_M_wipe cI cL cZ a_this a_now a_kept a_trial a_shelves a_tape a_paths a_sounds a_volumes a_refusals a_tape_letters c_isKept x.2 c_tape_token c_tape_place c_tape_end) x.1) args s 0 0 A) 0 [] := by
  unfold f_M_wipe at h
  refine k_aload_n C dX4_wipe_0 0 rfl rfl ?_
  refine k_get C (C0 := RX4) (T := TX4) (N := 10) (fun w h => List.mem_cons_of_mem _ (us_M w h)) 0 rfl rfl 4 (by decide) (List.mem_cons_of_mem _ wq_156) rfl rfl dX4_wipe_1 ?_
  obtain ⟨x1, hx1, h⟩ := bindE h
  refine kcallU_i C (wc := (cells_T_cut cI cL cZ a_tape a_tape_letters c_tape_size c_tape_token c_tape_place c_tape_end)) (w1 := (cells_T_cut cI cL cZ a_tape a_tape_letters x1.2 c_tape_token c_tape_place c_tape_end)) (ws' := (cells_M_wipe cI cL cZ a_this a_now a_kept a_trial a_shelves a_tape a_paths a_sounds a_volumes a_refusals a_tape_letters c_isKept x1.2 c_tape_token c_tape_place c_tape_end)) (r := x1.1) [1] (fun H locs ls hP hD hS hF hz => krunV C (q0 := 0) (ci := 3) (c_T_cut l D cI cL cZ H.size a_tape a_tape_letters c_tape_size c_tape_token c_tape_place c_tape_end x1 hx1) (cwV 0 C.2.2.2.2.1 (gV wq_167 wq_168 wq_169 wq_161 wq_166) rfl rfl rfl (by decide +kernel) ⟨(Nat.le_of_ble_eq_true rfl), (Nat.le_of_ble_eq_true rfl)⟩) rfl rfl kEnv_T rfl rfl (Nat.le_of_ble_eq_true rfl) dX4_wipe_4 hP hD hz) rfl (by decide) rfl rfl ?_
  obtain rfl := Option.some.inj h
  exact kret_i C rfl dX4_wipe_7
theorem c_M_wipe (l : Launch) (D : va_G) (cI : ClassId) (cL : ClassId) (cZ : ClassId) (sz : Nat) (a_this : Nat) (a_now : Nat) (a_kept : Nat) (a_trial : Nat) (a_shelves : Nat) (a_tape : Nat) (a_paths : Nat) (a_sounds : Nat) (a_volumes : Nat) (a_refusals : Nat) (a_tape_letters : Nat) (c_isKept : Int32) (c_tape_size : Int32) (c_tape_token : Int32) (c_tape_place : Int32) (c_tape_end : Int32) (x : (Int32 × Int32)) (h : f_M_wipe c_tape_size = some x) :
    Met l yX4_wipe (Cond.code yX4_wipe cX4_wipe 1 (some .int) :: WS) rm_M_wipe (kP D (tyG cI cL cZ) kTrue [.ref a_this] sz (cells_M_wipe cI cL cZ a_this a_now a_kept a_trial a_shelves a_tape a_paths a_sounds a_volumes a_refusals a_tape_letters c_isKept c_tape_size c_tape_token c_tape_place c_tape_end)) (kQi D (va_A (cells_M_wipe cI cL cZ a_this a_now a_kept a_trial a_shelves a_tape a_paths a_sounds a_volumes a_refusals a_tape_letters c_isKept c_tape_size c_tape_token c_tape_place c_tape_end) sz) (cells_M_wipe cI cL cZ a_this a_now a_kept a_trial a_shelves a_tape a_paths a_sounds a_volumes a_refusals a_tape_letters c_isKept x.2 c_tape_token c_tape_place c_tape_end) x.1) 0 0 (va_A (cells_M_wipe cI cL cZ a_this a_now a_kept a_trial a_shelves a_tape a_paths a_sounds a_volumes a_refusals a_tape_letters c_isKept c_tape_size c_tape_token c_tape_place c_tape_end) sz) :=
  kmet (by decide) (Nat.le_of_ble_eq_true rfl) rfl (fun p e s m below meth c C hE => s_M_wipe C h)
abbrev cells_D_takeFrom (cI : ClassId) (cL : ClassId) (cZ : ClassId) (a_this : Nat) (a_stones : Nat) (a_kinds : Nat) (a_weights : Nat) (a_chances : Nat) (a_p1 : Nat) (a_p1_stones : Nat) (a_p1_kinds : Nat) (a_p1_weights : Nat) (a_p1_chances : Nat) (c_width : Int32) (c_rain : Int32) (c_ear : Int32) (c_walkers : Int32) (c_seed : Int32) (c_stones : (Nat → Int32)) (c_kinds : (Nat → Int32)) (c_weights : (Nat → Int32)) (c_chances : (Nat → Int32)) (c_p1_width : Int32) (c_p1_rain : Int32) (c_p1_ear : Int32) (c_p1_walkers : Int32) (c_p1_seed : Int32) (c_p1_stones : (Nat → Int32)) (c_p1_kinds : (Nat → Int32)) (c_p1_weights : (Nat → Int32)) (c_p1_chances : (Nat → Int32)) : va_W := [(a_this, .inr (0, [.ref a_stones, .ref a_kinds, .ref a_weights, .ref a_chances, .int c_width, .int c_rain, .int c_ear, .int c_walkers, .int c_seed])), (a_stones, .inl (cI, 36, .inl c_stones)), (a_kinds, .inl (cI, 8, .inl c_kinds)), (a_weights, .inl (cI, 8, .inl c_weights)), (a_chances, .inl (cI, 8, .inl c_chances)), (a_p1, .inr (0, [.ref a_p1_stones, .ref a_p1_kinds, .ref a_p1_weights, .ref a_p1_chances, .int c_p1_width, .int c_p1_rain, .int c_p1_ear, .int c_p1_walkers, .int c_p1_seed])), (a_p1_stones, .inl (cI, 36, .inl c_p1_stones)), (a_p1_kinds, .inl (cI, 8, .inl c_p1_kinds)), (a_p1_weights, .inl (cI, 8, .inl c_p1_weights)), (a_p1_chances, .inl (cI, 8, .inl c_p1_chances))]
abbrev rm_D_takeFrom : Room := { frames := 1, cells := 0, slots := 0, locals := 40 }
set_option maxRecDepth 100000 in
set_option maxHeartbeats 4000000 in
theorem s_D_takeFrom (C : kC p l e rm_D_takeFrom s m args below meth c D (tyG cI cL cZ) A 2 cX0_takeFrom yX0_takeFrom.cls (Cond.code yX0_takeFrom cX0_takeFrom 2 none :: WS) none) {a_this : Nat} {a_stones : Nat} {a_kinds : Nat} {a_weights : Nat} {a_chances : Nat} {a_p1 : Nat} {a_p1_stones : Nat} {a_p1_kinds : Nat} {a_p1_weights : Nat} {a_p1_chances : Nat} {c_width : Int32} {c_rain : Int32} {c_ear : Int32} {c_walkers : Int32} {c_seed : Int32} {c_stones : (Nat → Int32)} {c_kinds : (Nat → Int32)} {c_weights : (Nat → Int32)} {c_chances : (Nat → Int32)} {c_p1_width : Int32} {c_p1_rain : Int32} {c_p1_ear : Int32} {c_p1_walkers : Int32} {c_p1_seed : Int32} {c_p1_stones : (Nat → Int32)} {c_p1_kinds : (Nat → Int32)} {c_p1_weights : (Nat → Int32)} {c_p1_chances : (Nat → Int32)} {x : (Int32 × Int32 × Int32 × Int32 × Int32 × (Nat → Int32) × (Nat → Int32) × (Nat → Int32) × (Nat → Int32))} (h : f_D_takeFrom c_width c_rain c_ear c_walkers c_seed c_stones c_kinds c_weights c_chances c_p1_width c_p1_rain c_p1_ear c_p1_walkers c_p1_seed c_p1_stones c_p1_kinds c_p1_weights c_p1_chances = some x) :
    kW p l e rm_D_takeFrom s m args below meth c D A 2 (cells_D_takeFrom cI cL cZ a_this a_stones a_kinds a_weights a_chances a_p1 a_p1_stones a_p1_kinds a_p1_weights a_p1_chances c_width c_rain c_ear c_walkers c_seed c_stones c_kinds c_weights c_chances c_p1_width c_p1_rain c_p1_ear c_p1_walkers c_p1_seed c_p1_stones c_p1_kinds c_p1_weights c_p1_chances) [(0, .ref a_this), (1, .ref a_p1)] (MQ below (kQv D A (cells_D_takeFrom cI cL cZ a_this a_stones a_kinds a_weights a_chances a_p1 a_p1_stones a_p1_kinds a_p1_weights a_p1_chances x.1 x.2.1 x.2.2.1 x.2.2.2.1 x.2.2.2.2.1 x.2.2.2.2.2.1 x.2.2.2.2.2.2.1 x.2.2.2.2.2.2.2.1 x.2.2.2.2.2.2.2.2 c_p1_width c_p1_rain c_p1_ear c_p1_walkers c_p1_seed c_p1_stones c_p1_kinds c_p1_weights c_p1_chances)) args s 0 0 A) 0 [] := by
  unfold f_D_takeFrom at h
  refine k_aload_n C dX0_takeFrom_0 1 rfl rfl ?_
  refine k_get C (C0 := RX0) (T := TX0) (N := 9) (fun w h => List.mem_cons_of_mem _ (us_D w h)) 5 rfl rfl 0 (by decide) (List.mem_cons_of_mem _ wq_85) rfl rfl dX0_takeFrom_1 ?_
  refine k_iconst C (v := (0 : Int32)) dX0_takeFrom_4 (by decide) ?_
  refine k_aload_n C dX0_takeFrom_5 0 rfl rfl ?_
  refine k_get C (C0 := RX0) (T := TX0) (N := 9) (fun w h => List.mem_cons_of_mem _ (us_D w h)) 0 rfl rfl 0 (by decide) (List.mem_cons_of_mem _ wq_85) rfl rfl dX0_takeFrom_6 ?_
  refine k_iconst C (v := (0 : Int32)) dX0_takeFrom_9 (by decide) ?_
  refine k_bipush C (v := (36 : Int32)) dX0_takeFrom_10 (by decide) ?_
  obtain ⟨x1, hx1, h⟩ := bindE h
  refine k_copyi C 6 1 0 0 (ws' := (cells_D_takeFrom cI cL cZ a_this a_stones a_kinds a_weights a_chances a_p1 a_p1_stones a_p1_kinds a_p1_weights a_p1_chances c_width c_rain c_ear c_walkers c_seed x1 c_kinds c_weights c_chances c_p1_width c_p1_rain c_p1_ear c_p1_walkers c_p1_seed c_p1_stones c_p1_kinds c_p1_weights c_p1_chances)) (List.mem_cons_of_mem _ wq_170) (List.mem_cons_of_mem _ wq_45) (List.mem_cons_of_mem _ wq_46) (List.mem_cons_of_mem _ wq_47) rfl rfl rfl rfl rfl (fun _ _ => rfl) hx1 rfl (Nat.le_of_ble_eq_true rfl) (Nat.le_of_ble_eq_true rfl) dX0_takeFrom_12 ?_
  refine k_aload_n C dX0_takeFrom_15 1 rfl rfl ?_
  refine k_get C (C0 := RX0) (T := TX0) (N := 9) (fun w h => List.mem_cons_of_mem _ (us_D w h)) 5 rfl rfl 1 (by decide) (List.mem_cons_of_mem _ wq_81) rfl rfl dX0_takeFrom_16 ?_
  refine k_iconst C (v := (0 : Int32)) dX0_takeFrom_19 (by decide) ?_
  refine k_aload_n C dX0_takeFrom_20 0 rfl rfl ?_
  refine k_get C (C0 := RX0) (T := TX0) (N := 9) (fun w h => List.mem_cons_of_mem _ (us_D w h)) 0 rfl rfl 1 (by decide) (List.mem_cons_of_mem _ wq_81) rfl rfl dX0_takeFrom_21 ?_
  refine k_iconst C (v := (0 : Int32)) dX0_takeFrom_24 (by decide) ?_
  refine k_bipush C (v := (8 : Int32)) dX0_takeFrom_25 (by decide) ?_
  obtain ⟨x2, hx2, h⟩ := bindE h
  refine k_copyi C 7 2 0 0 (ws' := (cells_D_takeFrom cI cL cZ a_this a_stones a_kinds a_weights a_chances a_p1 a_p1_stones a_p1_kinds a_p1_weights a_p1_chances c_width c_rain c_ear c_walkers c_seed x1 x2 c_weights c_chances c_p1_width c_p1_rain c_p1_ear c_p1_walkers c_p1_seed c_p1_stones c_p1_kinds c_p1_weights c_p1_chances)) (List.mem_cons_of_mem _ wq_170) (List.mem_cons_of_mem _ wq_45) (List.mem_cons_of_mem _ wq_46) (List.mem_cons_of_mem _ wq_47) rfl rfl rfl rfl rfl (fun _ _ => rfl) hx2 rfl (Nat.le_of_ble_eq_true rfl) (Nat.le_of_ble_eq_true rfl) dX0_takeFrom_27 ?_
  refine k_aload_n C dX0_takeFrom_30 1 rfl rfl ?_
  refine k_get C (C0 := RX0) (T := TX0) (N := 9) (fun w h => List.mem_cons_of_mem _ (us_D w h)) 5 rfl rfl 2 (by decide) (List.mem_cons_of_mem _ wq_84) rfl rfl dX0_takeFrom_31 ?_
  refine k_iconst C (v := (0 : Int32)) dX0_takeFrom_34 (by decide) ?_
  refine k_aload_n C dX0_takeFrom_35 0 rfl rfl ?_
  refine k_get C (C0 := RX0) (T := TX0) (N := 9) (fun w h => List.mem_cons_of_mem _ (us_D w h)) 0 rfl rfl 2 (by decide) (List.mem_cons_of_mem _ wq_84) rfl rfl dX0_takeFrom_36 ?_
  refine k_iconst C (v := (0 : Int32)) dX0_takeFrom_39 (by decide) ?_
  refine k_bipush C (v := (8 : Int32)) dX0_takeFrom_40 (by decide) ?_
  obtain ⟨x3, hx3, h⟩ := bindE h
  refine k_copyi C 8 3 0 0 (ws' := (cells_D_takeFrom cI cL cZ a_this a_stones a_kinds a_weights a_chances a_p1 a_p1_stones a_p1_kinds a_p1_weights a_p1_chances c_width c_rain c_ear c_walkers c_seed x1 x2 x3 c_chances c_p1_width c_p1_rain c_p1_ear c_p1_walkers c_p1_seed c_p1_stones c_p1_kinds c_p1_weights c_p1_chances)) (List.mem_cons_of_mem _ wq_170) (List.mem_cons_of_mem _ wq_45) (List.mem_cons_of_mem _ wq_46) (List.mem_cons_of_mem _ wq_47) rfl rfl rfl rfl rfl (fun _ _ => rfl) hx3 rfl (Nat.le_of_ble_eq_true rfl) (Nat.le_of_ble_eq_true rfl) dX0_takeFrom_42 ?_
  refine k_aload_n C dX0_takeFrom_45 1 rfl rfl ?_
  refine k_get C (C0 := RX0) (T := TX0) (N := 9) (fun w h => List.mem_cons_of_mem _ (us_D w h)) 5 rfl rfl 3 (by decide) (List.mem_cons_of_mem _ wq_83) rfl rfl dX0_takeFrom_46 ?_
  refine k_iconst C (v := (0 : Int32)) dX0_takeFrom_49 (by decide) ?_
  refine k_aload_n C dX0_takeFrom_50 0 rfl rfl ?_
  refine k_get C (C0 := RX0) (T := TX0) (N := 9) (fun w h => List.mem_cons_of_mem _ (us_D w h)) 0 rfl rfl 3 (by decide) (List.mem_cons_of_mem _ wq_83) rfl rfl dX0_takeFrom_51 ?_
  refine k_iconst C (v := (0 : Int32)) dX0_takeFrom_54 (by decide) ?_
  refine k_bipush C (v := (8 : Int32)) dX0_takeFrom_55 (by decide) ?_
  obtain ⟨x4, hx4, h⟩ := bindE h
  refine k_copyi C 9 4 0 0 (ws' := (cells_D_takeFrom cI cL cZ a_this a_stones a_kinds a_weights a_chances a_p1 a_p1_stones a_p1_kinds a_p1_weights a_p1_chances c_width c_rain c_ear c_walkers c_seed x1 x2 x3 x4 c_p1_width c_p1_rain c_p1_ear c_p1_walkers c_p1_seed c_p1_stones c_p1_kinds c_p1_weights c_p1_chances)) (List.mem_cons_of_mem _ wq_170) (List.mem_cons_of_mem _ wq_45) (List.mem_cons_of_mem _ wq_46) (List.mem_cons_of_mem _ wq_47) rfl rfl rfl rfl rfl (fun _ _ => rfl) hx4 rfl (Nat.le_of_ble_eq_true rfl) (Nat.le_of_ble_eq_true rfl) dX0_takeFrom_57 ?_
  refine k_aload_n C dX0_takeFrom_60 0 rfl rfl ?_
  refine k_aload_n C dX0_takeFrom_61 1 rfl rfl ?_
  refine k_get C (C0 := RX0) (T := TX0) (N := 9) (fun w h => List.mem_cons_of_mem _ (us_D w h)) 5 rfl rfl 4 (by decide) (List.mem_cons_of_mem _ wq_125) rfl rfl dX0_takeFrom_62 ?_
  refine k_put C (C0 := RX0) (T := TX0) (N := 9) (ws' := (cells_D_takeFrom cI cL cZ a_this a_stones a_kinds a_weights a_chances a_p1 a_p1_stones a_p1_kinds a_p1_weights a_p1_chances c_p1_width c_rain c_ear c_walkers c_seed x1 x2 x3 x4 c_p1_width c_p1_rain c_p1_ear c_p1_walkers c_p1_seed c_p1_stones c_p1_kinds c_p1_weights c_p1_chances)) (fun w h => List.mem_cons_of_mem _ (us_D w h)) tyX0 tyX0_ok nmX0 0 rfl rfl 4 (by decide) (List.mem_cons_of_mem _ wq_125) rfl rfl (tyX0_ok 4 (by decide)) rfl rfl (Nat.le_of_ble_eq_true rfl) rfl dX0_takeFrom_65 ?_
  refine k_aload_n C dX0_takeFrom_68 0 rfl rfl ?_
  refine k_aload_n C dX0_takeFrom_69 1 rfl rfl ?_
  refine k_get C (C0 := RX0) (T := TX0) (N := 9) (fun w h => List.mem_cons_of_mem _ (us_D w h)) 5 rfl rfl 5 (by decide) (List.mem_cons_of_mem _ wq_108) rfl rfl dX0_takeFrom_70 ?_
  refine k_put C (C0 := RX0) (T := TX0) (N := 9) (ws' := (cells_D_takeFrom cI cL cZ a_this a_stones a_kinds a_weights a_chances a_p1 a_p1_stones a_p1_kinds a_p1_weights a_p1_chances c_p1_width c_p1_rain c_ear c_walkers c_seed x1 x2 x3 x4 c_p1_width c_p1_rain c_p1_ear c_p1_walkers c_p1_seed c_p1_stones c_p1_kinds c_p1_weights c_p1_chances)) (fun w h => List.mem_cons_of_mem _ (us_D w h)) tyX0 tyX0_ok nmX0 0 rfl rfl 5 (by decide) (List.mem_cons_of_mem _ wq_108) rfl rfl (tyX0_ok 5 (by decide)) rfl rfl (Nat.le_of_ble_eq_true rfl) rfl dX0_takeFrom_73 ?_
  refine k_aload_n C dX0_takeFrom_76 0 rfl rfl ?_
  refine k_aload_n C dX0_takeFrom_77 1 rfl rfl ?_
  refine k_get C (C0 := RX0) (T := TX0) (N := 9) (fun w h => List.mem_cons_of_mem _ (us_D w h)) 5 rfl rfl 6 (by decide) (List.mem_cons_of_mem _ wq_171) rfl rfl dX0_takeFrom_78 ?_
  refine k_put C (C0 := RX0) (T := TX0) (N := 9) (ws' := (cells_D_takeFrom cI cL cZ a_this a_stones a_kinds a_weights a_chances a_p1 a_p1_stones a_p1_kinds a_p1_weights a_p1_chances c_p1_width c_p1_rain c_p1_ear c_walkers c_seed x1 x2 x3 x4 c_p1_width c_p1_rain c_p1_ear c_p1_walkers c_p1_seed c_p1_stones c_p1_kinds c_p1_weights c_p1_chances)) (fun w h => List.mem_cons_of_mem _ (us_D w h)) tyX0 tyX0_ok nmX0 0 rfl rfl 6 (by decide) (List.mem_cons_of_mem _ wq_171) rfl rfl (tyX0_ok 6 (by decide)) rfl rfl (Nat.le_of_ble_eq_true rfl) rfl dX0_takeFrom_81 ?_
  refine k_aload_n C dX0_takeFrom_84 0 rfl rfl ?_
  refine k_aload_n C dX0_takeFrom_85 1 rfl rfl ?_
  refine k_get C (C0 := RX0) (T := TX0) (N := 9) (fun w h => List.mem_cons_of_mem _ (us_D w h)) 5 rfl rfl 7 (by decide) (List.mem_cons_of_mem _ wq_62) rfl rfl dX0_takeFrom_86 ?_
  refine k_put C (C0 := RX0) (T := TX0) (N := 9) (ws' := (cells_D_takeFrom cI cL cZ a_this a_stones a_kinds a_weights a_chances a_p1 a_p1_stones a_p1_kinds a_p1_weights a_p1_chances c_p1_width c_p1_rain c_p1_ear c_p1_walkers c_seed x1 x2 x3 x4 c_p1_width c_p1_rain c_p1_ear c_p1_walkers c_p1_seed c_p1_stones c_p1_kinds c_p1_weights c_p1_chances)) (fun w h => List.mem_cons_of_mem _ (us_D w h)) tyX0 tyX0_ok nmX0 0 rfl rfl 7 (by decide) (List.mem_cons_of_mem _ wq_62) rfl rfl (tyX0_ok 7 (by decide)) rfl rfl (Nat.le_of_ble_eq_true rfl) rfl dX0_takeFrom_89 ?_
  refine k_aload_n C dX0_takeFrom_92 0 rfl rfl ?_
  refine k_aload_n C dX0_takeFrom_93 1 rfl rfl ?_
  refine k_get C (C0 := RX0) (T := TX0) (N := 9) (fun w h => List.mem_cons_of_mem _ (us_D w h)) 5 rfl rfl 8 (by decide) (List.mem_cons_of_mem _ wq_172) rfl rfl dX0_takeFrom_94 ?_
  refine k_put C (C0 := RX0) (T := TX0) (N := 9) (ws' := (cells_D_takeFrom cI cL cZ a_this a_stones a_kinds a_weights a_chances a_p1 a_p1_stones a_p1_kinds a_p1_weights a_p1_chances c_p1_width c_p1_rain c_p1_ear c_p1_walkers c_p1_seed x1 x2 x3 x4 c_p1_width c_p1_rain c_p1_ear c_p1_walkers c_p1_seed c_p1_stones c_p1_kinds c_p1_weights c_p1_chances)) (fun w h => List.mem_cons_of_mem _ (us_D w h)) tyX0 tyX0_ok nmX0 0 rfl rfl 8 (by decide) (List.mem_cons_of_mem _ wq_172) rfl rfl (tyX0_ok 8 (by decide)) rfl rfl (Nat.le_of_ble_eq_true rfl) rfl dX0_takeFrom_97 ?_
  obtain rfl := Option.some.inj h
  exact kret_v C rfl dX0_takeFrom_100
theorem c_D_takeFrom (l : Launch) (D : va_G) (cI : ClassId) (cL : ClassId) (cZ : ClassId) (sz : Nat) (a_this : Nat) (a_stones : Nat) (a_kinds : Nat) (a_weights : Nat) (a_chances : Nat) (a_p1 : Nat) (a_p1_stones : Nat) (a_p1_kinds : Nat) (a_p1_weights : Nat) (a_p1_chances : Nat) (c_width : Int32) (c_rain : Int32) (c_ear : Int32) (c_walkers : Int32) (c_seed : Int32) (c_stones : (Nat → Int32)) (c_kinds : (Nat → Int32)) (c_weights : (Nat → Int32)) (c_chances : (Nat → Int32)) (c_p1_width : Int32) (c_p1_rain : Int32) (c_p1_ear : Int32) (c_p1_walkers : Int32) (c_p1_seed : Int32) (c_p1_stones : (Nat → Int32)) (c_p1_kinds : (Nat → Int32)) (c_p1_weights : (Nat → Int32)) (c_p1_chances : (Nat → Int32)) (x : (Int32 × Int32 × Int32 × Int32 × Int32 × (Nat → Int32) × (Nat → Int32) × (Nat → Int32) × (Nat → Int32))) (h : f_D_takeFrom c_width c_rain c_ear c_walkers c_seed c_stones c_kinds c_weights c_chances c_p1_width c_p1_rain c_p1_ear c_p1_walkers c_p1_seed c_p1_stones c_p1_kinds c_p1_weights c_p1_chances = some x) :
    Met l yX0_takeFrom (Cond.code yX0_takeFrom cX0_takeFrom 2 none :: WS) rm_D_takeFrom (kP D (tyG cI cL cZ) kTrue [.ref a_this, .ref a_p1] sz (cells_D_takeFrom cI cL cZ a_this a_stones a_kinds a_weights a_chances a_p1 a_p1_stones a_p1_kinds a_p1_weights a_p1_chances c_width c_rain c_ear c_walkers c_seed c_stones c_kinds c_weights c_chances c_p1_width c_p1_rain c_p1_ear c_p1_walkers c_p1_seed c_p1_stones c_p1_kinds c_p1_weights c_p1_chances)) (kQv D (va_A (cells_D_takeFrom cI cL cZ a_this a_stones a_kinds a_weights a_chances a_p1 a_p1_stones a_p1_kinds a_p1_weights a_p1_chances c_width c_rain c_ear c_walkers c_seed c_stones c_kinds c_weights c_chances c_p1_width c_p1_rain c_p1_ear c_p1_walkers c_p1_seed c_p1_stones c_p1_kinds c_p1_weights c_p1_chances) sz) (cells_D_takeFrom cI cL cZ a_this a_stones a_kinds a_weights a_chances a_p1 a_p1_stones a_p1_kinds a_p1_weights a_p1_chances x.1 x.2.1 x.2.2.1 x.2.2.2.1 x.2.2.2.2.1 x.2.2.2.2.2.1 x.2.2.2.2.2.2.1 x.2.2.2.2.2.2.2.1 x.2.2.2.2.2.2.2.2 c_p1_width c_p1_rain c_p1_ear c_p1_walkers c_p1_seed c_p1_stones c_p1_kinds c_p1_weights c_p1_chances)) 0 0 (va_A (cells_D_takeFrom cI cL cZ a_this a_stones a_kinds a_weights a_chances a_p1 a_p1_stones a_p1_kinds a_p1_weights a_p1_chances c_width c_rain c_ear c_walkers c_seed c_stones c_kinds c_weights c_chances c_p1_width c_p1_rain c_p1_ear c_p1_walkers c_p1_seed c_p1_stones c_p1_kinds c_p1_weights c_p1_chances) sz) :=
  kmet (by decide) (Nat.le_of_ble_eq_true rfl) rfl (fun p e s m below meth c C hE => s_D_takeFrom C h)
abbrev cells_T_letterAt (cI : ClassId) (cL : ClassId) (cZ : ClassId) (a_this : Nat) (a_letters : Nat) (c_size : Int32) (c_token : Int32) (c_place : Int32) (c_end : Int32) (c_letters : (Nat → Int32)) : va_W := [(a_this, .inr (3, [.ref a_letters, .int c_size, .int c_token, .int c_place, .int c_end])), (a_letters, .inl (cI, 250, .inl c_letters))]
abbrev rm_T_letterAt : Room := { frames := 0, cells := 0, slots := 0, locals := 0 }
set_option maxRecDepth 100000 in
set_option maxHeartbeats 4000000 in
theorem s_T_letterAt (C : kC p l e rm_T_letterAt s m args below meth c D (tyG cI cL cZ) A 2 cX3_letterAt yX3_letterAt.cls (Cond.code yX3_letterAt cX3_letterAt 2 (some .int) :: WS) (some .int)) {a_this : Nat} {a_letters : Nat} {v1 : Int32} {c_size : Int32} {c_token : Int32} {c_place : Int32} {c_end : Int32} {c_letters : (Nat → Int32)} {x : Int32} (h : f_T_letterAt v1 c_size c_letters = some x) :
    kW p l e rm_T_letterAt s m args below meth c D A 2 (cells_T_letterAt cI cL cZ a_this a_letters c_size c_token c_place c_end c_letters) [(0, .ref a_this), (1, .int v1)] (MQ below (kQi D A (cells_T_letterAt cI cL cZ a_this a_letters c_size c_token c_place c_end c_letters) x) args s 0 0 A) 0 [] := by
  unfold f_T_letterAt at h
  refine k_iload_n C dX3_letterAt_0 1 rfl rfl ?_
  refine k_if_lt C (tgt := 28) dX3_letterAt_1 (by decide) (fun c_1 => ?_) (fun c_1 => ?_)
  · have h := ifT c_1 h
    refine k_iconst C (v := (-1 : Int32)) dX3_letterAt_28 (by decide) ?_
    obtain rfl := Option.some.inj h
    exact kret_i C rfl dX3_letterAt_29
  · have h := ifF c_1 h
    refine k_iload_n C dX3_letterAt_4 1 rfl rfl ?_
    refine k_aload_n C dX3_letterAt_5 0 rfl rfl ?_
    refine k_get C (C0 := RX3) (T := TX3) (N := 5) (fun w h => List.mem_cons_of_mem _ (us_T w h)) 0 rfl rfl 1 (by decide) (List.mem_cons_of_mem _ wq_154) rfl rfl dX3_letterAt_6 ?_
    refine k_icmp_ge C (tgt := 28) dX3_letterAt_9 (by decide) (fun c_9 => ?_) (fun c_9 => ?_)
    · have h := ifT c_9 h
      refine k_iconst C (v := (-1 : Int32)) dX3_letterAt_28 (by decide) ?_
      obtain rfl := Option.some.inj h
      exact kret_i C rfl dX3_letterAt_29
    · have h := ifF c_9 h
      refine k_iload_n C dX3_letterAt_12 1 rfl rfl ?_
      refine k_sipush C (v := (250 : Int32)) dX3_letterAt_13 (by decide) ?_
      refine k_icmp_ge C (tgt := 28) dX3_letterAt_16 (by decide) (fun c_16 => ?_) (fun c_16 => ?_)
      · have h := ifT c_16 h
        refine k_iconst C (v := (-1 : Int32)) dX3_letterAt_28 (by decide) ?_
        obtain rfl := Option.some.inj h
        exact kret_i C rfl dX3_letterAt_29
      · have h := ifF c_16 h
        refine k_aload_n C dX3_letterAt_19 0 rfl rfl ?_
        refine k_get C (C0 := RX3) (T := TX3) (N := 5) (fun w h => List.mem_cons_of_mem _ (us_T w h)) 0 rfl rfl 0 (by decide) (List.mem_cons_of_mem _ wq_155) rfl rfl dX3_letterAt_20 ?_
        refine k_iload_n C dX3_letterAt_23 1 rfl rfl ?_
        obtain ⟨x1, hx1, h⟩ := bindE h
        refine k_iald C 1 0 rfl rfl hx1 dX3_letterAt_24 ?_
        refine k_goto C (tgt := 29) dX3_letterAt_25 (by decide) ?_
        obtain rfl := Option.some.inj h
        exact kret_i C rfl dX3_letterAt_29
theorem c_T_letterAt (l : Launch) (D : va_G) (cI : ClassId) (cL : ClassId) (cZ : ClassId) (sz : Nat) (a_this : Nat) (a_letters : Nat) (v1 : Int32) (c_size : Int32) (c_token : Int32) (c_place : Int32) (c_end : Int32) (c_letters : (Nat → Int32)) (x : Int32) (h : f_T_letterAt v1 c_size c_letters = some x) :
    Met l yX3_letterAt (Cond.code yX3_letterAt cX3_letterAt 2 (some .int) :: WS) rm_T_letterAt (kP D (tyG cI cL cZ) kTrue [.ref a_this, .int v1] sz (cells_T_letterAt cI cL cZ a_this a_letters c_size c_token c_place c_end c_letters)) (kQi D (va_A (cells_T_letterAt cI cL cZ a_this a_letters c_size c_token c_place c_end c_letters) sz) (cells_T_letterAt cI cL cZ a_this a_letters c_size c_token c_place c_end c_letters) x) 0 0 (va_A (cells_T_letterAt cI cL cZ a_this a_letters c_size c_token c_place c_end c_letters) sz) :=
  kmet (by decide) (Nat.le_of_ble_eq_true rfl) rfl (fun p e s m below meth c C hE => s_T_letterAt C h)
abbrev cells_T_tokenOf (cI : ClassId) (cL : ClassId) (cZ : ClassId) : va_W := []
abbrev rm_T_tokenOf : Room := { frames := 0, cells := 0, slots := 0, locals := 0 }
set_option maxRecDepth 100000 in
set_option maxHeartbeats 4000000 in
theorem s_T_tokenOf_j35 (C : kC p l e rm_T_tokenOf s m args below meth c D (tyG cI cL cZ) A 1 cX3_tokenOf yX3_tokenOf.cls (Cond.code yX3_tokenOf cX3_tokenOf 1 (some .int) :: WS) (some .int)) {v0 : Int32} {x : Int32} (h : f_T_tokenOf_j35 v0 = some x) :
    kW p l e rm_T_tokenOf s m args below meth c D A 1 (cells_T_tokenOf cI cL cZ) [(0, .int v0)] (MQ below (kQi D A (cells_T_tokenOf cI cL cZ) x) args s 0 0 A) 35 [] := by
  unfold f_T_tokenOf_j35 at h
  refine k_iload_n C dX3_tokenOf_35 0 rfl rfl ?_
  refine k_bipush C (v := (59 : Int32)) dX3_tokenOf_36 (by decide) ?_
  refine k_icmp_ne C (tgt := 45) dX3_tokenOf_38 (by decide) (fun c_38 => ?_) (fun c_38 => ?_)
  · have h := ifF c_38 h
    refine k_iconst C (v := (4 : Int32)) dX3_tokenOf_45 (by decide) ?_
    obtain rfl := Option.some.inj h
    exact kret_i C rfl dX3_tokenOf_46
  · have h := ifT c_38 h
    refine k_iconst C (v := (3 : Int32)) dX3_tokenOf_41 (by decide) ?_
    refine k_goto C (tgt := 46) dX3_tokenOf_42 (by decide) ?_
    obtain rfl := Option.some.inj h
    exact kret_i C rfl dX3_tokenOf_46
set_option maxRecDepth 100000 in
set_option maxHeartbeats 4000000 in
theorem s_T_tokenOf_j21 (C : kC p l e rm_T_tokenOf s m args below meth c D (tyG cI cL cZ) A 1 cX3_tokenOf yX3_tokenOf.cls (Cond.code yX3_tokenOf cX3_tokenOf 1 (some .int) :: WS) (some .int)) {v0 : Int32} {x : Int32} (h : f_T_tokenOf_j21 v0 = some x) :
    kW p l e rm_T_tokenOf s m args below meth c D A 1 (cells_T_tokenOf cI cL cZ) [(0, .int v0)] (MQ below (kQi D A (cells_T_tokenOf cI cL cZ) x) args s 0 0 A) 21 [] := by
  unfold f_T_tokenOf_j21 at h
  refine k_iload_n C dX3_tokenOf_21 0 rfl rfl ?_
  refine k_bipush C (v := (48 : Int32)) dX3_tokenOf_22 (by decide) ?_
  refine k_icmp_lt C (tgt := 35) dX3_tokenOf_24 (by decide) (fun c_24 => ?_) (fun c_24 => ?_)
  · have h := ifT c_24 h
    exact s_T_tokenOf_j35 C h
  · have h := ifF c_24 h
    refine k_iload_n C dX3_tokenOf_27 0 rfl rfl ?_
    refine k_bipush C (v := (57 : Int32)) dX3_tokenOf_28 (by decide) ?_
    refine k_icmp_gt C (tgt := 35) dX3_tokenOf_30 (by decide) (fun c_30 => ?_) (fun c_30 => ?_)
    · have h := ifT c_30 h
      exact s_T_tokenOf_j35 C h
    · have h := ifF c_30 h
      refine k_iconst C (v := (2 : Int32)) dX3_tokenOf_33 (by decide) ?_
      obtain rfl := Option.some.inj h
      exact kret_i C rfl dX3_tokenOf_34
set_option maxRecDepth 100000 in
set_option maxHeartbeats 4000000 in
theorem s_T_tokenOf (C : kC p l e rm_T_tokenOf s m args below meth c D (tyG cI cL cZ) A 1 cX3_tokenOf yX3_tokenOf.cls (Cond.code yX3_tokenOf cX3_tokenOf 1 (some .int) :: WS) (some .int)) {v0 : Int32} {x : Int32} (h : f_T_tokenOf v0 = some x) :
    kW p l e rm_T_tokenOf s m args below meth c D A 1 (cells_T_tokenOf cI cL cZ) [(0, .int v0)] (MQ below (kQi D A (cells_T_tokenOf cI cL cZ) x) args s 0 0 A) 0 [] := by
  unfold f_T_tokenOf at h
  refine k_iload_n C dX3_tokenOf_0 0 rfl rfl ?_
  refine k_iconst C (v := (-1 : Int32)) dX3_tokenOf_1 (by decide) ?_
  refine k_icmp_ne C (tgt := 7) dX3_tokenOf_2 (by decide) (fun c_2 => ?_) (fun c_2 => ?_)
  · have h := ifF c_2 h
    refine k_iload_n C dX3_tokenOf_7 0 rfl rfl ?_
    refine k_bipush C (v := (97 : Int32)) dX3_tokenOf_8 (by decide) ?_
    refine k_icmp_lt C (tgt := 21) dX3_tokenOf_10 (by decide) (fun c_10 => ?_) (fun c_10 => ?_)
    · have h := ifT c_10 h
      exact s_T_tokenOf_j21 C h
    · have h := ifF c_10 h
      refine k_iload_n C dX3_tokenOf_13 0 rfl rfl ?_
      refine k_bipush C (v := (122 : Int32)) dX3_tokenOf_14 (by decide) ?_
      refine k_icmp_gt C (tgt := 21) dX3_tokenOf_16 (by decide) (fun c_16 => ?_) (fun c_16 => ?_)
      · have h := ifT c_16 h
        exact s_T_tokenOf_j21 C h
      · have h := ifF c_16 h
        refine k_iconst C (v := (1 : Int32)) dX3_tokenOf_19 (by decide) ?_
        obtain rfl := Option.some.inj h
        exact kret_i C rfl dX3_tokenOf_20
  · have h := ifT c_2 h
    refine k_iconst C (v := (0 : Int32)) dX3_tokenOf_5 (by decide) ?_
    obtain rfl := Option.some.inj h
    exact kret_i C rfl dX3_tokenOf_6
theorem c_T_tokenOf (l : Launch) (D : va_G) (cI : ClassId) (cL : ClassId) (cZ : ClassId) (sz : Nat) (v0 : Int32) (x : Int32) (h : f_T_tokenOf v0 = some x) :
    Met l yX3_tokenOf (Cond.code yX3_tokenOf cX3_tokenOf 1 (some .int) :: WS) rm_T_tokenOf (kP D (tyG cI cL cZ) kTrue [.int v0] sz (cells_T_tokenOf cI cL cZ)) (kQi D (va_A (cells_T_tokenOf cI cL cZ) sz) (cells_T_tokenOf cI cL cZ) x) 0 0 (va_A (cells_T_tokenOf cI cL cZ) sz) :=
  kmet (by decide) (Nat.le_of_ble_eq_true rfl) rfl (fun p e s m below meth c C hE => s_T_tokenOf C h)
abbrev cells_T_next (cI : ClassId) (cL : ClassId) (cZ : ClassId) (a_this : Nat) (a_letters : Nat) (c_size : Int32) (c_token : Int32) (c_place : Int32) (c_end : Int32) (c_letters : (Nat → Int32)) : va_W := [(a_this, .inr (3, [.ref a_letters, .int c_size, .int c_token, .int c_place, .int c_end])), (a_letters, .inl (cI, 250, .inl c_letters))]
abbrev rm_T_next : Room := { frames := 1, cells := 0, slots := 0, locals := 21 }
set_option maxRecDepth 100000 in
set_option maxHeartbeats 4000000 in
theorem s_T_next_b8 (C : kC p l e rm_T_next s m args below meth c D (tyG cI cL cZ) A 1 cX3_next yX3_next.cls (Cond.code yX3_next cX3_next 1 none :: WS) none) {a_this : Nat} {a_letters : Nat} {c_size : Int32} {c_token : Int32} {c_place : Int32} {c_end : Int32} {c_letters : (Nat → Int32)} {x : (Int32 ⊕ Int32)} (h : f_T_next_b8 c_size c_letters c_place = some x)
    (kc : ∀ s', x = .inl s' → kW p l e rm_T_next s m args below meth c D A 1 (cells_T_next cI cL cZ a_this a_letters c_size c_token s' c_end c_letters) [(0, .ref a_this)] Q 8 [])
    (k0 : ∀ r, x = .inr r → kW p l e rm_T_next s m args below meth c D A 1 (cells_T_next cI cL cZ a_this a_letters c_size c_token r c_end c_letters) [(0, .ref a_this)] Q 45 []) :
    kW p l e rm_T_next s m args below meth c D A 1 (cells_T_next cI cL cZ a_this a_letters c_size c_token c_place c_end c_letters) [(0, .ref a_this)] Q 8 [] := by
  unfold f_T_next_b8 at h
  refine k_aload_n C dX3_next_8 0 rfl rfl ?_
  refine k_get C (C0 := RX3) (T := TX3) (N := 5) (fun w h => List.mem_cons_of_mem _ (us_T w h)) 0 rfl rfl 3 (by decide) (List.mem_cons_of_mem _ wq_174) rfl rfl dX3_next_9 ?_
  refine k_aload_n C dX3_next_12 0 rfl rfl ?_
  refine k_get C (C0 := RX3) (T := TX3) (N := 5) (fun w h => List.mem_cons_of_mem _ (us_T w h)) 0 rfl rfl 1 (by decide) (List.mem_cons_of_mem _ wq_154) rfl rfl dX3_next_13 ?_
  refine k_icmp_ge C (tgt := 45) dX3_next_16 (by decide) (fun c_16 => ?_) (fun c_16 => ?_)
  · have h := ifT c_16 h
    exact k0 _ (Option.some.inj h).symm
  · have h := ifF c_16 h
    refine k_aload_n C dX3_next_19 0 rfl rfl ?_
    refine k_aload_n C dX3_next_20 0 rfl rfl ?_
    refine k_get C (C0 := RX3) (T := TX3) (N := 5) (fun w h => List.mem_cons_of_mem _ (us_T w h)) 0 rfl rfl 3 (by decide) (List.mem_cons_of_mem _ wq_174) rfl rfl dX3_next_21 ?_
    obtain ⟨x1, hx1, h⟩ := bindE h
    refine kcallR_i C (wc := (cells_T_letterAt cI cL cZ a_this a_letters c_size c_token c_place c_end c_letters)) (r := x1) [0, 1] (fun H locs ls hP hD hS hF hz => krunV C (q0 := 0) (ci := 3) (c_T_letterAt l D cI cL cZ H.size a_this a_letters c_place c_size c_token c_place c_end c_letters x1 hx1) (cwV 1 C.2.2.2.2.1 (gV wq_176 wq_177 wq_178 wq_161 wq_175) rfl rfl rfl (by decide +kernel) ⟨(Nat.le_of_ble_eq_true rfl), (Nat.le_of_ble_eq_true rfl)⟩) rfl rfl kEnv_T rfl rfl (Nat.le_of_ble_eq_true rfl) dX3_next_24 hP hD hz) rfl (by decide) ?_
    refine k_bipush C (v := (32 : Int32)) dX3_next_27 (by decide) ?_
    refine k_icmp_ne C (tgt := 45) dX3_next_29 (by decide) (fun c_29 => ?_) (fun c_29 => ?_)
    · have h := ifF c_29 h
      exact k0 _ (Option.some.inj h).symm
    · have h := ifT c_29 h
      refine k_aload_n C dX3_next_32 0 rfl rfl ?_
      refine k_dup C dX3_next_33 rfl ?_
      refine k_get C (C0 := RX3) (T := TX3) (N := 5) (fun w h => List.mem_cons_of_mem _ (us_T w h)) 0 rfl rfl 3 (by decide) (List.mem_cons_of_mem _ wq_174) rfl rfl dX3_next_34 ?_
      refine k_iconst C (v := (1 : Int32)) dX3_next_37 (by decide) ?_
      refine k_iadd C dX3_next_38 ?_
      refine k_put C (C0 := RX3) (T := TX3) (N := 5) (ws' := (cells_T_next cI cL cZ a_this a_letters c_size c_token (c_place + (1 : Int32)) c_end c_letters)) (fun w h => List.mem_cons_of_mem _ (us_T w h)) tyX3 tyX3_ok nmX3 0 rfl rfl 3 (by decide) (List.mem_cons_of_mem _ wq_174) rfl rfl (tyX3_ok 3 (by decide)) rfl rfl (Nat.le_of_ble_eq_true rfl) rfl dX3_next_39 ?_
      refine k_goto C (tgt := 8) dX3_next_42 (by decide) ?_
      exact kc _ (Option.some.inj h).symm
set_option maxRecDepth 100000 in
set_option maxHeartbeats 4000000 in
theorem s_T_next_l8 (C : kC p l e rm_T_next s m args below meth c D (tyG cI cL cZ) A 1 cX3_next yX3_next.cls (Cond.code yX3_next cX3_next 1 none :: WS) none) {a_this : Nat} {a_letters : Nat} {c_size : Int32} {c_token : Int32} {c_place : Int32} {c_end : Int32} {c_letters : (Nat → Int32)} {x : Int32} (h : f_T_next_l8 c_size c_letters c_place = some x)
    (k0 : kW p l e rm_T_next s m args below meth c D A 1 (cells_T_next cI cL cZ a_this a_letters c_size c_token x c_end c_letters) [(0, .ref a_this)] Q 45 []) :
    kW p l e rm_T_next s m args below meth c D A 1 (cells_T_next cI cL cZ a_this a_letters c_size c_token c_place c_end c_letters) [(0, .ref a_this)] Q 8 [] := by
  unfold f_T_next_l8 at h
  exact iter_W (body := fun s => f_T_next_b8 c_size c_letters s) (r := x) (T := fun sg => kW p l e rm_T_next s m args below meth c D A 1 (cells_T_next cI cL cZ a_this a_letters c_size c_token sg c_end c_letters) [(0, .ref a_this)] Q 8 []) (fun sg y hy hc _ hr => s_T_next_b8 C (c_size := c_size) (c_token := c_token) (c_place := sg) (c_end := c_end) (c_letters := c_letters) (x := y) hy hc (fun r e => by rw [hr r e]; exact k0)) FUEL c_place h
set_option maxRecDepth 100000 in
set_option maxHeartbeats 4000000 in
theorem s_T_next_b104 (C : kC p l e rm_T_next s m args below meth c D (tyG cI cL cZ) A 1 cX3_next yX3_next.cls (Cond.code yX3_next cX3_next 1 none :: WS) none) {a_this : Nat} {a_letters : Nat} {c_size : Int32} {c_token : Int32} {c_place : Int32} {c_end : Int32} {c_letters : (Nat → Int32)} {x : (Int32 ⊕ Int32)} (h : f_T_next_b104 c_size c_token c_letters c_end = some x)
    (kc : ∀ s', x = .inl s' → kW p l e rm_T_next s m args below meth c D A 1 (cells_T_next cI cL cZ a_this a_letters c_size c_token c_place s' c_letters) [(0, .ref a_this)] Q 104 [])
    (k0 : ∀ r, x = .inr r → kW p l e rm_T_next s m args below meth c D A 1 (cells_T_next cI cL cZ a_this a_letters c_size c_token c_place r c_letters) [] Q 146 []) :
    kW p l e rm_T_next s m args below meth c D A 1 (cells_T_next cI cL cZ a_this a_letters c_size c_token c_place c_end c_letters) [(0, .ref a_this)] Q 104 [] := by
  unfold f_T_next_b104 at h
  refine k_aload_n C dX3_next_104 0 rfl rfl ?_
  refine k_get C (C0 := RX3) (T := TX3) (N := 5) (fun w h => List.mem_cons_of_mem _ (us_T w h)) 0 rfl rfl 4 (by decide) (List.mem_cons_of_mem _ wq_173) rfl rfl dX3_next_105 ?_
  refine k_aload_n C dX3_next_108 0 rfl rfl ?_
  refine k_get C (C0 := RX3) (T := TX3) (N := 5) (fun w h => List.mem_cons_of_mem _ (us_T w h)) 0 rfl rfl 1 (by decide) (List.mem_cons_of_mem _ wq_154) rfl rfl dX3_next_109 ?_
  refine k_icmp_ge C (tgt := 146) dX3_next_112 (by decide) (fun c_112 => ?_) (fun c_112 => ?_)
  · have h := ifT c_112 h
    refine k_lv (lv' := []) [] rfl ?_
    exact k0 _ (Option.some.inj h).symm
  · have h := ifF c_112 h
    refine k_aload_n C dX3_next_115 0 rfl rfl ?_
    refine k_aload_n C dX3_next_116 0 rfl rfl ?_
    refine k_get C (C0 := RX3) (T := TX3) (N := 5) (fun w h => List.mem_cons_of_mem _ (us_T w h)) 0 rfl rfl 4 (by decide) (List.mem_cons_of_mem _ wq_173) rfl rfl dX3_next_117 ?_
    obtain ⟨x5, hx5, h⟩ := bindE h
    refine kcallR_i C (wc := (cells_T_letterAt cI cL cZ a_this a_letters c_size c_token c_place c_end c_letters)) (r := x5) [0, 1] (fun H locs ls hP hD hS hF hz => krunV C (q0 := 0) (ci := 3) (c_T_letterAt l D cI cL cZ H.size a_this a_letters c_end c_size c_token c_place c_end c_letters x5 hx5) (cwV 1 C.2.2.2.2.1 (gV wq_176 wq_177 wq_178 wq_161 wq_175) rfl rfl rfl (by decide +kernel) ⟨(Nat.le_of_ble_eq_true rfl), (Nat.le_of_ble_eq_true rfl)⟩) rfl rfl kEnv_T rfl rfl (Nat.le_of_ble_eq_true rfl) dX3_next_120 hP hD hz) rfl (by decide) ?_
    obtain ⟨x6, hx6, h⟩ := bindE h
    refine kcallE_i C (r := x6) (fun H locs ls hP hD hS hF hz => krunS C (c_T_tokenOf l D cI cL cZ H.size x5 x6 hx6) (va_cwS 1 C.2.2.2.2.1 (gS wq_180 wq_181 wq_161 wq_179) rfl rfl rfl (by decide +kernel) ⟨(Nat.le_of_ble_eq_true rfl), (Nat.le_of_ble_eq_true rfl)⟩) kEnv_T rfl rfl (Nat.le_of_ble_eq_true rfl) dX3_next_123 hP hD hz) ?_
    refine k_aload_n C dX3_next_126 0 rfl rfl ?_
    refine k_get C (C0 := RX3) (T := TX3) (N := 5) (fun w h => List.mem_cons_of_mem _ (us_T w h)) 0 rfl rfl 2 (by decide) (List.mem_cons_of_mem _ wq_182) rfl rfl dX3_next_127 ?_
    refine k_icmp_ne C (tgt := 146) dX3_next_130 (by decide) (fun c_130 => ?_) (fun c_130 => ?_)
    · have h := ifF c_130 h
      refine k_lv (lv' := []) [] rfl ?_
      exact k0 _ (Option.some.inj h).symm
    · have h := ifT c_130 h
      refine k_aload_n C dX3_next_133 0 rfl rfl ?_
      refine k_dup C dX3_next_134 rfl ?_
      refine k_get C (C0 := RX3) (T := TX3) (N := 5) (fun w h => List.mem_cons_of_mem _ (us_T w h)) 0 rfl rfl 4 (by decide) (List.mem_cons_of_mem _ wq_173) rfl rfl dX3_next_135 ?_
      refine k_iconst C (v := (1 : Int32)) dX3_next_138 (by decide) ?_
      refine k_iadd C dX3_next_139 ?_
      refine k_put C (C0 := RX3) (T := TX3) (N := 5) (ws' := (cells_T_next cI cL cZ a_this a_letters c_size c_token c_place (c_end + (1 : Int32)) c_letters)) (fun w h => List.mem_cons_of_mem _ (us_T w h)) tyX3 tyX3_ok nmX3 0 rfl rfl 4 (by decide) (List.mem_cons_of_mem _ wq_173) rfl rfl (tyX3_ok 4 (by decide)) rfl rfl (Nat.le_of_ble_eq_true rfl) rfl dX3_next_140 ?_
      refine k_goto C (tgt := 104) dX3_next_143 (by decide) ?_
      exact kc _ (Option.some.inj h).symm
set_option maxRecDepth 100000 in
set_option maxHeartbeats 4000000 in
theorem s_T_next_l104 (C : kC p l e rm_T_next s m args below meth c D (tyG cI cL cZ) A 1 cX3_next yX3_next.cls (Cond.code yX3_next cX3_next 1 none :: WS) none) {a_this : Nat} {a_letters : Nat} {c_size : Int32} {c_token : Int32} {c_place : Int32} {c_end : Int32} {c_letters : (Nat → Int32)} {x : Int32} (h : f_T_next_l104 c_size c_token c_letters c_end = some x)
    (k0 : kW p l e rm_T_next s m args below meth c D A 1 (cells_T_next cI cL cZ a_this a_letters c_size c_token c_place x c_letters) [] Q 146 []) :
    kW p l e rm_T_next s m args below meth c D A 1 (cells_T_next cI cL cZ a_this a_letters c_size c_token c_place c_end c_letters) [(0, .ref a_this)] Q 104 [] := by
  unfold f_T_next_l104 at h
  exact iter_W (body := fun s => f_T_next_b104 c_size c_token c_letters s) (r := x) (T := fun sg => kW p l e rm_T_next s m args below meth c D A 1 (cells_T_next cI cL cZ a_this a_letters c_size c_token c_place sg c_letters) [(0, .ref a_this)] Q 104 []) (fun sg y hy hc _ hr => s_T_next_b104 C (c_size := c_size) (c_token := c_token) (c_place := c_place) (c_end := sg) (c_letters := c_letters) (x := y) hy hc (fun r e => by rw [hr r e]; exact k0)) FUEL c_end h
set_option maxRecDepth 100000 in
set_option maxHeartbeats 4000000 in
theorem s_T_next_j104 (C : kC p l e rm_T_next s m args below meth c D (tyG cI cL cZ) A 1 cX3_next yX3_next.cls (Cond.code yX3_next cX3_next 1 none :: WS) none) {a_this : Nat} {a_letters : Nat} {c_size : Int32} {c_token : Int32} {c_place : Int32} {c_end : Int32} {c_letters : (Nat → Int32)} {x : (Int32 × Int32 × Int32)} (h : f_T_next_j104 c_size c_token c_place c_end c_letters = some x) :
    kW p l e rm_T_next s m args below meth c D A 1 (cells_T_next cI cL cZ a_this a_letters c_size c_token c_place c_end c_letters) [(0, .ref a_this)] (MQ below (kQv D A (cells_T_next cI cL cZ a_this a_letters c_size x.1 x.2.1 x.2.2 c_letters)) args s 0 0 A) 104 [] := by
  unfold f_T_next_j104 at h
  obtain ⟨x7, hx7, h⟩ := bindE h
  refine s_T_next_l104 C hx7 ?_
  obtain rfl := Option.some.inj h
  exact kret_v C rfl dX3_next_146
set_option maxRecDepth 100000 in
set_option maxHeartbeats 4000000 in
theorem s_T_next_j85 (C : kC p l e rm_T_next s m args below meth c D (tyG cI cL cZ) A 1 cX3_next yX3_next.cls (Cond.code yX3_next cX3_next 1 none :: WS) none) {a_this : Nat} {a_letters : Nat} {t1 : Int32} {c_size : Int32} {c_token : Int32} {c_place : Int32} {c_end : Int32} {c_letters : (Nat → Int32)} {x : (Int32 × Int32 × Int32)} (h : f_T_next_j85 t1 c_size c_token c_place c_letters = some x) :
    kW p l e rm_T_next s m args below meth c D A 1 (cells_T_next cI cL cZ a_this a_letters c_size c_token c_place c_end c_letters) [(0, .ref a_this)] (MQ below (kQv D A (cells_T_next cI cL cZ a_this a_letters c_size x.1 x.2.1 x.2.2 c_letters)) args s 0 0 A) 85 [.int t1, .ref a_this] := by
  unfold f_T_next_j85 at h
  refine k_put C (C0 := RX3) (T := TX3) (N := 5) (ws' := (cells_T_next cI cL cZ a_this a_letters c_size c_token c_place t1 c_letters)) (fun w h => List.mem_cons_of_mem _ (us_T w h)) tyX3 tyX3_ok nmX3 0 rfl rfl 4 (by decide) (List.mem_cons_of_mem _ wq_173) rfl rfl (tyX3_ok 4 (by decide)) rfl rfl (Nat.le_of_ble_eq_true rfl) rfl dX3_next_85 ?_
  refine k_aload_n C dX3_next_88 0 rfl rfl ?_
  refine k_get C (C0 := RX3) (T := TX3) (N := 5) (fun w h => List.mem_cons_of_mem _ (us_T w h)) 0 rfl rfl 2 (by decide) (List.mem_cons_of_mem _ wq_182) rfl rfl dX3_next_89 ?_
  refine k_iconst C (v := (1 : Int32)) dX3_next_92 (by decide) ?_
  refine k_icmp_eq C (tgt := 104) dX3_next_93 (by decide) (fun c_93 => ?_) (fun c_93 => ?_)
  · have h := ifT c_93 h
    exact s_T_next_j104 C h
  · have h := ifF c_93 h
    refine k_aload_n C dX3_next_96 0 rfl rfl ?_
    refine k_get C (C0 := RX3) (T := TX3) (N := 5) (fun w h => List.mem_cons_of_mem _ (us_T w h)) 0 rfl rfl 2 (by decide) (List.mem_cons_of_mem _ wq_182) rfl rfl dX3_next_97 ?_
    refine k_iconst C (v := (2 : Int32)) dX3_next_100 (by decide) ?_
    refine k_icmp_ne C (tgt := 146) dX3_next_101 (by decide) (fun c_101 => ?_) (fun c_101 => ?_)
    · have h := ifF c_101 h
      obtain rfl := Option.some.inj h
      exact kret_v C rfl dX3_next_146
    · have h := ifT c_101 h
      exact s_T_next_j104 C h

variable {p : Program} {l : Launch} {e : Env} {s : State} {m : MethodId} {args : Array Value} {below : List Frame} {meth : Method} {c : Code} {D : va_G} {A : Nat → Prop} {cI cL cZ : ClassId} {Q : State → Prop}
set_option maxRecDepth 100000 in
set_option maxHeartbeats 4000000 in
theorem s_M_isFeet (C : kC p l e rm_M_isFeet s m args below meth c D (tyG cI cL cZ) A 2 cX4_isFeet yX4_isFeet.cls (Cond.code yX4_isFeet cX4_isFeet 2 (some .boolean) :: WS) (some .boolean)) {a_this : Nat} {a_now : Nat} {a_kept : Nat} {a_trial : Nat} {a_shelves : Nat} {a_tape : Nat} {a_paths : Nat} {a_sounds : Nat} {a_volumes : Nat} {a_refusals : Nat} {a_now_stones : Nat} {a_now_kinds : Nat} {a_now_weights : Nat} {a_now_chances : Nat} {v1 : Int32} {c_isKept : Int32} {c_now_width : Int32} {c_now_rain : Int32} {c_now_ear : Int32} {c_now_walkers : Int32} {c_now_seed : Int32} {x : Int32} (h : f_M_isFeet v1 c_now_walkers = some x) :
    kW p l e rm_M_isFeet s m args below meth c D A 2 (cells_M_isFeet cI cL cZ a_this a_now a_kept a_trial a_shelves a_tape a_paths a_sounds a_volumes a_refusals a_now_stones a_now_kinds a_now_weights a_now_chances c_isKept c_now_width c_now_rain c_now_ear c_now_walkers c_now_seed) [(0, .ref a_this), (1, .int v1)] (MQ below (kQi D A (cells_M_isFeet cI cL cZ a_this a_now a_kept a_trial a_shelves a_tape a_paths a_sounds a_volumes a_refusals a_now_stones a_now_kinds a_now_weights a_now_chances c_isKept c_now_width c_now_rain c_now_ear c_now_walkers c_now_seed) x) args s 0 0 A) 0 [] := by
  unfold f_M_isFeet at h
  refine k_iload_n C dX4_isFeet_0 1 rfl rfl ?_
  refine k_iconst C (v := (0 : Int32)) dX4_isFeet_1 (by decide) ?_
  refine k_aload_n C dX4_isFeet_2 0 rfl rfl ?_
  refine k_get C (C0 := RX4) (T := TX4) (N := 10) (fun w h => List.mem_cons_of_mem _ (us_M w h)) 0 rfl rfl 0 (by decide) (List.mem_cons_of_mem _ wq_67) rfl rfl dX4_isFeet_3 ?_
  obtain ⟨x1, hx1, h⟩ := bindE h
  refine kcallR_i C (wc := (cells_D_count cI cL cZ a_now a_now_stones a_now_kinds a_now_weights a_now_chances c_now_width c_now_rain c_now_ear c_now_walkers c_now_seed)) (r := x1) [1] (fun H locs ls hP hD hS hF hz => krunV C (q0 := 0) (ci := 0) (c_D_count l D cI cL cZ H.size a_now a_now_stones a_now_kinds a_now_weights a_now_chances c_now_width c_now_rain c_now_ear c_now_walkers c_now_seed x1 hx1) (cwV 0 C.2.2.2.2.1 (gV wq_69 wq_70 wq_71 wq_72 wq_68) rfl rfl rfl (by decide +kernel) ⟨(Nat.le_of_ble_eq_true rfl), (Nat.le_of_ble_eq_true rfl)⟩) rfl rfl kEnv_T rfl rfl (Nat.le_of_ble_eq_true rfl) dX4_isFeet_6 hP hD hz) rfl (by decide) ?_
  refine k_iconst C (v := (1 : Int32)) dX4_isFeet_9 (by decide) ?_
  refine k_isub C dX4_isFeet_10 ?_
  obtain ⟨x2, hx2, h⟩ := bindE h
  refine kcallE_i C (r := x2) (fun H locs ls hP hD hS hF hz => krunS C (c_M_isWithin l D cI cL cZ H.size v1 (0 : Int32) (x1 - (1 : Int32)) x2 hx2) (va_cwS 3 C.2.2.2.2.1 (gS wq_1 wq_2 wq_3 wq_0) rfl rfl rfl (by decide +kernel) ⟨(Nat.le_of_ble_eq_true rfl), (Nat.le_of_ble_eq_true rfl)⟩) kEnv_T rfl rfl (Nat.le_of_ble_eq_true rfl) dX4_isFeet_11 hP hD hz) ?_
  obtain ⟨x3, hx3, h⟩ := bindE h
  obtain ⟨hz, rfl⟩ := zrE hx3
  obtain rfl := Option.some.inj h
  exact kret_z C rfl hz dX4_isFeet_14
theorem c_M_isFeet (l : Launch) (D : va_G) (cI : ClassId) (cL : ClassId) (cZ : ClassId) (sz : Nat) (a_this : Nat) (a_now : Nat) (a_kept : Nat) (a_trial : Nat) (a_shelves : Nat) (a_tape : Nat) (a_paths : Nat) (a_sounds : Nat) (a_volumes : Nat) (a_refusals : Nat) (a_now_stones : Nat) (a_now_kinds : Nat) (a_now_weights : Nat) (a_now_chances : Nat) (v1 : Int32) (c_isKept : Int32) (c_now_width : Int32) (c_now_rain : Int32) (c_now_ear : Int32) (c_now_walkers : Int32) (c_now_seed : Int32) (x : Int32) (h : f_M_isFeet v1 c_now_walkers = some x) :
    Met l yX4_isFeet (Cond.code yX4_isFeet cX4_isFeet 2 (some .boolean) :: WS) rm_M_isFeet (kP D (tyG cI cL cZ) kTrue [.ref a_this, .int v1] sz (cells_M_isFeet cI cL cZ a_this a_now a_kept a_trial a_shelves a_tape a_paths a_sounds a_volumes a_refusals a_now_stones a_now_kinds a_now_weights a_now_chances c_isKept c_now_width c_now_rain c_now_ear c_now_walkers c_now_seed)) (kQi D (va_A (cells_M_isFeet cI cL cZ a_this a_now a_kept a_trial a_shelves a_tape a_paths a_sounds a_volumes a_refusals a_now_stones a_now_kinds a_now_weights a_now_chances c_isKept c_now_width c_now_rain c_now_ear c_now_walkers c_now_seed) sz) (cells_M_isFeet cI cL cZ a_this a_now a_kept a_trial a_shelves a_tape a_paths a_sounds a_volumes a_refusals a_now_stones a_now_kinds a_now_weights a_now_chances c_isKept c_now_width c_now_rain c_now_ear c_now_walkers c_now_seed) x) 0 0 (va_A (cells_M_isFeet cI cL cZ a_this a_now a_kept a_trial a_shelves a_tape a_paths a_sounds a_volumes a_refusals a_now_stones a_now_kinds a_now_weights a_now_chances c_isKept c_now_width c_now_rain c_now_ear c_now_walkers c_now_seed) sz) :=
  kmet (by decide) (Nat.le_of_ble_eq_true rfl) rfl (fun p e s m below meth c C hE => s_M_isFeet C h)
abbrev cells_S_layFeet (cI : ClassId) (cL : ClassId) (cZ : ClassId) (a_this : Nat) (a_marks : Nat) (a_sizes : Nat) (a_elements : Nat) (c_marks : (Nat → Int32)) (c_sizes : (Nat → Int32)) : va_W := [(a_this, .inr (2, [.ref a_marks, .ref a_sizes, .ref a_elements])), (a_marks, .inl (cI, 8, .inl c_marks)), (a_sizes, .inl (cI, 8, .inl c_sizes))]
abbrev rm_S_layFeet : Room := { frames := 1, cells := 0, slots := 0, locals := 20 }
set_option maxRecDepth 100000 in
set_option maxHeartbeats 4000000 in
theorem s_S_layFeet_j25 (C : kC p l e rm_S_layFeet s m args below meth c D (tyG cI cL cZ) A 3 cX2_layFeet yX2_layFeet.cls (Cond.code yX2_layFeet cX2_layFeet 3 none :: WS) none) {X : kX} (hE : kEs X A s) {a_this : Nat} {a_marks : Nat} {a_sizes : Nat} {a_elements : Nat} {v1 : Int32} {t1 : Int32} {t2 : Int32} {c_marks : (Nat → Int32)} {c_sizes : (Nat → Int32)} {x : ((Nat → Int32) × (Nat → Int32))} (h : f_S_layFeet_j25 v1 t1 t2 c_marks c_sizes = some x) :
    kW p l e rm_S_layFeet s m args below meth c D A 3 (cells_S_layFeet cI cL cZ a_this a_marks a_sizes a_elements c_marks c_sizes) [(0, .ref a_this), (1, .int v1)] (MQ below (kQv D A (cells_S_layFeet cI cL cZ a_this a_marks a_sizes a_elements x.1 x.2)) args s 0 0 A) 25 [.int t2, .int t1, .ref a_marks] := by
  unfold f_S_layFeet_j25 at h
  obtain ⟨x2, hx2, h⟩ := bindE h
  refine k_iast C 1 0 (ws' := (cells_S_layFeet cI cL cZ a_this a_marks a_sizes a_elements x2 c_sizes)) rfl rfl hx2 rfl dX2_layFeet_25 ?_
  refine k_aload_n C dX2_layFeet_26 0 rfl rfl ?_
  refine k_get C (C0 := RX2) (T := TX2) (N := 3) (fun w h => List.mem_cons_of_mem _ (us_S w h)) 0 rfl rfl 1 (by decide) (List.mem_cons_of_mem _ wq_8) rfl rfl dX2_layFeet_27 ?_
  refine k_iload_n C dX2_layFeet_30 1 rfl rfl ?_
  refine k_iconst C (v := (0 : Int32)) dX2_layFeet_31 (by decide) ?_
  obtain ⟨x3, hx3, h⟩ := bindE h
  refine k_iast C 2 0 (ws' := (cells_S_layFeet cI cL cZ a_this a_marks a_sizes a_elements x2 x3)) rfl rfl hx3 rfl dX2_layFeet_32 ?_
  obtain rfl := Option.some.inj h
  exact kret_v C rfl dX2_layFeet_33
set_option maxRecDepth 100000 in
set_option maxHeartbeats 4000000 in
theorem s_S_layFeet (C : kC p l e rm_S_layFeet s m args below meth c D (tyG cI cL cZ) A 3 cX2_layFeet yX2_layFeet.cls (Cond.code yX2_layFeet cX2_layFeet 3 none :: WS) none) {X : kX} (hE : kEs X A s) {a_this : Nat} {a_marks : Nat} {a_sizes : Nat} {a_elements : Nat} {v1 : Int32} {v2 : Int32} {c_marks : (Nat → Int32)} {c_sizes : (Nat → Int32)} {x : ((Nat → Int32) × (Nat → Int32))} (h : f_S_layFeet v1 v2 c_marks c_sizes = some x) :
    kW p l e rm_S_layFeet s m args below meth c D A 3 (cells_S_layFeet cI cL cZ a_this a_marks a_sizes a_elements c_marks c_sizes) [(0, .ref a_this), (1, .int v1), (2, .int v2)] (MQ below (kQv D A (cells_S_layFeet cI cL cZ a_this a_marks a_sizes a_elements x.1 x.2)) args s 0 0 A) 0 [] := by
  unfold f_S_layFeet at h
  refine k_iload_n C dX2_layFeet_0 1 rfl rfl ?_
  obtain ⟨x1, hx1, h⟩ := bindE h
  refine kcallE_i C (r := x1) (fun H locs ls hP hD hS hF hz => krunSN C (c_M_isShelf l D cI cL cZ H.size v1 x1 hx1) ⟨va_cnB 1 C.2.2.2.2.1 (gW wq_5) rfl rfl rfl (hE.2.2.2.2.2.2.2 (RX2, 22, yX4_isShelf) (by decide +kernel)) (C.2.2.2.2.1 _ (List.mem_cons_of_mem _ wq_3)) (by decide +kernel) ⟨(Nat.le_of_ble_eq_true rfl), (Nat.le_of_ble_eq_true rfl)⟩, C.2.2.2.2.1 _ (List.mem_cons_of_mem _ wq_6), trivial⟩ kEnv_T rfl rfl (Nat.le_of_ble_eq_true rfl) dX2_layFeet_1 hP hD hz) ?_
  refine k_if_eq C (tgt := 33) dX2_layFeet_4 (by decide) (fun c_4 => ?_) (fun c_4 => ?_)
  · have h := ifT c_4 h
    obtain rfl := Option.some.inj h
    exact kret_v C rfl dX2_layFeet_33
  · have h := ifF c_4 h
    refine k_aload_n C dX2_layFeet_7 0 rfl rfl ?_
    refine k_get C (C0 := RX2) (T := TX2) (N := 3) (fun w h => List.mem_cons_of_mem _ (us_S w h)) 0 rfl rfl 0 (by decide) (List.mem_cons_of_mem _ wq_7) rfl rfl dX2_layFeet_8 ?_
    refine k_iload_n C dX2_layFeet_11 1 rfl rfl ?_
    refine k_iload_n C dX2_layFeet_12 2 rfl rfl ?_
    refine k_iconst C (v := (-1 : Int32)) dX2_layFeet_13 (by decide) ?_
    refine k_icmp_ne C (tgt := 21) dX2_layFeet_14 (by decide) (fun c_14 => ?_) (fun c_14 => ?_)
    · have h := ifF c_14 h
      refine k_bipush C (v := (10 : Int32)) dX2_layFeet_21 (by decide) ?_
      refine k_iload_n C dX2_layFeet_23 2 rfl rfl ?_
      refine k_iadd C dX2_layFeet_24 ?_
      refine k_lv (lv' := [(0, .ref a_this), (1, .int v1)]) [0, 1] rfl ?_
      exact s_S_layFeet_j25 C hE h
    · have h := ifT c_14 h
      refine k_iconst C (v := (-1 : Int32)) dX2_layFeet_17 (by decide) ?_
      refine k_goto C (tgt := 25) dX2_layFeet_18 (by decide) ?_
      refine k_lv (lv' := [(0, .ref a_this), (1, .int v1)]) [0, 1] rfl ?_
      exact s_S_layFeet_j25 C hE h
theorem c_S_layFeet (l : Launch) (D : va_G) (cI : ClassId) (cL : ClassId) (cZ : ClassId) (X : kX) (sz : Nat) (a_this : Nat) (a_marks : Nat) (a_sizes : Nat) (a_elements : Nat) (v1 : Int32) (v2 : Int32) (c_marks : (Nat → Int32)) (c_sizes : (Nat → Int32)) (x : ((Nat → Int32) × (Nat → Int32))) (h : f_S_layFeet v1 v2 c_marks c_sizes = some x) :
    Met l yX2_layFeet (Cond.code yX2_layFeet cX2_layFeet 3 none :: WS) rm_S_layFeet (kP D (tyG cI cL cZ) (kEs X (va_A (cells_S_layFeet cI cL cZ a_this a_marks a_sizes a_elements c_marks c_sizes) sz)) [.ref a_this, .int v1, .int v2] sz (cells_S_layFeet cI cL cZ a_this a_marks a_sizes a_elements c_marks c_sizes)) (kQv D (va_A (cells_S_layFeet cI cL cZ a_this a_marks a_sizes a_elements c_marks c_sizes) sz) (cells_S_layFeet cI cL cZ a_this a_marks a_sizes a_elements x.1 x.2)) 0 0 (va_A (cells_S_layFeet cI cL cZ a_this a_marks a_sizes a_elements c_marks c_sizes) sz) :=
  kmet (by decide) (Nat.le_of_ble_eq_true rfl) rfl (fun p e s m below meth c C hE => s_S_layFeet C hE h)
abbrev cells_M_show (cI : ClassId) (cL : ClassId) (cZ : ClassId) (a_this : Nat) (a_now : Nat) (a_kept : Nat) (a_trial : Nat) (a_shelves : Nat) (a_tape : Nat) (a_paths : Nat) (a_sounds : Nat) (a_volumes : Nat) (a_refusals : Nat) (a_now_stones : Nat) (a_now_kinds : Nat) (a_now_weights : Nat) (a_now_chances : Nat) (a_shelves_marks : Nat) (a_shelves_sizes : Nat) (a_shelves_elements : Nat) (c_isKept : Int32) (c_now_width : Int32) (c_now_rain : Int32) (c_now_ear : Int32) (c_now_walkers : Int32) (c_now_seed : Int32) (c_shelves_marks : (Nat → Int32)) (c_shelves_sizes : (Nat → Int32)) (c_refusals : (Nat → Int32)) : va_W := [(a_this, .inr (4, [.ref a_now, .ref a_kept, .ref a_trial, .ref a_shelves, .ref a_tape, .ref a_paths, .ref a_sounds, .ref a_volumes, .ref a_refusals, .int c_isKept])), (a_now, .inr (0, [.ref a_now_stones, .ref a_now_kinds, .ref a_now_weights, .ref a_now_chances, .int c_now_width, .int c_now_rain, .int c_now_ear, .int c_now_walkers, .int c_now_seed])), (a_shelves, .inr (2, [.ref a_shelves_marks, .ref a_shelves_sizes, .ref a_shelves_elements])), (a_shelves_marks, .inl (cI, 8, .inl c_shelves_marks)), (a_shelves_sizes, .inl (cI, 8, .inl c_shelves_sizes)), (a_refusals, .inl (cI, 5, .inl c_refusals))]
abbrev rm_M_show : Room := { frames := 3, cells := 0, slots := 0, locals := 73 }
set_option maxRecDepth 100000 in
set_option maxHeartbeats 4000000 in
theorem s_M_show_j20 (C : kC p l e rm_M_show s m args below meth c D (tyG cI cL cZ) A 3 cX4_show yX4_show.cls (Cond.code yX4_show cX4_show 3 (some .int) :: WS) (some .int)) {X : kX} (hE : kEs X A s) {a_this : Nat} {a_now : Nat} {a_kept : Nat} {a_trial : Nat} {a_shelves : Nat} {a_tape : Nat} {a_paths : Nat} {a_sounds : Nat} {a_volumes : Nat} {a_refusals : Nat} {a_now_stones : Nat} {a_now_kinds : Nat} {a_now_weights : Nat} {a_now_chances : Nat} {a_shelves_marks : Nat} {a_shelves_sizes : Nat} {a_shelves_elements : Nat} {c_isKept : Int32} {c_now_width : Int32} {c_now_rain : Int32} {c_now_ear : Int32} {c_now_walkers : Int32} {c_now_seed : Int32} {c_shelves_marks : (Nat → Int32)} {c_shelves_sizes : (Nat → Int32)} {c_refusals : (Nat → Int32)} {x : (Int32 × (Nat → Int32) × (Nat → Int32) × (Nat → Int32))} (h : f_M_show_j20 c_shelves_marks c_shelves_sizes c_refusals = some x) :
    kW p l e rm_M_show s m args below meth c D A 3 (cells_M_show cI cL cZ a_this a_now a_kept a_trial a_shelves a_tape a_paths a_sounds a_volumes a_refusals a_now_stones a_now_kinds a_now_weights a_now_chances a_shelves_marks a_shelves_sizes a_shelves_elements c_isKept c_now_width c_now_rain c_now_ear c_now_walkers c_now_seed c_shelves_marks c_shelves_sizes c_refusals) [(0, .ref a_this)] (MQ below (kQi D A (cells_M_show cI cL cZ a_this a_now a_kept a_trial a_shelves a_tape a_paths a_sounds a_volumes a_refusals a_now_stones a_now_kinds a_now_weights a_now_chances a_shelves_marks a_shelves_sizes a_shelves_elements c_isKept c_now_width c_now_rain c_now_ear c_now_walkers c_now_seed x.2.1 x.2.2.1 x.2.2.2) x.1) args s 0 0 A) 20 [] := by
  unfold f_M_show_j20 at h
  refine k_aload_n C dX4_show_20 0 rfl rfl ?_
  refine k_bipush C (v := (-2 : Int32)) dX4_show_21 (by decide) ?_
  obtain ⟨x2, hx2, h⟩ := bindE h
  refine kcallU_i C (wc := (cells_M_refuse cI cL cZ a_this a_now a_kept a_trial a_shelves a_tape a_paths a_sounds a_volumes a_refusals c_isKept c_refusals)) (w1 := (cells_M_refuse cI cL cZ a_this a_now a_kept a_trial a_shelves a_tape a_paths a_sounds a_volumes a_refusals c_isKept x2.2)) (ws' := (cells_M_show cI cL cZ a_this a_now a_kept a_trial a_shelves a_tape a_paths a_sounds a_volumes a_refusals a_now_stones a_now_kinds a_now_weights a_now_chances a_shelves_marks a_shelves_sizes a_shelves_elements c_isKept c_now_width c_now_rain c_now_ear c_now_walkers c_now_seed c_shelves_marks c_shelves_sizes x2.2)) (r := x2.1) [0, 5] (fun H locs ls hP hD hS hF hz => krunV C (q0 := 0) (ci := 4) (c_M_refuse l D cI cL cZ H.size a_this a_now a_kept a_trial a_shelves a_tape a_paths a_sounds a_volumes a_refusals (-2 : Int32) c_isKept c_refusals x2 hx2) (cwV 1 C.2.2.2.2.1 (gV wq_12 wq_13 wq_14 wq_3 wq_11) rfl rfl rfl (by decide +kernel) ⟨(Nat.le_of_ble_eq_true rfl), (Nat.le_of_ble_eq_true rfl)⟩) rfl rfl kEnv_T rfl rfl (Nat.le_of_ble_eq_true rfl) dX4_show_23 hP hD hz) rfl (by decide) rfl rfl ?_
  obtain rfl := Option.some.inj h
  exact kret_i C rfl dX4_show_26
set_option maxRecDepth 100000 in
set_option maxHeartbeats 4000000 in
theorem s_M_show_j27 (C : kC p l e rm_M_show s m args below meth c D (tyG cI cL cZ) A 3 cX4_show yX4_show.cls (Cond.code yX4_show cX4_show 3 (some .int) :: WS) (some .int)) {X : kX} (hE : kEs X A s) {a_this : Nat} {a_now : Nat} {a_kept : Nat} {a_trial : Nat} {a_shelves : Nat} {a_tape : Nat} {a_paths : Nat} {a_sounds : Nat} {a_volumes : Nat} {a_refusals : Nat} {a_now_stones : Nat} {a_now_kinds : Nat} {a_now_weights : Nat} {a_now_chances : Nat} {a_shelves_marks : Nat} {a_shelves_sizes : Nat} {a_shelves_elements : Nat} {v1 : Int32} {v2 : Int32} {c_isKept : Int32} {c_now_width : Int32} {c_now_rain : Int32} {c_now_ear : Int32} {c_now_walkers : Int32} {c_now_seed : Int32} {c_shelves_marks : (Nat → Int32)} {c_shelves_sizes : (Nat → Int32)} {c_refusals : (Nat → Int32)} {x : (Int32 × (Nat → Int32) × (Nat → Int32) × (Nat → Int32))} (h : f_M_show_j27 v1 v2 c_shelves_marks c_shelves_sizes c_refusals = some x) :
    kW p l e rm_M_show s m args below meth c D A 3 (cells_M_show cI cL cZ a_this a_now a_kept a_trial a_shelves a_tape a_paths a_sounds a_volumes a_refusals a_now_stones a_now_kinds a_now_weights a_now_chances a_shelves_marks a_shelves_sizes a_shelves_elements c_isKept c_now_width c_now_rain c_now_ear c_now_walkers c_now_seed c_shelves_marks c_shelves_sizes c_refusals) [(0, .ref a_this), (1, .int v1), (2, .int v2)] (MQ below (kQi D A (cells_M_show cI cL cZ a_this a_now a_kept a_trial a_shelves a_tape a_paths a_sounds a_volumes a_refusals a_now_stones a_now_kinds a_now_weights a_now_chances a_shelves_marks a_shelves_sizes a_shelves_elements c_isKept c_now_width c_now_rain c_now_ear c_now_walkers c_now_seed x.2.1 x.2.2.1 x.2.2.2) x.1) args s 0 0 A) 27 [] := by
  unfold f_M_show_j27 at h
  refine k_aload_n C dX4_show_27 0 rfl rfl ?_
  refine k_get C (C0 := RX4) (T := TX4) (N := 10) (fun w h => List.mem_cons_of_mem _ (us_M w h)) 0 rfl rfl 3 (by decide) (List.mem_cons_of_mem _ wq_15) rfl rfl dX4_show_28 ?_
  refine k_iload_n C dX4_show_31 1 rfl rfl ?_
  refine k_iload_n C dX4_show_32 2 rfl rfl ?_
  obtain ⟨x3, hx3, h⟩ := bindE h
  refine kcallU_v C (wc := (cells_S_layFeet cI cL cZ a_shelves a_shelves_marks a_shelves_sizes a_shelves_elements c_shelves_marks c_shelves_sizes)) (w1 := (cells_S_layFeet cI cL cZ a_shelves a_shelves_marks a_shelves_sizes a_shelves_elements x3.1 x3.2)) (ws' := (cells_M_show cI cL cZ a_this a_now a_kept a_trial a_shelves a_tape a_paths a_sounds a_volumes a_refusals a_now_stones a_now_kinds a_now_weights a_now_chances a_shelves_marks a_shelves_sizes a_shelves_elements c_isKept c_now_width c_now_rain c_now_ear c_now_walkers c_now_seed x3.1 x3.2 c_refusals)) [2, 3, 4] (fun H locs ls hP hD hS hF hz => krunV C (q0 := 0) (ci := 2) (c_S_layFeet l D cI cL cZ X H.size a_shelves a_shelves_marks a_shelves_sizes a_shelves_elements v1 v2 c_shelves_marks c_shelves_sizes x3 hx3) (cwV 2 C.2.2.2.2.1 (gV wq_74 wq_75 wq_76 wq_20 wq_73) rfl rfl rfl (by decide +kernel) ⟨(Nat.le_of_ble_eq_true rfl), (Nat.le_of_ble_eq_true rfl)⟩) rfl rfl (kEs_call hE hS hF) rfl rfl (Nat.le_of_ble_eq_true rfl) dX4_show_33 hP hD hz) rfl (by decide) rfl rfl ?_
  refine k_iconst C (v := (1 : Int32)) dX4_show_36 (by decide) ?_
  obtain rfl := Option.some.inj h
  exact kret_i C rfl dX4_show_37
set_option maxRecDepth 100000 in
set_option maxHeartbeats 4000000 in
theorem s_M_show (C : kC p l e rm_M_show s m args below meth c D (tyG cI cL cZ) A 3 cX4_show yX4_show.cls (Cond.code yX4_show cX4_show 3 (some .int) :: WS) (some .int)) {X : kX} (hE : kEs X A s) {a_this : Nat} {a_now : Nat} {a_kept : Nat} {a_trial : Nat} {a_shelves : Nat} {a_tape : Nat} {a_paths : Nat} {a_sounds : Nat} {a_volumes : Nat} {a_refusals : Nat} {a_now_stones : Nat} {a_now_kinds : Nat} {a_now_weights : Nat} {a_now_chances : Nat} {a_shelves_marks : Nat} {a_shelves_sizes : Nat} {a_shelves_elements : Nat} {v1 : Int32} {v2 : Int32} {c_isKept : Int32} {c_now_width : Int32} {c_now_rain : Int32} {c_now_ear : Int32} {c_now_walkers : Int32} {c_now_seed : Int32} {c_shelves_marks : (Nat → Int32)} {c_shelves_sizes : (Nat → Int32)} {c_refusals : (Nat → Int32)} {x : (Int32 × (Nat → Int32) × (Nat → Int32) × (Nat → Int32))} (h : f_M_show v1 v2 c_now_walkers c_shelves_marks c_shelves_sizes c_refusals = some x) :
    kW p l e rm_M_show s m args below meth c D A 3 (cells_M_show cI cL cZ a_this a_now a_kept a_trial a_shelves a_tape a_paths a_sounds a_volumes a_refusals a_now_stones a_now_kinds a_now_weights a_now_chances a_shelves_marks a_shelves_sizes a_shelves_elements c_isKept c_now_width c_now_rain c_now_ear c_now_walkers c_now_seed c_shelves_marks c_shelves_sizes c_refusals) [(0, .ref a_this), (1, .int v1), (2, .int v2)] (MQ below (kQi D A (cells_M_show cI cL cZ a_this a_now a_kept a_trial a_shelves a_tape a_paths a_sounds a_volumes a_refusals a_now_stones a_now_kinds a_now_weights a_now_chances a_shelves_marks a_shelves_sizes a_shelves_elements c_isKept c_now_width c_now_rain c_now_ear c_now_walkers c_now_seed x.2.1 x.2.2.1 x.2.2.2) x.1) args s 0 0 A) 0 [] := by
  unfold f_M_show at h
  refine k_iload_n C dX4_show_0 1 rfl rfl ?_
  obtain ⟨x1, hx1, h⟩ := bindE h
  refine kcallE_i C (r := x1) (fun H locs ls hP hD hS hF hz => krunS C (c_M_isShelf l D cI cL cZ H.size v1 x1 hx1) (va_cwS 1 C.2.2.2.2.1 (gS wq_10 wq_6 wq_3 wq_5) rfl rfl rfl (by decide +kernel) ⟨(Nat.le_of_ble_eq_true rfl), (Nat.le_of_ble_eq_true rfl)⟩) kEnv_T rfl rfl (Nat.le_of_ble_eq_true rfl) dX4_show_1 hP hD hz) ?_
  refine k_if_eq C (tgt := 20) dX4_show_4 (by decide) (fun c_4 => ?_) (fun c_4 => ?_)
  · have h := ifT c_4 h
    refine k_lv (lv' := [(0, .ref a_this)]) [0] rfl ?_
    exact s_M_show_j20 C hE h
  · have h := ifF c_4 h
    refine k_iload_n C dX4_show_7 2 rfl rfl ?_
    refine k_iconst C (v := (-1 : Int32)) dX4_show_8 (by decide) ?_
    refine k_icmp_eq C (tgt := 27) dX4_show_9 (by decide) (fun c_9 => ?_) (fun c_9 => ?_)
    · have h := ifT c_9 h
      exact s_M_show_j27 C hE h
    · have h := ifF c_9 h
      refine k_aload_n C dX4_show_12 0 rfl rfl ?_
      refine k_iload_n C dX4_show_13 2 rfl rfl ?_
      obtain ⟨x4, hx4, h⟩ := bindE h
      refine kcallR_i C (wc := (cells_M_isFeet cI cL cZ a_this a_now a_kept a_trial a_shelves a_tape a_paths a_sounds a_volumes a_refusals a_now_stones a_now_kinds a_now_weights a_now_chances c_isKept c_now_width c_now_rain c_now_ear c_now_walkers c_now_seed)) (r := x4) [0, 1] (fun H locs ls hP hD hS hF hz => krunV C (q0 := 0) (ci := 4) (c_M_isFeet l D cI cL cZ H.size a_this a_now a_kept a_trial a_shelves a_tape a_paths a_sounds a_volumes a_refusals a_now_stones a_now_kinds a_now_weights a_now_chances v2 c_isKept c_now_width c_now_rain c_now_ear c_now_walkers c_now_seed x4 hx4) (cwV 1 C.2.2.2.2.1 (gV wq_78 wq_79 wq_80 wq_3 wq_77) rfl rfl rfl (by decide +kernel) ⟨(Nat.le_of_ble_eq_true rfl), (Nat.le_of_ble_eq_true rfl)⟩) rfl rfl kEnv_T rfl rfl (Nat.le_of_ble_eq_true rfl) dX4_show_14 hP hD hz) rfl (by decide) ?_
      refine k_if_ne C (tgt := 27) dX4_show_17 (by decide) (fun c_17 => ?_) (fun c_17 => ?_)
      · have h := ifF c_17 h
        exact s_M_show_j27 C hE h
      · have h := ifT c_17 h
        refine k_lv (lv' := [(0, .ref a_this)]) [0] rfl ?_
        exact s_M_show_j20 C hE h
theorem c_M_show (l : Launch) (D : va_G) (cI : ClassId) (cL : ClassId) (cZ : ClassId) (X : kX) (sz : Nat) (a_this : Nat) (a_now : Nat) (a_kept : Nat) (a_trial : Nat) (a_shelves : Nat) (a_tape : Nat) (a_paths : Nat) (a_sounds : Nat) (a_volumes : Nat) (a_refusals : Nat) (a_now_stones : Nat) (a_now_kinds : Nat) (a_now_weights : Nat) (a_now_chances : Nat) (a_shelves_marks : Nat) (a_shelves_sizes : Nat) (a_shelves_elements : Nat) (v1 : Int32) (v2 : Int32) (c_isKept : Int32) (c_now_width : Int32) (c_now_rain : Int32) (c_now_ear : Int32) (c_now_walkers : Int32) (c_now_seed : Int32) (c_shelves_marks : (Nat → Int32)) (c_shelves_sizes : (Nat → Int32)) (c_refusals : (Nat → Int32)) (x : (Int32 × (Nat → Int32) × (Nat → Int32) × (Nat → Int32))) (h : f_M_show v1 v2 c_now_walkers c_shelves_marks c_shelves_sizes c_refusals = some x) :
    Met l yX4_show (Cond.code yX4_show cX4_show 3 (some .int) :: WS) rm_M_show (kP D (tyG cI cL cZ) (kEs X (va_A (cells_M_show cI cL cZ a_this a_now a_kept a_trial a_shelves a_tape a_paths a_sounds a_volumes a_refusals a_now_stones a_now_kinds a_now_weights a_now_chances a_shelves_marks a_shelves_sizes a_shelves_elements c_isKept c_now_width c_now_rain c_now_ear c_now_walkers c_now_seed c_shelves_marks c_shelves_sizes c_refusals) sz)) [.ref a_this, .int v1, .int v2] sz (cells_M_show cI cL cZ a_this a_now a_kept a_trial a_shelves a_tape a_paths a_sounds a_volumes a_refusals a_now_stones a_now_kinds a_now_weights a_now_chances a_shelves_marks a_shelves_sizes a_shelves_elements c_isKept c_now_width c_now_rain c_now_ear c_now_walkers c_now_seed c_shelves_marks c_shelves_sizes c_refusals)) (kQi D (va_A (cells_M_show cI cL cZ a_this a_now a_kept a_trial a_shelves a_tape a_paths a_sounds a_volumes a_refusals a_now_stones a_now_kinds a_now_weights a_now_chances a_shelves_marks a_shelves_sizes a_shelves_elements c_isKept c_now_width c_now_rain c_now_ear c_now_walkers c_now_seed c_shelves_marks c_shelves_sizes c_refusals) sz) (cells_M_show cI cL cZ a_this a_now a_kept a_trial a_shelves a_tape a_paths a_sounds a_volumes a_refusals a_now_stones a_now_kinds a_now_weights a_now_chances a_shelves_marks a_shelves_sizes a_shelves_elements c_isKept c_now_width c_now_rain c_now_ear c_now_walkers c_now_seed x.2.1 x.2.2.1 x.2.2.2) x.1) 0 0 (va_A (cells_M_show cI cL cZ a_this a_now a_kept a_trial a_shelves a_tape a_paths a_sounds a_volumes a_refusals a_now_stones a_now_kinds a_now_weights a_now_chances a_shelves_marks a_shelves_sizes a_shelves_elements c_isKept c_now_width c_now_rain c_now_ear c_now_walkers c_now_seed c_shelves_marks c_shelves_sizes c_refusals) sz) :=
  kmet (by decide) (Nat.le_of_ble_eq_true rfl) rfl (fun p e s m below meth c C hE => s_M_show C hE h)
abbrev cells_D_kindOf (cI : ClassId) (cL : ClassId) (cZ : ClassId) (a_this : Nat) (a_stones : Nat) (a_kinds : Nat) (a_weights : Nat) (a_chances : Nat) (c_width : Int32) (c_rain : Int32) (c_ear : Int32) (c_walkers : Int32) (c_seed : Int32) (c_kinds : (Nat → Int32)) : va_W := [(a_this, .inr (0, [.ref a_stones, .ref a_kinds, .ref a_weights, .ref a_chances, .int c_width, .int c_rain, .int c_ear, .int c_walkers, .int c_seed])), (a_kinds, .inl (cI, 8, .inl c_kinds))]
abbrev rm_D_kindOf : Room := { frames := 1, cells := 0, slots := 0, locals := 22 }
set_option maxRecDepth 100000 in
set_option maxHeartbeats 4000000 in
theorem s_D_kindOf (C : kC p l e rm_D_kindOf s m args below meth c D (tyG cI cL cZ) A 2 cX0_kindOf yX0_kindOf.cls (Cond.code yX0_kindOf cX0_kindOf 2 (some .int) :: WS) (some .int)) {X : kX} (hE : kEs X A s) {a_this : Nat} {a_stones : Nat} {a_kinds : Nat} {a_weights : Nat} {a_chances : Nat} {v1 : Int32} {c_width : Int32} {c_rain : Int32} {c_ear : Int32} {c_walkers : Int32} {c_seed : Int32} {c_kinds : (Nat → Int32)} {x : Int32} (h : f_D_kindOf v1 c_kinds = some x) :
    kW p l e rm_D_kindOf s m args below meth c D A 2 (cells_D_kindOf cI cL cZ a_this a_stones a_kinds a_weights a_chances c_width c_rain c_ear c_walkers c_seed c_kinds) [(0, .ref a_this), (1, .int v1)] (MQ below (kQi D A (cells_D_kindOf cI cL cZ a_this a_stones a_kinds a_weights a_chances c_width c_rain c_ear c_walkers c_seed c_kinds) x) args s 0 0 A) 0 [] := by
  unfold f_D_kindOf at h
  refine k_iload_n C dX0_kindOf_0 1 rfl rfl ?_
  refine k_iconst C (v := (0 : Int32)) dX0_kindOf_1 (by decide) ?_
  refine k_bipush C (v := (7 : Int32)) dX0_kindOf_2 (by decide) ?_
  obtain ⟨x1, hx1, h⟩ := bindE h
  refine kcallE_i C (r := x1) (fun H locs ls hP hD hS hF hz => krunSN C (c_M_isWithin l D cI cL cZ H.size v1 (0 : Int32) (7 : Int32) x1 hx1) ⟨va_cnB 3 C.2.2.2.2.1 (gW wq_0) rfl rfl rfl (hE.2.2.2.2.2.2.2 (RX0, 56, yX4_isWithin) (by decide +kernel)) (C.2.2.2.2.1 _ (List.mem_cons_of_mem _ wq_3)) (by decide +kernel) ⟨(Nat.le_of_ble_eq_true rfl), (Nat.le_of_ble_eq_true rfl)⟩, C.2.2.2.2.1 _ (List.mem_cons_of_mem _ wq_2), trivial⟩ kEnv_T rfl rfl (Nat.le_of_ble_eq_true rfl) dX0_kindOf_4 hP hD hz) ?_
  refine k_if_eq C (tgt := 19) dX0_kindOf_7 (by decide) (fun c_7 => ?_) (fun c_7 => ?_)
  · have h := ifT c_7 h
    refine k_iconst C (v := (-1 : Int32)) dX0_kindOf_19 (by decide) ?_
    obtain rfl := Option.some.inj h
    exact kret_i C rfl dX0_kindOf_20
  · have h := ifF c_7 h
    refine k_aload_n C dX0_kindOf_10 0 rfl rfl ?_
    refine k_get C (C0 := RX0) (T := TX0) (N := 9) (fun w h => List.mem_cons_of_mem _ (us_D w h)) 0 rfl rfl 1 (by decide) (List.mem_cons_of_mem _ wq_81) rfl rfl dX0_kindOf_11 ?_
    refine k_iload_n C dX0_kindOf_14 1 rfl rfl ?_
    obtain ⟨x2, hx2, h⟩ := bindE h
    refine k_iald C 1 0 rfl rfl hx2 dX0_kindOf_15 ?_
    refine k_goto C (tgt := 20) dX0_kindOf_16 (by decide) ?_
    obtain rfl := Option.some.inj h
    exact kret_i C rfl dX0_kindOf_20
theorem c_D_kindOf (l : Launch) (D : va_G) (cI : ClassId) (cL : ClassId) (cZ : ClassId) (X : kX) (sz : Nat) (a_this : Nat) (a_stones : Nat) (a_kinds : Nat) (a_weights : Nat) (a_chances : Nat) (v1 : Int32) (c_width : Int32) (c_rain : Int32) (c_ear : Int32) (c_walkers : Int32) (c_seed : Int32) (c_kinds : (Nat → Int32)) (x : Int32) (h : f_D_kindOf v1 c_kinds = some x) :
    Met l yX0_kindOf (Cond.code yX0_kindOf cX0_kindOf 2 (some .int) :: WS) rm_D_kindOf (kP D (tyG cI cL cZ) (kEs X (va_A (cells_D_kindOf cI cL cZ a_this a_stones a_kinds a_weights a_chances c_width c_rain c_ear c_walkers c_seed c_kinds) sz)) [.ref a_this, .int v1] sz (cells_D_kindOf cI cL cZ a_this a_stones a_kinds a_weights a_chances c_width c_rain c_ear c_walkers c_seed c_kinds)) (kQi D (va_A (cells_D_kindOf cI cL cZ a_this a_stones a_kinds a_weights a_chances c_width c_rain c_ear c_walkers c_seed c_kinds) sz) (cells_D_kindOf cI cL cZ a_this a_stones a_kinds a_weights a_chances c_width c_rain c_ear c_walkers c_seed c_kinds) x) 0 0 (va_A (cells_D_kindOf cI cL cZ a_this a_stones a_kinds a_weights a_chances c_width c_rain c_ear c_walkers c_seed c_kinds) sz) :=
  kmet (by decide) (Nat.le_of_ble_eq_true rfl) rfl (fun p e s m below meth c C hE => s_D_kindOf C hE h)
abbrev cells_M_isOfKind (cI : ClassId) (cL : ClassId) (cZ : ClassId) : va_W := []
abbrev rm_M_isOfKind : Room := { frames := 1, cells := 0, slots := 0, locals := 22 }
set_option maxRecDepth 100000 in
set_option maxHeartbeats 4000000 in
theorem s_M_isOfKind_b4 (C : kC p l e rm_M_isOfKind s m args below meth c D (tyG cI cL cZ) A 4 cX4_isOfKind yX4_isOfKind.cls (Cond.code yX4_isOfKind cX4_isOfKind 4 (some .boolean) :: WS) (some .boolean)) {X : kX} (hE : kEs X A s) {v1 : Int32} {v2 : Int32} {v3 : Int32} {x : ((Int32 × Int32) ⊕ (Unit ⊕ Unit))} (h : f_M_isOfKind_b4 v1 v2 v3 = some x)
    (kc : ∀ s', x = .inl s' → kW p l e rm_M_isOfKind s m args below meth c D A 4 (cells_M_isOfKind cI cL cZ) [(1, .int v1), (2, .int s'.1), (3, .int s'.2)] Q 4 [])
    (k0 : ∀ r, x = .inr (.inl r) → kW p l e rm_M_isOfKind s m args below meth c D A 4 (cells_M_isOfKind cI cL cZ) [] Q 24 [])
    (k1 : ∀ r, x = .inr (.inr r) → kW p l e rm_M_isOfKind s m args below meth c D A 4 (cells_M_isOfKind cI cL cZ) [] Q 38 []) :
    kW p l e rm_M_isOfKind s m args below meth c D A 4 (cells_M_isOfKind cI cL cZ) [(1, .int v1), (2, .int v2), (3, .int v3)] Q 4 [] := by
  unfold f_M_isOfKind_b4 at h
  refine k_iload_n C dX4_isOfKind_4 2 rfl rfl ?_
  refine k_bipush C (v := (6 : Int32)) dX4_isOfKind_5 (by decide) ?_
  refine k_icmp_ge C (tgt := 38) dX4_isOfKind_7 (by decide) (fun c_7 => ?_) (fun c_7 => ?_)
  · have h := ifT c_7 h
    refine k_lv (lv' := []) [] rfl ?_
    exact k1 _ (Option.some.inj h).symm
  · have h := ifF c_7 h
    refine k_iload_n C dX4_isOfKind_10 1 rfl rfl ?_
    refine k_iconst C (v := (0 : Int32)) dX4_isOfKind_11 (by decide) ?_
    refine k_iconst C (v := (5 : Int32)) dX4_isOfKind_12 (by decide) ?_
    obtain ⟨x1, hx1, h⟩ := bindE h
    refine kcallE_i C (r := x1) (fun H locs ls hP hD hS hF hz => krunS C (c_M_isWithin l D cI cL cZ H.size v2 (0 : Int32) (5 : Int32) x1 hx1) (va_cwS 3 C.2.2.2.2.1 (gS wq_1 wq_2 wq_3 wq_0) rfl rfl rfl (by decide +kernel) ⟨(Nat.le_of_ble_eq_true rfl), (Nat.le_of_ble_eq_true rfl)⟩) kEnv_T rfl rfl (Nat.le_of_ble_eq_true rfl) dX4_isOfKind_13 hP hD hz) ?_
    refine k_if_eq C (tgt := 38) dX4_isOfKind_16 (by decide) (fun c_16 => ?_) (fun c_16 => ?_)
    · have h := ifT c_16 h
      refine k_lv (lv' := []) [] rfl ?_
      exact k1 _ (Option.some.inj h).symm
    · have h := ifF c_16 h
      refine k_iload_n C dX4_isOfKind_19 1 rfl rfl ?_
      refine k_iload_n C dX4_isOfKind_20 0 rfl rfl ?_
      refine k_icmp_ne C (tgt := 26) dX4_isOfKind_21 (by decide) (fun c_21 => ?_) (fun c_21 => ?_)
      · have h := ifF c_21 h
        refine k_getsT C hE (List.mem_cons_of_mem _ wq_82) dX4_isOfKind_26 ?_
        refine k_iload_n C dX4_isOfKind_29 1 rfl rfl ?_
        obtain ⟨x2, hx2, h⟩ := bindE h
        refine k_tald C hE hx2 dX4_isOfKind_30 ?_
        refine k_istore_n C (lv' := [(2, .int x2), (1, .int v1), (3, .int v3)]) dX4_isOfKind_31 rfl (by decide) rfl ?_
        refine k_iinc C (v := (v3 + (1 : Int32))) (lv' := [(3, .int (v3 + (1 : Int32))), (2, .int x2), (1, .int v1)]) dX4_isOfKind_32 2 rfl rfl (by decide) rfl ?_
        refine k_goto C (tgt := 4) dX4_isOfKind_35 (by decide) ?_
        refine k_lv (lv' := [(1, .int v1), (2, .int x2), (3, .int (v3 + (1 : Int32)))]) [2, 1, 0] rfl ?_
        exact kc _ (Option.some.inj h).symm
      · have h := ifT c_21 h
        refine k_lv (lv' := []) [] rfl ?_
        exact k0 _ (Option.some.inj h).symm
set_option maxRecDepth 100000 in
set_option maxHeartbeats 4000000 in
theorem s_M_isOfKind_l4 (C : kC p l e rm_M_isOfKind s m args below meth c D (tyG cI cL cZ) A 4 cX4_isOfKind yX4_isOfKind.cls (Cond.code yX4_isOfKind cX4_isOfKind 4 (some .boolean) :: WS) (some .boolean)) {X : kX} (hE : kEs X A s) {v1 : Int32} {v2 : Int32} {v3 : Int32} {x : (Unit ⊕ Unit)} (h : f_M_isOfKind_l4 v1 v2 v3 = some x)
    (k0 : ∀ r, x = (.inl r) → kW p l e rm_M_isOfKind s m args below meth c D A 4 (cells_M_isOfKind cI cL cZ) [] Q 24 [])
    (k1 : ∀ r, x = (.inr r) → kW p l e rm_M_isOfKind s m args below meth c D A 4 (cells_M_isOfKind cI cL cZ) [] Q 38 []) :
    kW p l e rm_M_isOfKind s m args below meth c D A 4 (cells_M_isOfKind cI cL cZ) [(1, .int v1), (2, .int v2), (3, .int v3)] Q 4 [] := by
  unfold f_M_isOfKind_l4 at h
  exact iter_W (body := fun s => f_M_isOfKind_b4 v1 s.1 s.2) (r := x) (T := fun sg => kW p l e rm_M_isOfKind s m args below meth c D A 4 (cells_M_isOfKind cI cL cZ) [(1, .int v1), (2, .int sg.1), (3, .int sg.2)] Q 4 []) (fun sg y hy hc _ hr => s_M_isOfKind_b4 C hE (v1 := v1) (v2 := sg.1) (v3 := sg.2) (x := y) hy hc (fun r e => k0 r (hr _ e).symm) (fun r e => k1 r (hr _ e).symm)) FUEL (v2, v3) h
set_option maxRecDepth 100000 in
set_option maxHeartbeats 4000000 in
theorem s_M_isOfKind (C : kC p l e rm_M_isOfKind s m args below meth c D (tyG cI cL cZ) A 4 cX4_isOfKind yX4_isOfKind.cls (Cond.code yX4_isOfKind cX4_isOfKind 4 (some .boolean) :: WS) (some .boolean)) {X : kX} (hE : kEs X A s) {v0 : Int32} {v1 : Int32} {x : Int32} (h : f_M_isOfKind v0 v1 = some x) :
    kW p l e rm_M_isOfKind s m args below meth c D A 4 (cells_M_isOfKind cI cL cZ) [(0, .int v0), (1, .int v1)] (MQ below (kQi D A (cells_M_isOfKind cI cL cZ) x) args s 0 0 A) 0 [] := by
  unfold f_M_isOfKind at h
  refine k_iload_n C dX4_isOfKind_0 0 rfl rfl ?_
  refine k_istore_n C (lv' := [(2, .int v0), (0, .int v0), (1, .int v1)]) dX4_isOfKind_1 rfl (by decide) rfl ?_
  refine k_iconst C (v := (0 : Int32)) dX4_isOfKind_2 (by decide) ?_
  refine k_istore_n C (lv' := [(3, .int (0 : Int32)), (2, .int v0), (0, .int v0), (1, .int v1)]) dX4_isOfKind_3 rfl (by decide) rfl ?_
  obtain ⟨x3, hx3, h⟩ := bindE h
  refine k_lv (lv' := [(1, .int v1), (2, .int v0), (3, .int (0 : Int32))]) [3, 1, 0] rfl ?_
  refine s_M_isOfKind_l4 C hE hx3 ?_ ?_
  · intro x4 ex4
    subst ex4
    have h := sumL h
    refine k_iconst C (v := (1 : Int32)) dX4_isOfKind_24 (by decide) ?_
    obtain rfl := Option.some.inj h
    exact kret_z C rfl nz1 dX4_isOfKind_25
  · intro x5 ex5
    subst ex5
    have h := sumR h
    refine k_iconst C (v := (0 : Int32)) dX4_isOfKind_38 (by decide) ?_
    obtain rfl := Option.some.inj h
    exact kret_z C rfl nz0 dX4_isOfKind_39
theorem c_M_isOfKind (l : Launch) (D : va_G) (cI : ClassId) (cL : ClassId) (cZ : ClassId) (X : kX) (sz : Nat) (v0 : Int32) (v1 : Int32) (x : Int32) (h : f_M_isOfKind v0 v1 = some x) :
    Met l yX4_isOfKind (Cond.code yX4_isOfKind cX4_isOfKind 4 (some .boolean) :: WS) rm_M_isOfKind (kP D (tyG cI cL cZ) (kEs X (va_A (cells_M_isOfKind cI cL cZ) sz)) [.int v0, .int v1] sz (cells_M_isOfKind cI cL cZ)) (kQi D (va_A (cells_M_isOfKind cI cL cZ) sz) (cells_M_isOfKind cI cL cZ) x) 0 0 (va_A (cells_M_isOfKind cI cL cZ) sz) :=
  kmet (by decide) (Nat.le_of_ble_eq_true rfl) rfl (fun p e s m below meth c C hE => s_M_isOfKind C hE h)
abbrev cells_D_chanceOf (cI : ClassId) (cL : ClassId) (cZ : ClassId) (a_this : Nat) (a_stones : Nat) (a_kinds : Nat) (a_weights : Nat) (a_chances : Nat) (c_width : Int32) (c_rain : Int32) (c_ear : Int32) (c_walkers : Int32) (c_seed : Int32) (c_chances : (Nat → Int32)) : va_W := [(a_this, .inr (0, [.ref a_stones, .ref a_kinds, .ref a_weights, .ref a_chances, .int c_width, .int c_rain, .int c_ear, .int c_walkers, .int c_seed])), (a_chances, .inl (cI, 8, .inl c_chances))]
abbrev rm_D_chanceOf : Room := { frames := 1, cells := 0, slots := 0, locals := 22 }
set_option maxRecDepth 100000 in
set_option maxHeartbeats 4000000 in
theorem s_D_chanceOf (C : kC p l e rm_D_chanceOf s m args below meth c D (tyG cI cL cZ) A 2 cX0_chanceOf yX0_chanceOf.cls (Cond.code yX0_chanceOf cX0_chanceOf 2 (some .int) :: WS) (some .int)) {X : kX} (hE : kEs X A s) {a_this : Nat} {a_stones : Nat} {a_kinds : Nat} {a_weights : Nat} {a_chances : Nat} {v1 : Int32} {c_width : Int32} {c_rain : Int32} {c_ear : Int32} {c_walkers : Int32} {c_seed : Int32} {c_chances : (Nat → Int32)} {x : Int32} (h : f_D_chanceOf v1 c_chances = some x) :
    kW p l e rm_D_chanceOf s m args below meth c D A 2 (cells_D_chanceOf cI cL cZ a_this a_stones a_kinds a_weights a_chances c_width c_rain c_ear c_walkers c_seed c_chances) [(0, .ref a_this), (1, .int v1)] (MQ below (kQi D A (cells_D_chanceOf cI cL cZ a_this a_stones a_kinds a_weights a_chances c_width c_rain c_ear c_walkers c_seed c_chances) x) args s 0 0 A) 0 [] := by
  unfold f_D_chanceOf at h
  refine k_iload_n C dX0_chanceOf_0 1 rfl rfl ?_
  refine k_iconst C (v := (0 : Int32)) dX0_chanceOf_1 (by decide) ?_
  refine k_bipush C (v := (7 : Int32)) dX0_chanceOf_2 (by decide) ?_
  obtain ⟨x1, hx1, h⟩ := bindE h
  refine kcallE_i C (r := x1) (fun H locs ls hP hD hS hF hz => krunSN C (c_M_isWithin l D cI cL cZ H.size v1 (0 : Int32) (7 : Int32) x1 hx1) ⟨va_cnB 3 C.2.2.2.2.1 (gW wq_0) rfl rfl rfl (hE.2.2.2.2.2.2.2 (RX0, 56, yX4_isWithin) (by decide +kernel)) (C.2.2.2.2.1 _ (List.mem_cons_of_mem _ wq_3)) (by decide +kernel) ⟨(Nat.le_of_ble_eq_true rfl), (Nat.le_of_ble_eq_true rfl)⟩, C.2.2.2.2.1 _ (List.mem_cons_of_mem _ wq_2), trivial⟩ kEnv_T rfl rfl (Nat.le_of_ble_eq_true rfl) dX0_chanceOf_4 hP hD hz) ?_
  refine k_if_eq C (tgt := 19) dX0_chanceOf_7 (by decide) (fun c_7 => ?_) (fun c_7 => ?_)
  · have h := ifT c_7 h
    refine k_iconst C (v := (0 : Int32)) dX0_chanceOf_19 (by decide) ?_
    obtain rfl := Option.some.inj h
    exact kret_i C rfl dX0_chanceOf_20
  · have h := ifF c_7 h
    refine k_aload_n C dX0_chanceOf_10 0 rfl rfl ?_
    refine k_get C (C0 := RX0) (T := TX0) (N := 9) (fun w h => List.mem_cons_of_mem _ (us_D w h)) 0 rfl rfl 3 (by decide) (List.mem_cons_of_mem _ wq_83) rfl rfl dX0_chanceOf_11 ?_
    refine k_iload_n C dX0_chanceOf_14 1 rfl rfl ?_
    obtain ⟨x2, hx2, h⟩ := bindE h
    refine k_iald C 1 0 rfl rfl hx2 dX0_chanceOf_15 ?_
    refine k_goto C (tgt := 20) dX0_chanceOf_16 (by decide) ?_
    obtain rfl := Option.some.inj h
    exact kret_i C rfl dX0_chanceOf_20
theorem c_D_chanceOf (l : Launch) (D : va_G) (cI : ClassId) (cL : ClassId) (cZ : ClassId) (X : kX) (sz : Nat) (a_this : Nat) (a_stones : Nat) (a_kinds : Nat) (a_weights : Nat) (a_chances : Nat) (v1 : Int32) (c_width : Int32) (c_rain : Int32) (c_ear : Int32) (c_walkers : Int32) (c_seed : Int32) (c_chances : (Nat → Int32)) (x : Int32) (h : f_D_chanceOf v1 c_chances = some x) :
    Met l yX0_chanceOf (Cond.code yX0_chanceOf cX0_chanceOf 2 (some .int) :: WS) rm_D_chanceOf (kP D (tyG cI cL cZ) (kEs X (va_A (cells_D_chanceOf cI cL cZ a_this a_stones a_kinds a_weights a_chances c_width c_rain c_ear c_walkers c_seed c_chances) sz)) [.ref a_this, .int v1] sz (cells_D_chanceOf cI cL cZ a_this a_stones a_kinds a_weights a_chances c_width c_rain c_ear c_walkers c_seed c_chances)) (kQi D (va_A (cells_D_chanceOf cI cL cZ a_this a_stones a_kinds a_weights a_chances c_width c_rain c_ear c_walkers c_seed c_chances) sz) (cells_D_chanceOf cI cL cZ a_this a_stones a_kinds a_weights a_chances c_width c_rain c_ear c_walkers c_seed c_chances) x) 0 0 (va_A (cells_D_chanceOf cI cL cZ a_this a_stones a_kinds a_weights a_chances c_width c_rain c_ear c_walkers c_seed c_chances) sz) :=
  kmet (by decide) (Nat.le_of_ble_eq_true rfl) rfl (fun p e s m below meth c C hE => s_D_chanceOf C hE h)
abbrev cells_D_weightOf (cI : ClassId) (cL : ClassId) (cZ : ClassId) (a_this : Nat) (a_stones : Nat) (a_kinds : Nat) (a_weights : Nat) (a_chances : Nat) (c_width : Int32) (c_rain : Int32) (c_ear : Int32) (c_walkers : Int32) (c_seed : Int32) (c_weights : (Nat → Int32)) : va_W := [(a_this, .inr (0, [.ref a_stones, .ref a_kinds, .ref a_weights, .ref a_chances, .int c_width, .int c_rain, .int c_ear, .int c_walkers, .int c_seed])), (a_weights, .inl (cI, 8, .inl c_weights))]
abbrev rm_D_weightOf : Room := { frames := 1, cells := 0, slots := 0, locals := 22 }
set_option maxRecDepth 100000 in
set_option maxHeartbeats 4000000 in
theorem s_D_weightOf (C : kC p l e rm_D_weightOf s m args below meth c D (tyG cI cL cZ) A 2 cX0_weightOf yX0_weightOf.cls (Cond.code yX0_weightOf cX0_weightOf 2 (some .int) :: WS) (some .int)) {X : kX} (hE : kEs X A s) {a_this : Nat} {a_stones : Nat} {a_kinds : Nat} {a_weights : Nat} {a_chances : Nat} {v1 : Int32} {c_width : Int32} {c_rain : Int32} {c_ear : Int32} {c_walkers : Int32} {c_seed : Int32} {c_weights : (Nat → Int32)} {x : Int32} (h : f_D_weightOf v1 c_weights = some x) :
    kW p l e rm_D_weightOf s m args below meth c D A 2 (cells_D_weightOf cI cL cZ a_this a_stones a_kinds a_weights a_chances c_width c_rain c_ear c_walkers c_seed c_weights) [(0, .ref a_this), (1, .int v1)] (MQ below (kQi D A (cells_D_weightOf cI cL cZ a_this a_stones a_kinds a_weights a_chances c_width c_rain c_ear c_walkers c_seed c_weights) x) args s 0 0 A) 0 [] := by
  unfold f_D_weightOf at h
  refine k_iload_n C dX0_weightOf_0 1 rfl rfl ?_
  refine k_iconst C (v := (0 : Int32)) dX0_weightOf_1 (by decide) ?_
  refine k_bipush C (v := (7 : Int32)) dX0_weightOf_2 (by decide) ?_
  obtain ⟨x1, hx1, h⟩ := bindE h
  refine kcallE_i C (r := x1) (fun H locs ls hP hD hS hF hz => krunSN C (c_M_isWithin l D cI cL cZ H.size v1 (0 : Int32) (7 : Int32) x1 hx1) ⟨va_cnB 3 C.2.2.2.2.1 (gW wq_0) rfl rfl rfl (hE.2.2.2.2.2.2.2 (RX0, 56, yX4_isWithin) (by decide +kernel)) (C.2.2.2.2.1 _ (List.mem_cons_of_mem _ wq_3)) (by decide +kernel) ⟨(Nat.le_of_ble_eq_true rfl), (Nat.le_of_ble_eq_true rfl)⟩, C.2.2.2.2.1 _ (List.mem_cons_of_mem _ wq_2), trivial⟩ kEnv_T rfl rfl (Nat.le_of_ble_eq_true rfl) dX0_weightOf_4 hP hD hz) ?_
  refine k_if_eq C (tgt := 19) dX0_weightOf_7 (by decide) (fun c_7 => ?_) (fun c_7 => ?_)
  · have h := ifT c_7 h
    refine k_iconst C (v := (0 : Int32)) dX0_weightOf_19 (by decide) ?_
    obtain rfl := Option.some.inj h
    exact kret_i C rfl dX0_weightOf_20
  · have h := ifF c_7 h
    refine k_aload_n C dX0_weightOf_10 0 rfl rfl ?_
    refine k_get C (C0 := RX0) (T := TX0) (N := 9) (fun w h => List.mem_cons_of_mem _ (us_D w h)) 0 rfl rfl 2 (by decide) (List.mem_cons_of_mem _ wq_84) rfl rfl dX0_weightOf_11 ?_
    refine k_iload_n C dX0_weightOf_14 1 rfl rfl ?_
    obtain ⟨x2, hx2, h⟩ := bindE h
    refine k_iald C 1 0 rfl rfl hx2 dX0_weightOf_15 ?_
    refine k_goto C (tgt := 20) dX0_weightOf_16 (by decide) ?_
    obtain rfl := Option.some.inj h
    exact kret_i C rfl dX0_weightOf_20
theorem c_D_weightOf (l : Launch) (D : va_G) (cI : ClassId) (cL : ClassId) (cZ : ClassId) (X : kX) (sz : Nat) (a_this : Nat) (a_stones : Nat) (a_kinds : Nat) (a_weights : Nat) (a_chances : Nat) (v1 : Int32) (c_width : Int32) (c_rain : Int32) (c_ear : Int32) (c_walkers : Int32) (c_seed : Int32) (c_weights : (Nat → Int32)) (x : Int32) (h : f_D_weightOf v1 c_weights = some x) :
    Met l yX0_weightOf (Cond.code yX0_weightOf cX0_weightOf 2 (some .int) :: WS) rm_D_weightOf (kP D (tyG cI cL cZ) (kEs X (va_A (cells_D_weightOf cI cL cZ a_this a_stones a_kinds a_weights a_chances c_width c_rain c_ear c_walkers c_seed c_weights) sz)) [.ref a_this, .int v1] sz (cells_D_weightOf cI cL cZ a_this a_stones a_kinds a_weights a_chances c_width c_rain c_ear c_walkers c_seed c_weights)) (kQi D (va_A (cells_D_weightOf cI cL cZ a_this a_stones a_kinds a_weights a_chances c_width c_rain c_ear c_walkers c_seed c_weights) sz) (cells_D_weightOf cI cL cZ a_this a_stones a_kinds a_weights a_chances c_width c_rain c_ear c_walkers c_seed c_weights) x) 0 0 (va_A (cells_D_weightOf cI cL cZ a_this a_stones a_kinds a_weights a_chances c_width c_rain c_ear c_walkers c_seed c_weights) sz) :=
  kmet (by decide) (Nat.le_of_ble_eq_true rfl) rfl (fun p e s m below meth c C hE => s_D_weightOf C hE h)
abbrev cells_D_stonesOn (cI : ClassId) (cL : ClassId) (cZ : ClassId) (a_this : Nat) (a_stones : Nat) (a_kinds : Nat) (a_weights : Nat) (a_chances : Nat) (c_width : Int32) (c_rain : Int32) (c_ear : Int32) (c_walkers : Int32) (c_seed : Int32) (c_stones : (Nat → Int32)) : va_W := [(a_this, .inr (0, [.ref a_stones, .ref a_kinds, .ref a_weights, .ref a_chances, .int c_width, .int c_rain, .int c_ear, .int c_walkers, .int c_seed])), (a_stones, .inl (cI, 36, .inl c_stones))]
abbrev rm_D_stonesOn : Room := { frames := 0, cells := 0, slots := 0, locals := 0 }
set_option maxRecDepth 100000 in
set_option maxHeartbeats 4000000 in
theorem s_D_stonesOn (C : kC p l e rm_D_stonesOn s m args below meth c D (tyG cI cL cZ) A 2 cX0_stonesOn yX0_stonesOn.cls (Cond.code yX0_stonesOn cX0_stonesOn 2 (some .int) :: WS) (some .int)) {a_this : Nat} {a_stones : Nat} {a_kinds : Nat} {a_weights : Nat} {a_chances : Nat} {v1 : Int32} {c_width : Int32} {c_rain : Int32} {c_ear : Int32} {c_walkers : Int32} {c_seed : Int32} {c_stones : (Nat → Int32)} {x : Int32} (h : f_D_stonesOn v1 c_stones = some x) :
    kW p l e rm_D_stonesOn s m args below meth c D A 2 (cells_D_stonesOn cI cL cZ a_this a_stones a_kinds a_weights a_chances c_width c_rain c_ear c_walkers c_seed c_stones) [(0, .ref a_this), (1, .int v1)] (MQ below (kQi D A (cells_D_stonesOn cI cL cZ a_this a_stones a_kinds a_weights a_chances c_width c_rain c_ear c_walkers c_seed c_stones) x) args s 0 0 A) 0 [] := by
  unfold f_D_stonesOn at h
  refine k_iload_n C dX0_stonesOn_0 1 rfl rfl ?_
  refine k_if_lt C (tgt := 19) dX0_stonesOn_1 (by decide) (fun c_1 => ?_) (fun c_1 => ?_)
  · have h := ifT c_1 h
    refine k_iconst C (v := (0 : Int32)) dX0_stonesOn_19 (by decide) ?_
    obtain rfl := Option.some.inj h
    exact kret_i C rfl dX0_stonesOn_20
  · have h := ifF c_1 h
    refine k_iload_n C dX0_stonesOn_4 1 rfl rfl ?_
    refine k_bipush C (v := (36 : Int32)) dX0_stonesOn_5 (by decide) ?_
    refine k_icmp_ge C (tgt := 19) dX0_stonesOn_7 (by decide) (fun c_7 => ?_) (fun c_7 => ?_)
    · have h := ifT c_7 h
      refine k_iconst C (v := (0 : Int32)) dX0_stonesOn_19 (by decide) ?_
      obtain rfl := Option.some.inj h
      exact kret_i C rfl dX0_stonesOn_20
    · have h := ifF c_7 h
      refine k_aload_n C dX0_stonesOn_10 0 rfl rfl ?_
      refine k_get C (C0 := RX0) (T := TX0) (N := 9) (fun w h => List.mem_cons_of_mem _ (us_D w h)) 0 rfl rfl 0 (by decide) (List.mem_cons_of_mem _ wq_85) rfl rfl dX0_stonesOn_11 ?_
      refine k_iload_n C dX0_stonesOn_14 1 rfl rfl ?_
      obtain ⟨x1, hx1, h⟩ := bindE h
      refine k_iald C 1 0 rfl rfl hx1 dX0_stonesOn_15 ?_
      refine k_goto C (tgt := 20) dX0_stonesOn_16 (by decide) ?_
      obtain rfl := Option.some.inj h
      exact kret_i C rfl dX0_stonesOn_20
theorem c_D_stonesOn (l : Launch) (D : va_G) (cI : ClassId) (cL : ClassId) (cZ : ClassId) (sz : Nat) (a_this : Nat) (a_stones : Nat) (a_kinds : Nat) (a_weights : Nat) (a_chances : Nat) (v1 : Int32) (c_width : Int32) (c_rain : Int32) (c_ear : Int32) (c_walkers : Int32) (c_seed : Int32) (c_stones : (Nat → Int32)) (x : Int32) (h : f_D_stonesOn v1 c_stones = some x) :
    Met l yX0_stonesOn (Cond.code yX0_stonesOn cX0_stonesOn 2 (some .int) :: WS) rm_D_stonesOn (kP D (tyG cI cL cZ) kTrue [.ref a_this, .int v1] sz (cells_D_stonesOn cI cL cZ a_this a_stones a_kinds a_weights a_chances c_width c_rain c_ear c_walkers c_seed c_stones)) (kQi D (va_A (cells_D_stonesOn cI cL cZ a_this a_stones a_kinds a_weights a_chances c_width c_rain c_ear c_walkers c_seed c_stones) sz) (cells_D_stonesOn cI cL cZ a_this a_stones a_kinds a_weights a_chances c_width c_rain c_ear c_walkers c_seed c_stones) x) 0 0 (va_A (cells_D_stonesOn cI cL cZ a_this a_stones a_kinds a_weights a_chances c_width c_rain c_ear c_walkers c_seed c_stones) sz) :=
  kmet (by decide) (Nat.le_of_ble_eq_true rfl) rfl (fun p e s m below meth c C hE => s_D_stonesOn C h)
abbrev cells_D_wetOn (cI : ClassId) (cL : ClassId) (cZ : ClassId) (a_this : Nat) (a_stones : Nat) (a_kinds : Nat) (a_weights : Nat) (a_chances : Nat) (c_width : Int32) (c_rain : Int32) (c_ear : Int32) (c_walkers : Int32) (c_seed : Int32) (c_stones : (Nat → Int32)) : va_W := [(a_this, .inr (0, [.ref a_stones, .ref a_kinds, .ref a_weights, .ref a_chances, .int c_width, .int c_rain, .int c_ear, .int c_walkers, .int c_seed])), (a_stones, .inl (cI, 36, .inl c_stones))]
abbrev rm_D_wetOn : Room := { frames := 1, cells := 0, slots := 0, locals := 32 }
set_option maxRecDepth 100000 in
set_option maxHeartbeats 4000000 in
theorem s_D_wetOn (C : kC p l e rm_D_wetOn s m args below meth c D (tyG cI cL cZ) A 3 cX0_wetOn yX0_wetOn.cls (Cond.code yX0_wetOn cX0_wetOn 3 (some .int) :: WS) (some .int)) {a_this : Nat} {a_stones : Nat} {a_kinds : Nat} {a_weights : Nat} {a_chances : Nat} {v1 : Int32} {v2 : Int32} {c_width : Int32} {c_rain : Int32} {c_ear : Int32} {c_walkers : Int32} {c_seed : Int32} {c_stones : (Nat → Int32)} {x : Int32} (h : f_D_wetOn v1 v2 c_stones = some x) :
    kW p l e rm_D_wetOn s m args below meth c D A 3 (cells_D_wetOn cI cL cZ a_this a_stones a_kinds a_weights a_chances c_width c_rain c_ear c_walkers c_seed c_stones) [(0, .ref a_this), (1, .int v1), (2, .int v2)] (MQ below (kQi D A (cells_D_wetOn cI cL cZ a_this a_stones a_kinds a_weights a_chances c_width c_rain c_ear c_walkers c_seed c_stones) x) args s 0 0 A) 0 [] := by
  unfold f_D_wetOn at h
  refine k_iconst C (v := (0 : Int32)) dX0_wetOn_0 (by decide) ?_
  refine k_aload_n C dX0_wetOn_1 0 rfl rfl ?_
  refine k_iload_n C dX0_wetOn_2 1 rfl rfl ?_
  obtain ⟨x1, hx1, h⟩ := bindE h
  refine kcallR_i C (wc := (cells_D_stonesOn cI cL cZ a_this a_stones a_kinds a_weights a_chances c_width c_rain c_ear c_walkers c_seed c_stones)) (r := x1) [0, 1] (fun H locs ls hP hD hS hF hz => krunV C (q0 := 0) (ci := 0) (c_D_stonesOn l D cI cL cZ H.size a_this a_stones a_kinds a_weights a_chances v1 c_width c_rain c_ear c_walkers c_seed c_stones x1 hx1) (cwV 1 C.2.2.2.2.1 (gV wq_87 wq_88 wq_89 wq_72 wq_86) rfl rfl rfl (by decide +kernel) ⟨(Nat.le_of_ble_eq_true rfl), (Nat.le_of_ble_eq_true rfl)⟩) rfl rfl kEnv_T rfl rfl (Nat.le_of_ble_eq_true rfl) dX0_wetOn_3 hP hD hz) rfl (by decide) ?_
  refine k_iload_n C dX0_wetOn_6 2 rfl rfl ?_
  refine k_isub C dX0_wetOn_7 ?_
  refine k_mmax C (List.mem_cons_of_mem _ wq_90) (List.mem_cons_of_mem _ wq_91) (List.mem_cons_of_mem _ wq_65) (List.mem_cons_of_mem _ wq_92) (Nat.le_of_ble_eq_true rfl) (Nat.le_of_ble_eq_true rfl) dX0_wetOn_8 ?_
  obtain rfl := Option.some.inj h
  exact kret_i C rfl dX0_wetOn_11
theorem c_D_wetOn (l : Launch) (D : va_G) (cI : ClassId) (cL : ClassId) (cZ : ClassId) (sz : Nat) (a_this : Nat) (a_stones : Nat) (a_kinds : Nat) (a_weights : Nat) (a_chances : Nat) (v1 : Int32) (v2 : Int32) (c_width : Int32) (c_rain : Int32) (c_ear : Int32) (c_walkers : Int32) (c_seed : Int32) (c_stones : (Nat → Int32)) (x : Int32) (h : f_D_wetOn v1 v2 c_stones = some x) :
    Met l yX0_wetOn (Cond.code yX0_wetOn cX0_wetOn 3 (some .int) :: WS) rm_D_wetOn (kP D (tyG cI cL cZ) kTrue [.ref a_this, .int v1, .int v2] sz (cells_D_wetOn cI cL cZ a_this a_stones a_kinds a_weights a_chances c_width c_rain c_ear c_walkers c_seed c_stones)) (kQi D (va_A (cells_D_wetOn cI cL cZ a_this a_stones a_kinds a_weights a_chances c_width c_rain c_ear c_walkers c_seed c_stones) sz) (cells_D_wetOn cI cL cZ a_this a_stones a_kinds a_weights a_chances c_width c_rain c_ear c_walkers c_seed c_stones) x) 0 0 (va_A (cells_D_wetOn cI cL cZ a_this a_stones a_kinds a_weights a_chances c_width c_rain c_ear c_walkers c_seed c_stones) sz) :=
  kmet (by decide) (Nat.le_of_ble_eq_true rfl) rfl (fun p e s m below meth c C hE => s_D_wetOn C h)
abbrev cells_D_stepBy (cI : ClassId) (cL : ClassId) (cZ : ClassId) : va_W := []
abbrev rm_D_stepBy : Room := { frames := 1, cells := 0, slots := 0, locals := 32 }
set_option maxRecDepth 100000 in
set_option maxHeartbeats 4000000 in
theorem s_D_stepBy_j18 (C : kC p l e rm_D_stepBy s m args below meth c D (tyG cI cL cZ) A 7 cX0_stepBy yX0_stepBy.cls (Cond.code yX0_stepBy cX0_stepBy 7 (some .int) :: WS) (some .int)) {v0 : Int32} {v1 : Int32} {v2 : Int32} {t0 : Int32} {x : Int32} (h : f_D_stepBy_j18 v0 v1 v2 t0 = some x) :
    kW p l e rm_D_stepBy s m args below meth c D A 7 (cells_D_stepBy cI cL cZ) [(0, .int v0), (1, .int v1), (2, .int v2)] (MQ below (kQi D A (cells_D_stepBy cI cL cZ) x) args s 0 0 A) 18 [.int t0] := by
  unfold f_D_stepBy_j18 at h
  refine k_istore C (lv' := [(4, .int t0), (0, .int v0), (1, .int v1), (2, .int v2)]) dX0_stepBy_18 (by decide) rfl ?_
  refine k_iload_n C dX0_stepBy_20 3 rfl rfl ?_
  refine k_iload_n C dX0_stepBy_21 2 rfl rfl ?_
  refine k_iadd C dX0_stepBy_22 ?_
  refine k_istore C (lv' := [(5, .int (v2 + v1)), (4, .int t0), (0, .int v0), (1, .int v1), (2, .int v2)]) dX0_stepBy_23 (by decide) rfl ?_
  refine k_iconst C (v := (0 : Int32)) dX0_stepBy_25 (by decide) ?_
  refine k_iload C dX0_stepBy_26 0 rfl ?_
  refine k_iconst C (v := (3 : Int32)) dX0_stepBy_28 (by decide) ?_
  refine k_isub C dX0_stepBy_29 ?_
  refine k_mmax C (List.mem_cons_of_mem _ wq_90) (List.mem_cons_of_mem _ wq_91) (List.mem_cons_of_mem _ wq_65) (List.mem_cons_of_mem _ wq_92) (Nat.le_of_ble_eq_true rfl) (Nat.le_of_ble_eq_true rfl) dX0_stepBy_30 ?_
  refine k_istore C (lv' := [(6, .int (imax (0 : Int32) ((v2 + v1) - (3 : Int32)))), (5, .int (v2 + v1)), (4, .int t0), (0, .int v0), (1, .int v1), (2, .int v2)]) dX0_stepBy_33 (by decide) rfl ?_
  refine k_iload_n C dX0_stepBy_35 3 rfl rfl ?_
  by_cases e_36_1 : v0 = (1 : Int32)
  · have h := ifT e_36_1 h
    have z : Int32.toInt v0 = 1 := by rw [e_36_1]; decide
    refine k_tableIn C (off := 36) (tgt := 72) dX0_stepBy_36 (by rw [z]; decide) (by rw [z]; decide) (by rw [z]; rfl) (by decide) ?_
    refine k_iconst C (v := (2 : Int32)) dX0_stepBy_72 (by decide) ?_
    refine k_iload C dX0_stepBy_73 1 rfl ?_
    refine k_imul C dX0_stepBy_75 ?_
    obtain rfl := Option.some.inj h
    exact kret_i C rfl dX0_stepBy_76
  have h := ifF e_36_1 h
  by_cases e_36_2 : v0 = (2 : Int32)
  · have h := ifT e_36_2 h
    have z : Int32.toInt v0 = 2 := by rw [e_36_2]; decide
    refine k_tableIn C (off := 60) (tgt := 96) dX0_stepBy_36 (by rw [z]; decide) (by rw [z]; decide) (by rw [z]; rfl) (by decide) ?_
    refine k_iload C dX0_stepBy_96 0 rfl ?_
    obtain rfl := Option.some.inj h
    exact kret_i C rfl dX0_stepBy_98
  have h := ifF e_36_2 h
  by_cases e_36_3 : v0 = (3 : Int32)
  · have h := ifT e_36_3 h
    have z : Int32.toInt v0 = 3 := by rw [e_36_3]; decide
    refine k_tableIn C (off := 41) (tgt := 77) dX0_stepBy_36 (by rw [z]; decide) (by rw [z]; decide) (by rw [z]; rfl) (by decide) ?_
    refine k_iload C dX0_stepBy_77 2 rfl ?_
    refine k_if_eq C (tgt := 91) dX0_stepBy_79 (by decide) (fun c_79 => ?_) (fun c_79 => ?_)
    · have h := ifT c_79 h
      refine k_iconst C (v := (2 : Int32)) dX0_stepBy_91 (by decide) ?_
      refine k_iload C dX0_stepBy_92 1 rfl ?_
      refine k_imul C dX0_stepBy_94 ?_
      obtain rfl := Option.some.inj h
      exact kret_i C rfl dX0_stepBy_95
    · have h := ifF c_79 h
      refine k_iconst C (v := (2 : Int32)) dX0_stepBy_82 (by decide) ?_
      refine k_iload C dX0_stepBy_83 1 rfl ?_
      refine k_imul C dX0_stepBy_85 ?_
      refine k_iconst C (v := (1 : Int32)) dX0_stepBy_86 (by decide) ?_
      refine k_iadd C dX0_stepBy_87 ?_
      refine k_goto C (tgt := 95) dX0_stepBy_88 (by decide) ?_
      obtain rfl := Option.some.inj h
      exact kret_i C rfl dX0_stepBy_95
  have h := ifF e_36_3 h
  by_cases e_36_4 : v0 = (4 : Int32)
  · have h := ifT e_36_4 h
    have z : Int32.toInt v0 = 4 := by rw [e_36_4]; decide
    refine k_tableIn C (off := 63) (tgt := 99) dX0_stepBy_36 (by rw [z]; decide) (by rw [z]; decide) (by rw [z]; rfl) (by decide) ?_
    refine k_iload_n C dX0_stepBy_99 5 rfl rfl ?_
    refine k_iconst C (v := (4 : Int32)) dX0_stepBy_100 (by decide) ?_
    refine k_icmp_gt C (tgt := 108) dX0_stepBy_101 (by decide) (fun c_101 => ?_) (fun c_101 => ?_)
    · have h := ifT c_101 h
      refine k_iload C dX0_stepBy_108 0 rfl ?_
      obtain rfl := Option.some.inj h
      exact kret_i C rfl dX0_stepBy_110
    · have h := ifF c_101 h
      refine k_iconst C (v := (0 : Int32)) dX0_stepBy_104 (by decide) ?_
      refine k_goto C (tgt := 110) dX0_stepBy_105 (by decide) ?_
      obtain rfl := Option.some.inj h
      exact kret_i C rfl dX0_stepBy_110
  have h := ifF e_36_4 h
  by_cases e_36_5 : v0 = (5 : Int32)
  · have h := ifT e_36_5 h
    have z : Int32.toInt v0 = 5 := by rw [e_36_5]; decide
    refine k_tableIn C (off := 75) (tgt := 111) dX0_stepBy_36 (by rw [z]; decide) (by rw [z]; decide) (by rw [z]; rfl) (by decide) ?_
    refine k_iload C dX0_stepBy_111 2 rfl ?_
    refine k_if_eq C (tgt := 123) dX0_stepBy_113 (by decide) (fun c_113 => ?_) (fun c_113 => ?_)
    · have h := ifT c_113 h
      refine k_iload C dX0_stepBy_123 1 rfl ?_
      obtain rfl := Option.some.inj h
      exact kret_i C rfl dX0_stepBy_125
    · have h := ifF c_113 h
      refine k_iload C dX0_stepBy_116 1 rfl ?_
      refine k_iconst C (v := (2 : Int32)) dX0_stepBy_118 (by decide) ?_
      obtain ⟨x1, hx1, h⟩ := bindE h
      refine k_idiv C dX0_stepBy_119 hx1 ?_
      refine k_goto C (tgt := 125) dX0_stepBy_120 (by decide) ?_
      obtain rfl := Option.some.inj h
      exact kret_i C rfl dX0_stepBy_125
  have h := ifF e_36_5 h
  have ze_36_1 := lv_neT e_36_1 (a := 1) (by decide)
  have ze_36_2 := lv_neT e_36_2 (a := 2) (by decide)
  have ze_36_3 := lv_neT e_36_3 (a := 3) (by decide)
  have ze_36_4 := lv_neT e_36_4 (a := 4) (by decide)
  have ze_36_5 := lv_neT e_36_5 (a := 5) (by decide)
  refine k_tableOut C (tgt := 126) dX0_stepBy_36 (by omega) (by decide) ?_
  refine k_iload C dX0_stepBy_126 1 rfl ?_
  obtain rfl := Option.some.inj h
  exact kret_i C rfl dX0_stepBy_128
set_option maxRecDepth 100000 in
set_option maxHeartbeats 4000000 in
theorem s_D_stepBy (C : kC p l e rm_D_stepBy s m args below meth c D (tyG cI cL cZ) A 7 cX0_stepBy yX0_stepBy.cls (Cond.code yX0_stepBy cX0_stepBy 7 (some .int) :: WS) (some .int)) {v0 : Int32} {v1 : Int32} {v2 : Int32} {v3 : Int32} {x : Int32} (h : f_D_stepBy v0 v1 v2 v3 = some x) :
    kW p l e rm_D_stepBy s m args below meth c D A 7 (cells_D_stepBy cI cL cZ) [(0, .int v0), (1, .int v1), (2, .int v2), (3, .int v3)] (MQ below (kQi D A (cells_D_stepBy cI cL cZ) x) args s 0 0 A) 0 [] := by
  unfold f_D_stepBy at h
  refine k_iload_n C dX0_stepBy_0 2 rfl rfl ?_
  refine k_if_gt C (tgt := 6) dX0_stepBy_1 (by decide) (fun c_1 => ?_) (fun c_1 => ?_)
  · have h := ifT c_1 h
    refine k_iload_n C dX0_stepBy_6 3 rfl rfl ?_
    refine k_iconst C (v := (1 : Int32)) dX0_stepBy_7 (by decide) ?_
    refine k_iand C dX0_stepBy_8 ?_
    refine k_iconst C (v := (1 : Int32)) dX0_stepBy_9 (by decide) ?_
    refine k_icmp_ne C (tgt := 17) dX0_stepBy_10 (by decide) (fun c_10 => ?_) (fun c_10 => ?_)
    · have h := ifF c_10 h
      refine k_iconst C (v := (0 : Int32)) dX0_stepBy_17 (by decide) ?_
      refine k_lv (lv' := [(0, .int v0), (1, .int v1), (2, .int v2)]) [0, 1, 2] rfl ?_
      exact s_D_stepBy_j18 C h
    · have h := ifT c_10 h
      refine k_iconst C (v := (1 : Int32)) dX0_stepBy_13 (by decide) ?_
      refine k_goto C (tgt := 18) dX0_stepBy_14 (by decide) ?_
      refine k_lv (lv' := [(0, .int v0), (1, .int v1), (2, .int v2)]) [0, 1, 2] rfl ?_
      exact s_D_stepBy_j18 C h
  · have h := ifF c_1 h
    refine k_iconst C (v := (0 : Int32)) dX0_stepBy_4 (by decide) ?_
    obtain rfl := Option.some.inj h
    exact kret_i C rfl dX0_stepBy_5
theorem c_D_stepBy (l : Launch) (D : va_G) (cI : ClassId) (cL : ClassId) (cZ : ClassId) (sz : Nat) (v0 : Int32) (v1 : Int32) (v2 : Int32) (v3 : Int32) (x : Int32) (h : f_D_stepBy v0 v1 v2 v3 = some x) :
    Met l yX0_stepBy (Cond.code yX0_stepBy cX0_stepBy 7 (some .int) :: WS) rm_D_stepBy (kP D (tyG cI cL cZ) kTrue [.int v0, .int v1, .int v2, .int v3] sz (cells_D_stepBy cI cL cZ)) (kQi D (va_A (cells_D_stepBy cI cL cZ) sz) (cells_D_stepBy cI cL cZ) x) 0 0 (va_A (cells_D_stepBy cI cL cZ) sz) :=
  kmet (by decide) (Nat.le_of_ble_eq_true rfl) rfl (fun p e s m below meth c C hE => s_D_stepBy C h)
abbrev cells_D_stepUnder (cI : ClassId) (cL : ClassId) (cZ : ClassId) (a_this : Nat) (a_stones : Nat) (a_kinds : Nat) (a_weights : Nat) (a_chances : Nat) (c_width : Int32) (c_rain : Int32) (c_ear : Int32) (c_walkers : Int32) (c_seed : Int32) (c_stones : (Nat → Int32)) (c_kinds : (Nat → Int32)) (c_weights : (Nat → Int32)) : va_W := [(a_this, .inr (0, [.ref a_stones, .ref a_kinds, .ref a_weights, .ref a_chances, .int c_width, .int c_rain, .int c_ear, .int c_walkers, .int c_seed])), (a_stones, .inl (cI, 36, .inl c_stones)), (a_kinds, .inl (cI, 8, .inl c_kinds)), (a_weights, .inl (cI, 8, .inl c_weights))]
abbrev rm_D_stepUnder : Room := { frames := 2, cells := 0, slots := 0, locals := 58 }
set_option maxRecDepth 100000 in
set_option maxHeartbeats 4000000 in
theorem s_D_stepUnder (C : kC p l e rm_D_stepUnder s m args below meth c D (tyG cI cL cZ) A 5 cX0_stepUnder yX0_stepUnder.cls (Cond.code yX0_stepUnder cX0_stepUnder 5 (some .int) :: WS) (some .int)) {X : kX} (hE : kEs X A s) {a_this : Nat} {a_stones : Nat} {a_kinds : Nat} {a_weights : Nat} {a_chances : Nat} {v1 : Int32} {v2 : Int32} {v3 : Int32} {v4 : Int32} {c_width : Int32} {c_rain : Int32} {c_ear : Int32} {c_walkers : Int32} {c_seed : Int32} {c_stones : (Nat → Int32)} {c_kinds : (Nat → Int32)} {c_weights : (Nat → Int32)} {x : Int32} (h : f_D_stepUnder v1 v2 v3 v4 c_stones c_kinds c_weights = some x) :
    kW p l e rm_D_stepUnder s m args below meth c D A 5 (cells_D_stepUnder cI cL cZ a_this a_stones a_kinds a_weights a_chances c_width c_rain c_ear c_walkers c_seed c_stones c_kinds c_weights) [(0, .ref a_this), (1, .int v1), (2, .int v2), (3, .int v3), (4, .int v4)] (MQ below (kQi D A (cells_D_stepUnder cI cL cZ a_this a_stones a_kinds a_weights a_chances c_width c_rain c_ear c_walkers c_seed c_stones c_kinds c_weights) x) args s 0 0 A) 0 [] := by
  unfold f_D_stepUnder at h
  refine k_aload_n C dX0_stepUnder_0 0 rfl rfl ?_
  refine k_iload_n C dX0_stepUnder_1 1 rfl rfl ?_
  obtain ⟨x1, hx1, h⟩ := bindE h
  refine kcallR_i C (wc := (cells_D_kindOf cI cL cZ a_this a_stones a_kinds a_weights a_chances c_width c_rain c_ear c_walkers c_seed c_kinds)) (r := x1) [0, 2] (fun H locs ls hP hD hS hF hz => krunV C (q0 := 0) (ci := 0) (c_D_kindOf l D cI cL cZ X H.size a_this a_stones a_kinds a_weights a_chances v1 c_width c_rain c_ear c_walkers c_seed c_kinds x1 hx1) (cwV 1 C.2.2.2.2.1 (gV wq_94 wq_95 wq_96 wq_72 wq_93) rfl rfl rfl (by decide +kernel) ⟨(Nat.le_of_ble_eq_true rfl), (Nat.le_of_ble_eq_true rfl)⟩) rfl rfl (kEs_call hE hS hF) rfl rfl (Nat.le_of_ble_eq_true rfl) dX0_stepUnder_2 hP hD hz) rfl (by decide) ?_
  refine k_aload_n C dX0_stepUnder_5 0 rfl rfl ?_
  refine k_iload_n C dX0_stepUnder_6 1 rfl rfl ?_
  obtain ⟨x2, hx2, h⟩ := bindE h
  refine kcallR_i C (wc := (cells_D_weightOf cI cL cZ a_this a_stones a_kinds a_weights a_chances c_width c_rain c_ear c_walkers c_seed c_weights)) (r := x2) [0, 3] (fun H locs ls hP hD hS hF hz => krunV C (q0 := 0) (ci := 0) (c_D_weightOf l D cI cL cZ X H.size a_this a_stones a_kinds a_weights a_chances v1 c_width c_rain c_ear c_walkers c_seed c_weights x2 hx2) (cwV 1 C.2.2.2.2.1 (gV wq_98 wq_99 wq_100 wq_72 wq_97) rfl rfl rfl (by decide +kernel) ⟨(Nat.le_of_ble_eq_true rfl), (Nat.le_of_ble_eq_true rfl)⟩) rfl rfl (kEs_call hE hS hF) rfl rfl (Nat.le_of_ble_eq_true rfl) dX0_stepUnder_7 hP hD hz) rfl (by decide) ?_
  refine k_aload_n C dX0_stepUnder_10 0 rfl rfl ?_
  refine k_iload_n C dX0_stepUnder_11 2 rfl rfl ?_
  refine k_iload C dX0_stepUnder_12 4 rfl ?_
  obtain ⟨x3, hx3, h⟩ := bindE h
  refine kcallR_i C (wc := (cells_D_wetOn cI cL cZ a_this a_stones a_kinds a_weights a_chances c_width c_rain c_ear c_walkers c_seed c_stones)) (r := x3) [0, 1] (fun H locs ls hP hD hS hF hz => krunV C (q0 := 0) (ci := 0) (c_D_wetOn l D cI cL cZ H.size a_this a_stones a_kinds a_weights a_chances v2 v4 c_width c_rain c_ear c_walkers c_seed c_stones x3 hx3) (cwV 2 C.2.2.2.2.1 (gV wq_102 wq_103 wq_104 wq_72 wq_101) rfl rfl rfl (by decide +kernel) ⟨(Nat.le_of_ble_eq_true rfl), (Nat.le_of_ble_eq_true rfl)⟩) rfl rfl kEnv_T rfl rfl (Nat.le_of_ble_eq_true rfl) dX0_stepUnder_14 hP hD hz) rfl (by decide) ?_
  refine k_iload_n C dX0_stepUnder_17 3 rfl rfl ?_
  obtain ⟨x4, hx4, h⟩ := bindE h
  refine kcallE_i C (r := x4) (fun H locs ls hP hD hS hF hz => krunS C (c_D_stepBy l D cI cL cZ H.size x1 x2 x3 v3 x4 hx4) (va_cwS 4 C.2.2.2.2.1 (gS wq_106 wq_107 wq_72 wq_105) rfl rfl rfl (by decide +kernel) ⟨(Nat.le_of_ble_eq_true rfl), (Nat.le_of_ble_eq_true rfl)⟩) kEnv_T rfl rfl (Nat.le_of_ble_eq_true rfl) dX0_stepUnder_18 hP hD hz) ?_
  obtain rfl := Option.some.inj h
  exact kret_i C rfl dX0_stepUnder_21
theorem c_D_stepUnder (l : Launch) (D : va_G) (cI : ClassId) (cL : ClassId) (cZ : ClassId) (X : kX) (sz : Nat) (a_this : Nat) (a_stones : Nat) (a_kinds : Nat) (a_weights : Nat) (a_chances : Nat) (v1 : Int32) (v2 : Int32) (v3 : Int32) (v4 : Int32) (c_width : Int32) (c_rain : Int32) (c_ear : Int32) (c_walkers : Int32) (c_seed : Int32) (c_stones : (Nat → Int32)) (c_kinds : (Nat → Int32)) (c_weights : (Nat → Int32)) (x : Int32) (h : f_D_stepUnder v1 v2 v3 v4 c_stones c_kinds c_weights = some x) :
    Met l yX0_stepUnder (Cond.code yX0_stepUnder cX0_stepUnder 5 (some .int) :: WS) rm_D_stepUnder (kP D (tyG cI cL cZ) (kEs X (va_A (cells_D_stepUnder cI cL cZ a_this a_stones a_kinds a_weights a_chances c_width c_rain c_ear c_walkers c_seed c_stones c_kinds c_weights) sz)) [.ref a_this, .int v1, .int v2, .int v3, .int v4] sz (cells_D_stepUnder cI cL cZ a_this a_stones a_kinds a_weights a_chances c_width c_rain c_ear c_walkers c_seed c_stones c_kinds c_weights)) (kQi D (va_A (cells_D_stepUnder cI cL cZ a_this a_stones a_kinds a_weights a_chances c_width c_rain c_ear c_walkers c_seed c_stones c_kinds c_weights) sz) (cells_D_stepUnder cI cL cZ a_this a_stones a_kinds a_weights a_chances c_width c_rain c_ear c_walkers c_seed c_stones c_kinds c_weights) x) 0 0 (va_A (cells_D_stepUnder cI cL cZ a_this a_stones a_kinds a_weights a_chances c_width c_rain c_ear c_walkers c_seed c_stones c_kinds c_weights) sz) :=
  kmet (by decide) (Nat.le_of_ble_eq_true rfl) rfl (fun p e s m below meth c C hE => s_D_stepUnder C hE h)
abbrev cells_D_stepAs (cI : ClassId) (cL : ClassId) (cZ : ClassId) (a_this : Nat) (a_stones : Nat) (a_kinds : Nat) (a_weights : Nat) (a_chances : Nat) (c_width : Int32) (c_rain : Int32) (c_ear : Int32) (c_walkers : Int32) (c_seed : Int32) (c_stones : (Nat → Int32)) (c_kinds : (Nat → Int32)) (c_weights : (Nat → Int32)) : va_W := [(a_this, .inr (0, [.ref a_stones, .ref a_kinds, .ref a_weights, .ref a_chances, .int c_width, .int c_rain, .int c_ear, .int c_walkers, .int c_seed])), (a_stones, .inl (cI, 36, .inl c_stones)), (a_kinds, .inl (cI, 8, .inl c_kinds)), (a_weights, .inl (cI, 8, .inl c_weights))]
abbrev rm_D_stepAs : Room := { frames := 3, cells := 0, slots := 0, locals := 82 }
set_option maxRecDepth 100000 in
set_option maxHeartbeats 4000000 in
theorem s_D_stepAs (C : kC p l e rm_D_stepAs s m args below meth c D (tyG cI cL cZ) A 4 cX0_stepAs yX0_stepAs.cls (Cond.code yX0_stepAs cX0_stepAs 4 (some .int) :: WS) (some .int)) {X : kX} (hE : kEs X A s) {a_this : Nat} {a_stones : Nat} {a_kinds : Nat} {a_weights : Nat} {a_chances : Nat} {v1 : Int32} {v2 : Int32} {v3 : Int32} {c_width : Int32} {c_rain : Int32} {c_ear : Int32} {c_walkers : Int32} {c_seed : Int32} {c_stones : (Nat → Int32)} {c_kinds : (Nat → Int32)} {c_weights : (Nat → Int32)} {x : Int32} (h : f_D_stepAs v1 v2 v3 c_rain c_stones c_kinds c_weights = some x) :
    kW p l e rm_D_stepAs s m args below meth c D A 4 (cells_D_stepAs cI cL cZ a_this a_stones a_kinds a_weights a_chances c_width c_rain c_ear c_walkers c_seed c_stones c_kinds c_weights) [(0, .ref a_this), (1, .int v1), (2, .int v2), (3, .int v3)] (MQ below (kQi D A (cells_D_stepAs cI cL cZ a_this a_stones a_kinds a_weights a_chances c_width c_rain c_ear c_walkers c_seed c_stones c_kinds c_weights) x) args s 0 0 A) 0 [] := by
  unfold f_D_stepAs at h
  refine k_aload_n C dX0_stepAs_0 0 rfl rfl ?_
  refine k_iload_n C dX0_stepAs_1 1 rfl rfl ?_
  refine k_iload_n C dX0_stepAs_2 2 rfl rfl ?_
  refine k_iload_n C dX0_stepAs_3 3 rfl rfl ?_
  refine k_aload_n C dX0_stepAs_4 0 rfl rfl ?_
  refine k_get C (C0 := RX0) (T := TX0) (N := 9) (fun w h => List.mem_cons_of_mem _ (us_D w h)) 0 rfl rfl 5 (by decide) (List.mem_cons_of_mem _ wq_108) rfl rfl dX0_stepAs_5 ?_
  obtain ⟨x1, hx1, h⟩ := bindE h
  refine kcallR_i C (wc := (cells_D_stepUnder cI cL cZ a_this a_stones a_kinds a_weights a_chances c_width c_rain c_ear c_walkers c_seed c_stones c_kinds c_weights)) (r := x1) [0, 1, 2, 3] (fun H locs ls hP hD hS hF hz => krunV C (q0 := 0) (ci := 0) (c_D_stepUnder l D cI cL cZ X H.size a_this a_stones a_kinds a_weights a_chances v1 v2 v3 c_rain c_width c_rain c_ear c_walkers c_seed c_stones c_kinds c_weights x1 hx1) (cwV 4 C.2.2.2.2.1 (gV wq_110 wq_111 wq_112 wq_72 wq_109) rfl rfl rfl (by decide +kernel) ⟨(Nat.le_of_ble_eq_true rfl), (Nat.le_of_ble_eq_true rfl)⟩) rfl rfl (kEs_call hE hS hF) rfl rfl (Nat.le_of_ble_eq_true rfl) dX0_stepAs_8 hP hD hz) rfl (by decide) ?_
  obtain rfl := Option.some.inj h
  exact kret_i C rfl dX0_stepAs_11
theorem c_D_stepAs (l : Launch) (D : va_G) (cI : ClassId) (cL : ClassId) (cZ : ClassId) (X : kX) (sz : Nat) (a_this : Nat) (a_stones : Nat) (a_kinds : Nat) (a_weights : Nat) (a_chances : Nat) (v1 : Int32) (v2 : Int32) (v3 : Int32) (c_width : Int32) (c_rain : Int32) (c_ear : Int32) (c_walkers : Int32) (c_seed : Int32) (c_stones : (Nat → Int32)) (c_kinds : (Nat → Int32)) (c_weights : (Nat → Int32)) (x : Int32) (h : f_D_stepAs v1 v2 v3 c_rain c_stones c_kinds c_weights = some x) :
    Met l yX0_stepAs (Cond.code yX0_stepAs cX0_stepAs 4 (some .int) :: WS) rm_D_stepAs (kP D (tyG cI cL cZ) (kEs X (va_A (cells_D_stepAs cI cL cZ a_this a_stones a_kinds a_weights a_chances c_width c_rain c_ear c_walkers c_seed c_stones c_kinds c_weights) sz)) [.ref a_this, .int v1, .int v2, .int v3] sz (cells_D_stepAs cI cL cZ a_this a_stones a_kinds a_weights a_chances c_width c_rain c_ear c_walkers c_seed c_stones c_kinds c_weights)) (kQi D (va_A (cells_D_stepAs cI cL cZ a_this a_stones a_kinds a_weights a_chances c_width c_rain c_ear c_walkers c_seed c_stones c_kinds c_weights) sz) (cells_D_stepAs cI cL cZ a_this a_stones a_kinds a_weights a_chances c_width c_rain c_ear c_walkers c_seed c_stones c_kinds c_weights) x) 0 0 (va_A (cells_D_stepAs cI cL cZ a_this a_stones a_kinds a_weights a_chances c_width c_rain c_ear c_walkers c_seed c_stones c_kinds c_weights) sz) :=
  kmet (by decide) (Nat.le_of_ble_eq_true rfl) rfl (fun p e s m below meth c C hE => s_D_stepAs C hE h)
abbrev cells_M_says (cI : ClassId) (cL : ClassId) (cZ : ClassId) (a_this : Nat) (a_now : Nat) (a_kept : Nat) (a_trial : Nat) (a_shelves : Nat) (a_tape : Nat) (a_paths : Nat) (a_sounds : Nat) (a_volumes : Nat) (a_refusals : Nat) (a_now_stones : Nat) (a_now_kinds : Nat) (a_now_weights : Nat) (a_now_chances : Nat) (a_shelves_marks : Nat) (a_shelves_sizes : Nat) (a_shelves_elements : Nat) (c_isKept : Int32) (c_now_width : Int32) (c_now_rain : Int32) (c_now_ear : Int32) (c_now_walkers : Int32) (c_now_seed : Int32) (c_now_stones : (Nat → Int32)) (c_now_kinds : (Nat → Int32)) (c_now_weights : (Nat → Int32)) (c_now_chances : (Nat → Int32)) (c_shelves_marks : (Nat → Int32)) (c_refusals : (Nat → Int32)) : va_W := [(a_this, .inr (4, [.ref a_now, .ref a_kept, .ref a_trial, .ref a_shelves, .ref a_tape, .ref a_paths, .ref a_sounds, .ref a_volumes, .ref a_refusals, .int c_isKept])), (a_now, .inr (0, [.ref a_now_stones, .ref a_now_kinds, .ref a_now_weights, .ref a_now_chances, .int c_now_width, .int c_now_rain, .int c_now_ear, .int c_now_walkers, .int c_now_seed])), (a_now_stones, .inl (cI, 36, .inl c_now_stones)), (a_now_kinds, .inl (cI, 8, .inl c_now_kinds)), (a_now_weights, .inl (cI, 8, .inl c_now_weights)), (a_now_chances, .inl (cI, 8, .inl c_now_chances)), (a_shelves, .inr (2, [.ref a_shelves_marks, .ref a_shelves_sizes, .ref a_shelves_elements])), (a_shelves_marks, .inl (cI, 8, .inl c_shelves_marks)), (a_refusals, .inl (cI, 5, .inl c_refusals))]
abbrev rm_M_says : Room := { frames := 4, cells := 0, slots := 0, locals := 105 }
set_option maxRecDepth 100000 in
set_option maxHeartbeats 4000000 in
theorem s_M_says_j16 (C : kC p l e rm_M_says s m args below meth c D (tyG cI cL cZ) A 5 cX4_says yX4_says.cls (Cond.code yX4_says cX4_says 5 (some .int) :: WS) (some .int)) {X : kX} (hE : kEs X A s) {a_this : Nat} {a_now : Nat} {a_kept : Nat} {a_trial : Nat} {a_shelves : Nat} {a_tape : Nat} {a_paths : Nat} {a_sounds : Nat} {a_volumes : Nat} {a_refusals : Nat} {a_now_stones : Nat} {a_now_kinds : Nat} {a_now_weights : Nat} {a_now_chances : Nat} {a_shelves_marks : Nat} {a_shelves_sizes : Nat} {a_shelves_elements : Nat} {c_isKept : Int32} {c_now_width : Int32} {c_now_rain : Int32} {c_now_ear : Int32} {c_now_walkers : Int32} {c_now_seed : Int32} {c_now_stones : (Nat → Int32)} {c_now_kinds : (Nat → Int32)} {c_now_weights : (Nat → Int32)} {c_now_chances : (Nat → Int32)} {c_shelves_marks : (Nat → Int32)} {c_refusals : (Nat → Int32)} {x : (Int32 × (Nat → Int32))} (h : f_M_says_j16 c_refusals = some x) :
    kW p l e rm_M_says s m args below meth c D A 5 (cells_M_says cI cL cZ a_this a_now a_kept a_trial a_shelves a_tape a_paths a_sounds a_volumes a_refusals a_now_stones a_now_kinds a_now_weights a_now_chances a_shelves_marks a_shelves_sizes a_shelves_elements c_isKept c_now_width c_now_rain c_now_ear c_now_walkers c_now_seed c_now_stones c_now_kinds c_now_weights c_now_chances c_shelves_marks c_refusals) [(0, .ref a_this)] (MQ below (kQi D A (cells_M_says cI cL cZ a_this a_now a_kept a_trial a_shelves a_tape a_paths a_sounds a_volumes a_refusals a_now_stones a_now_kinds a_now_weights a_now_chances a_shelves_marks a_shelves_sizes a_shelves_elements c_isKept c_now_width c_now_rain c_now_ear c_now_walkers c_now_seed c_now_stones c_now_kinds c_now_weights c_now_chances c_shelves_marks x.2) x.1) args s 0 0 A) 16 [] := by
  unfold f_M_says_j16 at h
  refine k_aload_n C dX4_says_16 0 rfl rfl ?_
  refine k_bipush C (v := (-2 : Int32)) dX4_says_17 (by decide) ?_
  obtain ⟨x2, hx2, h⟩ := bindE h
  refine kcallU_i C (wc := (cells_M_refuse cI cL cZ a_this a_now a_kept a_trial a_shelves a_tape a_paths a_sounds a_volumes a_refusals c_isKept c_refusals)) (w1 := (cells_M_refuse cI cL cZ a_this a_now a_kept a_trial a_shelves a_tape a_paths a_sounds a_volumes a_refusals c_isKept x2.2)) (ws' := (cells_M_says cI cL cZ a_this a_now a_kept a_trial a_shelves a_tape a_paths a_sounds a_volumes a_refusals a_now_stones a_now_kinds a_now_weights a_now_chances a_shelves_marks a_shelves_sizes a_shelves_elements c_isKept c_now_width c_now_rain c_now_ear c_now_walkers c_now_seed c_now_stones c_now_kinds c_now_weights c_now_chances c_shelves_marks x2.2)) (r := x2.1) [0, 8] (fun H locs ls hP hD hS hF hz => krunV C (q0 := 0) (ci := 4) (c_M_refuse l D cI cL cZ H.size a_this a_now a_kept a_trial a_shelves a_tape a_paths a_sounds a_volumes a_refusals (-2 : Int32) c_isKept c_refusals x2 hx2) (cwV 1 C.2.2.2.2.1 (gV wq_12 wq_13 wq_14 wq_3 wq_11) rfl rfl rfl (by decide +kernel) ⟨(Nat.le_of_ble_eq_true rfl), (Nat.le_of_ble_eq_true rfl)⟩) rfl rfl kEnv_T rfl rfl (Nat.le_of_ble_eq_true rfl) dX4_says_19 hP hD hz) rfl (by decide) rfl rfl ?_
  obtain rfl := Option.some.inj h
  exact kret_i C rfl dX4_says_22
set_option maxRecDepth 100000 in
set_option maxHeartbeats 4000000 in
theorem s_M_says_j75 (C : kC p l e rm_M_says s m args below meth c D (tyG cI cL cZ) A 5 cX4_says yX4_says.cls (Cond.code yX4_says cX4_says 5 (some .int) :: WS) (some .int)) {X : kX} (hE : kEs X A s) {a_this : Nat} {a_now : Nat} {a_kept : Nat} {a_trial : Nat} {a_shelves : Nat} {a_tape : Nat} {a_paths : Nat} {a_sounds : Nat} {a_volumes : Nat} {a_refusals : Nat} {a_now_stones : Nat} {a_now_kinds : Nat} {a_now_weights : Nat} {a_now_chances : Nat} {a_shelves_marks : Nat} {a_shelves_sizes : Nat} {a_shelves_elements : Nat} {c_isKept : Int32} {c_now_width : Int32} {c_now_rain : Int32} {c_now_ear : Int32} {c_now_walkers : Int32} {c_now_seed : Int32} {c_now_stones : (Nat → Int32)} {c_now_kinds : (Nat → Int32)} {c_now_weights : (Nat → Int32)} {c_now_chances : (Nat → Int32)} {c_shelves_marks : (Nat → Int32)} {c_refusals : (Nat → Int32)} {x : (Int32 × (Nat → Int32))} (h : f_M_says_j75 c_refusals = some x) :
    kW p l e rm_M_says s m args below meth c D A 5 (cells_M_says cI cL cZ a_this a_now a_kept a_trial a_shelves a_tape a_paths a_sounds a_volumes a_refusals a_now_stones a_now_kinds a_now_weights a_now_chances a_shelves_marks a_shelves_sizes a_shelves_elements c_isKept c_now_width c_now_rain c_now_ear c_now_walkers c_now_seed c_now_stones c_now_kinds c_now_weights c_now_chances c_shelves_marks c_refusals) [(0, .ref a_this)] (MQ below (kQi D A (cells_M_says cI cL cZ a_this a_now a_kept a_trial a_shelves a_tape a_paths a_sounds a_volumes a_refusals a_now_stones a_now_kinds a_now_weights a_now_chances a_shelves_marks a_shelves_sizes a_shelves_elements c_isKept c_now_width c_now_rain c_now_ear c_now_walkers c_now_seed c_now_stones c_now_kinds c_now_weights c_now_chances c_shelves_marks x.2) x.1) args s 0 0 A) 75 [] := by
  unfold f_M_says_j75 at h
  refine k_aload_n C dX4_says_75 0 rfl rfl ?_
  refine k_bipush C (v := (-3 : Int32)) dX4_says_76 (by decide) ?_
  obtain ⟨x6, hx6, h⟩ := bindE h
  refine kcallU_i C (wc := (cells_M_refuse cI cL cZ a_this a_now a_kept a_trial a_shelves a_tape a_paths a_sounds a_volumes a_refusals c_isKept c_refusals)) (w1 := (cells_M_refuse cI cL cZ a_this a_now a_kept a_trial a_shelves a_tape a_paths a_sounds a_volumes a_refusals c_isKept x6.2)) (ws' := (cells_M_says cI cL cZ a_this a_now a_kept a_trial a_shelves a_tape a_paths a_sounds a_volumes a_refusals a_now_stones a_now_kinds a_now_weights a_now_chances a_shelves_marks a_shelves_sizes a_shelves_elements c_isKept c_now_width c_now_rain c_now_ear c_now_walkers c_now_seed c_now_stones c_now_kinds c_now_weights c_now_chances c_shelves_marks x6.2)) (r := x6.1) [0, 8] (fun H locs ls hP hD hS hF hz => krunV C (q0 := 0) (ci := 4) (c_M_refuse l D cI cL cZ H.size a_this a_now a_kept a_trial a_shelves a_tape a_paths a_sounds a_volumes a_refusals (-3 : Int32) c_isKept c_refusals x6 hx6) (cwV 1 C.2.2.2.2.1 (gV wq_12 wq_13 wq_14 wq_3 wq_11) rfl rfl rfl (by decide +kernel) ⟨(Nat.le_of_ble_eq_true rfl), (Nat.le_of_ble_eq_true rfl)⟩) rfl rfl kEnv_T rfl rfl (Nat.le_of_ble_eq_true rfl) dX4_says_78 hP hD hz) rfl (by decide) rfl rfl ?_
  obtain rfl := Option.some.inj h
  exact kret_i C rfl dX4_says_81
set_option maxRecDepth 100000 in
set_option maxHeartbeats 4000000 in
theorem s_M_says (C : kC p l e rm_M_says s m args below meth c D (tyG cI cL cZ) A 5 cX4_says yX4_says.cls (Cond.code yX4_says cX4_says 5 (some .int) :: WS) (some .int)) {X : kX} (hE : kEs X A s) {a_this : Nat} {a_now : Nat} {a_kept : Nat} {a_trial : Nat} {a_shelves : Nat} {a_tape : Nat} {a_paths : Nat} {a_sounds : Nat} {a_volumes : Nat} {a_refusals : Nat} {a_now_stones : Nat} {a_now_kinds : Nat} {a_now_weights : Nat} {a_now_chances : Nat} {a_shelves_marks : Nat} {a_shelves_sizes : Nat} {a_shelves_elements : Nat} {v1 : Int32} {v2 : Int32} {c_isKept : Int32} {c_now_width : Int32} {c_now_rain : Int32} {c_now_ear : Int32} {c_now_walkers : Int32} {c_now_seed : Int32} {c_now_stones : (Nat → Int32)} {c_now_kinds : (Nat → Int32)} {c_now_weights : (Nat → Int32)} {c_now_chances : (Nat → Int32)} {c_shelves_marks : (Nat → Int32)} {c_refusals : (Nat → Int32)} {x : (Int32 × (Nat → Int32))} (h : f_M_says v1 v2 c_now_rain c_now_walkers c_now_stones c_now_kinds c_now_weights c_now_chances c_shelves_marks c_refusals = some x) :
    kW p l e rm_M_says s m args below meth c D A 5 (cells_M_says cI cL cZ a_this a_now a_kept a_trial a_shelves a_tape a_paths a_sounds a_volumes a_refusals a_now_stones a_now_kinds a_now_weights a_now_chances a_shelves_marks a_shelves_sizes a_shelves_elements c_isKept c_now_width c_now_rain c_now_ear c_now_walkers c_now_seed c_now_stones c_now_kinds c_now_weights c_now_chances c_shelves_marks c_refusals) [(0, .ref a_this), (1, .int v1), (2, .int v2)] (MQ below (kQi D A (cells_M_says cI cL cZ a_this a_now a_kept a_trial a_shelves a_tape a_paths a_sounds a_volumes a_refusals a_now_stones a_now_kinds a_now_weights a_now_chances a_shelves_marks a_shelves_sizes a_shelves_elements c_isKept c_now_width c_now_rain c_now_ear c_now_walkers c_now_seed c_now_stones c_now_kinds c_now_weights c_now_chances c_shelves_marks x.2) x.1) args s 0 0 A) 0 [] := by
  unfold f_M_says at h
  refine k_iload_n C dX4_says_0 1 rfl rfl ?_
  obtain ⟨x1, hx1, h⟩ := bindE h
  refine kcallE_i C (r := x1) (fun H locs ls hP hD hS hF hz => krunS C (c_M_isShelf l D cI cL cZ H.size v1 x1 hx1) (va_cwS 1 C.2.2.2.2.1 (gS wq_10 wq_6 wq_3 wq_5) rfl rfl rfl (by decide +kernel) ⟨(Nat.le_of_ble_eq_true rfl), (Nat.le_of_ble_eq_true rfl)⟩) kEnv_T rfl rfl (Nat.le_of_ble_eq_true rfl) dX4_says_1 hP hD hz) ?_
  refine k_if_eq C (tgt := 16) dX4_says_4 (by decide) (fun c_4 => ?_) (fun c_4 => ?_)
  · have h := ifT c_4 h
    refine k_lv (lv' := [(0, .ref a_this)]) [0] rfl ?_
    exact s_M_says_j16 C hE h
  · have h := ifF c_4 h
    refine k_iload_n C dX4_says_7 2 rfl rfl ?_
    refine k_iconst C (v := (0 : Int32)) dX4_says_8 (by decide) ?_
    refine k_iconst C (v := (5 : Int32)) dX4_says_9 (by decide) ?_
    obtain ⟨x3, hx3, h⟩ := bindE h
    refine kcallE_i C (r := x3) (fun H locs ls hP hD hS hF hz => krunS C (c_M_isWithin l D cI cL cZ H.size v2 (0 : Int32) (5 : Int32) x3 hx3) (va_cwS 3 C.2.2.2.2.1 (gS wq_1 wq_2 wq_3 wq_0) rfl rfl rfl (by decide +kernel) ⟨(Nat.le_of_ble_eq_true rfl), (Nat.le_of_ble_eq_true rfl)⟩) kEnv_T rfl rfl (Nat.le_of_ble_eq_true rfl) dX4_says_10 hP hD hz) ?_
    refine k_if_ne C (tgt := 23) dX4_says_13 (by decide) (fun c_13 => ?_) (fun c_13 => ?_)
    · have h := ifF c_13 h
      refine k_aload_n C dX4_says_23 0 rfl rfl ?_
      refine k_get C (C0 := RX4) (T := TX4) (N := 10) (fun w h => List.mem_cons_of_mem _ (us_M w h)) 0 rfl rfl 3 (by decide) (List.mem_cons_of_mem _ wq_15) rfl rfl dX4_says_24 ?_
      refine k_iload_n C dX4_says_27 1 rfl rfl ?_
      obtain ⟨x4, hx4, h⟩ := bindE h
      refine kcallR_i C (wc := (cells_S_heldBy cI cL cZ a_shelves a_shelves_marks a_shelves_sizes a_shelves_elements c_shelves_marks)) (r := x4) [6, 7] (fun H locs ls hP hD hS hF hz => krunV C (q0 := 0) (ci := 2) (c_S_heldBy l D cI cL cZ X H.size a_shelves a_shelves_marks a_shelves_sizes a_shelves_elements v1 c_shelves_marks x4 hx4) (cwV 1 C.2.2.2.2.1 (gV wq_61 wq_23 wq_24 wq_20 wq_21) rfl rfl rfl (by decide +kernel) ⟨(Nat.le_of_ble_eq_true rfl), (Nat.le_of_ble_eq_true rfl)⟩) rfl rfl (kEs_call hE hS hF) rfl rfl (Nat.le_of_ble_eq_true rfl) dX4_says_28 hP hD hz) rfl (by decide) ?_
      refine k_istore_n C (lv' := [(3, .int x4), (0, .ref a_this), (1, .int v1), (2, .int v2)]) dX4_says_31 rfl (by decide) rfl ?_
      refine k_iload_n C dX4_says_32 0 rfl rfl ?_
      refine k_iconst C (v := (-1 : Int32)) dX4_says_33 (by decide) ?_
      refine k_icmp_ne C (tgt := 44) dX4_says_34 (by decide) (fun c_34 => ?_) (fun c_34 => ?_)
      · have h := ifF c_34 h
        refine k_iload_n C dX4_says_44 0 rfl rfl ?_
        refine k_bipush C (v := (10 : Int32)) dX4_says_45 (by decide) ?_
        refine k_isub C dX4_says_47 ?_
        refine k_istore C (lv' := [(4, .int (x4 - (10 : Int32))), (3, .int x4), (0, .ref a_this), (1, .int v1), (2, .int v2)]) dX4_says_48 (by decide) rfl ?_
        refine k_aload_n C dX4_says_50 2 rfl rfl ?_
        refine k_iload C dX4_says_51 0 rfl ?_
        obtain ⟨x5, hx5, h⟩ := bindE h
        refine kcallR_i C (wc := (cells_M_isFeet cI cL cZ a_this a_now a_kept a_trial a_shelves a_tape a_paths a_sounds a_volumes a_refusals a_now_stones a_now_kinds a_now_weights a_now_chances c_isKept c_now_width c_now_rain c_now_ear c_now_walkers c_now_seed)) (r := x5) [0, 1] (fun H locs ls hP hD hS hF hz => krunV C (q0 := 0) (ci := 4) (c_M_isFeet l D cI cL cZ H.size a_this a_now a_kept a_trial a_shelves a_tape a_paths a_sounds a_volumes a_refusals a_now_stones a_now_kinds a_now_weights a_now_chances (x4 - (10 : Int32)) c_isKept c_now_width c_now_rain c_now_ear c_now_walkers c_now_seed x5 hx5) (cwV 1 C.2.2.2.2.1 (gV wq_78 wq_79 wq_80 wq_3 wq_77) rfl rfl rfl (by decide +kernel) ⟨(Nat.le_of_ble_eq_true rfl), (Nat.le_of_ble_eq_true rfl)⟩) rfl rfl kEnv_T rfl rfl (Nat.le_of_ble_eq_true rfl) dX4_says_53 hP hD hz) rfl (by decide) ?_
        refine k_if_eq C (tgt := 75) dX4_says_56 (by decide) (fun c_56 => ?_) (fun c_56 => ?_)
        · have h := ifT c_56 h
          refine k_lv (lv' := [(0, .ref a_this)]) [2] rfl ?_
          exact s_M_says_j75 C hE h
        · have h := ifF c_56 h
          refine k_aload_n C dX4_says_59 2 rfl rfl ?_
          refine k_get C (C0 := RX4) (T := TX4) (N := 10) (fun w h => List.mem_cons_of_mem _ (us_M w h)) 0 rfl rfl 0 (by decide) (List.mem_cons_of_mem _ wq_67) rfl rfl dX4_says_60 ?_
          refine k_iload C dX4_says_63 0 rfl ?_
          obtain ⟨x7, hx7, h⟩ := bindE h
          refine kcallR_i C (wc := (cells_D_kindOf cI cL cZ a_now a_now_stones a_now_kinds a_now_weights a_now_chances c_now_width c_now_rain c_now_ear c_now_walkers c_now_seed c_now_kinds)) (r := x7) [1, 3] (fun H locs ls hP hD hS hF hz => krunV C (q0 := 0) (ci := 0) (c_D_kindOf l D cI cL cZ X H.size a_now a_now_stones a_now_kinds a_now_weights a_now_chances (x4 - (10 : Int32)) c_now_width c_now_rain c_now_ear c_now_walkers c_now_seed c_now_kinds x7 hx7) (cwV 1 C.2.2.2.2.1 (gV wq_113 wq_95 wq_96 wq_72 wq_93) rfl rfl rfl (by decide +kernel) ⟨(Nat.le_of_ble_eq_true rfl), (Nat.le_of_ble_eq_true rfl)⟩) rfl rfl (kEs_call hE hS hF) rfl rfl (Nat.le_of_ble_eq_true rfl) dX4_says_65 hP hD hz) rfl (by decide) ?_
          refine k_iload_n C dX4_says_68 4 rfl rfl ?_
          obtain ⟨x8, hx8, h⟩ := bindE h
          refine kcallE_i C (r := x8) (fun H locs ls hP hD hS hF hz => krunS C (c_M_isOfKind l D cI cL cZ X H.size x7 v2 x8 hx8) (va_cwS 2 C.2.2.2.2.1 (gS wq_115 wq_116 wq_3 wq_114) rfl rfl rfl (by decide +kernel) ⟨(Nat.le_of_ble_eq_true rfl), (Nat.le_of_ble_eq_true rfl)⟩) (kEs_call hE hS hF) rfl rfl (Nat.le_of_ble_eq_true rfl) dX4_says_69 hP hD hz) ?_
          refine k_if_ne C (tgt := 82) dX4_says_72 (by decide) (fun c_72 => ?_) (fun c_72 => ?_)
          · have h := ifF c_72 h
            refine k_iload_n C dX4_says_82 4 rfl rfl ?_
            refine k_if_ne C (tgt := 98) dX4_says_83 (by decide) (fun c_83 => ?_) (fun c_83 => ?_)
            · have h := ifF c_83 h
              refine k_aload_n C dX4_says_98 2 rfl rfl ?_
              refine k_get C (C0 := RX4) (T := TX4) (N := 10) (fun w h => List.mem_cons_of_mem _ (us_M w h)) 0 rfl rfl 0 (by decide) (List.mem_cons_of_mem _ wq_67) rfl rfl dX4_says_99 ?_
              refine k_iload C dX4_says_102 0 rfl ?_
              refine k_iconst C (v := (0 : Int32)) dX4_says_104 (by decide) ?_
              refine k_iconst C (v := (1 : Int32)) dX4_says_105 (by decide) ?_
              obtain ⟨x9, hx9, h⟩ := bindE h
              refine kcallR_i C (wc := (cells_D_stepAs cI cL cZ a_now a_now_stones a_now_kinds a_now_weights a_now_chances c_now_width c_now_rain c_now_ear c_now_walkers c_now_seed c_now_stones c_now_kinds c_now_weights)) (r := x9) [1, 2, 3, 4] (fun H locs ls hP hD hS hF hz => krunV C (q0 := 0) (ci := 0) (c_D_stepAs l D cI cL cZ X H.size a_now a_now_stones a_now_kinds a_now_weights a_now_chances (x4 - (10 : Int32)) (0 : Int32) (1 : Int32) c_now_width c_now_rain c_now_ear c_now_walkers c_now_seed c_now_stones c_now_kinds c_now_weights x9 hx9) (cwV 3 C.2.2.2.2.1 (gV wq_118 wq_119 wq_120 wq_72 wq_117) rfl rfl rfl (by decide +kernel) ⟨(Nat.le_of_ble_eq_true rfl), (Nat.le_of_ble_eq_true rfl)⟩) rfl rfl (kEs_call hE hS hF) rfl rfl (Nat.le_of_ble_eq_true rfl) dX4_says_106 hP hD hz) rfl (by decide) ?_
              obtain rfl := Option.some.inj h
              exact kret_i C rfl dX4_says_109
            · have h := ifT c_83 h
              refine k_aload_n C dX4_says_86 2 rfl rfl ?_
              refine k_get C (C0 := RX4) (T := TX4) (N := 10) (fun w h => List.mem_cons_of_mem _ (us_M w h)) 0 rfl rfl 0 (by decide) (List.mem_cons_of_mem _ wq_67) rfl rfl dX4_says_87 ?_
              refine k_iload C dX4_says_90 0 rfl ?_
              obtain ⟨x10, hx10, h⟩ := bindE h
              refine kcallR_i C (wc := (cells_D_chanceOf cI cL cZ a_now a_now_stones a_now_kinds a_now_weights a_now_chances c_now_width c_now_rain c_now_ear c_now_walkers c_now_seed c_now_chances)) (r := x10) [1, 5] (fun H locs ls hP hD hS hF hz => krunV C (q0 := 0) (ci := 0) (c_D_chanceOf l D cI cL cZ X H.size a_now a_now_stones a_now_kinds a_now_weights a_now_chances (x4 - (10 : Int32)) c_now_width c_now_rain c_now_ear c_now_walkers c_now_seed c_now_chances x10 hx10) (cwV 1 C.2.2.2.2.1 (gV wq_122 wq_123 wq_124 wq_72 wq_121) rfl rfl rfl (by decide +kernel) ⟨(Nat.le_of_ble_eq_true rfl), (Nat.le_of_ble_eq_true rfl)⟩) rfl rfl (kEs_call hE hS hF) rfl rfl (Nat.le_of_ble_eq_true rfl) dX4_says_92 hP hD hz) rfl (by decide) ?_
              refine k_goto C (tgt := 109) dX4_says_95 (by decide) ?_
              obtain rfl := Option.some.inj h
              exact kret_i C rfl dX4_says_109
          · have h := ifT c_72 h
            refine k_lv (lv' := [(0, .ref a_this)]) [2] rfl ?_
            exact s_M_says_j75 C hE h
      · have h := ifT c_34 h
        refine k_aload_n C dX4_says_37 1 rfl rfl ?_
        refine k_bipush C (v := (-4 : Int32)) dX4_says_38 (by decide) ?_
        obtain ⟨x11, hx11, h⟩ := bindE h
        refine kcallU_i C (wc := (cells_M_refuse cI cL cZ a_this a_now a_kept a_trial a_shelves a_tape a_paths a_sounds a_volumes a_refusals c_isKept c_refusals)) (w1 := (cells_M_refuse cI cL cZ a_this a_now a_kept a_trial a_shelves a_tape a_paths a_sounds a_volumes a_refusals c_isKept x11.2)) (ws' := (cells_M_says cI cL cZ a_this a_now a_kept a_trial a_shelves a_tape a_paths a_sounds a_volumes a_refusals a_now_stones a_now_kinds a_now_weights a_now_chances a_shelves_marks a_shelves_sizes a_shelves_elements c_isKept c_now_width c_now_rain c_now_ear c_now_walkers c_now_seed c_now_stones c_now_kinds c_now_weights c_now_chances c_shelves_marks x11.2)) (r := x11.1) [0, 8] (fun H locs ls hP hD hS hF hz => krunV C (q0 := 0) (ci := 4) (c_M_refuse l D cI cL cZ H.size a_this a_now a_kept a_trial a_shelves a_tape a_paths a_sounds a_volumes a_refusals (-4 : Int32) c_isKept c_refusals x11 hx11) (cwV 1 C.2.2.2.2.1 (gV wq_12 wq_13 wq_14 wq_3 wq_11) rfl rfl rfl (by decide +kernel) ⟨(Nat.le_of_ble_eq_true rfl), (Nat.le_of_ble_eq_true rfl)⟩) rfl rfl kEnv_T rfl rfl (Nat.le_of_ble_eq_true rfl) dX4_says_40 hP hD hz) rfl (by decide) rfl rfl ?_
        obtain rfl := Option.some.inj h
        exact kret_i C rfl dX4_says_43
    · have h := ifT c_13 h
      refine k_lv (lv' := [(0, .ref a_this)]) [0] rfl ?_
      exact s_M_says_j16 C hE h
theorem c_M_says (l : Launch) (D : va_G) (cI : ClassId) (cL : ClassId) (cZ : ClassId) (X : kX) (sz : Nat) (a_this : Nat) (a_now : Nat) (a_kept : Nat) (a_trial : Nat) (a_shelves : Nat) (a_tape : Nat) (a_paths : Nat) (a_sounds : Nat) (a_volumes : Nat) (a_refusals : Nat) (a_now_stones : Nat) (a_now_kinds : Nat) (a_now_weights : Nat) (a_now_chances : Nat) (a_shelves_marks : Nat) (a_shelves_sizes : Nat) (a_shelves_elements : Nat) (v1 : Int32) (v2 : Int32) (c_isKept : Int32) (c_now_width : Int32) (c_now_rain : Int32) (c_now_ear : Int32) (c_now_walkers : Int32) (c_now_seed : Int32) (c_now_stones : (Nat → Int32)) (c_now_kinds : (Nat → Int32)) (c_now_weights : (Nat → Int32)) (c_now_chances : (Nat → Int32)) (c_shelves_marks : (Nat → Int32)) (c_refusals : (Nat → Int32)) (x : (Int32 × (Nat → Int32))) (h : f_M_says v1 v2 c_now_rain c_now_walkers c_now_stones c_now_kinds c_now_weights c_now_chances c_shelves_marks c_refusals = some x) :
    Met l yX4_says (Cond.code yX4_says cX4_says 5 (some .int) :: WS) rm_M_says (kP D (tyG cI cL cZ) (kEs X (va_A (cells_M_says cI cL cZ a_this a_now a_kept a_trial a_shelves a_tape a_paths a_sounds a_volumes a_refusals a_now_stones a_now_kinds a_now_weights a_now_chances a_shelves_marks a_shelves_sizes a_shelves_elements c_isKept c_now_width c_now_rain c_now_ear c_now_walkers c_now_seed c_now_stones c_now_kinds c_now_weights c_now_chances c_shelves_marks c_refusals) sz)) [.ref a_this, .int v1, .int v2] sz (cells_M_says cI cL cZ a_this a_now a_kept a_trial a_shelves a_tape a_paths a_sounds a_volumes a_refusals a_now_stones a_now_kinds a_now_weights a_now_chances a_shelves_marks a_shelves_sizes a_shelves_elements c_isKept c_now_width c_now_rain c_now_ear c_now_walkers c_now_seed c_now_stones c_now_kinds c_now_weights c_now_chances c_shelves_marks c_refusals)) (kQi D (va_A (cells_M_says cI cL cZ a_this a_now a_kept a_trial a_shelves a_tape a_paths a_sounds a_volumes a_refusals a_now_stones a_now_kinds a_now_weights a_now_chances a_shelves_marks a_shelves_sizes a_shelves_elements c_isKept c_now_width c_now_rain c_now_ear c_now_walkers c_now_seed c_now_stones c_now_kinds c_now_weights c_now_chances c_shelves_marks c_refusals) sz) (cells_M_says cI cL cZ a_this a_now a_kept a_trial a_shelves a_tape a_paths a_sounds a_volumes a_refusals a_now_stones a_now_kinds a_now_weights a_now_chances a_shelves_marks a_shelves_sizes a_shelves_elements c_isKept c_now_width c_now_rain c_now_ear c_now_walkers c_now_seed c_now_stones c_now_kinds c_now_weights c_now_chances c_shelves_marks x.2) x.1) 0 0 (va_A (cells_M_says cI cL cZ a_this a_now a_kept a_trial a_shelves a_tape a_paths a_sounds a_volumes a_refusals a_now_stones a_now_kinds a_now_weights a_now_chances a_shelves_marks a_shelves_sizes a_shelves_elements c_isKept c_now_width c_now_rain c_now_ear c_now_walkers c_now_seed c_now_stones c_now_kinds c_now_weights c_now_chances c_shelves_marks c_refusals) sz) :=
  kmet (by decide) (Nat.le_of_ble_eq_true rfl) rfl (fun p e s m below meth c C hE => s_M_says C hE h)
abbrev cells_D_layOut (cI : ClassId) (cL : ClassId) (cZ : ClassId) (a_this : Nat) (a_stones : Nat) (a_kinds : Nat) (a_weights : Nat) (a_chances : Nat) (c_width : Int32) (c_rain : Int32) (c_ear : Int32) (c_walkers : Int32) (c_seed : Int32) (c_stones : (Nat → Int32)) : va_W := [(a_this, .inr (0, [.ref a_stones, .ref a_kinds, .ref a_weights, .ref a_chances, .int c_width, .int c_rain, .int c_ear, .int c_walkers, .int c_seed])), (a_stones, .inl (cI, 36, .inl c_stones))]
abbrev rm_D_layOut : Room := { frames := 0, cells := 0, slots := 0, locals := 0 }
set_option maxRecDepth 100000 in
set_option maxHeartbeats 4000000 in
theorem s_D_layOut_b7 (C : kC p l e rm_D_layOut s m args below meth c D (tyG cI cL cZ) A 3 cX0_layOut yX0_layOut.cls (Cond.code yX0_layOut cX0_layOut 3 none :: WS) none) {a_this : Nat} {a_stones : Nat} {a_kinds : Nat} {a_weights : Nat} {a_chances : Nat} {v2 : Int32} {c_width : Int32} {c_rain : Int32} {c_ear : Int32} {c_walkers : Int32} {c_seed : Int32} {c_stones : (Nat → Int32)} {x : ((Int32 × (Nat → Int32)) ⊕ (Nat → Int32))} (h : f_D_layOut_b7 v2 c_stones = some x)
    (kc : ∀ s', x = .inl s' → kW p l e rm_D_layOut s m args below meth c D A 3 (cells_D_layOut cI cL cZ a_this a_stones a_kinds a_weights a_chances c_width c_rain c_ear c_walkers c_seed s'.2) [(0, .ref a_this), (2, .int s'.1)] Q 7 [])
    (k0 : ∀ r, x = .inr r → kW p l e rm_D_layOut s m args below meth c D A 3 (cells_D_layOut cI cL cZ a_this a_stones a_kinds a_weights a_chances c_width c_rain c_ear c_walkers c_seed r) [] Q 26 []) :
    kW p l e rm_D_layOut s m args below meth c D A 3 (cells_D_layOut cI cL cZ a_this a_stones a_kinds a_weights a_chances c_width c_rain c_ear c_walkers c_seed c_stones) [(0, .ref a_this), (2, .int v2)] Q 7 [] := by
  unfold f_D_layOut_b7 at h
  refine k_iload_n C dX0_layOut_7 1 rfl rfl ?_
  refine k_bipush C (v := (36 : Int32)) dX0_layOut_8 (by decide) ?_
  refine k_icmp_ge C (tgt := 26) dX0_layOut_10 (by decide) (fun c_10 => ?_) (fun c_10 => ?_)
  · have h := ifT c_10 h
    refine k_lv (lv' := []) [] rfl ?_
    exact k0 _ (Option.some.inj h).symm
  · have h := ifF c_10 h
    refine k_aload_n C dX0_layOut_13 0 rfl rfl ?_
    refine k_get C (C0 := RX0) (T := TX0) (N := 9) (fun w h => List.mem_cons_of_mem _ (us_D w h)) 0 rfl rfl 0 (by decide) (List.mem_cons_of_mem _ wq_85) rfl rfl dX0_layOut_14 ?_
    refine k_iload_n C dX0_layOut_17 1 rfl rfl ?_
    refine k_iconst C (v := (3 : Int32)) dX0_layOut_18 (by decide) ?_
    obtain ⟨x1, hx1, h⟩ := bindE h
    refine k_iast C 1 0 (ws' := (cells_D_layOut cI cL cZ a_this a_stones a_kinds a_weights a_chances c_width c_rain c_ear c_walkers c_seed x1)) rfl rfl hx1 rfl dX0_layOut_19 ?_
    refine k_iinc C (v := (v2 + (1 : Int32))) (lv' := [(2, .int (v2 + (1 : Int32))), (0, .ref a_this)]) dX0_layOut_20 1 rfl rfl (by decide) rfl ?_
    refine k_goto C (tgt := 7) dX0_layOut_23 (by decide) ?_
    refine k_lv (lv' := [(0, .ref a_this), (2, .int (v2 + (1 : Int32)))]) [1, 0] rfl ?_
    exact kc _ (Option.some.inj h).symm
set_option maxRecDepth 100000 in
set_option maxHeartbeats 4000000 in
theorem s_D_layOut_l7 (C : kC p l e rm_D_layOut s m args below meth c D (tyG cI cL cZ) A 3 cX0_layOut yX0_layOut.cls (Cond.code yX0_layOut cX0_layOut 3 none :: WS) none) {a_this : Nat} {a_stones : Nat} {a_kinds : Nat} {a_weights : Nat} {a_chances : Nat} {v2 : Int32} {c_width : Int32} {c_rain : Int32} {c_ear : Int32} {c_walkers : Int32} {c_seed : Int32} {c_stones : (Nat → Int32)} {x : (Nat → Int32)} (h : f_D_layOut_l7 v2 c_stones = some x)
    (k0 : kW p l e rm_D_layOut s m args below meth c D A 3 (cells_D_layOut cI cL cZ a_this a_stones a_kinds a_weights a_chances c_width c_rain c_ear c_walkers c_seed x) [] Q 26 []) :
    kW p l e rm_D_layOut s m args below meth c D A 3 (cells_D_layOut cI cL cZ a_this a_stones a_kinds a_weights a_chances c_width c_rain c_ear c_walkers c_seed c_stones) [(0, .ref a_this), (2, .int v2)] Q 7 [] := by
  unfold f_D_layOut_l7 at h
  exact iter_W (body := fun s => f_D_layOut_b7 s.1 s.2) (r := x) (T := fun sg => kW p l e rm_D_layOut s m args below meth c D A 3 (cells_D_layOut cI cL cZ a_this a_stones a_kinds a_weights a_chances c_width c_rain c_ear c_walkers c_seed sg.2) [(0, .ref a_this), (2, .int sg.1)] Q 7 []) (fun sg y hy hc _ hr => s_D_layOut_b7 C (v2 := sg.1) (c_width := c_width) (c_rain := c_rain) (c_ear := c_ear) (c_walkers := c_walkers) (c_seed := c_seed) (c_stones := sg.2) (x := y) hy hc (fun r e => by rw [hr r e]; exact k0)) FUEL (v2, c_stones) h
set_option maxRecDepth 100000 in
set_option maxHeartbeats 4000000 in
theorem s_D_layOut (C : kC p l e rm_D_layOut s m args below meth c D (tyG cI cL cZ) A 3 cX0_layOut yX0_layOut.cls (Cond.code yX0_layOut cX0_layOut 3 none :: WS) none) {a_this : Nat} {a_stones : Nat} {a_kinds : Nat} {a_weights : Nat} {a_chances : Nat} {v1 : Int32} {c_width : Int32} {c_rain : Int32} {c_ear : Int32} {c_walkers : Int32} {c_seed : Int32} {c_stones : (Nat → Int32)} {x : (Int32 × (Nat → Int32))} (h : f_D_layOut v1 c_width c_stones = some x) :
    kW p l e rm_D_layOut s m args below meth c D A 3 (cells_D_layOut cI cL cZ a_this a_stones a_kinds a_weights a_chances c_width c_rain c_ear c_walkers c_seed c_stones) [(0, .ref a_this), (1, .int v1)] (MQ below (kQv D A (cells_D_layOut cI cL cZ a_this a_stones a_kinds a_weights a_chances x.1 c_rain c_ear c_walkers c_seed x.2)) args s 0 0 A) 0 [] := by
  unfold f_D_layOut at h
  refine k_aload_n C dX0_layOut_0 0 rfl rfl ?_
  refine k_iload_n C dX0_layOut_1 1 rfl rfl ?_
  refine k_put C (C0 := RX0) (T := TX0) (N := 9) (ws' := (cells_D_layOut cI cL cZ a_this a_stones a_kinds a_weights a_chances v1 c_rain c_ear c_walkers c_seed c_stones)) (fun w h => List.mem_cons_of_mem _ (us_D w h)) tyX0 tyX0_ok nmX0 0 rfl rfl 4 (by decide) (List.mem_cons_of_mem _ wq_125) rfl rfl (tyX0_ok 4 (by decide)) rfl rfl (Nat.le_of_ble_eq_true rfl) rfl dX0_layOut_2 ?_
  refine k_iconst C (v := (0 : Int32)) dX0_layOut_5 (by decide) ?_
  refine k_istore_n C (lv' := [(2, .int (0 : Int32)), (0, .ref a_this), (1, .int v1)]) dX0_layOut_6 rfl (by decide) rfl ?_
  obtain ⟨x2, hx2, h⟩ := bindE h
  refine k_lv (lv' := [(0, .ref a_this), (2, .int (0 : Int32))]) [1, 0] rfl ?_
  refine s_D_layOut_l7 C hx2 ?_
  obtain rfl := Option.some.inj h
  exact kret_v C rfl dX0_layOut_26
theorem c_D_layOut (l : Launch) (D : va_G) (cI : ClassId) (cL : ClassId) (cZ : ClassId) (sz : Nat) (a_this : Nat) (a_stones : Nat) (a_kinds : Nat) (a_weights : Nat) (a_chances : Nat) (v1 : Int32) (c_width : Int32) (c_rain : Int32) (c_ear : Int32) (c_walkers : Int32) (c_seed : Int32) (c_stones : (Nat → Int32)) (x : (Int32 × (Nat → Int32))) (h : f_D_layOut v1 c_width c_stones = some x) :
    Met l yX0_layOut (Cond.code yX0_layOut cX0_layOut 3 none :: WS) rm_D_layOut (kP D (tyG cI cL cZ) kTrue [.ref a_this, .int v1] sz (cells_D_layOut cI cL cZ a_this a_stones a_kinds a_weights a_chances c_width c_rain c_ear c_walkers c_seed c_stones)) (kQv D (va_A (cells_D_layOut cI cL cZ a_this a_stones a_kinds a_weights a_chances c_width c_rain c_ear c_walkers c_seed c_stones) sz) (cells_D_layOut cI cL cZ a_this a_stones a_kinds a_weights a_chances x.1 c_rain c_ear c_walkers c_seed x.2)) 0 0 (va_A (cells_D_layOut cI cL cZ a_this a_stones a_kinds a_weights a_chances c_width c_rain c_ear c_walkers c_seed c_stones) sz) :=
  kmet (by decide) (Nat.le_of_ble_eq_true rfl) rfl (fun p e s m below meth c C hE => s_D_layOut C h)
abbrev cells_M_side (cI : ClassId) (cL : ClassId) (cZ : ClassId) (a_this : Nat) (a_now : Nat) (a_kept : Nat) (a_trial : Nat) (a_shelves : Nat) (a_tape : Nat) (a_paths : Nat) (a_sounds : Nat) (a_volumes : Nat) (a_refusals : Nat) (a_now_stones : Nat) (a_now_kinds : Nat) (a_now_weights : Nat) (a_now_chances : Nat) (c_isKept : Int32) (c_now_width : Int32) (c_now_rain : Int32) (c_now_ear : Int32) (c_now_walkers : Int32) (c_now_seed : Int32) (c_now_stones : (Nat → Int32)) (c_refusals : (Nat → Int32)) : va_W := [(a_this, .inr (4, [.ref a_now, .ref a_kept, .ref a_trial, .ref a_shelves, .ref a_tape, .ref a_paths, .ref a_sounds, .ref a_volumes, .ref a_refusals, .int c_isKept])), (a_now, .inr (0, [.ref a_now_stones, .ref a_now_kinds, .ref a_now_weights, .ref a_now_chances, .int c_now_width, .int c_now_rain, .int c_now_ear, .int c_now_walkers, .int c_now_seed])), (a_now_stones, .inl (cI, 36, .inl c_now_stones)), (a_refusals, .inl (cI, 5, .inl c_refusals))]
abbrev rm_M_side : Room := { frames := 2, cells := 0, slots := 0, locals := 44 }
set_option maxRecDepth 100000 in
set_option maxHeartbeats 4000000 in
theorem s_M_side (C : kC p l e rm_M_side s m args below meth c D (tyG cI cL cZ) A 3 cX4_side yX4_side.cls (Cond.code yX4_side cX4_side 3 (some .int) :: WS) (some .int)) {a_this : Nat} {a_now : Nat} {a_kept : Nat} {a_trial : Nat} {a_shelves : Nat} {a_tape : Nat} {a_paths : Nat} {a_sounds : Nat} {a_volumes : Nat} {a_refusals : Nat} {a_now_stones : Nat} {a_now_kinds : Nat} {a_now_weights : Nat} {a_now_chances : Nat} {v1 : Int32} {c_isKept : Int32} {c_now_width : Int32} {c_now_rain : Int32} {c_now_ear : Int32} {c_now_walkers : Int32} {c_now_seed : Int32} {c_now_stones : (Nat → Int32)} {c_refusals : (Nat → Int32)} {x : (Int32 × Int32 × (Nat → Int32) × (Nat → Int32))} (h : f_M_side v1 c_now_width c_now_stones c_refusals = some x) :
    kW p l e rm_M_side s m args below meth c D A 3 (cells_M_side cI cL cZ a_this a_now a_kept a_trial a_shelves a_tape a_paths a_sounds a_volumes a_refusals a_now_stones a_now_kinds a_now_weights a_now_chances c_isKept c_now_width c_now_rain c_now_ear c_now_walkers c_now_seed c_now_stones c_refusals) [(0, .ref a_this), (1, .int v1)] (MQ below (kQi D A (cells_M_side cI cL cZ a_this a_now a_kept a_trial a_shelves a_tape a_paths a_sounds a_volumes a_refusals a_now_stones a_now_kinds a_now_weights a_now_chances c_isKept x.2.1 c_now_rain c_now_ear c_now_walkers c_now_seed x.2.2.1 x.2.2.2) x.1) args s 0 0 A) 0 [] := by
  unfold f_M_side at h
  refine k_iload_n C dX4_side_0 1 rfl rfl ?_
  refine k_iconst C (v := (2 : Int32)) dX4_side_1 (by decide) ?_
  refine k_bipush C (v := (6 : Int32)) dX4_side_2 (by decide) ?_
  obtain ⟨x1, hx1, h⟩ := bindE h
  refine kcallE_i C (r := x1) (fun H locs ls hP hD hS hF hz => krunS C (c_M_isWithin l D cI cL cZ H.size v1 (2 : Int32) (6 : Int32) x1 hx1) (va_cwS 3 C.2.2.2.2.1 (gS wq_1 wq_2 wq_3 wq_0) rfl rfl rfl (by decide +kernel) ⟨(Nat.le_of_ble_eq_true rfl), (Nat.le_of_ble_eq_true rfl)⟩) kEnv_T rfl rfl (Nat.le_of_ble_eq_true rfl) dX4_side_4 hP hD hz) ?_
  refine k_if_ne C (tgt := 17) dX4_side_7 (by decide) (fun c_7 => ?_) (fun c_7 => ?_)
  · have h := ifF c_7 h
    refine k_aload_n C dX4_side_17 0 rfl rfl ?_
    refine k_get C (C0 := RX4) (T := TX4) (N := 10) (fun w h => List.mem_cons_of_mem _ (us_M w h)) 0 rfl rfl 0 (by decide) (List.mem_cons_of_mem _ wq_67) rfl rfl dX4_side_18 ?_
    refine k_get C (C0 := RX0) (T := TX0) (N := 9) (fun w h => List.mem_cons_of_mem _ (us_D w h)) 1 rfl rfl 4 (by decide) (List.mem_cons_of_mem _ wq_126) rfl rfl dX4_side_21 ?_
    refine k_istore_n C (lv' := [(2, .int c_now_width), (0, .ref a_this), (1, .int v1)]) dX4_side_24 rfl (by decide) rfl ?_
    refine k_aload_n C dX4_side_25 1 rfl rfl ?_
    refine k_get C (C0 := RX4) (T := TX4) (N := 10) (fun w h => List.mem_cons_of_mem _ (us_M w h)) 0 rfl rfl 0 (by decide) (List.mem_cons_of_mem _ wq_67) rfl rfl dX4_side_26 ?_
    refine k_iload_n C dX4_side_29 2 rfl rfl ?_
    obtain ⟨x2, hx2, h⟩ := bindE h
    refine kcallU_v C (wc := (cells_D_layOut cI cL cZ a_now a_now_stones a_now_kinds a_now_weights a_now_chances c_now_width c_now_rain c_now_ear c_now_walkers c_now_seed c_now_stones)) (w1 := (cells_D_layOut cI cL cZ a_now a_now_stones a_now_kinds a_now_weights a_now_chances x2.1 c_now_rain c_now_ear c_now_walkers c_now_seed x2.2)) (ws' := (cells_M_side cI cL cZ a_this a_now a_kept a_trial a_shelves a_tape a_paths a_sounds a_volumes a_refusals a_now_stones a_now_kinds a_now_weights a_now_chances c_isKept x2.1 c_now_rain c_now_ear c_now_walkers c_now_seed x2.2 c_refusals)) [1, 2] (fun H locs ls hP hD hS hF hz => krunV C (q0 := 0) (ci := 0) (c_D_layOut l D cI cL cZ H.size a_now a_now_stones a_now_kinds a_now_weights a_now_chances v1 c_now_width c_now_rain c_now_ear c_now_walkers c_now_seed c_now_stones x2 hx2) (cwV 1 C.2.2.2.2.1 (gV wq_128 wq_129 wq_130 wq_72 wq_127) rfl rfl rfl (by decide +kernel) ⟨(Nat.le_of_ble_eq_true rfl), (Nat.le_of_ble_eq_true rfl)⟩) rfl rfl kEnv_T rfl rfl (Nat.le_of_ble_eq_true rfl) dX4_side_30 hP hD hz) rfl (by decide) rfl rfl ?_
    refine k_iload_n C dX4_side_33 0 rfl rfl ?_
    obtain rfl := Option.some.inj h
    exact kret_i C rfl dX4_side_34
  · have h := ifT c_7 h
    refine k_aload_n C dX4_side_10 0 rfl rfl ?_
    refine k_bipush C (v := (-2 : Int32)) dX4_side_11 (by decide) ?_
    obtain ⟨x3, hx3, h⟩ := bindE h
    refine kcallU_i C (wc := (cells_M_refuse cI cL cZ a_this a_now a_kept a_trial a_shelves a_tape a_paths a_sounds a_volumes a_refusals c_isKept c_refusals)) (w1 := (cells_M_refuse cI cL cZ a_this a_now a_kept a_trial a_shelves a_tape a_paths a_sounds a_volumes a_refusals c_isKept x3.2)) (ws' := (cells_M_side cI cL cZ a_this a_now a_kept a_trial a_shelves a_tape a_paths a_sounds a_volumes a_refusals a_now_stones a_now_kinds a_now_weights a_now_chances c_isKept c_now_width c_now_rain c_now_ear c_now_walkers c_now_seed c_now_stones x3.2)) (r := x3.1) [0, 3] (fun H locs ls hP hD hS hF hz => krunV C (q0 := 0) (ci := 4) (c_M_refuse l D cI cL cZ H.size a_this a_now a_kept a_trial a_shelves a_tape a_paths a_sounds a_volumes a_refusals (-2 : Int32) c_isKept c_refusals x3 hx3) (cwV 1 C.2.2.2.2.1 (gV wq_12 wq_13 wq_14 wq_3 wq_11) rfl rfl rfl (by decide +kernel) ⟨(Nat.le_of_ble_eq_true rfl), (Nat.le_of_ble_eq_true rfl)⟩) rfl rfl kEnv_T rfl rfl (Nat.le_of_ble_eq_true rfl) dX4_side_13 hP hD hz) rfl (by decide) rfl rfl ?_
    obtain rfl := Option.some.inj h
    exact kret_i C rfl dX4_side_16
theorem c_M_side (l : Launch) (D : va_G) (cI : ClassId) (cL : ClassId) (cZ : ClassId) (sz : Nat) (a_this : Nat) (a_now : Nat) (a_kept : Nat) (a_trial : Nat) (a_shelves : Nat) (a_tape : Nat) (a_paths : Nat) (a_sounds : Nat) (a_volumes : Nat) (a_refusals : Nat) (a_now_stones : Nat) (a_now_kinds : Nat) (a_now_weights : Nat) (a_now_chances : Nat) (v1 : Int32) (c_isKept : Int32) (c_now_width : Int32) (c_now_rain : Int32) (c_now_ear : Int32) (c_now_walkers : Int32) (c_now_seed : Int32) (c_now_stones : (Nat → Int32)) (c_refusals : (Nat → Int32)) (x : (Int32 × Int32 × (Nat → Int32) × (Nat → Int32))) (h : f_M_side v1 c_now_width c_now_stones c_refusals = some x) :
    Met l yX4_side (Cond.code yX4_side cX4_side 3 (some .int) :: WS) rm_M_side (kP D (tyG cI cL cZ) kTrue [.ref a_this, .int v1] sz (cells_M_side cI cL cZ a_this a_now a_kept a_trial a_shelves a_tape a_paths a_sounds a_volumes a_refusals a_now_stones a_now_kinds a_now_weights a_now_chances c_isKept c_now_width c_now_rain c_now_ear c_now_walkers c_now_seed c_now_stones c_refusals)) (kQi D (va_A (cells_M_side cI cL cZ a_this a_now a_kept a_trial a_shelves a_tape a_paths a_sounds a_volumes a_refusals a_now_stones a_now_kinds a_now_weights a_now_chances c_isKept c_now_width c_now_rain c_now_ear c_now_walkers c_now_seed c_now_stones c_refusals) sz) (cells_M_side cI cL cZ a_this a_now a_kept a_trial a_shelves a_tape a_paths a_sounds a_volumes a_refusals a_now_stones a_now_kinds a_now_weights a_now_chances c_isKept x.2.1 c_now_rain c_now_ear c_now_walkers c_now_seed x.2.2.1 x.2.2.2) x.1) 0 0 (va_A (cells_M_side cI cL cZ a_this a_now a_kept a_trial a_shelves a_tape a_paths a_sounds a_volumes a_refusals a_now_stones a_now_kinds a_now_weights a_now_chances c_isKept c_now_width c_now_rain c_now_ear c_now_walkers c_now_seed c_now_stones c_refusals) sz) :=
  kmet (by decide) (Nat.le_of_ble_eq_true rfl) rfl (fun p e s m below meth c C hE => s_M_side C h)
abbrev cells_D_cells (cI : ClassId) (cL : ClassId) (cZ : ClassId) (a_this : Nat) (a_stones : Nat) (a_kinds : Nat) (a_weights : Nat) (a_chances : Nat) (c_width : Int32) (c_rain : Int32) (c_ear : Int32) (c_walkers : Int32) (c_seed : Int32) : va_W := [(a_this, .inr (0, [.ref a_stones, .ref a_kinds, .ref a_weights, .ref a_chances, .int c_width, .int c_rain, .int c_ear, .int c_walkers, .int c_seed]))]
abbrev rm_D_cells : Room := { frames := 1, cells := 0, slots := 0, locals := 32 }
set_option maxRecDepth 100000 in
set_option maxHeartbeats 4000000 in
theorem s_D_cells (C : kC p l e rm_D_cells s m args below meth c D (tyG cI cL cZ) A 1 cX0_cells yX0_cells.cls (Cond.code yX0_cells cX0_cells 1 (some .int) :: WS) (some .int)) {a_this : Nat} {a_stones : Nat} {a_kinds : Nat} {a_weights : Nat} {a_chances : Nat} {c_width : Int32} {c_rain : Int32} {c_ear : Int32} {c_walkers : Int32} {c_seed : Int32} {x : Int32} (h : f_D_cells c_width = some x) :
    kW p l e rm_D_cells s m args below meth c D A 1 (cells_D_cells cI cL cZ a_this a_stones a_kinds a_weights a_chances c_width c_rain c_ear c_walkers c_seed) [(0, .ref a_this)] (MQ below (kQi D A (cells_D_cells cI cL cZ a_this a_stones a_kinds a_weights a_chances c_width c_rain c_ear c_walkers c_seed) x) args s 0 0 A) 0 [] := by
  unfold f_D_cells at h
  refine k_aload_n C dX0_cells_0 0 rfl rfl ?_
  refine k_get C (C0 := RX0) (T := TX0) (N := 9) (fun w h => List.mem_cons_of_mem _ (us_D w h)) 0 rfl rfl 4 (by decide) (List.mem_cons_of_mem _ wq_125) rfl rfl dX0_cells_1 ?_
  refine k_aload_n C dX0_cells_4 0 rfl rfl ?_
  refine k_get C (C0 := RX0) (T := TX0) (N := 9) (fun w h => List.mem_cons_of_mem _ (us_D w h)) 0 rfl rfl 4 (by decide) (List.mem_cons_of_mem _ wq_125) rfl rfl dX0_cells_5 ?_
  refine k_imul C dX0_cells_8 ?_
  refine k_bipush C (v := (36 : Int32)) dX0_cells_9 (by decide) ?_
  refine k_mmin C (List.mem_cons_of_mem _ wq_63) (List.mem_cons_of_mem _ wq_64) (List.mem_cons_of_mem _ wq_65) (List.mem_cons_of_mem _ wq_66) (Nat.le_of_ble_eq_true rfl) (Nat.le_of_ble_eq_true rfl) dX0_cells_11 ?_
  obtain rfl := Option.some.inj h
  exact kret_i C rfl dX0_cells_14
theorem c_D_cells (l : Launch) (D : va_G) (cI : ClassId) (cL : ClassId) (cZ : ClassId) (sz : Nat) (a_this : Nat) (a_stones : Nat) (a_kinds : Nat) (a_weights : Nat) (a_chances : Nat) (c_width : Int32) (c_rain : Int32) (c_ear : Int32) (c_walkers : Int32) (c_seed : Int32) (x : Int32) (h : f_D_cells c_width = some x) :
    Met l yX0_cells (Cond.code yX0_cells cX0_cells 1 (some .int) :: WS) rm_D_cells (kP D (tyG cI cL cZ) kTrue [.ref a_this] sz (cells_D_cells cI cL cZ a_this a_stones a_kinds a_weights a_chances c_width c_rain c_ear c_walkers c_seed)) (kQi D (va_A (cells_D_cells cI cL cZ a_this a_stones a_kinds a_weights a_chances c_width c_rain c_ear c_walkers c_seed) sz) (cells_D_cells cI cL cZ a_this a_stones a_kinds a_weights a_chances c_width c_rain c_ear c_walkers c_seed) x) 0 0 (va_A (cells_D_cells cI cL cZ a_this a_stones a_kinds a_weights a_chances c_width c_rain c_ear c_walkers c_seed) sz) :=
  kmet (by decide) (Nat.le_of_ble_eq_true rfl) rfl (fun p e s m below meth c C hE => s_D_cells C h)
abbrev cells_M_isCell (cI : ClassId) (cL : ClassId) (cZ : ClassId) (a_this : Nat) (a_now : Nat) (a_kept : Nat) (a_trial : Nat) (a_shelves : Nat) (a_tape : Nat) (a_paths : Nat) (a_sounds : Nat) (a_volumes : Nat) (a_refusals : Nat) (a_now_stones : Nat) (a_now_kinds : Nat) (a_now_weights : Nat) (a_now_chances : Nat) (c_isKept : Int32) (c_now_width : Int32) (c_now_rain : Int32) (c_now_ear : Int32) (c_now_walkers : Int32) (c_now_seed : Int32) : va_W := [(a_this, .inr (4, [.ref a_now, .ref a_kept, .ref a_trial, .ref a_shelves, .ref a_tape, .ref a_paths, .ref a_sounds, .ref a_volumes, .ref a_refusals, .int c_isKept])), (a_now, .inr (0, [.ref a_now_stones, .ref a_now_kinds, .ref a_now_weights, .ref a_now_chances, .int c_now_width, .int c_now_rain, .int c_now_ear, .int c_now_walkers, .int c_now_seed]))]
abbrev rm_M_isCell : Room := { frames := 2, cells := 0, slots := 0, locals := 52 }
set_option maxRecDepth 100000 in
set_option maxHeartbeats 4000000 in
theorem s_M_isCell (C : kC p l e rm_M_isCell s m args below meth c D (tyG cI cL cZ) A 2 cX4_isCell yX4_isCell.cls (Cond.code yX4_isCell cX4_isCell 2 (some .boolean) :: WS) (some .boolean)) {a_this : Nat} {a_now : Nat} {a_kept : Nat} {a_trial : Nat} {a_shelves : Nat} {a_tape : Nat} {a_paths : Nat} {a_sounds : Nat} {a_volumes : Nat} {a_refusals : Nat} {a_now_stones : Nat} {a_now_kinds : Nat} {a_now_weights : Nat} {a_now_chances : Nat} {v1 : Int32} {c_isKept : Int32} {c_now_width : Int32} {c_now_rain : Int32} {c_now_ear : Int32} {c_now_walkers : Int32} {c_now_seed : Int32} {x : Int32} (h : f_M_isCell v1 c_now_width = some x) :
    kW p l e rm_M_isCell s m args below meth c D A 2 (cells_M_isCell cI cL cZ a_this a_now a_kept a_trial a_shelves a_tape a_paths a_sounds a_volumes a_refusals a_now_stones a_now_kinds a_now_weights a_now_chances c_isKept c_now_width c_now_rain c_now_ear c_now_walkers c_now_seed) [(0, .ref a_this), (1, .int v1)] (MQ below (kQi D A (cells_M_isCell cI cL cZ a_this a_now a_kept a_trial a_shelves a_tape a_paths a_sounds a_volumes a_refusals a_now_stones a_now_kinds a_now_weights a_now_chances c_isKept c_now_width c_now_rain c_now_ear c_now_walkers c_now_seed) x) args s 0 0 A) 0 [] := by
  unfold f_M_isCell at h
  refine k_iload_n C dX4_isCell_0 1 rfl rfl ?_
  refine k_iconst C (v := (0 : Int32)) dX4_isCell_1 (by decide) ?_
  refine k_aload_n C dX4_isCell_2 0 rfl rfl ?_
  refine k_get C (C0 := RX4) (T := TX4) (N := 10) (fun w h => List.mem_cons_of_mem _ (us_M w h)) 0 rfl rfl 0 (by decide) (List.mem_cons_of_mem _ wq_67) rfl rfl dX4_isCell_3 ?_
  obtain ⟨x1, hx1, h⟩ := bindE h
  refine kcallR_i C (wc := (cells_D_cells cI cL cZ a_now a_now_stones a_now_kinds a_now_weights a_now_chances c_now_width c_now_rain c_now_ear c_now_walkers c_now_seed)) (r := x1) [1] (fun H locs ls hP hD hS hF hz => krunV C (q0 := 0) (ci := 0) (c_D_cells l D cI cL cZ H.size a_now a_now_stones a_now_kinds a_now_weights a_now_chances c_now_width c_now_rain c_now_ear c_now_walkers c_now_seed x1 hx1) (cwV 0 C.2.2.2.2.1 (gV wq_132 wq_133 wq_134 wq_72 wq_131) rfl rfl rfl (by decide +kernel) ⟨(Nat.le_of_ble_eq_true rfl), (Nat.le_of_ble_eq_true rfl)⟩) rfl rfl kEnv_T rfl rfl (Nat.le_of_ble_eq_true rfl) dX4_isCell_6 hP hD hz) rfl (by decide) ?_
  refine k_iconst C (v := (1 : Int32)) dX4_isCell_9 (by decide) ?_
  refine k_isub C dX4_isCell_10 ?_
  obtain ⟨x2, hx2, h⟩ := bindE h
  refine kcallE_i C (r := x2) (fun H locs ls hP hD hS hF hz => krunS C (c_M_isWithin l D cI cL cZ H.size v1 (0 : Int32) (x1 - (1 : Int32)) x2 hx2) (va_cwS 3 C.2.2.2.2.1 (gS wq_1 wq_2 wq_3 wq_0) rfl rfl rfl (by decide +kernel) ⟨(Nat.le_of_ble_eq_true rfl), (Nat.le_of_ble_eq_true rfl)⟩) kEnv_T rfl rfl (Nat.le_of_ble_eq_true rfl) dX4_isCell_11 hP hD hz) ?_
  obtain ⟨x3, hx3, h⟩ := bindE h
  obtain ⟨hz, rfl⟩ := zrE hx3
  obtain rfl := Option.some.inj h
  exact kret_z C rfl hz dX4_isCell_14
theorem c_M_isCell (l : Launch) (D : va_G) (cI : ClassId) (cL : ClassId) (cZ : ClassId) (sz : Nat) (a_this : Nat) (a_now : Nat) (a_kept : Nat) (a_trial : Nat) (a_shelves : Nat) (a_tape : Nat) (a_paths : Nat) (a_sounds : Nat) (a_volumes : Nat) (a_refusals : Nat) (a_now_stones : Nat) (a_now_kinds : Nat) (a_now_weights : Nat) (a_now_chances : Nat) (v1 : Int32) (c_isKept : Int32) (c_now_width : Int32) (c_now_rain : Int32) (c_now_ear : Int32) (c_now_walkers : Int32) (c_now_seed : Int32) (x : Int32) (h : f_M_isCell v1 c_now_width = some x) :
    Met l yX4_isCell (Cond.code yX4_isCell cX4_isCell 2 (some .boolean) :: WS) rm_M_isCell (kP D (tyG cI cL cZ) kTrue [.ref a_this, .int v1] sz (cells_M_isCell cI cL cZ a_this a_now a_kept a_trial a_shelves a_tape a_paths a_sounds a_volumes a_refusals a_now_stones a_now_kinds a_now_weights a_now_chances c_isKept c_now_width c_now_rain c_now_ear c_now_walkers c_now_seed)) (kQi D (va_A (cells_M_isCell cI cL cZ a_this a_now a_kept a_trial a_shelves a_tape a_paths a_sounds a_volumes a_refusals a_now_stones a_now_kinds a_now_weights a_now_chances c_isKept c_now_width c_now_rain c_now_ear c_now_walkers c_now_seed) sz) (cells_M_isCell cI cL cZ a_this a_now a_kept a_trial a_shelves a_tape a_paths a_sounds a_volumes a_refusals a_now_stones a_now_kinds a_now_weights a_now_chances c_isKept c_now_width c_now_rain c_now_ear c_now_walkers c_now_seed) x) 0 0 (va_A (cells_M_isCell cI cL cZ a_this a_now a_kept a_trial a_shelves a_tape a_paths a_sounds a_volumes a_refusals a_now_stones a_now_kinds a_now_weights a_now_chances c_isKept c_now_width c_now_rain c_now_ear c_now_walkers c_now_seed) sz) :=
  kmet (by decide) (Nat.le_of_ble_eq_true rfl) rfl (fun p e s m below meth c C hE => s_M_isCell C h)
abbrev cells_D_pour (cI : ClassId) (cL : ClassId) (cZ : ClassId) (a_this : Nat) (a_stones : Nat) (a_kinds : Nat) (a_weights : Nat) (a_chances : Nat) (c_width : Int32) (c_rain : Int32) (c_ear : Int32) (c_walkers : Int32) (c_seed : Int32) (c_stones : (Nat → Int32)) : va_W := [(a_this, .inr (0, [.ref a_stones, .ref a_kinds, .ref a_weights, .ref a_chances, .int c_width, .int c_rain, .int c_ear, .int c_walkers, .int c_seed])), (a_stones, .inl (cI, 36, .inl c_stones))]
abbrev rm_D_pour : Room := { frames := 1, cells := 0, slots := 0, locals := 22 }

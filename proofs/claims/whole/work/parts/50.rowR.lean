variable {p : Program} {l : Launch} {e : Env} {s : State} {m : MethodId} {args : Array Value} {below : List Frame} {meth : Method} {c : Code} {D : va_G} {A : Nat → Prop} {cI cL cZ : ClassId} {Q : State → Prop}
set_option maxRecDepth 100000 in
set_option maxHeartbeats 4000000 in
theorem s_R_ask_j28 (C : kC p l e rm_R_ask s m args below meth c D (tyG cI cL cZ) A 4 cX5_ask yX5_ask.cls (Cond.code yX5_ask cX5_ask 4 (some .int) :: WS) (some .int)) {a_this : Nat} {a_gravel : Nat} {a_kind : Nat} {a_own : Nat} {a_likely : Nat} {a_tape : Nat} {a_holding : Nat} {a_rowLength : Nat} {a_rowOf : Nat} {a_refusals : Nat} {a_old : Nat} {a_ahead : Nat} {a_cost : Nat} {a_may : Nat} {a_rest : Nat} {a_way : Nat} {c_n : Int32} {c_rain : Int32} {c_ear : Int32} {c_many : Int32} {c_seed : Int32} {c_taped : Int32} {c_from : Int32} {c_to : Int32} {c_token : Int32} {c_value : Int32} {c_imaged : Int32} {c_refusals : (Nat → Int32)} {x : (Int32 × Int32 × Int32 × (Nat → Int32))} (h : f_R_ask_j28 c_rain c_ear c_refusals = some x) :
    kW p l e rm_R_ask s m args below meth c D A 4 (cells_R_ask cI cL cZ a_this a_gravel a_kind a_own a_likely a_tape a_holding a_rowLength a_rowOf a_refusals a_old a_ahead a_cost a_may a_rest a_way c_n c_rain c_ear c_many c_seed c_taped c_from c_to c_token c_value c_imaged c_refusals) [(0, .ref a_this)] (MQ below (kQi D A (cells_R_ask cI cL cZ a_this a_gravel a_kind a_own a_likely a_tape a_holding a_rowLength a_rowOf a_refusals a_old a_ahead a_cost a_may a_rest a_way c_n x.2.1 x.2.2.1 c_many c_seed c_taped c_from c_to c_token c_value c_imaged x.2.2.2) x.1) args s 0 0 A) 28 [] := by
  unfold f_R_ask_j28 at h
  refine k_aload_n C dX5_ask_28 0 rfl rfl ?_
  refine k_bipush C (v := (-2 : Int32)) dX5_ask_29 (by decide) ?_
  obtain ⟨x2, hx2, h⟩ := bindE h
  refine kcallU_i C (wc := (cells_R_no cI cL cZ a_this a_gravel a_kind a_own a_likely a_tape a_holding a_rowLength a_rowOf a_refusals a_old a_ahead a_cost a_may a_rest a_way c_n c_rain c_ear c_many c_seed c_taped c_from c_to c_token c_value c_imaged c_refusals)) (w1 := (cells_R_no cI cL cZ a_this a_gravel a_kind a_own a_likely a_tape a_holding a_rowLength a_rowOf a_refusals a_old a_ahead a_cost a_may a_rest a_way c_n c_rain c_ear c_many c_seed c_taped c_from c_to c_token c_value c_imaged x2.2)) (ws' := (cells_R_ask cI cL cZ a_this a_gravel a_kind a_own a_likely a_tape a_holding a_rowLength a_rowOf a_refusals a_old a_ahead a_cost a_may a_rest a_way c_n c_rain c_ear c_many c_seed c_taped c_from c_to c_token c_value c_imaged x2.2)) (r := x2.1) [0, 1] (fun H locs ls hP hD hS hF hz => krunV C (q0 := 0) (ci := 5) (c_R_no l D cI cL cZ H.size a_this a_gravel a_kind a_own a_likely a_tape a_holding a_rowLength a_rowOf a_refusals a_old a_ahead a_cost a_may a_rest a_way (-2 : Int32) c_n c_rain c_ear c_many c_seed c_taped c_from c_to c_token c_value c_imaged c_refusals x2 hx2) (cwV 1 C.2.2.2.2.1 (gV wq_558 wq_559 wq_560 wq_551 wq_557) rfl rfl rfl (by decide +kernel) ⟨(Nat.le_of_ble_eq_true rfl), (Nat.le_of_ble_eq_true rfl)⟩) rfl rfl kEnv_T rfl rfl (Nat.le_of_ble_eq_true rfl) dX5_ask_31 hP hD hz) rfl (by decide) rfl rfl ?_
  obtain rfl := Option.some.inj h
  exact kret_i C rfl dX5_ask_34
set_option maxRecDepth 100000 in
set_option maxHeartbeats 4000000 in
theorem s_R_ask_j50 (C : kC p l e rm_R_ask s m args below meth c D (tyG cI cL cZ) A 4 cX5_ask yX5_ask.cls (Cond.code yX5_ask cX5_ask 4 (some .int) :: WS) (some .int)) {a_this : Nat} {a_gravel : Nat} {a_kind : Nat} {a_own : Nat} {a_likely : Nat} {a_tape : Nat} {a_holding : Nat} {a_rowLength : Nat} {a_rowOf : Nat} {a_refusals : Nat} {a_old : Nat} {a_ahead : Nat} {a_cost : Nat} {a_may : Nat} {a_rest : Nat} {a_way : Nat} {v1 : Int32} {v2 : Int32} {t0 : Int32} {c_n : Int32} {c_rain : Int32} {c_ear : Int32} {c_many : Int32} {c_seed : Int32} {c_taped : Int32} {c_from : Int32} {c_to : Int32} {c_token : Int32} {c_value : Int32} {c_imaged : Int32} {c_refusals : (Nat → Int32)} {x : (Int32 × Int32 × Int32 × (Nat → Int32))} (h : f_R_ask_j50 v1 v2 t0 c_rain c_ear c_refusals = some x) :
    kW p l e rm_R_ask s m args below meth c D A 4 (cells_R_ask cI cL cZ a_this a_gravel a_kind a_own a_likely a_tape a_holding a_rowLength a_rowOf a_refusals a_old a_ahead a_cost a_may a_rest a_way c_n c_rain c_ear c_many c_seed c_taped c_from c_to c_token c_value c_imaged c_refusals) [(0, .ref a_this), (1, .int v1), (2, .int v2)] (MQ below (kQi D A (cells_R_ask cI cL cZ a_this a_gravel a_kind a_own a_likely a_tape a_holding a_rowLength a_rowOf a_refusals a_old a_ahead a_cost a_may a_rest a_way c_n x.2.1 x.2.2.1 c_many c_seed c_taped c_from c_to c_token c_value c_imaged x.2.2.2) x.1) args s 0 0 A) 50 [.int t0] := by
  unfold f_R_ask_j50 at h
  refine k_istore_n C (lv' := [(3, .int t0), (0, .ref a_this), (1, .int v1), (2, .int v2)]) dX5_ask_50 rfl (by decide) rfl ?_
  refine k_iload_n C dX5_ask_51 2 rfl rfl ?_
  refine k_if_ne C (tgt := 63) dX5_ask_52 (by decide) (fun c_52 => ?_) (fun c_52 => ?_)
  · have h := ifF c_52 h
    refine k_aload_n C dX5_ask_63 1 rfl rfl ?_
    refine k_iload_n C dX5_ask_64 3 rfl rfl ?_
    refine k_put C (C0 := RX5) (T := TX5) (N := 26) (ws' := (cells_R_ask cI cL cZ a_this a_gravel a_kind a_own a_likely a_tape a_holding a_rowLength a_rowOf a_refusals a_old a_ahead a_cost a_may a_rest a_way c_n c_rain v2 c_many c_seed c_taped c_from c_to c_token c_value c_imaged c_refusals)) (fun w h => List.mem_cons_of_mem _ (us_R w h)) tyX5 tyX5_ok nmX5 0 rfl rfl 3 (by decide) (List.mem_cons_of_mem _ wq_603) rfl rfl (tyX5_ok 3 (by decide)) rfl rfl (Nat.le_of_ble_eq_true rfl) rfl dX5_ask_65 ?_
    refine k_iload_n C dX5_ask_68 0 rfl rfl ?_
    obtain rfl := Option.some.inj h
    exact kret_i C rfl dX5_ask_69
  · have h := ifT c_52 h
    refine k_aload_n C dX5_ask_55 1 rfl rfl ?_
    refine k_iload_n C dX5_ask_56 3 rfl rfl ?_
    refine k_put C (C0 := RX5) (T := TX5) (N := 26) (ws' := (cells_R_ask cI cL cZ a_this a_gravel a_kind a_own a_likely a_tape a_holding a_rowLength a_rowOf a_refusals a_old a_ahead a_cost a_may a_rest a_way c_n v2 c_ear c_many c_seed c_taped c_from c_to c_token c_value c_imaged c_refusals)) (fun w h => List.mem_cons_of_mem _ (us_R w h)) tyX5 tyX5_ok nmX5 0 rfl rfl 2 (by decide) (List.mem_cons_of_mem _ wq_579) rfl rfl (tyX5_ok 2 (by decide)) rfl rfl (Nat.le_of_ble_eq_true rfl) rfl dX5_ask_57 ?_
    refine k_goto C (tgt := 68) dX5_ask_60 (by decide) ?_
    refine k_iload_n C dX5_ask_68 0 rfl rfl ?_
    obtain rfl := Option.some.inj h
    exact kret_i C rfl dX5_ask_69
set_option maxRecDepth 100000 in
set_option maxHeartbeats 4000000 in
theorem s_R_ask_j22 (C : kC p l e rm_R_ask s m args below meth c D (tyG cI cL cZ) A 4 cX5_ask yX5_ask.cls (Cond.code yX5_ask cX5_ask 4 (some .int) :: WS) (some .int)) {a_this : Nat} {a_gravel : Nat} {a_kind : Nat} {a_own : Nat} {a_likely : Nat} {a_tape : Nat} {a_holding : Nat} {a_rowLength : Nat} {a_rowOf : Nat} {a_refusals : Nat} {a_old : Nat} {a_ahead : Nat} {a_cost : Nat} {a_may : Nat} {a_rest : Nat} {a_way : Nat} {v1 : Int32} {v2 : Int32} {t0 : Int32} {t1 : Int32} {t2 : Int32} {c_n : Int32} {c_rain : Int32} {c_ear : Int32} {c_many : Int32} {c_seed : Int32} {c_taped : Int32} {c_from : Int32} {c_to : Int32} {c_token : Int32} {c_value : Int32} {c_imaged : Int32} {c_refusals : (Nat → Int32)} {x : (Int32 × Int32 × Int32 × (Nat → Int32))} (h : f_R_ask_j22 v1 v2 t0 t1 t2 c_rain c_ear c_refusals = some x) :
    kW p l e rm_R_ask s m args below meth c D A 4 (cells_R_ask cI cL cZ a_this a_gravel a_kind a_own a_likely a_tape a_holding a_rowLength a_rowOf a_refusals a_old a_ahead a_cost a_may a_rest a_way c_n c_rain c_ear c_many c_seed c_taped c_from c_to c_token c_value c_imaged c_refusals) [(0, .ref a_this), (1, .int v1), (2, .int v2)] (MQ below (kQi D A (cells_R_ask cI cL cZ a_this a_gravel a_kind a_own a_likely a_tape a_holding a_rowLength a_rowOf a_refusals a_old a_ahead a_cost a_may a_rest a_way c_n x.2.1 x.2.2.1 c_many c_seed c_taped c_from c_to c_token c_value c_imaged x.2.2.2) x.1) args s 0 0 A) 22 [.int t2, .int t1, .int t0] := by
  unfold f_R_ask_j22 at h
  obtain ⟨x3, hx3, h⟩ := bindE h
  refine kcallE_i C (r := x3) (fun H locs ls hP hD hS hF hz => krunS C (c_R_within l D cI cL cZ H.size t0 t1 t2 x3 hx3) (va_cwS 3 C.2.2.2.2.1 (gS wq_549 wq_550 wq_551 wq_548) rfl rfl rfl (by decide +kernel) ⟨(Nat.le_of_ble_eq_true rfl), (Nat.le_of_ble_eq_true rfl)⟩) kEnv_T rfl rfl (Nat.le_of_ble_eq_true rfl) dX5_ask_22 hP hD hz) ?_
  refine k_if_ne C (tgt := 35) dX5_ask_25 (by decide) (fun c_25 => ?_) (fun c_25 => ?_)
  · have h := ifF c_25 h
    refine k_iload_n C dX5_ask_35 1 rfl rfl ?_
    refine k_if_ne C (tgt := 46) dX5_ask_36 (by decide) (fun c_36 => ?_) (fun c_36 => ?_)
    · have h := ifF c_36 h
      refine k_aload_n C dX5_ask_46 0 rfl rfl ?_
      refine k_get C (C0 := RX5) (T := TX5) (N := 26) (fun w h => List.mem_cons_of_mem _ (us_R w h)) 0 rfl rfl 3 (by decide) (List.mem_cons_of_mem _ wq_603) rfl rfl dX5_ask_47 ?_
      exact s_R_ask_j50 C h
    · have h := ifT c_36 h
      refine k_aload_n C dX5_ask_39 0 rfl rfl ?_
      refine k_get C (C0 := RX5) (T := TX5) (N := 26) (fun w h => List.mem_cons_of_mem _ (us_R w h)) 0 rfl rfl 2 (by decide) (List.mem_cons_of_mem _ wq_579) rfl rfl dX5_ask_40 ?_
      refine k_goto C (tgt := 50) dX5_ask_43 (by decide) ?_
      exact s_R_ask_j50 C h
  · have h := ifT c_25 h
    refine k_lv (lv' := [(0, .ref a_this)]) [0] rfl ?_
    exact s_R_ask_j28 C h
set_option maxRecDepth 100000 in
set_option maxHeartbeats 4000000 in
theorem s_R_ask (C : kC p l e rm_R_ask s m args below meth c D (tyG cI cL cZ) A 4 cX5_ask yX5_ask.cls (Cond.code yX5_ask cX5_ask 4 (some .int) :: WS) (some .int)) {a_this : Nat} {a_gravel : Nat} {a_kind : Nat} {a_own : Nat} {a_likely : Nat} {a_tape : Nat} {a_holding : Nat} {a_rowLength : Nat} {a_rowOf : Nat} {a_refusals : Nat} {a_old : Nat} {a_ahead : Nat} {a_cost : Nat} {a_may : Nat} {a_rest : Nat} {a_way : Nat} {v1 : Int32} {v2 : Int32} {c_n : Int32} {c_rain : Int32} {c_ear : Int32} {c_many : Int32} {c_seed : Int32} {c_taped : Int32} {c_from : Int32} {c_to : Int32} {c_token : Int32} {c_value : Int32} {c_imaged : Int32} {c_refusals : (Nat → Int32)} {x : (Int32 × Int32 × Int32 × (Nat → Int32))} (h : f_R_ask v1 v2 c_rain c_ear c_refusals = some x) :
    kW p l e rm_R_ask s m args below meth c D A 4 (cells_R_ask cI cL cZ a_this a_gravel a_kind a_own a_likely a_tape a_holding a_rowLength a_rowOf a_refusals a_old a_ahead a_cost a_may a_rest a_way c_n c_rain c_ear c_many c_seed c_taped c_from c_to c_token c_value c_imaged c_refusals) [(0, .ref a_this), (1, .int v1), (2, .int v2)] (MQ below (kQi D A (cells_R_ask cI cL cZ a_this a_gravel a_kind a_own a_likely a_tape a_holding a_rowLength a_rowOf a_refusals a_old a_ahead a_cost a_may a_rest a_way c_n x.2.1 x.2.2.1 c_many c_seed c_taped c_from c_to c_token c_value c_imaged x.2.2.2) x.1) args s 0 0 A) 0 [] := by
  unfold f_R_ask at h
  refine k_iload_n C dX5_ask_0 1 rfl rfl ?_
  refine k_iconst C (v := (0 : Int32)) dX5_ask_1 (by decide) ?_
  refine k_iconst C (v := (1 : Int32)) dX5_ask_2 (by decide) ?_
  obtain ⟨x1, hx1, h⟩ := bindE h
  refine kcallE_i C (r := x1) (fun H locs ls hP hD hS hF hz => krunS C (c_R_within l D cI cL cZ H.size v1 (0 : Int32) (1 : Int32) x1 hx1) (va_cwS 3 C.2.2.2.2.1 (gS wq_549 wq_550 wq_551 wq_548) rfl rfl rfl (by decide +kernel) ⟨(Nat.le_of_ble_eq_true rfl), (Nat.le_of_ble_eq_true rfl)⟩) kEnv_T rfl rfl (Nat.le_of_ble_eq_true rfl) dX5_ask_3 hP hD hz) ?_
  refine k_if_eq C (tgt := 28) dX5_ask_6 (by decide) (fun c_6 => ?_) (fun c_6 => ?_)
  · have h := ifT c_6 h
    refine k_lv (lv' := [(0, .ref a_this)]) [0] rfl ?_
    exact s_R_ask_j28 C h
  · have h := ifF c_6 h
    refine k_iload_n C dX5_ask_9 2 rfl rfl ?_
    refine k_iload_n C dX5_ask_10 1 rfl rfl ?_
    refine k_iload_n C dX5_ask_11 1 rfl rfl ?_
    refine k_if_ne C (tgt := 20) dX5_ask_12 (by decide) (fun c_12 => ?_) (fun c_12 => ?_)
    · have h := ifF c_12 h
      refine k_bipush C (v := (99 : Int32)) dX5_ask_20 (by decide) ?_
      exact s_R_ask_j22 C h
    · have h := ifT c_12 h
      refine k_bipush C (v := (9 : Int32)) dX5_ask_15 (by decide) ?_
      refine k_goto C (tgt := 22) dX5_ask_17 (by decide) ?_
      exact s_R_ask_j22 C h
theorem c_R_ask (l : Launch) (D : va_G) (cI : ClassId) (cL : ClassId) (cZ : ClassId) (sz : Nat) (a_this : Nat) (a_gravel : Nat) (a_kind : Nat) (a_own : Nat) (a_likely : Nat) (a_tape : Nat) (a_holding : Nat) (a_rowLength : Nat) (a_rowOf : Nat) (a_refusals : Nat) (a_old : Nat) (a_ahead : Nat) (a_cost : Nat) (a_may : Nat) (a_rest : Nat) (a_way : Nat) (v1 : Int32) (v2 : Int32) (c_n : Int32) (c_rain : Int32) (c_ear : Int32) (c_many : Int32) (c_seed : Int32) (c_taped : Int32) (c_from : Int32) (c_to : Int32) (c_token : Int32) (c_value : Int32) (c_imaged : Int32) (c_refusals : (Nat → Int32)) (x : (Int32 × Int32 × Int32 × (Nat → Int32))) (h : f_R_ask v1 v2 c_rain c_ear c_refusals = some x) :
    Met l yX5_ask (Cond.code yX5_ask cX5_ask 4 (some .int) :: WS) rm_R_ask (kP D (tyG cI cL cZ) kTrue [.ref a_this, .int v1, .int v2] sz (cells_R_ask cI cL cZ a_this a_gravel a_kind a_own a_likely a_tape a_holding a_rowLength a_rowOf a_refusals a_old a_ahead a_cost a_may a_rest a_way c_n c_rain c_ear c_many c_seed c_taped c_from c_to c_token c_value c_imaged c_refusals)) (kQi D (va_A (cells_R_ask cI cL cZ a_this a_gravel a_kind a_own a_likely a_tape a_holding a_rowLength a_rowOf a_refusals a_old a_ahead a_cost a_may a_rest a_way c_n c_rain c_ear c_many c_seed c_taped c_from c_to c_token c_value c_imaged c_refusals) sz) (cells_R_ask cI cL cZ a_this a_gravel a_kind a_own a_likely a_tape a_holding a_rowLength a_rowOf a_refusals a_old a_ahead a_cost a_may a_rest a_way c_n x.2.1 x.2.2.1 c_many c_seed c_taped c_from c_to c_token c_value c_imaged x.2.2.2) x.1) 0 0 (va_A (cells_R_ask cI cL cZ a_this a_gravel a_kind a_own a_likely a_tape a_holding a_rowLength a_rowOf a_refusals a_old a_ahead a_cost a_may a_rest a_way c_n c_rain c_ear c_many c_seed c_taped c_from c_to c_token c_value c_imaged c_refusals) sz) :=
  kmet (by decide) (Nat.le_of_ble_eq_true rfl) rfl (fun p e s m below meth c C hE => s_R_ask C h)
abbrev cells_R_newFeet (cI : ClassId) (cL : ClassId) (cZ : ClassId) (a_this : Nat) (a_gravel : Nat) (a_kind : Nat) (a_own : Nat) (a_likely : Nat) (a_tape : Nat) (a_holding : Nat) (a_rowLength : Nat) (a_rowOf : Nat) (a_refusals : Nat) (a_old : Nat) (a_ahead : Nat) (a_cost : Nat) (a_may : Nat) (a_rest : Nat) (a_way : Nat) (c_n : Int32) (c_rain : Int32) (c_ear : Int32) (c_many : Int32) (c_seed : Int32) (c_taped : Int32) (c_from : Int32) (c_to : Int32) (c_token : Int32) (c_value : Int32) (c_imaged : Int32) (c_kind : (Nat → Int32)) (c_own : (Nat → Int32)) (c_likely : (Nat → Int32)) : va_W := [(a_this, .inr (5, [.int c_n, .ref a_gravel, .int c_rain, .int c_ear, .int c_many, .ref a_kind, .ref a_own, .ref a_likely, .int c_seed, .int c_taped, .ref a_tape, .int c_from, .int c_to, .int c_token, .int c_value, .ref a_holding, .ref a_rowLength, .ref a_rowOf, .ref a_refusals, .int c_imaged, .ref a_old, .ref a_ahead, .ref a_cost, .ref a_may, .ref a_rest, .ref a_way])), (a_kind, .inl (cI, 8, .inl c_kind)), (a_own, .inl (cI, 8, .inl c_own)), (a_likely, .inl (cI, 8, .inl c_likely))]
abbrev rm_R_newFeet : Room := { frames := 0, cells := 0, slots := 0, locals := 0 }
set_option maxRecDepth 100000 in
set_option maxHeartbeats 4000000 in
theorem s_R_newFeet (C : kC p l e rm_R_newFeet s m args below meth c D (tyG cI cL cZ) A 4 cX5_newFeet yX5_newFeet.cls (Cond.code yX5_newFeet cX5_newFeet 4 (some .int) :: WS) (some .int)) {a_this : Nat} {a_gravel : Nat} {a_kind : Nat} {a_own : Nat} {a_likely : Nat} {a_tape : Nat} {a_holding : Nat} {a_rowLength : Nat} {a_rowOf : Nat} {a_refusals : Nat} {a_old : Nat} {a_ahead : Nat} {a_cost : Nat} {a_may : Nat} {a_rest : Nat} {a_way : Nat} {v1 : Int32} {v2 : Int32} {v3 : Int32} {c_n : Int32} {c_rain : Int32} {c_ear : Int32} {c_many : Int32} {c_seed : Int32} {c_taped : Int32} {c_from : Int32} {c_to : Int32} {c_token : Int32} {c_value : Int32} {c_imaged : Int32} {c_kind : (Nat → Int32)} {c_own : (Nat → Int32)} {c_likely : (Nat → Int32)} {x : (Int32 × Int32 × (Nat → Int32) × (Nat → Int32) × (Nat → Int32))} (h : f_R_newFeet v1 v2 v3 c_many c_kind c_own c_likely = some x) :
    kW p l e rm_R_newFeet s m args below meth c D A 4 (cells_R_newFeet cI cL cZ a_this a_gravel a_kind a_own a_likely a_tape a_holding a_rowLength a_rowOf a_refusals a_old a_ahead a_cost a_may a_rest a_way c_n c_rain c_ear c_many c_seed c_taped c_from c_to c_token c_value c_imaged c_kind c_own c_likely) [(0, .ref a_this), (1, .int v1), (2, .int v2), (3, .int v3)] (MQ below (kQi D A (cells_R_newFeet cI cL cZ a_this a_gravel a_kind a_own a_likely a_tape a_holding a_rowLength a_rowOf a_refusals a_old a_ahead a_cost a_may a_rest a_way c_n c_rain c_ear x.2.1 c_seed c_taped c_from c_to c_token c_value c_imaged x.2.2.1 x.2.2.2.1 x.2.2.2.2) x.1) args s 0 0 A) 0 [] := by
  unfold f_R_newFeet at h
  refine k_aload_n C dX5_newFeet_0 0 rfl rfl ?_
  refine k_get C (C0 := RX5) (T := TX5) (N := 26) (fun w h => List.mem_cons_of_mem _ (us_R w h)) 0 rfl rfl 5 (by decide) (List.mem_cons_of_mem _ wq_586) rfl rfl dX5_newFeet_1 ?_
  refine k_aload_n C dX5_newFeet_4 0 rfl rfl ?_
  refine k_get C (C0 := RX5) (T := TX5) (N := 26) (fun w h => List.mem_cons_of_mem _ (us_R w h)) 0 rfl rfl 4 (by decide) (List.mem_cons_of_mem _ wq_547) rfl rfl dX5_newFeet_5 ?_
  refine k_iload_n C dX5_newFeet_8 1 rfl rfl ?_
  obtain ⟨x1, hx1, h⟩ := bindE h
  refine k_iast C 1 0 (ws' := (cells_R_newFeet cI cL cZ a_this a_gravel a_kind a_own a_likely a_tape a_holding a_rowLength a_rowOf a_refusals a_old a_ahead a_cost a_may a_rest a_way c_n c_rain c_ear c_many c_seed c_taped c_from c_to c_token c_value c_imaged x1 c_own c_likely)) rfl rfl hx1 rfl dX5_newFeet_9 ?_
  refine k_aload_n C dX5_newFeet_10 0 rfl rfl ?_
  refine k_get C (C0 := RX5) (T := TX5) (N := 26) (fun w h => List.mem_cons_of_mem _ (us_R w h)) 0 rfl rfl 6 (by decide) (List.mem_cons_of_mem _ wq_585) rfl rfl dX5_newFeet_11 ?_
  refine k_aload_n C dX5_newFeet_14 0 rfl rfl ?_
  refine k_get C (C0 := RX5) (T := TX5) (N := 26) (fun w h => List.mem_cons_of_mem _ (us_R w h)) 0 rfl rfl 4 (by decide) (List.mem_cons_of_mem _ wq_547) rfl rfl dX5_newFeet_15 ?_
  refine k_iload_n C dX5_newFeet_18 2 rfl rfl ?_
  obtain ⟨x2, hx2, h⟩ := bindE h
  refine k_iast C 2 0 (ws' := (cells_R_newFeet cI cL cZ a_this a_gravel a_kind a_own a_likely a_tape a_holding a_rowLength a_rowOf a_refusals a_old a_ahead a_cost a_may a_rest a_way c_n c_rain c_ear c_many c_seed c_taped c_from c_to c_token c_value c_imaged x1 x2 c_likely)) rfl rfl hx2 rfl dX5_newFeet_19 ?_
  refine k_aload_n C dX5_newFeet_20 0 rfl rfl ?_
  refine k_get C (C0 := RX5) (T := TX5) (N := 26) (fun w h => List.mem_cons_of_mem _ (us_R w h)) 0 rfl rfl 7 (by decide) (List.mem_cons_of_mem _ wq_594) rfl rfl dX5_newFeet_21 ?_
  refine k_aload_n C dX5_newFeet_24 0 rfl rfl ?_
  refine k_get C (C0 := RX5) (T := TX5) (N := 26) (fun w h => List.mem_cons_of_mem _ (us_R w h)) 0 rfl rfl 4 (by decide) (List.mem_cons_of_mem _ wq_547) rfl rfl dX5_newFeet_25 ?_
  refine k_iload_n C dX5_newFeet_28 3 rfl rfl ?_
  obtain ⟨x3, hx3, h⟩ := bindE h
  refine k_iast C 3 0 (ws' := (cells_R_newFeet cI cL cZ a_this a_gravel a_kind a_own a_likely a_tape a_holding a_rowLength a_rowOf a_refusals a_old a_ahead a_cost a_may a_rest a_way c_n c_rain c_ear c_many c_seed c_taped c_from c_to c_token c_value c_imaged x1 x2 x3)) rfl rfl hx3 rfl dX5_newFeet_29 ?_
  refine k_aload_n C dX5_newFeet_30 0 rfl rfl ?_
  refine k_dup C dX5_newFeet_31 rfl ?_
  refine k_get C (C0 := RX5) (T := TX5) (N := 26) (fun w h => List.mem_cons_of_mem _ (us_R w h)) 0 rfl rfl 4 (by decide) (List.mem_cons_of_mem _ wq_547) rfl rfl dX5_newFeet_32 ?_
  refine k_dup_x1 C dX5_newFeet_35 rfl rfl ?_
  refine k_iconst C (v := (1 : Int32)) dX5_newFeet_36 (by decide) ?_
  refine k_iadd C dX5_newFeet_37 ?_
  refine k_put C (C0 := RX5) (T := TX5) (N := 26) (ws' := (cells_R_newFeet cI cL cZ a_this a_gravel a_kind a_own a_likely a_tape a_holding a_rowLength a_rowOf a_refusals a_old a_ahead a_cost a_may a_rest a_way c_n c_rain c_ear (c_many + (1 : Int32)) c_seed c_taped c_from c_to c_token c_value c_imaged x1 x2 x3)) (fun w h => List.mem_cons_of_mem _ (us_R w h)) tyX5 tyX5_ok nmX5 0 rfl rfl 4 (by decide) (List.mem_cons_of_mem _ wq_547) rfl rfl (tyX5_ok 4 (by decide)) rfl rfl (Nat.le_of_ble_eq_true rfl) rfl dX5_newFeet_38 ?_
  obtain rfl := Option.some.inj h
  exact kret_i C rfl dX5_newFeet_41
theorem c_R_newFeet (l : Launch) (D : va_G) (cI : ClassId) (cL : ClassId) (cZ : ClassId) (sz : Nat) (a_this : Nat) (a_gravel : Nat) (a_kind : Nat) (a_own : Nat) (a_likely : Nat) (a_tape : Nat) (a_holding : Nat) (a_rowLength : Nat) (a_rowOf : Nat) (a_refusals : Nat) (a_old : Nat) (a_ahead : Nat) (a_cost : Nat) (a_may : Nat) (a_rest : Nat) (a_way : Nat) (v1 : Int32) (v2 : Int32) (v3 : Int32) (c_n : Int32) (c_rain : Int32) (c_ear : Int32) (c_many : Int32) (c_seed : Int32) (c_taped : Int32) (c_from : Int32) (c_to : Int32) (c_token : Int32) (c_value : Int32) (c_imaged : Int32) (c_kind : (Nat → Int32)) (c_own : (Nat → Int32)) (c_likely : (Nat → Int32)) (x : (Int32 × Int32 × (Nat → Int32) × (Nat → Int32) × (Nat → Int32))) (h : f_R_newFeet v1 v2 v3 c_many c_kind c_own c_likely = some x) :
    Met l yX5_newFeet (Cond.code yX5_newFeet cX5_newFeet 4 (some .int) :: WS) rm_R_newFeet (kP D (tyG cI cL cZ) kTrue [.ref a_this, .int v1, .int v2, .int v3] sz (cells_R_newFeet cI cL cZ a_this a_gravel a_kind a_own a_likely a_tape a_holding a_rowLength a_rowOf a_refusals a_old a_ahead a_cost a_may a_rest a_way c_n c_rain c_ear c_many c_seed c_taped c_from c_to c_token c_value c_imaged c_kind c_own c_likely)) (kQi D (va_A (cells_R_newFeet cI cL cZ a_this a_gravel a_kind a_own a_likely a_tape a_holding a_rowLength a_rowOf a_refusals a_old a_ahead a_cost a_may a_rest a_way c_n c_rain c_ear c_many c_seed c_taped c_from c_to c_token c_value c_imaged c_kind c_own c_likely) sz) (cells_R_newFeet cI cL cZ a_this a_gravel a_kind a_own a_likely a_tape a_holding a_rowLength a_rowOf a_refusals a_old a_ahead a_cost a_may a_rest a_way c_n c_rain c_ear x.2.1 c_seed c_taped c_from c_to c_token c_value c_imaged x.2.2.1 x.2.2.2.1 x.2.2.2.2) x.1) 0 0 (va_A (cells_R_newFeet cI cL cZ a_this a_gravel a_kind a_own a_likely a_tape a_holding a_rowLength a_rowOf a_refusals a_old a_ahead a_cost a_may a_rest a_way c_n c_rain c_ear c_many c_seed c_taped c_from c_to c_token c_value c_imaged c_kind c_own c_likely) sz) :=
  kmet (by decide) (Nat.le_of_ble_eq_true rfl) rfl (fun p e s m below meth c C hE => s_R_newFeet C h)
abbrev cells_R_feet (cI : ClassId) (cL : ClassId) (cZ : ClassId) (a_this : Nat) (a_gravel : Nat) (a_kind : Nat) (a_own : Nat) (a_likely : Nat) (a_tape : Nat) (a_holding : Nat) (a_rowLength : Nat) (a_rowOf : Nat) (a_refusals : Nat) (a_old : Nat) (a_ahead : Nat) (a_cost : Nat) (a_may : Nat) (a_rest : Nat) (a_way : Nat) (c_n : Int32) (c_rain : Int32) (c_ear : Int32) (c_many : Int32) (c_seed : Int32) (c_taped : Int32) (c_from : Int32) (c_to : Int32) (c_token : Int32) (c_value : Int32) (c_imaged : Int32) (c_kind : (Nat → Int32)) (c_own : (Nat → Int32)) (c_likely : (Nat → Int32)) (c_refusals : (Nat → Int32)) : va_W := [(a_this, .inr (5, [.int c_n, .ref a_gravel, .int c_rain, .int c_ear, .int c_many, .ref a_kind, .ref a_own, .ref a_likely, .int c_seed, .int c_taped, .ref a_tape, .int c_from, .int c_to, .int c_token, .int c_value, .ref a_holding, .ref a_rowLength, .ref a_rowOf, .ref a_refusals, .int c_imaged, .ref a_old, .ref a_ahead, .ref a_cost, .ref a_may, .ref a_rest, .ref a_way])), (a_kind, .inl (cI, 8, .inl c_kind)), (a_own, .inl (cI, 8, .inl c_own)), (a_likely, .inl (cI, 8, .inl c_likely)), (a_refusals, .inl (cI, 7, .inl c_refusals))]
abbrev rm_R_feet : Room := { frames := 1, cells := 0, slots := 0, locals := 23 }
set_option maxRecDepth 100000 in
set_option maxHeartbeats 4000000 in
theorem s_R_feet_j29 (C : kC p l e rm_R_feet s m args below meth c D (tyG cI cL cZ) A 4 cX5_feet yX5_feet.cls (Cond.code yX5_feet cX5_feet 4 (some .int) :: WS) (some .int)) {a_this : Nat} {a_gravel : Nat} {a_kind : Nat} {a_own : Nat} {a_likely : Nat} {a_tape : Nat} {a_holding : Nat} {a_rowLength : Nat} {a_rowOf : Nat} {a_refusals : Nat} {a_old : Nat} {a_ahead : Nat} {a_cost : Nat} {a_may : Nat} {a_rest : Nat} {a_way : Nat} {c_n : Int32} {c_rain : Int32} {c_ear : Int32} {c_many : Int32} {c_seed : Int32} {c_taped : Int32} {c_from : Int32} {c_to : Int32} {c_token : Int32} {c_value : Int32} {c_imaged : Int32} {c_kind : (Nat → Int32)} {c_own : (Nat → Int32)} {c_likely : (Nat → Int32)} {c_refusals : (Nat → Int32)} {x : (Int32 × Int32 × (Nat → Int32) × (Nat → Int32) × (Nat → Int32) × (Nat → Int32))} (h : f_R_feet_j29 c_many c_kind c_own c_likely c_refusals = some x) :
    kW p l e rm_R_feet s m args below meth c D A 4 (cells_R_feet cI cL cZ a_this a_gravel a_kind a_own a_likely a_tape a_holding a_rowLength a_rowOf a_refusals a_old a_ahead a_cost a_may a_rest a_way c_n c_rain c_ear c_many c_seed c_taped c_from c_to c_token c_value c_imaged c_kind c_own c_likely c_refusals) [(0, .ref a_this)] (MQ below (kQi D A (cells_R_feet cI cL cZ a_this a_gravel a_kind a_own a_likely a_tape a_holding a_rowLength a_rowOf a_refusals a_old a_ahead a_cost a_may a_rest a_way c_n c_rain c_ear x.2.1 c_seed c_taped c_from c_to c_token c_value c_imaged x.2.2.1 x.2.2.2.1 x.2.2.2.2.1 x.2.2.2.2.2) x.1) args s 0 0 A) 29 [] := by
  unfold f_R_feet_j29 at h
  refine k_aload_n C dX5_feet_29 0 rfl rfl ?_
  refine k_bipush C (v := (-2 : Int32)) dX5_feet_30 (by decide) ?_
  obtain ⟨x2, hx2, h⟩ := bindE h
  refine kcallU_i C (wc := (cells_R_no cI cL cZ a_this a_gravel a_kind a_own a_likely a_tape a_holding a_rowLength a_rowOf a_refusals a_old a_ahead a_cost a_may a_rest a_way c_n c_rain c_ear c_many c_seed c_taped c_from c_to c_token c_value c_imaged c_refusals)) (w1 := (cells_R_no cI cL cZ a_this a_gravel a_kind a_own a_likely a_tape a_holding a_rowLength a_rowOf a_refusals a_old a_ahead a_cost a_may a_rest a_way c_n c_rain c_ear c_many c_seed c_taped c_from c_to c_token c_value c_imaged x2.2)) (ws' := (cells_R_feet cI cL cZ a_this a_gravel a_kind a_own a_likely a_tape a_holding a_rowLength a_rowOf a_refusals a_old a_ahead a_cost a_may a_rest a_way c_n c_rain c_ear c_many c_seed c_taped c_from c_to c_token c_value c_imaged c_kind c_own c_likely x2.2)) (r := x2.1) [0, 4] (fun H locs ls hP hD hS hF hz => krunV C (q0 := 0) (ci := 5) (c_R_no l D cI cL cZ H.size a_this a_gravel a_kind a_own a_likely a_tape a_holding a_rowLength a_rowOf a_refusals a_old a_ahead a_cost a_may a_rest a_way (-2 : Int32) c_n c_rain c_ear c_many c_seed c_taped c_from c_to c_token c_value c_imaged c_refusals x2 hx2) (cwV 1 C.2.2.2.2.1 (gV wq_558 wq_559 wq_560 wq_551 wq_557) rfl rfl rfl (by decide +kernel) ⟨(Nat.le_of_ble_eq_true rfl), (Nat.le_of_ble_eq_true rfl)⟩) rfl rfl kEnv_T rfl rfl (Nat.le_of_ble_eq_true rfl) dX5_feet_32 hP hD hz) rfl (by decide) rfl rfl ?_
  obtain rfl := Option.some.inj h
  exact kret_i C rfl dX5_feet_35
set_option maxRecDepth 100000 in
set_option maxHeartbeats 4000000 in
theorem s_R_feet (C : kC p l e rm_R_feet s m args below meth c D (tyG cI cL cZ) A 4 cX5_feet yX5_feet.cls (Cond.code yX5_feet cX5_feet 4 (some .int) :: WS) (some .int)) {a_this : Nat} {a_gravel : Nat} {a_kind : Nat} {a_own : Nat} {a_likely : Nat} {a_tape : Nat} {a_holding : Nat} {a_rowLength : Nat} {a_rowOf : Nat} {a_refusals : Nat} {a_old : Nat} {a_ahead : Nat} {a_cost : Nat} {a_may : Nat} {a_rest : Nat} {a_way : Nat} {v1 : Int32} {v2 : Int32} {v3 : Int32} {c_n : Int32} {c_rain : Int32} {c_ear : Int32} {c_many : Int32} {c_seed : Int32} {c_taped : Int32} {c_from : Int32} {c_to : Int32} {c_token : Int32} {c_value : Int32} {c_imaged : Int32} {c_kind : (Nat → Int32)} {c_own : (Nat → Int32)} {c_likely : (Nat → Int32)} {c_refusals : (Nat → Int32)} {x : (Int32 × Int32 × (Nat → Int32) × (Nat → Int32) × (Nat → Int32) × (Nat → Int32))} (h : f_R_feet v1 v2 v3 c_many c_kind c_own c_likely c_refusals = some x) :
    kW p l e rm_R_feet s m args below meth c D A 4 (cells_R_feet cI cL cZ a_this a_gravel a_kind a_own a_likely a_tape a_holding a_rowLength a_rowOf a_refusals a_old a_ahead a_cost a_may a_rest a_way c_n c_rain c_ear c_many c_seed c_taped c_from c_to c_token c_value c_imaged c_kind c_own c_likely c_refusals) [(0, .ref a_this), (1, .int v1), (2, .int v2), (3, .int v3)] (MQ below (kQi D A (cells_R_feet cI cL cZ a_this a_gravel a_kind a_own a_likely a_tape a_holding a_rowLength a_rowOf a_refusals a_old a_ahead a_cost a_may a_rest a_way c_n c_rain c_ear x.2.1 c_seed c_taped c_from c_to c_token c_value c_imaged x.2.2.1 x.2.2.2.1 x.2.2.2.2.1 x.2.2.2.2.2) x.1) args s 0 0 A) 0 [] := by
  unfold f_R_feet at h
  refine k_iload_n C dX5_feet_0 1 rfl rfl ?_
  refine k_iconst C (v := (0 : Int32)) dX5_feet_1 (by decide) ?_
  refine k_iconst C (v := (5 : Int32)) dX5_feet_2 (by decide) ?_
  obtain ⟨x1, hx1, h⟩ := bindE h
  refine kcallE_i C (r := x1) (fun H locs ls hP hD hS hF hz => krunS C (c_R_within l D cI cL cZ H.size v1 (0 : Int32) (5 : Int32) x1 hx1) (va_cwS 3 C.2.2.2.2.1 (gS wq_549 wq_550 wq_551 wq_548) rfl rfl rfl (by decide +kernel) ⟨(Nat.le_of_ble_eq_true rfl), (Nat.le_of_ble_eq_true rfl)⟩) kEnv_T rfl rfl (Nat.le_of_ble_eq_true rfl) dX5_feet_3 hP hD hz) ?_
  refine k_if_eq C (tgt := 29) dX5_feet_6 (by decide) (fun c_6 => ?_) (fun c_6 => ?_)
  · have h := ifT c_6 h
    refine k_lv (lv' := [(0, .ref a_this)]) [0] rfl ?_
    exact s_R_feet_j29 C h
  · have h := ifF c_6 h
    refine k_iload_n C dX5_feet_9 2 rfl rfl ?_
    refine k_iconst C (v := (0 : Int32)) dX5_feet_10 (by decide) ?_
    refine k_bipush C (v := (9 : Int32)) dX5_feet_11 (by decide) ?_
    obtain ⟨x3, hx3, h⟩ := bindE h
    refine kcallE_i C (r := x3) (fun H locs ls hP hD hS hF hz => krunS C (c_R_within l D cI cL cZ H.size v2 (0 : Int32) (9 : Int32) x3 hx3) (va_cwS 3 C.2.2.2.2.1 (gS wq_549 wq_550 wq_551 wq_548) rfl rfl rfl (by decide +kernel) ⟨(Nat.le_of_ble_eq_true rfl), (Nat.le_of_ble_eq_true rfl)⟩) kEnv_T rfl rfl (Nat.le_of_ble_eq_true rfl) dX5_feet_13 hP hD hz) ?_
    refine k_if_eq C (tgt := 29) dX5_feet_16 (by decide) (fun c_16 => ?_) (fun c_16 => ?_)
    · have h := ifT c_16 h
      refine k_lv (lv' := [(0, .ref a_this)]) [0] rfl ?_
      exact s_R_feet_j29 C h
    · have h := ifF c_16 h
      refine k_iload_n C dX5_feet_19 3 rfl rfl ?_
      refine k_iconst C (v := (1 : Int32)) dX5_feet_20 (by decide) ?_
      refine k_bipush C (v := (99 : Int32)) dX5_feet_21 (by decide) ?_
      obtain ⟨x4, hx4, h⟩ := bindE h
      refine kcallE_i C (r := x4) (fun H locs ls hP hD hS hF hz => krunS C (c_R_within l D cI cL cZ H.size v3 (1 : Int32) (99 : Int32) x4 hx4) (va_cwS 3 C.2.2.2.2.1 (gS wq_549 wq_550 wq_551 wq_548) rfl rfl rfl (by decide +kernel) ⟨(Nat.le_of_ble_eq_true rfl), (Nat.le_of_ble_eq_true rfl)⟩) kEnv_T rfl rfl (Nat.le_of_ble_eq_true rfl) dX5_feet_23 hP hD hz) ?_
      refine k_if_ne C (tgt := 36) dX5_feet_26 (by decide) (fun c_26 => ?_) (fun c_26 => ?_)
      · have h := ifF c_26 h
        refine k_aload_n C dX5_feet_36 0 rfl rfl ?_
        refine k_get C (C0 := RX5) (T := TX5) (N := 26) (fun w h => List.mem_cons_of_mem _ (us_R w h)) 0 rfl rfl 4 (by decide) (List.mem_cons_of_mem _ wq_547) rfl rfl dX5_feet_37 ?_
        refine k_bipush C (v := (8 : Int32)) dX5_feet_40 (by decide) ?_
        refine k_icmp_ne C (tgt := 54) dX5_feet_42 (by decide) (fun c_42 => ?_) (fun c_42 => ?_)
        · have h := ifF c_42 h
          refine k_aload_n C dX5_feet_54 0 rfl rfl ?_
          refine k_iload_n C dX5_feet_55 1 rfl rfl ?_
          refine k_iload_n C dX5_feet_56 2 rfl rfl ?_
          refine k_iload_n C dX5_feet_57 3 rfl rfl ?_
          obtain ⟨x5, hx5, h⟩ := bindE h
          refine kcallU_i C (wc := (cells_R_newFeet cI cL cZ a_this a_gravel a_kind a_own a_likely a_tape a_holding a_rowLength a_rowOf a_refusals a_old a_ahead a_cost a_may a_rest a_way c_n c_rain c_ear c_many c_seed c_taped c_from c_to c_token c_value c_imaged c_kind c_own c_likely)) (w1 := (cells_R_newFeet cI cL cZ a_this a_gravel a_kind a_own a_likely a_tape a_holding a_rowLength a_rowOf a_refusals a_old a_ahead a_cost a_may a_rest a_way c_n c_rain c_ear x5.2.1 c_seed c_taped c_from c_to c_token c_value c_imaged x5.2.2.1 x5.2.2.2.1 x5.2.2.2.2)) (ws' := (cells_R_feet cI cL cZ a_this a_gravel a_kind a_own a_likely a_tape a_holding a_rowLength a_rowOf a_refusals a_old a_ahead a_cost a_may a_rest a_way c_n c_rain c_ear x5.2.1 c_seed c_taped c_from c_to c_token c_value c_imaged x5.2.2.1 x5.2.2.2.1 x5.2.2.2.2 c_refusals)) (r := x5.1) [0, 1, 2, 3] (fun H locs ls hP hD hS hF hz => krunV C (q0 := 0) (ci := 5) (c_R_newFeet l D cI cL cZ H.size a_this a_gravel a_kind a_own a_likely a_tape a_holding a_rowLength a_rowOf a_refusals a_old a_ahead a_cost a_may a_rest a_way v1 v2 v3 c_n c_rain c_ear c_many c_seed c_taped c_from c_to c_token c_value c_imaged c_kind c_own c_likely x5 hx5) (cwV 3 C.2.2.2.2.1 (gV wq_605 wq_606 wq_607 wq_551 wq_604) rfl rfl rfl (by decide +kernel) ⟨(Nat.le_of_ble_eq_true rfl), (Nat.le_of_ble_eq_true rfl)⟩) rfl rfl kEnv_T rfl rfl (Nat.le_of_ble_eq_true rfl) dX5_feet_58 hP hD hz) rfl (by decide) rfl rfl ?_
          obtain rfl := Option.some.inj h
          exact kret_i C rfl dX5_feet_61
        · have h := ifT c_42 h
          refine k_aload_n C dX5_feet_45 0 rfl rfl ?_
          refine k_bipush C (v := (-6 : Int32)) dX5_feet_46 (by decide) ?_
          obtain ⟨x6, hx6, h⟩ := bindE h
          refine kcallU_i C (wc := (cells_R_no cI cL cZ a_this a_gravel a_kind a_own a_likely a_tape a_holding a_rowLength a_rowOf a_refusals a_old a_ahead a_cost a_may a_rest a_way c_n c_rain c_ear c_many c_seed c_taped c_from c_to c_token c_value c_imaged c_refusals)) (w1 := (cells_R_no cI cL cZ a_this a_gravel a_kind a_own a_likely a_tape a_holding a_rowLength a_rowOf a_refusals a_old a_ahead a_cost a_may a_rest a_way c_n c_rain c_ear c_many c_seed c_taped c_from c_to c_token c_value c_imaged x6.2)) (ws' := (cells_R_feet cI cL cZ a_this a_gravel a_kind a_own a_likely a_tape a_holding a_rowLength a_rowOf a_refusals a_old a_ahead a_cost a_may a_rest a_way c_n c_rain c_ear c_many c_seed c_taped c_from c_to c_token c_value c_imaged c_kind c_own c_likely x6.2)) (r := x6.1) [0, 4] (fun H locs ls hP hD hS hF hz => krunV C (q0 := 0) (ci := 5) (c_R_no l D cI cL cZ H.size a_this a_gravel a_kind a_own a_likely a_tape a_holding a_rowLength a_rowOf a_refusals a_old a_ahead a_cost a_may a_rest a_way (-6 : Int32) c_n c_rain c_ear c_many c_seed c_taped c_from c_to c_token c_value c_imaged c_refusals x6 hx6) (cwV 1 C.2.2.2.2.1 (gV wq_558 wq_559 wq_560 wq_551 wq_557) rfl rfl rfl (by decide +kernel) ⟨(Nat.le_of_ble_eq_true rfl), (Nat.le_of_ble_eq_true rfl)⟩) rfl rfl kEnv_T rfl rfl (Nat.le_of_ble_eq_true rfl) dX5_feet_48 hP hD hz) rfl (by decide) rfl rfl ?_
          refine k_goto C (tgt := 61) dX5_feet_51 (by decide) ?_
          obtain rfl := Option.some.inj h
          exact kret_i C rfl dX5_feet_61
      · have h := ifT c_26 h
        refine k_lv (lv' := [(0, .ref a_this)]) [0] rfl ?_
        exact s_R_feet_j29 C h
theorem c_R_feet (l : Launch) (D : va_G) (cI : ClassId) (cL : ClassId) (cZ : ClassId) (sz : Nat) (a_this : Nat) (a_gravel : Nat) (a_kind : Nat) (a_own : Nat) (a_likely : Nat) (a_tape : Nat) (a_holding : Nat) (a_rowLength : Nat) (a_rowOf : Nat) (a_refusals : Nat) (a_old : Nat) (a_ahead : Nat) (a_cost : Nat) (a_may : Nat) (a_rest : Nat) (a_way : Nat) (v1 : Int32) (v2 : Int32) (v3 : Int32) (c_n : Int32) (c_rain : Int32) (c_ear : Int32) (c_many : Int32) (c_seed : Int32) (c_taped : Int32) (c_from : Int32) (c_to : Int32) (c_token : Int32) (c_value : Int32) (c_imaged : Int32) (c_kind : (Nat → Int32)) (c_own : (Nat → Int32)) (c_likely : (Nat → Int32)) (c_refusals : (Nat → Int32)) (x : (Int32 × Int32 × (Nat → Int32) × (Nat → Int32) × (Nat → Int32) × (Nat → Int32))) (h : f_R_feet v1 v2 v3 c_many c_kind c_own c_likely c_refusals = some x) :
    Met l yX5_feet (Cond.code yX5_feet cX5_feet 4 (some .int) :: WS) rm_R_feet (kP D (tyG cI cL cZ) kTrue [.ref a_this, .int v1, .int v2, .int v3] sz (cells_R_feet cI cL cZ a_this a_gravel a_kind a_own a_likely a_tape a_holding a_rowLength a_rowOf a_refusals a_old a_ahead a_cost a_may a_rest a_way c_n c_rain c_ear c_many c_seed c_taped c_from c_to c_token c_value c_imaged c_kind c_own c_likely c_refusals)) (kQi D (va_A (cells_R_feet cI cL cZ a_this a_gravel a_kind a_own a_likely a_tape a_holding a_rowLength a_rowOf a_refusals a_old a_ahead a_cost a_may a_rest a_way c_n c_rain c_ear c_many c_seed c_taped c_from c_to c_token c_value c_imaged c_kind c_own c_likely c_refusals) sz) (cells_R_feet cI cL cZ a_this a_gravel a_kind a_own a_likely a_tape a_holding a_rowLength a_rowOf a_refusals a_old a_ahead a_cost a_may a_rest a_way c_n c_rain c_ear x.2.1 c_seed c_taped c_from c_to c_token c_value c_imaged x.2.2.1 x.2.2.2.1 x.2.2.2.2.1 x.2.2.2.2.2) x.1) 0 0 (va_A (cells_R_feet cI cL cZ a_this a_gravel a_kind a_own a_likely a_tape a_holding a_rowLength a_rowOf a_refusals a_old a_ahead a_cost a_may a_rest a_way c_n c_rain c_ear c_many c_seed c_taped c_from c_to c_token c_value c_imaged c_kind c_own c_likely c_refusals) sz) :=
  kmet (by decide) (Nat.le_of_ble_eq_true rfl) rfl (fun p e s m below meth c C hE => s_R_feet C h)
abbrev cells_R_rakes (cI : ClassId) (cL : ClassId) (cZ : ClassId) (a_this : Nat) (a_gravel : Nat) (a_kind : Nat) (a_own : Nat) (a_likely : Nat) (a_tape : Nat) (a_holding : Nat) (a_rowLength : Nat) (a_rowOf : Nat) (a_refusals : Nat) (a_old : Nat) (a_ahead : Nat) (a_cost : Nat) (a_may : Nat) (a_rest : Nat) (a_way : Nat) (c_n : Int32) (c_rain : Int32) (c_ear : Int32) (c_many : Int32) (c_seed : Int32) (c_taped : Int32) (c_from : Int32) (c_to : Int32) (c_token : Int32) (c_value : Int32) (c_imaged : Int32) (c_gravel : (Nat → Int32)) : va_W := [(a_this, .inr (5, [.int c_n, .ref a_gravel, .int c_rain, .int c_ear, .int c_many, .ref a_kind, .ref a_own, .ref a_likely, .int c_seed, .int c_taped, .ref a_tape, .int c_from, .int c_to, .int c_token, .int c_value, .ref a_holding, .ref a_rowLength, .ref a_rowOf, .ref a_refusals, .int c_imaged, .ref a_old, .ref a_ahead, .ref a_cost, .ref a_may, .ref a_rest, .ref a_way])), (a_gravel, .inl (cI, 36, .inl c_gravel))]
abbrev rm_R_rakes : Room := { frames := 0, cells := 0, slots := 0, locals := 0 }
set_option maxRecDepth 100000 in
set_option maxHeartbeats 4000000 in
theorem s_R_rakes_b2 (C : kC p l e rm_R_rakes s m args below meth c D (tyG cI cL cZ) A 2 cX5_rakes yX5_rakes.cls (Cond.code yX5_rakes cX5_rakes 2 none :: WS) none) {a_this : Nat} {a_gravel : Nat} {a_kind : Nat} {a_own : Nat} {a_likely : Nat} {a_tape : Nat} {a_holding : Nat} {a_rowLength : Nat} {a_rowOf : Nat} {a_refusals : Nat} {a_old : Nat} {a_ahead : Nat} {a_cost : Nat} {a_may : Nat} {a_rest : Nat} {a_way : Nat} {v1 : Int32} {c_n : Int32} {c_rain : Int32} {c_ear : Int32} {c_many : Int32} {c_seed : Int32} {c_taped : Int32} {c_from : Int32} {c_to : Int32} {c_token : Int32} {c_value : Int32} {c_imaged : Int32} {c_gravel : (Nat → Int32)} {x : ((Int32 × (Nat → Int32)) ⊕ (Nat → Int32))} (h : f_R_rakes_b2 c_n v1 c_gravel = some x)
    (kc : ∀ s', x = .inl s' → kW p l e rm_R_rakes s m args below meth c D A 2 (cells_R_rakes cI cL cZ a_this a_gravel a_kind a_own a_likely a_tape a_holding a_rowLength a_rowOf a_refusals a_old a_ahead a_cost a_may a_rest a_way c_n c_rain c_ear c_many c_seed c_taped c_from c_to c_token c_value c_imaged s'.2) [(0, .ref a_this), (1, .int s'.1)] Q 2 [])
    (k0 : ∀ r, x = .inr r → kW p l e rm_R_rakes s m args below meth c D A 2 (cells_R_rakes cI cL cZ a_this a_gravel a_kind a_own a_likely a_tape a_holding a_rowLength a_rowOf a_refusals a_old a_ahead a_cost a_may a_rest a_way c_n c_rain c_ear c_many c_seed c_taped c_from c_to c_token c_value c_imaged r) [] Q 51 []) :
    kW p l e rm_R_rakes s m args below meth c D A 2 (cells_R_rakes cI cL cZ a_this a_gravel a_kind a_own a_likely a_tape a_holding a_rowLength a_rowOf a_refusals a_old a_ahead a_cost a_may a_rest a_way c_n c_rain c_ear c_many c_seed c_taped c_from c_to c_token c_value c_imaged c_gravel) [(0, .ref a_this), (1, .int v1)] Q 2 [] := by
  unfold f_R_rakes_b2 at h
  refine k_iload_n C dX5_rakes_2 1 rfl rfl ?_
  refine k_aload_n C dX5_rakes_3 0 rfl rfl ?_
  refine k_get C (C0 := RX5) (T := TX5) (N := 26) (fun w h => List.mem_cons_of_mem _ (us_R w h)) 0 rfl rfl 0 (by decide) (List.mem_cons_of_mem _ wq_552) rfl rfl dX5_rakes_4 ?_
  refine k_aload_n C dX5_rakes_7 0 rfl rfl ?_
  refine k_get C (C0 := RX5) (T := TX5) (N := 26) (fun w h => List.mem_cons_of_mem _ (us_R w h)) 0 rfl rfl 0 (by decide) (List.mem_cons_of_mem _ wq_552) rfl rfl dX5_rakes_8 ?_
  refine k_imul C dX5_rakes_11 ?_
  refine k_icmp_ge C (tgt := 51) dX5_rakes_12 (by decide) (fun c_12 => ?_) (fun c_12 => ?_)
  · have h := ifT c_12 h
    refine k_lv (lv' := []) [] rfl ?_
    exact k0 _ (Option.some.inj h).symm
  · have h := ifF c_12 h
    refine k_aload_n C dX5_rakes_15 0 rfl rfl ?_
    refine k_get C (C0 := RX5) (T := TX5) (N := 26) (fun w h => List.mem_cons_of_mem _ (us_R w h)) 0 rfl rfl 1 (by decide) (List.mem_cons_of_mem _ wq_578) rfl rfl dX5_rakes_16 ?_
    refine k_iload_n C dX5_rakes_19 1 rfl rfl ?_
    obtain ⟨x1, hx1, h⟩ := bindE h
    refine k_iald C 1 0 rfl rfl hx1 dX5_rakes_20 ?_
    refine k_if_le C (tgt := 45) dX5_rakes_21 (by decide) (fun c_21 => ?_) (fun c_21 => ?_)
    · have h := ifT c_21 h
      refine k_iinc C (v := (v1 + (1 : Int32))) (lv' := [(1, .int (v1 + (1 : Int32))), (0, .ref a_this)]) dX5_rakes_45 1 rfl rfl (by decide) rfl ?_
      refine k_goto C (tgt := 2) dX5_rakes_48 (by decide) ?_
      refine k_lv (lv' := [(0, .ref a_this), (1, .int (v1 + (1 : Int32)))]) [1, 0] rfl ?_
      exact kc _ (Option.some.inj h).symm
    · have h := ifF c_21 h
      refine k_aload_n C dX5_rakes_24 0 rfl rfl ?_
      refine k_get C (C0 := RX5) (T := TX5) (N := 26) (fun w h => List.mem_cons_of_mem _ (us_R w h)) 0 rfl rfl 1 (by decide) (List.mem_cons_of_mem _ wq_578) rfl rfl dX5_rakes_25 ?_
      refine k_iload_n C dX5_rakes_28 1 rfl rfl ?_
      obtain ⟨x2, hx2, h⟩ := bindE h
      refine k_iald C 1 0 rfl rfl hx2 dX5_rakes_29 ?_
      refine k_bipush C (v := (9 : Int32)) dX5_rakes_30 (by decide) ?_
      refine k_icmp_ge C (tgt := 45) dX5_rakes_32 (by decide) (fun c_32 => ?_) (fun c_32 => ?_)
      · have h := ifT c_32 h
        refine k_iinc C (v := (v1 + (1 : Int32))) (lv' := [(1, .int (v1 + (1 : Int32))), (0, .ref a_this)]) dX5_rakes_45 1 rfl rfl (by decide) rfl ?_
        refine k_goto C (tgt := 2) dX5_rakes_48 (by decide) ?_
        refine k_lv (lv' := [(0, .ref a_this), (1, .int (v1 + (1 : Int32)))]) [1, 0] rfl ?_
        exact kc _ (Option.some.inj h).symm
      · have h := ifF c_32 h
        refine k_aload_n C dX5_rakes_35 0 rfl rfl ?_
        refine k_get C (C0 := RX5) (T := TX5) (N := 26) (fun w h => List.mem_cons_of_mem _ (us_R w h)) 0 rfl rfl 1 (by decide) (List.mem_cons_of_mem _ wq_578) rfl rfl dX5_rakes_36 ?_
        refine k_iload_n C dX5_rakes_39 1 rfl rfl ?_
        refine k_dup2_11 C dX5_rakes_40 rfl rfl ?_
        obtain ⟨x3, hx3, h⟩ := bindE h
        refine k_iald C 1 0 rfl rfl hx3 dX5_rakes_41 ?_
        refine k_iconst C (v := (1 : Int32)) dX5_rakes_42 (by decide) ?_
        refine k_iadd C dX5_rakes_43 ?_
        obtain ⟨x4, hx4, h⟩ := bindE h
        refine k_iast C 1 0 (ws' := (cells_R_rakes cI cL cZ a_this a_gravel a_kind a_own a_likely a_tape a_holding a_rowLength a_rowOf a_refusals a_old a_ahead a_cost a_may a_rest a_way c_n c_rain c_ear c_many c_seed c_taped c_from c_to c_token c_value c_imaged x4)) rfl rfl hx4 rfl dX5_rakes_44 ?_
        refine k_iinc C (v := (v1 + (1 : Int32))) (lv' := [(1, .int (v1 + (1 : Int32))), (0, .ref a_this)]) dX5_rakes_45 1 rfl rfl (by decide) rfl ?_
        refine k_goto C (tgt := 2) dX5_rakes_48 (by decide) ?_
        refine k_lv (lv' := [(0, .ref a_this), (1, .int (v1 + (1 : Int32)))]) [1, 0] rfl ?_
        exact kc _ (Option.some.inj h).symm
set_option maxRecDepth 100000 in
set_option maxHeartbeats 4000000 in
theorem s_R_rakes_l2 (C : kC p l e rm_R_rakes s m args below meth c D (tyG cI cL cZ) A 2 cX5_rakes yX5_rakes.cls (Cond.code yX5_rakes cX5_rakes 2 none :: WS) none) {a_this : Nat} {a_gravel : Nat} {a_kind : Nat} {a_own : Nat} {a_likely : Nat} {a_tape : Nat} {a_holding : Nat} {a_rowLength : Nat} {a_rowOf : Nat} {a_refusals : Nat} {a_old : Nat} {a_ahead : Nat} {a_cost : Nat} {a_may : Nat} {a_rest : Nat} {a_way : Nat} {v1 : Int32} {c_n : Int32} {c_rain : Int32} {c_ear : Int32} {c_many : Int32} {c_seed : Int32} {c_taped : Int32} {c_from : Int32} {c_to : Int32} {c_token : Int32} {c_value : Int32} {c_imaged : Int32} {c_gravel : (Nat → Int32)} {x : (Nat → Int32)} (h : f_R_rakes_l2 c_n v1 c_gravel = some x)
    (k0 : kW p l e rm_R_rakes s m args below meth c D A 2 (cells_R_rakes cI cL cZ a_this a_gravel a_kind a_own a_likely a_tape a_holding a_rowLength a_rowOf a_refusals a_old a_ahead a_cost a_may a_rest a_way c_n c_rain c_ear c_many c_seed c_taped c_from c_to c_token c_value c_imaged x) [] Q 51 []) :
    kW p l e rm_R_rakes s m args below meth c D A 2 (cells_R_rakes cI cL cZ a_this a_gravel a_kind a_own a_likely a_tape a_holding a_rowLength a_rowOf a_refusals a_old a_ahead a_cost a_may a_rest a_way c_n c_rain c_ear c_many c_seed c_taped c_from c_to c_token c_value c_imaged c_gravel) [(0, .ref a_this), (1, .int v1)] Q 2 [] := by
  unfold f_R_rakes_l2 at h
  exact iter_W (body := fun s => f_R_rakes_b2 c_n s.1 s.2) (r := x) (T := fun sg => kW p l e rm_R_rakes s m args below meth c D A 2 (cells_R_rakes cI cL cZ a_this a_gravel a_kind a_own a_likely a_tape a_holding a_rowLength a_rowOf a_refusals a_old a_ahead a_cost a_may a_rest a_way c_n c_rain c_ear c_many c_seed c_taped c_from c_to c_token c_value c_imaged sg.2) [(0, .ref a_this), (1, .int sg.1)] Q 2 []) (fun sg y hy hc _ hr => s_R_rakes_b2 C (v1 := sg.1) (c_n := c_n) (c_rain := c_rain) (c_ear := c_ear) (c_many := c_many) (c_seed := c_seed) (c_taped := c_taped) (c_from := c_from) (c_to := c_to) (c_token := c_token) (c_value := c_value) (c_imaged := c_imaged) (c_gravel := sg.2) (x := y) hy hc (fun r e => by rw [hr r e]; exact k0)) FUEL (v1, c_gravel) h
set_option maxRecDepth 100000 in
set_option maxHeartbeats 4000000 in
theorem s_R_rakes (C : kC p l e rm_R_rakes s m args below meth c D (tyG cI cL cZ) A 2 cX5_rakes yX5_rakes.cls (Cond.code yX5_rakes cX5_rakes 2 none :: WS) none) {a_this : Nat} {a_gravel : Nat} {a_kind : Nat} {a_own : Nat} {a_likely : Nat} {a_tape : Nat} {a_holding : Nat} {a_rowLength : Nat} {a_rowOf : Nat} {a_refusals : Nat} {a_old : Nat} {a_ahead : Nat} {a_cost : Nat} {a_may : Nat} {a_rest : Nat} {a_way : Nat} {c_n : Int32} {c_rain : Int32} {c_ear : Int32} {c_many : Int32} {c_seed : Int32} {c_taped : Int32} {c_from : Int32} {c_to : Int32} {c_token : Int32} {c_value : Int32} {c_imaged : Int32} {c_gravel : (Nat → Int32)} {x : (Nat → Int32)} (h : f_R_rakes c_n c_gravel = some x) :
    kW p l e rm_R_rakes s m args below meth c D A 2 (cells_R_rakes cI cL cZ a_this a_gravel a_kind a_own a_likely a_tape a_holding a_rowLength a_rowOf a_refusals a_old a_ahead a_cost a_may a_rest a_way c_n c_rain c_ear c_many c_seed c_taped c_from c_to c_token c_value c_imaged c_gravel) [(0, .ref a_this)] (MQ below (kQv D A (cells_R_rakes cI cL cZ a_this a_gravel a_kind a_own a_likely a_tape a_holding a_rowLength a_rowOf a_refusals a_old a_ahead a_cost a_may a_rest a_way c_n c_rain c_ear c_many c_seed c_taped c_from c_to c_token c_value c_imaged x)) args s 0 0 A) 0 [] := by
  unfold f_R_rakes at h
  refine k_iconst C (v := (0 : Int32)) dX5_rakes_0 (by decide) ?_
  refine k_istore_n C (lv' := [(1, .int (0 : Int32)), (0, .ref a_this)]) dX5_rakes_1 rfl (by decide) rfl ?_
  obtain ⟨x5, hx5, h⟩ := bindE h
  refine k_lv (lv' := [(0, .ref a_this), (1, .int (0 : Int32))]) [1, 0] rfl ?_
  refine s_R_rakes_l2 C hx5 ?_
  obtain rfl := Option.some.inj h
  exact kret_v C rfl dX5_rakes_51
theorem c_R_rakes (l : Launch) (D : va_G) (cI : ClassId) (cL : ClassId) (cZ : ClassId) (sz : Nat) (a_this : Nat) (a_gravel : Nat) (a_kind : Nat) (a_own : Nat) (a_likely : Nat) (a_tape : Nat) (a_holding : Nat) (a_rowLength : Nat) (a_rowOf : Nat) (a_refusals : Nat) (a_old : Nat) (a_ahead : Nat) (a_cost : Nat) (a_may : Nat) (a_rest : Nat) (a_way : Nat) (c_n : Int32) (c_rain : Int32) (c_ear : Int32) (c_many : Int32) (c_seed : Int32) (c_taped : Int32) (c_from : Int32) (c_to : Int32) (c_token : Int32) (c_value : Int32) (c_imaged : Int32) (c_gravel : (Nat → Int32)) (x : (Nat → Int32)) (h : f_R_rakes c_n c_gravel = some x) :
    Met l yX5_rakes (Cond.code yX5_rakes cX5_rakes 2 none :: WS) rm_R_rakes (kP D (tyG cI cL cZ) kTrue [.ref a_this] sz (cells_R_rakes cI cL cZ a_this a_gravel a_kind a_own a_likely a_tape a_holding a_rowLength a_rowOf a_refusals a_old a_ahead a_cost a_may a_rest a_way c_n c_rain c_ear c_many c_seed c_taped c_from c_to c_token c_value c_imaged c_gravel)) (kQv D (va_A (cells_R_rakes cI cL cZ a_this a_gravel a_kind a_own a_likely a_tape a_holding a_rowLength a_rowOf a_refusals a_old a_ahead a_cost a_may a_rest a_way c_n c_rain c_ear c_many c_seed c_taped c_from c_to c_token c_value c_imaged c_gravel) sz) (cells_R_rakes cI cL cZ a_this a_gravel a_kind a_own a_likely a_tape a_holding a_rowLength a_rowOf a_refusals a_old a_ahead a_cost a_may a_rest a_way c_n c_rain c_ear c_many c_seed c_taped c_from c_to c_token c_value c_imaged x)) 0 0 (va_A (cells_R_rakes cI cL cZ a_this a_gravel a_kind a_own a_likely a_tape a_holding a_rowLength a_rowOf a_refusals a_old a_ahead a_cost a_may a_rest a_way c_n c_rain c_ear c_many c_seed c_taped c_from c_to c_token c_value c_imaged c_gravel) sz) :=
  kmet (by decide) (Nat.le_of_ble_eq_true rfl) rfl (fun p e s m below meth c C hE => s_R_rakes C h)
abbrev cells_R_feed (cI : ClassId) (cL : ClassId) (cZ : ClassId) (a_this : Nat) (a_gravel : Nat) (a_kind : Nat) (a_own : Nat) (a_likely : Nat) (a_tape : Nat) (a_holding : Nat) (a_rowLength : Nat) (a_rowOf : Nat) (a_refusals : Nat) (a_old : Nat) (a_ahead : Nat) (a_cost : Nat) (a_may : Nat) (a_rest : Nat) (a_way : Nat) (c_n : Int32) (c_rain : Int32) (c_ear : Int32) (c_many : Int32) (c_seed : Int32) (c_taped : Int32) (c_from : Int32) (c_to : Int32) (c_token : Int32) (c_value : Int32) (c_imaged : Int32) (c_tape : (Nat → Int32)) (c_refusals : (Nat → Int32)) : va_W := [(a_this, .inr (5, [.int c_n, .ref a_gravel, .int c_rain, .int c_ear, .int c_many, .ref a_kind, .ref a_own, .ref a_likely, .int c_seed, .int c_taped, .ref a_tape, .int c_from, .int c_to, .int c_token, .int c_value, .ref a_holding, .ref a_rowLength, .ref a_rowOf, .ref a_refusals, .int c_imaged, .ref a_old, .ref a_ahead, .ref a_cost, .ref a_may, .ref a_rest, .ref a_way])), (a_tape, .inl (cI, 250, .inl c_tape)), (a_refusals, .inl (cI, 7, .inl c_refusals))]
abbrev rm_R_feed : Room := { frames := 1, cells := 0, slots := 0, locals := 22 }
set_option maxRecDepth 100000 in
set_option maxHeartbeats 4000000 in
theorem s_R_feed (C : kC p l e rm_R_feed s m args below meth c D (tyG cI cL cZ) A 2 cX5_feed yX5_feed.cls (Cond.code yX5_feed cX5_feed 2 (some .int) :: WS) (some .int)) {a_this : Nat} {a_gravel : Nat} {a_kind : Nat} {a_own : Nat} {a_likely : Nat} {a_tape : Nat} {a_holding : Nat} {a_rowLength : Nat} {a_rowOf : Nat} {a_refusals : Nat} {a_old : Nat} {a_ahead : Nat} {a_cost : Nat} {a_may : Nat} {a_rest : Nat} {a_way : Nat} {v1 : Int32} {c_n : Int32} {c_rain : Int32} {c_ear : Int32} {c_many : Int32} {c_seed : Int32} {c_taped : Int32} {c_from : Int32} {c_to : Int32} {c_token : Int32} {c_value : Int32} {c_imaged : Int32} {c_tape : (Nat → Int32)} {c_refusals : (Nat → Int32)} {x : (Int32 × Int32 × (Nat → Int32) × (Nat → Int32))} (h : f_R_feed v1 c_taped c_tape c_refusals = some x) :
    kW p l e rm_R_feed s m args below meth c D A 2 (cells_R_feed cI cL cZ a_this a_gravel a_kind a_own a_likely a_tape a_holding a_rowLength a_rowOf a_refusals a_old a_ahead a_cost a_may a_rest a_way c_n c_rain c_ear c_many c_seed c_taped c_from c_to c_token c_value c_imaged c_tape c_refusals) [(0, .ref a_this), (1, .int v1)] (MQ below (kQi D A (cells_R_feed cI cL cZ a_this a_gravel a_kind a_own a_likely a_tape a_holding a_rowLength a_rowOf a_refusals a_old a_ahead a_cost a_may a_rest a_way c_n c_rain c_ear c_many c_seed x.2.1 c_from c_to c_token c_value c_imaged x.2.2.1 x.2.2.2) x.1) args s 0 0 A) 0 [] := by
  unfold f_R_feed at h
  refine k_iload_n C dX5_feed_0 1 rfl rfl ?_
  refine k_iconst C (v := (0 : Int32)) dX5_feed_1 (by decide) ?_
  refine k_sipush C (v := (255 : Int32)) dX5_feed_2 (by decide) ?_
  obtain ⟨x1, hx1, h⟩ := bindE h
  refine kcallE_i C (r := x1) (fun H locs ls hP hD hS hF hz => krunS C (c_R_within l D cI cL cZ H.size v1 (0 : Int32) (255 : Int32) x1 hx1) (va_cwS 3 C.2.2.2.2.1 (gS wq_549 wq_550 wq_551 wq_548) rfl rfl rfl (by decide +kernel) ⟨(Nat.le_of_ble_eq_true rfl), (Nat.le_of_ble_eq_true rfl)⟩) kEnv_T rfl rfl (Nat.le_of_ble_eq_true rfl) dX5_feed_5 hP hD hz) ?_
  refine k_if_ne C (tgt := 18) dX5_feed_8 (by decide) (fun c_8 => ?_) (fun c_8 => ?_)
  · have h := ifF c_8 h
    refine k_aload_n C dX5_feed_18 0 rfl rfl ?_
    refine k_get C (C0 := RX5) (T := TX5) (N := 26) (fun w h => List.mem_cons_of_mem _ (us_R w h)) 0 rfl rfl 9 (by decide) (List.mem_cons_of_mem _ wq_608) rfl rfl dX5_feed_19 ?_
    refine k_sipush C (v := (250 : Int32)) dX5_feed_22 (by decide) ?_
    refine k_icmp_ne C (tgt := 35) dX5_feed_25 (by decide) (fun c_25 => ?_) (fun c_25 => ?_)
    · have h := ifF c_25 h
      refine k_aload_n C dX5_feed_35 0 rfl rfl ?_
      refine k_get C (C0 := RX5) (T := TX5) (N := 26) (fun w h => List.mem_cons_of_mem _ (us_R w h)) 0 rfl rfl 10 (by decide) (List.mem_cons_of_mem _ wq_609) rfl rfl dX5_feed_36 ?_
      refine k_aload_n C dX5_feed_39 0 rfl rfl ?_
      refine k_dup C dX5_feed_40 rfl ?_
      refine k_get C (C0 := RX5) (T := TX5) (N := 26) (fun w h => List.mem_cons_of_mem _ (us_R w h)) 0 rfl rfl 9 (by decide) (List.mem_cons_of_mem _ wq_608) rfl rfl dX5_feed_41 ?_
      refine k_dup_x1 C dX5_feed_44 rfl rfl ?_
      refine k_iconst C (v := (1 : Int32)) dX5_feed_45 (by decide) ?_
      refine k_iadd C dX5_feed_46 ?_
      refine k_put C (C0 := RX5) (T := TX5) (N := 26) (ws' := (cells_R_feed cI cL cZ a_this a_gravel a_kind a_own a_likely a_tape a_holding a_rowLength a_rowOf a_refusals a_old a_ahead a_cost a_may a_rest a_way c_n c_rain c_ear c_many c_seed (c_taped + (1 : Int32)) c_from c_to c_token c_value c_imaged c_tape c_refusals)) (fun w h => List.mem_cons_of_mem _ (us_R w h)) tyX5 tyX5_ok nmX5 0 rfl rfl 9 (by decide) (List.mem_cons_of_mem _ wq_608) rfl rfl (tyX5_ok 9 (by decide)) rfl rfl (Nat.le_of_ble_eq_true rfl) rfl dX5_feed_47 ?_
      refine k_iload_n C dX5_feed_50 1 rfl rfl ?_
      obtain ⟨x2, hx2, h⟩ := bindE h
      refine k_iast C 1 0 (ws' := (cells_R_feed cI cL cZ a_this a_gravel a_kind a_own a_likely a_tape a_holding a_rowLength a_rowOf a_refusals a_old a_ahead a_cost a_may a_rest a_way c_n c_rain c_ear c_many c_seed (c_taped + (1 : Int32)) c_from c_to c_token c_value c_imaged x2 c_refusals)) rfl rfl hx2 rfl dX5_feed_51 ?_
      refine k_aload_n C dX5_feed_52 0 rfl rfl ?_
      refine k_get C (C0 := RX5) (T := TX5) (N := 26) (fun w h => List.mem_cons_of_mem _ (us_R w h)) 0 rfl rfl 9 (by decide) (List.mem_cons_of_mem _ wq_608) rfl rfl dX5_feed_53 ?_
      obtain rfl := Option.some.inj h
      exact kret_i C rfl dX5_feed_56
    · have h := ifT c_25 h
      refine k_aload_n C dX5_feed_28 0 rfl rfl ?_
      refine k_bipush C (v := (-6 : Int32)) dX5_feed_29 (by decide) ?_
      obtain ⟨x3, hx3, h⟩ := bindE h
      refine kcallU_i C (wc := (cells_R_no cI cL cZ a_this a_gravel a_kind a_own a_likely a_tape a_holding a_rowLength a_rowOf a_refusals a_old a_ahead a_cost a_may a_rest a_way c_n c_rain c_ear c_many c_seed c_taped c_from c_to c_token c_value c_imaged c_refusals)) (w1 := (cells_R_no cI cL cZ a_this a_gravel a_kind a_own a_likely a_tape a_holding a_rowLength a_rowOf a_refusals a_old a_ahead a_cost a_may a_rest a_way c_n c_rain c_ear c_many c_seed c_taped c_from c_to c_token c_value c_imaged x3.2)) (ws' := (cells_R_feed cI cL cZ a_this a_gravel a_kind a_own a_likely a_tape a_holding a_rowLength a_rowOf a_refusals a_old a_ahead a_cost a_may a_rest a_way c_n c_rain c_ear c_many c_seed c_taped c_from c_to c_token c_value c_imaged c_tape x3.2)) (r := x3.1) [0, 2] (fun H locs ls hP hD hS hF hz => krunV C (q0 := 0) (ci := 5) (c_R_no l D cI cL cZ H.size a_this a_gravel a_kind a_own a_likely a_tape a_holding a_rowLength a_rowOf a_refusals a_old a_ahead a_cost a_may a_rest a_way (-6 : Int32) c_n c_rain c_ear c_many c_seed c_taped c_from c_to c_token c_value c_imaged c_refusals x3 hx3) (cwV 1 C.2.2.2.2.1 (gV wq_558 wq_559 wq_560 wq_551 wq_557) rfl rfl rfl (by decide +kernel) ⟨(Nat.le_of_ble_eq_true rfl), (Nat.le_of_ble_eq_true rfl)⟩) rfl rfl kEnv_T rfl rfl (Nat.le_of_ble_eq_true rfl) dX5_feed_31 hP hD hz) rfl (by decide) rfl rfl ?_
      obtain rfl := Option.some.inj h
      exact kret_i C rfl dX5_feed_34
  · have h := ifT c_8 h
    refine k_aload_n C dX5_feed_11 0 rfl rfl ?_
    refine k_bipush C (v := (-2 : Int32)) dX5_feed_12 (by decide) ?_
    obtain ⟨x4, hx4, h⟩ := bindE h
    refine kcallU_i C (wc := (cells_R_no cI cL cZ a_this a_gravel a_kind a_own a_likely a_tape a_holding a_rowLength a_rowOf a_refusals a_old a_ahead a_cost a_may a_rest a_way c_n c_rain c_ear c_many c_seed c_taped c_from c_to c_token c_value c_imaged c_refusals)) (w1 := (cells_R_no cI cL cZ a_this a_gravel a_kind a_own a_likely a_tape a_holding a_rowLength a_rowOf a_refusals a_old a_ahead a_cost a_may a_rest a_way c_n c_rain c_ear c_many c_seed c_taped c_from c_to c_token c_value c_imaged x4.2)) (ws' := (cells_R_feed cI cL cZ a_this a_gravel a_kind a_own a_likely a_tape a_holding a_rowLength a_rowOf a_refusals a_old a_ahead a_cost a_may a_rest a_way c_n c_rain c_ear c_many c_seed c_taped c_from c_to c_token c_value c_imaged c_tape x4.2)) (r := x4.1) [0, 2] (fun H locs ls hP hD hS hF hz => krunV C (q0 := 0) (ci := 5) (c_R_no l D cI cL cZ H.size a_this a_gravel a_kind a_own a_likely a_tape a_holding a_rowLength a_rowOf a_refusals a_old a_ahead a_cost a_may a_rest a_way (-2 : Int32) c_n c_rain c_ear c_many c_seed c_taped c_from c_to c_token c_value c_imaged c_refusals x4 hx4) (cwV 1 C.2.2.2.2.1 (gV wq_558 wq_559 wq_560 wq_551 wq_557) rfl rfl rfl (by decide +kernel) ⟨(Nat.le_of_ble_eq_true rfl), (Nat.le_of_ble_eq_true rfl)⟩) rfl rfl kEnv_T rfl rfl (Nat.le_of_ble_eq_true rfl) dX5_feed_14 hP hD hz) rfl (by decide) rfl rfl ?_
    obtain rfl := Option.some.inj h
    exact kret_i C rfl dX5_feed_17
theorem c_R_feed (l : Launch) (D : va_G) (cI : ClassId) (cL : ClassId) (cZ : ClassId) (sz : Nat) (a_this : Nat) (a_gravel : Nat) (a_kind : Nat) (a_own : Nat) (a_likely : Nat) (a_tape : Nat) (a_holding : Nat) (a_rowLength : Nat) (a_rowOf : Nat) (a_refusals : Nat) (a_old : Nat) (a_ahead : Nat) (a_cost : Nat) (a_may : Nat) (a_rest : Nat) (a_way : Nat) (v1 : Int32) (c_n : Int32) (c_rain : Int32) (c_ear : Int32) (c_many : Int32) (c_seed : Int32) (c_taped : Int32) (c_from : Int32) (c_to : Int32) (c_token : Int32) (c_value : Int32) (c_imaged : Int32) (c_tape : (Nat → Int32)) (c_refusals : (Nat → Int32)) (x : (Int32 × Int32 × (Nat → Int32) × (Nat → Int32))) (h : f_R_feed v1 c_taped c_tape c_refusals = some x) :
    Met l yX5_feed (Cond.code yX5_feed cX5_feed 2 (some .int) :: WS) rm_R_feed (kP D (tyG cI cL cZ) kTrue [.ref a_this, .int v1] sz (cells_R_feed cI cL cZ a_this a_gravel a_kind a_own a_likely a_tape a_holding a_rowLength a_rowOf a_refusals a_old a_ahead a_cost a_may a_rest a_way c_n c_rain c_ear c_many c_seed c_taped c_from c_to c_token c_value c_imaged c_tape c_refusals)) (kQi D (va_A (cells_R_feed cI cL cZ a_this a_gravel a_kind a_own a_likely a_tape a_holding a_rowLength a_rowOf a_refusals a_old a_ahead a_cost a_may a_rest a_way c_n c_rain c_ear c_many c_seed c_taped c_from c_to c_token c_value c_imaged c_tape c_refusals) sz) (cells_R_feed cI cL cZ a_this a_gravel a_kind a_own a_likely a_tape a_holding a_rowLength a_rowOf a_refusals a_old a_ahead a_cost a_may a_rest a_way c_n c_rain c_ear c_many c_seed x.2.1 c_from c_to c_token c_value c_imaged x.2.2.1 x.2.2.2) x.1) 0 0 (va_A (cells_R_feed cI cL cZ a_this a_gravel a_kind a_own a_likely a_tape a_holding a_rowLength a_rowOf a_refusals a_old a_ahead a_cost a_may a_rest a_way c_n c_rain c_ear c_many c_seed c_taped c_from c_to c_token c_value c_imaged c_tape c_refusals) sz) :=
  kmet (by decide) (Nat.le_of_ble_eq_true rfl) rfl (fun p e s m below meth c C hE => s_R_feed C h)
abbrev cells_R_wipe (cI : ClassId) (cL : ClassId) (cZ : ClassId) (a_this : Nat) (a_gravel : Nat) (a_kind : Nat) (a_own : Nat) (a_likely : Nat) (a_tape : Nat) (a_holding : Nat) (a_rowLength : Nat) (a_rowOf : Nat) (a_refusals : Nat) (a_old : Nat) (a_ahead : Nat) (a_cost : Nat) (a_may : Nat) (a_rest : Nat) (a_way : Nat) (c_n : Int32) (c_rain : Int32) (c_ear : Int32) (c_many : Int32) (c_seed : Int32) (c_taped : Int32) (c_from : Int32) (c_to : Int32) (c_token : Int32) (c_value : Int32) (c_imaged : Int32) : va_W := [(a_this, .inr (5, [.int c_n, .ref a_gravel, .int c_rain, .int c_ear, .int c_many, .ref a_kind, .ref a_own, .ref a_likely, .int c_seed, .int c_taped, .ref a_tape, .int c_from, .int c_to, .int c_token, .int c_value, .ref a_holding, .ref a_rowLength, .ref a_rowOf, .ref a_refusals, .int c_imaged, .ref a_old, .ref a_ahead, .ref a_cost, .ref a_may, .ref a_rest, .ref a_way]))]
abbrev rm_R_wipe : Room := { frames := 0, cells := 0, slots := 0, locals := 0 }
set_option maxRecDepth 100000 in
set_option maxHeartbeats 4000000 in
theorem s_R_wipe (C : kC p l e rm_R_wipe s m args below meth c D (tyG cI cL cZ) A 2 cX5_wipe yX5_wipe.cls (Cond.code yX5_wipe cX5_wipe 2 (some .int) :: WS) (some .int)) {a_this : Nat} {a_gravel : Nat} {a_kind : Nat} {a_own : Nat} {a_likely : Nat} {a_tape : Nat} {a_holding : Nat} {a_rowLength : Nat} {a_rowOf : Nat} {a_refusals : Nat} {a_old : Nat} {a_ahead : Nat} {a_cost : Nat} {a_may : Nat} {a_rest : Nat} {a_way : Nat} {c_n : Int32} {c_rain : Int32} {c_ear : Int32} {c_many : Int32} {c_seed : Int32} {c_taped : Int32} {c_from : Int32} {c_to : Int32} {c_token : Int32} {c_value : Int32} {c_imaged : Int32} {x : (Int32 × Int32)} (h : f_R_wipe c_taped = some x) :
    kW p l e rm_R_wipe s m args below meth c D A 2 (cells_R_wipe cI cL cZ a_this a_gravel a_kind a_own a_likely a_tape a_holding a_rowLength a_rowOf a_refusals a_old a_ahead a_cost a_may a_rest a_way c_n c_rain c_ear c_many c_seed c_taped c_from c_to c_token c_value c_imaged) [(0, .ref a_this)] (MQ below (kQi D A (cells_R_wipe cI cL cZ a_this a_gravel a_kind a_own a_likely a_tape a_holding a_rowLength a_rowOf a_refusals a_old a_ahead a_cost a_may a_rest a_way c_n c_rain c_ear c_many c_seed x.2 c_from c_to c_token c_value c_imaged) x.1) args s 0 0 A) 0 [] := by
  unfold f_R_wipe at h
  refine k_aload_n C dX5_wipe_0 0 rfl rfl ?_
  refine k_get C (C0 := RX5) (T := TX5) (N := 26) (fun w h => List.mem_cons_of_mem _ (us_R w h)) 0 rfl rfl 9 (by decide) (List.mem_cons_of_mem _ wq_608) rfl rfl dX5_wipe_1 ?_
  refine k_istore_n C (lv' := [(1, .int c_taped), (0, .ref a_this)]) dX5_wipe_4 rfl (by decide) rfl ?_
  refine k_aload_n C dX5_wipe_5 1 rfl rfl ?_
  refine k_iconst C (v := (0 : Int32)) dX5_wipe_6 (by decide) ?_
  refine k_put C (C0 := RX5) (T := TX5) (N := 26) (ws' := (cells_R_wipe cI cL cZ a_this a_gravel a_kind a_own a_likely a_tape a_holding a_rowLength a_rowOf a_refusals a_old a_ahead a_cost a_may a_rest a_way c_n c_rain c_ear c_many c_seed (0 : Int32) c_from c_to c_token c_value c_imaged)) (fun w h => List.mem_cons_of_mem _ (us_R w h)) tyX5 tyX5_ok nmX5 0 rfl rfl 9 (by decide) (List.mem_cons_of_mem _ wq_608) rfl rfl (tyX5_ok 9 (by decide)) rfl rfl (Nat.le_of_ble_eq_true rfl) rfl dX5_wipe_7 ?_
  refine k_iload_n C dX5_wipe_10 0 rfl rfl ?_
  obtain rfl := Option.some.inj h
  exact kret_i C rfl dX5_wipe_11
theorem c_R_wipe (l : Launch) (D : va_G) (cI : ClassId) (cL : ClassId) (cZ : ClassId) (sz : Nat) (a_this : Nat) (a_gravel : Nat) (a_kind : Nat) (a_own : Nat) (a_likely : Nat) (a_tape : Nat) (a_holding : Nat) (a_rowLength : Nat) (a_rowOf : Nat) (a_refusals : Nat) (a_old : Nat) (a_ahead : Nat) (a_cost : Nat) (a_may : Nat) (a_rest : Nat) (a_way : Nat) (c_n : Int32) (c_rain : Int32) (c_ear : Int32) (c_many : Int32) (c_seed : Int32) (c_taped : Int32) (c_from : Int32) (c_to : Int32) (c_token : Int32) (c_value : Int32) (c_imaged : Int32) (x : (Int32 × Int32)) (h : f_R_wipe c_taped = some x) :
    Met l yX5_wipe (Cond.code yX5_wipe cX5_wipe 2 (some .int) :: WS) rm_R_wipe (kP D (tyG cI cL cZ) kTrue [.ref a_this] sz (cells_R_wipe cI cL cZ a_this a_gravel a_kind a_own a_likely a_tape a_holding a_rowLength a_rowOf a_refusals a_old a_ahead a_cost a_may a_rest a_way c_n c_rain c_ear c_many c_seed c_taped c_from c_to c_token c_value c_imaged)) (kQi D (va_A (cells_R_wipe cI cL cZ a_this a_gravel a_kind a_own a_likely a_tape a_holding a_rowLength a_rowOf a_refusals a_old a_ahead a_cost a_may a_rest a_way c_n c_rain c_ear c_many c_seed c_taped c_from c_to c_token c_value c_imaged) sz) (cells_R_wipe cI cL cZ a_this a_gravel a_kind a_own a_likely a_tape a_holding a_rowLength a_rowOf a_refusals a_old a_ahead a_cost a_may a_rest a_way c_n c_rain c_ear c_many c_seed x.2 c_from c_to c_token c_value c_imaged) x.1) 0 0 (va_A (cells_R_wipe cI cL cZ a_this a_gravel a_kind a_own a_likely a_tape a_holding a_rowLength a_rowOf a_refusals a_old a_ahead a_cost a_may a_rest a_way c_n c_rain c_ear c_many c_seed c_taped c_from c_to c_token c_value c_imaged) sz) :=
  kmet (by decide) (Nat.le_of_ble_eq_true rfl) rfl (fun p e s m below meth c C hE => s_R_wipe C h)
abbrev cells_R_isLetter (cI : ClassId) (cL : ClassId) (cZ : ClassId) : va_W := []
abbrev rm_R_isLetter : Room := { frames := 0, cells := 0, slots := 0, locals := 0 }
set_option maxRecDepth 100000 in
set_option maxHeartbeats 4000000 in
theorem s_R_isLetter (C : kC p l e rm_R_isLetter s m args below meth c D (tyG cI cL cZ) A 1 cX5_isLetter yX5_isLetter.cls (Cond.code yX5_isLetter cX5_isLetter 1 (some .boolean) :: WS) (some .boolean)) {v0 : Int32} {x : Int32} (h : f_R_isLetter v0 = some x) :
    kW p l e rm_R_isLetter s m args below meth c D A 1 (cells_R_isLetter cI cL cZ) [(0, .int v0)] (MQ below (kQi D A (cells_R_isLetter cI cL cZ) x) args s 0 0 A) 0 [] := by
  unfold f_R_isLetter at h
  refine k_iload_n C dX5_isLetter_0 0 rfl rfl ?_
  refine k_bipush C (v := (97 : Int32)) dX5_isLetter_1 (by decide) ?_
  refine k_icmp_lt C (tgt := 16) dX5_isLetter_3 (by decide) (fun c_3 => ?_) (fun c_3 => ?_)
  · have h := ifT c_3 h
    refine k_iconst C (v := (0 : Int32)) dX5_isLetter_16 (by decide) ?_
    obtain rfl := Option.some.inj h
    exact kret_z C rfl nz0 dX5_isLetter_17
  · have h := ifF c_3 h
    refine k_iload_n C dX5_isLetter_6 0 rfl rfl ?_
    refine k_bipush C (v := (122 : Int32)) dX5_isLetter_7 (by decide) ?_
    refine k_icmp_gt C (tgt := 16) dX5_isLetter_9 (by decide) (fun c_9 => ?_) (fun c_9 => ?_)
    · have h := ifT c_9 h
      refine k_iconst C (v := (0 : Int32)) dX5_isLetter_16 (by decide) ?_
      obtain rfl := Option.some.inj h
      exact kret_z C rfl nz0 dX5_isLetter_17
    · have h := ifF c_9 h
      refine k_iconst C (v := (1 : Int32)) dX5_isLetter_12 (by decide) ?_
      refine k_goto C (tgt := 17) dX5_isLetter_13 (by decide) ?_
      obtain rfl := Option.some.inj h
      exact kret_z C rfl nz1 dX5_isLetter_17
theorem c_R_isLetter (l : Launch) (D : va_G) (cI : ClassId) (cL : ClassId) (cZ : ClassId) (sz : Nat) (v0 : Int32) (x : Int32) (h : f_R_isLetter v0 = some x) :
    Met l yX5_isLetter (Cond.code yX5_isLetter cX5_isLetter 1 (some .boolean) :: WS) rm_R_isLetter (kP D (tyG cI cL cZ) kTrue [.int v0] sz (cells_R_isLetter cI cL cZ)) (kQi D (va_A (cells_R_isLetter cI cL cZ) sz) (cells_R_isLetter cI cL cZ) x) 0 0 (va_A (cells_R_isLetter cI cL cZ) sz) :=
  kmet (by decide) (Nat.le_of_ble_eq_true rfl) rfl (fun p e s m below meth c C hE => s_R_isLetter C h)
abbrev cells_R_isDigit (cI : ClassId) (cL : ClassId) (cZ : ClassId) : va_W := []
abbrev rm_R_isDigit : Room := { frames := 0, cells := 0, slots := 0, locals := 0 }
set_option maxRecDepth 100000 in
set_option maxHeartbeats 4000000 in
theorem s_R_isDigit (C : kC p l e rm_R_isDigit s m args below meth c D (tyG cI cL cZ) A 1 cX5_isDigit yX5_isDigit.cls (Cond.code yX5_isDigit cX5_isDigit 1 (some .boolean) :: WS) (some .boolean)) {v0 : Int32} {x : Int32} (h : f_R_isDigit v0 = some x) :
    kW p l e rm_R_isDigit s m args below meth c D A 1 (cells_R_isDigit cI cL cZ) [(0, .int v0)] (MQ below (kQi D A (cells_R_isDigit cI cL cZ) x) args s 0 0 A) 0 [] := by
  unfold f_R_isDigit at h
  refine k_iload_n C dX5_isDigit_0 0 rfl rfl ?_
  refine k_bipush C (v := (48 : Int32)) dX5_isDigit_1 (by decide) ?_
  refine k_icmp_lt C (tgt := 16) dX5_isDigit_3 (by decide) (fun c_3 => ?_) (fun c_3 => ?_)
  · have h := ifT c_3 h
    refine k_iconst C (v := (0 : Int32)) dX5_isDigit_16 (by decide) ?_
    obtain rfl := Option.some.inj h
    exact kret_z C rfl nz0 dX5_isDigit_17
  · have h := ifF c_3 h
    refine k_iload_n C dX5_isDigit_6 0 rfl rfl ?_
    refine k_bipush C (v := (57 : Int32)) dX5_isDigit_7 (by decide) ?_
    refine k_icmp_gt C (tgt := 16) dX5_isDigit_9 (by decide) (fun c_9 => ?_) (fun c_9 => ?_)
    · have h := ifT c_9 h
      refine k_iconst C (v := (0 : Int32)) dX5_isDigit_16 (by decide) ?_
      obtain rfl := Option.some.inj h
      exact kret_z C rfl nz0 dX5_isDigit_17
    · have h := ifF c_9 h
      refine k_iconst C (v := (1 : Int32)) dX5_isDigit_12 (by decide) ?_
      refine k_goto C (tgt := 17) dX5_isDigit_13 (by decide) ?_
      obtain rfl := Option.some.inj h
      exact kret_z C rfl nz1 dX5_isDigit_17
theorem c_R_isDigit (l : Launch) (D : va_G) (cI : ClassId) (cL : ClassId) (cZ : ClassId) (sz : Nat) (v0 : Int32) (x : Int32) (h : f_R_isDigit v0 = some x) :
    Met l yX5_isDigit (Cond.code yX5_isDigit cX5_isDigit 1 (some .boolean) :: WS) rm_R_isDigit (kP D (tyG cI cL cZ) kTrue [.int v0] sz (cells_R_isDigit cI cL cZ)) (kQi D (va_A (cells_R_isDigit cI cL cZ) sz) (cells_R_isDigit cI cL cZ) x) 0 0 (va_A (cells_R_isDigit cI cL cZ) sz) :=
  kmet (by decide) (Nat.le_of_ble_eq_true rfl) rfl (fun p e s m below meth c C hE => s_R_isDigit C h)
abbrev cells_R_next (cI : ClassId) (cL : ClassId) (cZ : ClassId) (a_this : Nat) (a_gravel : Nat) (a_kind : Nat) (a_own : Nat) (a_likely : Nat) (a_tape : Nat) (a_holding : Nat) (a_rowLength : Nat) (a_rowOf : Nat) (a_refusals : Nat) (a_old : Nat) (a_ahead : Nat) (a_cost : Nat) (a_may : Nat) (a_rest : Nat) (a_way : Nat) (c_n : Int32) (c_rain : Int32) (c_ear : Int32) (c_many : Int32) (c_seed : Int32) (c_taped : Int32) (c_from : Int32) (c_to : Int32) (c_token : Int32) (c_value : Int32) (c_imaged : Int32) (c_tape : (Nat → Int32)) : va_W := [(a_this, .inr (5, [.int c_n, .ref a_gravel, .int c_rain, .int c_ear, .int c_many, .ref a_kind, .ref a_own, .ref a_likely, .int c_seed, .int c_taped, .ref a_tape, .int c_from, .int c_to, .int c_token, .int c_value, .ref a_holding, .ref a_rowLength, .ref a_rowOf, .ref a_refusals, .int c_imaged, .ref a_old, .ref a_ahead, .ref a_cost, .ref a_may, .ref a_rest, .ref a_way])), (a_tape, .inl (cI, 250, .inl c_tape))]
abbrev rm_R_next : Room := { frames := 1, cells := 0, slots := 0, locals := 20 }
set_option maxRecDepth 100000 in
set_option maxHeartbeats 4000000 in
theorem s_R_next_b8 (C : kC p l e rm_R_next s m args below meth c D (tyG cI cL cZ) A 2 cX5_next yX5_next.cls (Cond.code yX5_next cX5_next 2 none :: WS) none) {a_this : Nat} {a_gravel : Nat} {a_kind : Nat} {a_own : Nat} {a_likely : Nat} {a_tape : Nat} {a_holding : Nat} {a_rowLength : Nat} {a_rowOf : Nat} {a_refusals : Nat} {a_old : Nat} {a_ahead : Nat} {a_cost : Nat} {a_may : Nat} {a_rest : Nat} {a_way : Nat} {c_n : Int32} {c_rain : Int32} {c_ear : Int32} {c_many : Int32} {c_seed : Int32} {c_taped : Int32} {c_from : Int32} {c_to : Int32} {c_token : Int32} {c_value : Int32} {c_imaged : Int32} {c_tape : (Nat → Int32)} {x : (Int32 ⊕ Int32)} (h : f_R_next_b8 c_taped c_tape c_from = some x)
    (kc : ∀ s', x = .inl s' → kW p l e rm_R_next s m args below meth c D A 2 (cells_R_next cI cL cZ a_this a_gravel a_kind a_own a_likely a_tape a_holding a_rowLength a_rowOf a_refusals a_old a_ahead a_cost a_may a_rest a_way c_n c_rain c_ear c_many c_seed c_taped s' c_to c_token c_value c_imaged c_tape) [(0, .ref a_this)] Q 8 [])
    (k0 : ∀ r, x = .inr r → kW p l e rm_R_next s m args below meth c D A 2 (cells_R_next cI cL cZ a_this a_gravel a_kind a_own a_likely a_tape a_holding a_rowLength a_rowOf a_refusals a_old a_ahead a_cost a_may a_rest a_way c_n c_rain c_ear c_many c_seed c_taped r c_to c_token c_value c_imaged c_tape) [(0, .ref a_this)] Q 46 []) :
    kW p l e rm_R_next s m args below meth c D A 2 (cells_R_next cI cL cZ a_this a_gravel a_kind a_own a_likely a_tape a_holding a_rowLength a_rowOf a_refusals a_old a_ahead a_cost a_may a_rest a_way c_n c_rain c_ear c_many c_seed c_taped c_from c_to c_token c_value c_imaged c_tape) [(0, .ref a_this)] Q 8 [] := by
  unfold f_R_next_b8 at h
  refine k_aload_n C dX5_next_8 0 rfl rfl ?_
  refine k_get C (C0 := RX5) (T := TX5) (N := 26) (fun w h => List.mem_cons_of_mem _ (us_R w h)) 0 rfl rfl 11 (by decide) (List.mem_cons_of_mem _ wq_611) rfl rfl dX5_next_9 ?_
  refine k_aload_n C dX5_next_12 0 rfl rfl ?_
  refine k_get C (C0 := RX5) (T := TX5) (N := 26) (fun w h => List.mem_cons_of_mem _ (us_R w h)) 0 rfl rfl 9 (by decide) (List.mem_cons_of_mem _ wq_608) rfl rfl dX5_next_13 ?_
  refine k_icmp_ge C (tgt := 46) dX5_next_16 (by decide) (fun c_16 => ?_) (fun c_16 => ?_)
  · have h := ifT c_16 h
    exact k0 _ (Option.some.inj h).symm
  · have h := ifF c_16 h
    refine k_aload_n C dX5_next_19 0 rfl rfl ?_
    refine k_get C (C0 := RX5) (T := TX5) (N := 26) (fun w h => List.mem_cons_of_mem _ (us_R w h)) 0 rfl rfl 10 (by decide) (List.mem_cons_of_mem _ wq_609) rfl rfl dX5_next_20 ?_
    refine k_aload_n C dX5_next_23 0 rfl rfl ?_
    refine k_get C (C0 := RX5) (T := TX5) (N := 26) (fun w h => List.mem_cons_of_mem _ (us_R w h)) 0 rfl rfl 11 (by decide) (List.mem_cons_of_mem _ wq_611) rfl rfl dX5_next_24 ?_
    obtain ⟨x1, hx1, h⟩ := bindE h
    refine k_iald C 1 0 rfl rfl hx1 dX5_next_27 ?_
    refine k_bipush C (v := (32 : Int32)) dX5_next_28 (by decide) ?_
    refine k_icmp_ne C (tgt := 46) dX5_next_30 (by decide) (fun c_30 => ?_) (fun c_30 => ?_)
    · have h := ifF c_30 h
      exact k0 _ (Option.some.inj h).symm
    · have h := ifT c_30 h
      refine k_aload_n C dX5_next_33 0 rfl rfl ?_
      refine k_dup C dX5_next_34 rfl ?_
      refine k_get C (C0 := RX5) (T := TX5) (N := 26) (fun w h => List.mem_cons_of_mem _ (us_R w h)) 0 rfl rfl 11 (by decide) (List.mem_cons_of_mem _ wq_611) rfl rfl dX5_next_35 ?_
      refine k_iconst C (v := (1 : Int32)) dX5_next_38 (by decide) ?_
      refine k_iadd C dX5_next_39 ?_
      refine k_put C (C0 := RX5) (T := TX5) (N := 26) (ws' := (cells_R_next cI cL cZ a_this a_gravel a_kind a_own a_likely a_tape a_holding a_rowLength a_rowOf a_refusals a_old a_ahead a_cost a_may a_rest a_way c_n c_rain c_ear c_many c_seed c_taped (c_from + (1 : Int32)) c_to c_token c_value c_imaged c_tape)) (fun w h => List.mem_cons_of_mem _ (us_R w h)) tyX5 tyX5_ok nmX5 0 rfl rfl 11 (by decide) (List.mem_cons_of_mem _ wq_611) rfl rfl (tyX5_ok 11 (by decide)) rfl rfl (Nat.le_of_ble_eq_true rfl) rfl dX5_next_40 ?_
      refine k_goto C (tgt := 8) dX5_next_43 (by decide) ?_
      exact kc _ (Option.some.inj h).symm
set_option maxRecDepth 100000 in
set_option maxHeartbeats 4000000 in
theorem s_R_next_l8 (C : kC p l e rm_R_next s m args below meth c D (tyG cI cL cZ) A 2 cX5_next yX5_next.cls (Cond.code yX5_next cX5_next 2 none :: WS) none) {a_this : Nat} {a_gravel : Nat} {a_kind : Nat} {a_own : Nat} {a_likely : Nat} {a_tape : Nat} {a_holding : Nat} {a_rowLength : Nat} {a_rowOf : Nat} {a_refusals : Nat} {a_old : Nat} {a_ahead : Nat} {a_cost : Nat} {a_may : Nat} {a_rest : Nat} {a_way : Nat} {c_n : Int32} {c_rain : Int32} {c_ear : Int32} {c_many : Int32} {c_seed : Int32} {c_taped : Int32} {c_from : Int32} {c_to : Int32} {c_token : Int32} {c_value : Int32} {c_imaged : Int32} {c_tape : (Nat → Int32)} {x : Int32} (h : f_R_next_l8 c_taped c_tape c_from = some x)
    (k0 : kW p l e rm_R_next s m args below meth c D A 2 (cells_R_next cI cL cZ a_this a_gravel a_kind a_own a_likely a_tape a_holding a_rowLength a_rowOf a_refusals a_old a_ahead a_cost a_may a_rest a_way c_n c_rain c_ear c_many c_seed c_taped x c_to c_token c_value c_imaged c_tape) [(0, .ref a_this)] Q 46 []) :
    kW p l e rm_R_next s m args below meth c D A 2 (cells_R_next cI cL cZ a_this a_gravel a_kind a_own a_likely a_tape a_holding a_rowLength a_rowOf a_refusals a_old a_ahead a_cost a_may a_rest a_way c_n c_rain c_ear c_many c_seed c_taped c_from c_to c_token c_value c_imaged c_tape) [(0, .ref a_this)] Q 8 [] := by
  unfold f_R_next_l8 at h
  exact iter_W (body := fun s => f_R_next_b8 c_taped c_tape s) (r := x) (T := fun sg => kW p l e rm_R_next s m args below meth c D A 2 (cells_R_next cI cL cZ a_this a_gravel a_kind a_own a_likely a_tape a_holding a_rowLength a_rowOf a_refusals a_old a_ahead a_cost a_may a_rest a_way c_n c_rain c_ear c_many c_seed c_taped sg c_to c_token c_value c_imaged c_tape) [(0, .ref a_this)] Q 8 []) (fun sg y hy hc _ hr => s_R_next_b8 C (c_n := c_n) (c_rain := c_rain) (c_ear := c_ear) (c_many := c_many) (c_seed := c_seed) (c_taped := c_taped) (c_from := sg) (c_to := c_to) (c_token := c_token) (c_value := c_value) (c_imaged := c_imaged) (c_tape := c_tape) (x := y) hy hc (fun r e => by rw [hr r e]; exact k0)) FUEL c_from h
set_option maxRecDepth 100000 in
set_option maxHeartbeats 4000000 in
theorem s_R_next_j222 (C : kC p l e rm_R_next s m args below meth c D (tyG cI cL cZ) A 2 cX5_next yX5_next.cls (Cond.code yX5_next cX5_next 2 none :: WS) none) {a_this : Nat} {a_gravel : Nat} {a_kind : Nat} {a_own : Nat} {a_likely : Nat} {a_tape : Nat} {a_holding : Nat} {a_rowLength : Nat} {a_rowOf : Nat} {a_refusals : Nat} {a_old : Nat} {a_ahead : Nat} {a_cost : Nat} {a_may : Nat} {a_rest : Nat} {a_way : Nat} {c_n : Int32} {c_rain : Int32} {c_ear : Int32} {c_many : Int32} {c_seed : Int32} {c_taped : Int32} {c_from : Int32} {c_to : Int32} {c_token : Int32} {c_value : Int32} {c_imaged : Int32} {c_tape : (Nat → Int32)} {x : ((Int32 × Int32) ⊕ (Int32 × Int32))} (h : f_R_next_j222 c_to c_value = some x)
    (kc : ∀ s', x = .inl s' → kW p l e rm_R_next s m args below meth c D A 2 (cells_R_next cI cL cZ a_this a_gravel a_kind a_own a_likely a_tape a_holding a_rowLength a_rowOf a_refusals a_old a_ahead a_cost a_may a_rest a_way c_n c_rain c_ear c_many c_seed c_taped c_from s'.1 c_token s'.2 c_imaged c_tape) [(0, .ref a_this)] Q 159 [])
    (k0 : ∀ r, x = .inr r → kW p l e rm_R_next s m args below meth c D A 2 (cells_R_next cI cL cZ a_this a_gravel a_kind a_own a_likely a_tape a_holding a_rowLength a_rowOf a_refusals a_old a_ahead a_cost a_may a_rest a_way c_n c_rain c_ear c_many c_seed c_taped c_from r.1 c_token r.2 c_imaged c_tape) [(0, .ref a_this)] Q 235 []) :
    kW p l e rm_R_next s m args below meth c D A 2 (cells_R_next cI cL cZ a_this a_gravel a_kind a_own a_likely a_tape a_holding a_rowLength a_rowOf a_refusals a_old a_ahead a_cost a_may a_rest a_way c_n c_rain c_ear c_many c_seed c_taped c_from c_to c_token c_value c_imaged c_tape) [(0, .ref a_this)] Q 222 [] := by
  unfold f_R_next_j222 at h
  refine k_aload_n C dX5_next_222 0 rfl rfl ?_
  refine k_dup C dX5_next_223 rfl ?_
  refine k_get C (C0 := RX5) (T := TX5) (N := 26) (fun w h => List.mem_cons_of_mem _ (us_R w h)) 0 rfl rfl 12 (by decide) (List.mem_cons_of_mem _ wq_610) rfl rfl dX5_next_224 ?_
  refine k_iconst C (v := (1 : Int32)) dX5_next_227 (by decide) ?_
  refine k_iadd C dX5_next_228 ?_
  refine k_put C (C0 := RX5) (T := TX5) (N := 26) (ws' := (cells_R_next cI cL cZ a_this a_gravel a_kind a_own a_likely a_tape a_holding a_rowLength a_rowOf a_refusals a_old a_ahead a_cost a_may a_rest a_way c_n c_rain c_ear c_many c_seed c_taped c_from (c_to + (1 : Int32)) c_token c_value c_imaged c_tape)) (fun w h => List.mem_cons_of_mem _ (us_R w h)) tyX5 tyX5_ok nmX5 0 rfl rfl 12 (by decide) (List.mem_cons_of_mem _ wq_610) rfl rfl (tyX5_ok 12 (by decide)) rfl rfl (Nat.le_of_ble_eq_true rfl) rfl dX5_next_229 ?_
  refine k_goto C (tgt := 159) dX5_next_232 (by decide) ?_
  exact kc _ (Option.some.inj h).symm
set_option maxRecDepth 100000 in
set_option maxHeartbeats 4000000 in
theorem s_R_next_b159 (C : kC p l e rm_R_next s m args below meth c D (tyG cI cL cZ) A 2 cX5_next yX5_next.cls (Cond.code yX5_next cX5_next 2 none :: WS) none) {a_this : Nat} {a_gravel : Nat} {a_kind : Nat} {a_own : Nat} {a_likely : Nat} {a_tape : Nat} {a_holding : Nat} {a_rowLength : Nat} {a_rowOf : Nat} {a_refusals : Nat} {a_old : Nat} {a_ahead : Nat} {a_cost : Nat} {a_may : Nat} {a_rest : Nat} {a_way : Nat} {c_n : Int32} {c_rain : Int32} {c_ear : Int32} {c_many : Int32} {c_seed : Int32} {c_taped : Int32} {c_from : Int32} {c_to : Int32} {c_token : Int32} {c_value : Int32} {c_imaged : Int32} {c_tape : (Nat → Int32)} {x : ((Int32 × Int32) ⊕ (Int32 × Int32))} (h : f_R_next_b159 c_taped c_from c_tape c_to c_value = some x)
    (kc : ∀ s', x = .inl s' → kW p l e rm_R_next s m args below meth c D A 2 (cells_R_next cI cL cZ a_this a_gravel a_kind a_own a_likely a_tape a_holding a_rowLength a_rowOf a_refusals a_old a_ahead a_cost a_may a_rest a_way c_n c_rain c_ear c_many c_seed c_taped c_from s'.1 c_token s'.2 c_imaged c_tape) [(0, .ref a_this)] Q 159 [])
    (k0 : ∀ r, x = .inr r → kW p l e rm_R_next s m args below meth c D A 2 (cells_R_next cI cL cZ a_this a_gravel a_kind a_own a_likely a_tape a_holding a_rowLength a_rowOf a_refusals a_old a_ahead a_cost a_may a_rest a_way c_n c_rain c_ear c_many c_seed c_taped c_from r.1 c_token r.2 c_imaged c_tape) [(0, .ref a_this)] Q 235 []) :
    kW p l e rm_R_next s m args below meth c D A 2 (cells_R_next cI cL cZ a_this a_gravel a_kind a_own a_likely a_tape a_holding a_rowLength a_rowOf a_refusals a_old a_ahead a_cost a_may a_rest a_way c_n c_rain c_ear c_many c_seed c_taped c_from c_to c_token c_value c_imaged c_tape) [(0, .ref a_this)] Q 159 [] := by
  unfold f_R_next_b159 at h
  refine k_aload_n C dX5_next_159 0 rfl rfl ?_
  refine k_get C (C0 := RX5) (T := TX5) (N := 26) (fun w h => List.mem_cons_of_mem _ (us_R w h)) 0 rfl rfl 12 (by decide) (List.mem_cons_of_mem _ wq_610) rfl rfl dX5_next_160 ?_
  refine k_aload_n C dX5_next_163 0 rfl rfl ?_
  refine k_get C (C0 := RX5) (T := TX5) (N := 26) (fun w h => List.mem_cons_of_mem _ (us_R w h)) 0 rfl rfl 9 (by decide) (List.mem_cons_of_mem _ wq_608) rfl rfl dX5_next_164 ?_
  refine k_icmp_ge C (tgt := 235) dX5_next_167 (by decide) (fun c_167 => ?_) (fun c_167 => ?_)
  · have h := ifT c_167 h
    exact k0 _ (Option.some.inj h).symm
  · have h := ifF c_167 h
    refine k_aload_n C dX5_next_170 0 rfl rfl ?_
    refine k_get C (C0 := RX5) (T := TX5) (N := 26) (fun w h => List.mem_cons_of_mem _ (us_R w h)) 0 rfl rfl 10 (by decide) (List.mem_cons_of_mem _ wq_609) rfl rfl dX5_next_171 ?_
    refine k_aload_n C dX5_next_174 0 rfl rfl ?_
    refine k_get C (C0 := RX5) (T := TX5) (N := 26) (fun w h => List.mem_cons_of_mem _ (us_R w h)) 0 rfl rfl 12 (by decide) (List.mem_cons_of_mem _ wq_610) rfl rfl dX5_next_175 ?_
    obtain ⟨x6, hx6, h⟩ := bindE h
    refine k_iald C 1 0 rfl rfl hx6 dX5_next_178 ?_
    obtain ⟨x7, hx7, h⟩ := bindE h
    refine kcallE_i C (r := x7) (fun H locs ls hP hD hS hF hz => krunS C (c_R_isDigit l D cI cL cZ H.size x6 x7 hx7) (va_cwS 1 C.2.2.2.2.1 (gS wq_616 wq_617 wq_551 wq_615) rfl rfl rfl (by decide +kernel) ⟨(Nat.le_of_ble_eq_true rfl), (Nat.le_of_ble_eq_true rfl)⟩) kEnv_T rfl rfl (Nat.le_of_ble_eq_true rfl) dX5_next_179 hP hD hz) ?_
    refine k_if_eq C (tgt := 235) dX5_next_182 (by decide) (fun c_182 => ?_) (fun c_182 => ?_)
    · have h := ifT c_182 h
      exact k0 _ (Option.some.inj h).symm
    · have h := ifF c_182 h
      refine k_aload_n C dX5_next_185 0 rfl rfl ?_
      refine k_get C (C0 := RX5) (T := TX5) (N := 26) (fun w h => List.mem_cons_of_mem _ (us_R w h)) 0 rfl rfl 12 (by decide) (List.mem_cons_of_mem _ wq_610) rfl rfl dX5_next_186 ?_
      refine k_aload_n C dX5_next_189 0 rfl rfl ?_
      refine k_get C (C0 := RX5) (T := TX5) (N := 26) (fun w h => List.mem_cons_of_mem _ (us_R w h)) 0 rfl rfl 11 (by decide) (List.mem_cons_of_mem _ wq_611) rfl rfl dX5_next_190 ?_
      refine k_isub C dX5_next_193 ?_
      refine k_iconst C (v := (2 : Int32)) dX5_next_194 (by decide) ?_
      refine k_icmp_ge C (tgt := 222) dX5_next_195 (by decide) (fun c_195 => ?_) (fun c_195 => ?_)
      · have h := ifT c_195 h
        exact s_R_next_j222 C h kc k0
      · have h := ifF c_195 h
        refine k_aload_n C dX5_next_198 0 rfl rfl ?_
        refine k_bipush C (v := (10 : Int32)) dX5_next_199 (by decide) ?_
        refine k_aload_n C dX5_next_201 0 rfl rfl ?_
        refine k_get C (C0 := RX5) (T := TX5) (N := 26) (fun w h => List.mem_cons_of_mem _ (us_R w h)) 0 rfl rfl 14 (by decide) (List.mem_cons_of_mem _ wq_619) rfl rfl dX5_next_202 ?_
        refine k_imul C dX5_next_205 ?_
        refine k_aload_n C dX5_next_206 0 rfl rfl ?_
        refine k_get C (C0 := RX5) (T := TX5) (N := 26) (fun w h => List.mem_cons_of_mem _ (us_R w h)) 0 rfl rfl 10 (by decide) (List.mem_cons_of_mem _ wq_609) rfl rfl dX5_next_207 ?_
        refine k_aload_n C dX5_next_210 0 rfl rfl ?_
        refine k_get C (C0 := RX5) (T := TX5) (N := 26) (fun w h => List.mem_cons_of_mem _ (us_R w h)) 0 rfl rfl 12 (by decide) (List.mem_cons_of_mem _ wq_610) rfl rfl dX5_next_211 ?_
        obtain ⟨x8, hx8, h⟩ := bindE h
        refine k_iald C 1 0 rfl rfl hx8 dX5_next_214 ?_
        refine k_iadd C dX5_next_215 ?_
        refine k_bipush C (v := (48 : Int32)) dX5_next_216 (by decide) ?_
        refine k_isub C dX5_next_218 ?_
        refine k_put C (C0 := RX5) (T := TX5) (N := 26) (ws' := (cells_R_next cI cL cZ a_this a_gravel a_kind a_own a_likely a_tape a_holding a_rowLength a_rowOf a_refusals a_old a_ahead a_cost a_may a_rest a_way c_n c_rain c_ear c_many c_seed c_taped c_from c_to c_token ((((10 : Int32) * c_value) + x8) - (48 : Int32)) c_imaged c_tape)) (fun w h => List.mem_cons_of_mem _ (us_R w h)) tyX5 tyX5_ok nmX5 0 rfl rfl 14 (by decide) (List.mem_cons_of_mem _ wq_619) rfl rfl (tyX5_ok 14 (by decide)) rfl rfl (Nat.le_of_ble_eq_true rfl) rfl dX5_next_219 ?_
        exact s_R_next_j222 C h kc k0
set_option maxRecDepth 100000 in
set_option maxHeartbeats 4000000 in
theorem s_R_next_l159 (C : kC p l e rm_R_next s m args below meth c D (tyG cI cL cZ) A 2 cX5_next yX5_next.cls (Cond.code yX5_next cX5_next 2 none :: WS) none) {a_this : Nat} {a_gravel : Nat} {a_kind : Nat} {a_own : Nat} {a_likely : Nat} {a_tape : Nat} {a_holding : Nat} {a_rowLength : Nat} {a_rowOf : Nat} {a_refusals : Nat} {a_old : Nat} {a_ahead : Nat} {a_cost : Nat} {a_may : Nat} {a_rest : Nat} {a_way : Nat} {c_n : Int32} {c_rain : Int32} {c_ear : Int32} {c_many : Int32} {c_seed : Int32} {c_taped : Int32} {c_from : Int32} {c_to : Int32} {c_token : Int32} {c_value : Int32} {c_imaged : Int32} {c_tape : (Nat → Int32)} {x : (Int32 × Int32)} (h : f_R_next_l159 c_taped c_from c_tape c_to c_value = some x)
    (k0 : kW p l e rm_R_next s m args below meth c D A 2 (cells_R_next cI cL cZ a_this a_gravel a_kind a_own a_likely a_tape a_holding a_rowLength a_rowOf a_refusals a_old a_ahead a_cost a_may a_rest a_way c_n c_rain c_ear c_many c_seed c_taped c_from x.1 c_token x.2 c_imaged c_tape) [(0, .ref a_this)] Q 235 []) :
    kW p l e rm_R_next s m args below meth c D A 2 (cells_R_next cI cL cZ a_this a_gravel a_kind a_own a_likely a_tape a_holding a_rowLength a_rowOf a_refusals a_old a_ahead a_cost a_may a_rest a_way c_n c_rain c_ear c_many c_seed c_taped c_from c_to c_token c_value c_imaged c_tape) [(0, .ref a_this)] Q 159 [] := by
  unfold f_R_next_l159 at h
  exact iter_W (body := fun s => f_R_next_b159 c_taped c_from c_tape s.1 s.2) (r := x) (T := fun sg => kW p l e rm_R_next s m args below meth c D A 2 (cells_R_next cI cL cZ a_this a_gravel a_kind a_own a_likely a_tape a_holding a_rowLength a_rowOf a_refusals a_old a_ahead a_cost a_may a_rest a_way c_n c_rain c_ear c_many c_seed c_taped c_from sg.1 c_token sg.2 c_imaged c_tape) [(0, .ref a_this)] Q 159 []) (fun sg y hy hc _ hr => s_R_next_b159 C (c_n := c_n) (c_rain := c_rain) (c_ear := c_ear) (c_many := c_many) (c_seed := c_seed) (c_taped := c_taped) (c_from := c_from) (c_to := sg.1) (c_token := c_token) (c_value := sg.2) (c_imaged := c_imaged) (c_tape := c_tape) (x := y) hy hc (fun r e => by rw [hr r e]; exact k0)) FUEL (c_to, c_value) h
set_option maxRecDepth 100000 in
set_option maxHeartbeats 4000000 in
theorem s_R_next_b96 (C : kC p l e rm_R_next s m args below meth c D (tyG cI cL cZ) A 2 cX5_next yX5_next.cls (Cond.code yX5_next cX5_next 2 none :: WS) none) {a_this : Nat} {a_gravel : Nat} {a_kind : Nat} {a_own : Nat} {a_likely : Nat} {a_tape : Nat} {a_holding : Nat} {a_rowLength : Nat} {a_rowOf : Nat} {a_refusals : Nat} {a_old : Nat} {a_ahead : Nat} {a_cost : Nat} {a_may : Nat} {a_rest : Nat} {a_way : Nat} {c_n : Int32} {c_rain : Int32} {c_ear : Int32} {c_many : Int32} {c_seed : Int32} {c_taped : Int32} {c_from : Int32} {c_to : Int32} {c_token : Int32} {c_value : Int32} {c_imaged : Int32} {c_tape : (Nat → Int32)} {x : (Int32 ⊕ Int32)} (h : f_R_next_b96 c_taped c_tape c_to = some x)
    (kc : ∀ s', x = .inl s' → kW p l e rm_R_next s m args below meth c D A 2 (cells_R_next cI cL cZ a_this a_gravel a_kind a_own a_likely a_tape a_holding a_rowLength a_rowOf a_refusals a_old a_ahead a_cost a_may a_rest a_way c_n c_rain c_ear c_many c_seed c_taped c_from s' c_token c_value c_imaged c_tape) [(0, .ref a_this)] Q 96 [])
    (k0 : ∀ r, x = .inr r → kW p l e rm_R_next s m args below meth c D A 2 (cells_R_next cI cL cZ a_this a_gravel a_kind a_own a_likely a_tape a_holding a_rowLength a_rowOf a_refusals a_old a_ahead a_cost a_may a_rest a_way c_n c_rain c_ear c_many c_seed c_taped c_from r c_token c_value c_imaged c_tape) [(0, .ref a_this)] Q 135 []) :
    kW p l e rm_R_next s m args below meth c D A 2 (cells_R_next cI cL cZ a_this a_gravel a_kind a_own a_likely a_tape a_holding a_rowLength a_rowOf a_refusals a_old a_ahead a_cost a_may a_rest a_way c_n c_rain c_ear c_many c_seed c_taped c_from c_to c_token c_value c_imaged c_tape) [(0, .ref a_this)] Q 96 [] := by
  unfold f_R_next_b96 at h
  refine k_aload_n C dX5_next_96 0 rfl rfl ?_
  refine k_get C (C0 := RX5) (T := TX5) (N := 26) (fun w h => List.mem_cons_of_mem _ (us_R w h)) 0 rfl rfl 12 (by decide) (List.mem_cons_of_mem _ wq_610) rfl rfl dX5_next_97 ?_
  refine k_aload_n C dX5_next_100 0 rfl rfl ?_
  refine k_get C (C0 := RX5) (T := TX5) (N := 26) (fun w h => List.mem_cons_of_mem _ (us_R w h)) 0 rfl rfl 9 (by decide) (List.mem_cons_of_mem _ wq_608) rfl rfl dX5_next_101 ?_
  refine k_icmp_ge C (tgt := 135) dX5_next_104 (by decide) (fun c_104 => ?_) (fun c_104 => ?_)
  · have h := ifT c_104 h
    exact k0 _ (Option.some.inj h).symm
  · have h := ifF c_104 h
    refine k_aload_n C dX5_next_107 0 rfl rfl ?_
    refine k_get C (C0 := RX5) (T := TX5) (N := 26) (fun w h => List.mem_cons_of_mem _ (us_R w h)) 0 rfl rfl 10 (by decide) (List.mem_cons_of_mem _ wq_609) rfl rfl dX5_next_108 ?_
    refine k_aload_n C dX5_next_111 0 rfl rfl ?_
    refine k_get C (C0 := RX5) (T := TX5) (N := 26) (fun w h => List.mem_cons_of_mem _ (us_R w h)) 0 rfl rfl 12 (by decide) (List.mem_cons_of_mem _ wq_610) rfl rfl dX5_next_112 ?_
    obtain ⟨x10, hx10, h⟩ := bindE h
    refine k_iald C 1 0 rfl rfl hx10 dX5_next_115 ?_
    obtain ⟨x11, hx11, h⟩ := bindE h
    refine kcallE_i C (r := x11) (fun H locs ls hP hD hS hF hz => krunS C (c_R_isLetter l D cI cL cZ H.size x10 x11 hx11) (va_cwS 1 C.2.2.2.2.1 (gS wq_613 wq_614 wq_551 wq_612) rfl rfl rfl (by decide +kernel) ⟨(Nat.le_of_ble_eq_true rfl), (Nat.le_of_ble_eq_true rfl)⟩) kEnv_T rfl rfl (Nat.le_of_ble_eq_true rfl) dX5_next_116 hP hD hz) ?_
    refine k_if_eq C (tgt := 135) dX5_next_119 (by decide) (fun c_119 => ?_) (fun c_119 => ?_)
    · have h := ifT c_119 h
      exact k0 _ (Option.some.inj h).symm
    · have h := ifF c_119 h
      refine k_aload_n C dX5_next_122 0 rfl rfl ?_
      refine k_dup C dX5_next_123 rfl ?_
      refine k_get C (C0 := RX5) (T := TX5) (N := 26) (fun w h => List.mem_cons_of_mem _ (us_R w h)) 0 rfl rfl 12 (by decide) (List.mem_cons_of_mem _ wq_610) rfl rfl dX5_next_124 ?_
      refine k_iconst C (v := (1 : Int32)) dX5_next_127 (by decide) ?_
      refine k_iadd C dX5_next_128 ?_
      refine k_put C (C0 := RX5) (T := TX5) (N := 26) (ws' := (cells_R_next cI cL cZ a_this a_gravel a_kind a_own a_likely a_tape a_holding a_rowLength a_rowOf a_refusals a_old a_ahead a_cost a_may a_rest a_way c_n c_rain c_ear c_many c_seed c_taped c_from (c_to + (1 : Int32)) c_token c_value c_imaged c_tape)) (fun w h => List.mem_cons_of_mem _ (us_R w h)) tyX5 tyX5_ok nmX5 0 rfl rfl 12 (by decide) (List.mem_cons_of_mem _ wq_610) rfl rfl (tyX5_ok 12 (by decide)) rfl rfl (Nat.le_of_ble_eq_true rfl) rfl dX5_next_129 ?_
      refine k_goto C (tgt := 96) dX5_next_132 (by decide) ?_
      exact kc _ (Option.some.inj h).symm
set_option maxRecDepth 100000 in
set_option maxHeartbeats 4000000 in
theorem s_R_next_l96 (C : kC p l e rm_R_next s m args below meth c D (tyG cI cL cZ) A 2 cX5_next yX5_next.cls (Cond.code yX5_next cX5_next 2 none :: WS) none) {a_this : Nat} {a_gravel : Nat} {a_kind : Nat} {a_own : Nat} {a_likely : Nat} {a_tape : Nat} {a_holding : Nat} {a_rowLength : Nat} {a_rowOf : Nat} {a_refusals : Nat} {a_old : Nat} {a_ahead : Nat} {a_cost : Nat} {a_may : Nat} {a_rest : Nat} {a_way : Nat} {c_n : Int32} {c_rain : Int32} {c_ear : Int32} {c_many : Int32} {c_seed : Int32} {c_taped : Int32} {c_from : Int32} {c_to : Int32} {c_token : Int32} {c_value : Int32} {c_imaged : Int32} {c_tape : (Nat → Int32)} {x : Int32} (h : f_R_next_l96 c_taped c_tape c_to = some x)
    (k0 : kW p l e rm_R_next s m args below meth c D A 2 (cells_R_next cI cL cZ a_this a_gravel a_kind a_own a_likely a_tape a_holding a_rowLength a_rowOf a_refusals a_old a_ahead a_cost a_may a_rest a_way c_n c_rain c_ear c_many c_seed c_taped c_from x c_token c_value c_imaged c_tape) [(0, .ref a_this)] Q 135 []) :
    kW p l e rm_R_next s m args below meth c D A 2 (cells_R_next cI cL cZ a_this a_gravel a_kind a_own a_likely a_tape a_holding a_rowLength a_rowOf a_refusals a_old a_ahead a_cost a_may a_rest a_way c_n c_rain c_ear c_many c_seed c_taped c_from c_to c_token c_value c_imaged c_tape) [(0, .ref a_this)] Q 96 [] := by
  unfold f_R_next_l96 at h
  exact iter_W (body := fun s => f_R_next_b96 c_taped c_tape s) (r := x) (T := fun sg => kW p l e rm_R_next s m args below meth c D A 2 (cells_R_next cI cL cZ a_this a_gravel a_kind a_own a_likely a_tape a_holding a_rowLength a_rowOf a_refusals a_old a_ahead a_cost a_may a_rest a_way c_n c_rain c_ear c_many c_seed c_taped c_from sg c_token c_value c_imaged c_tape) [(0, .ref a_this)] Q 96 []) (fun sg y hy hc _ hr => s_R_next_b96 C (c_n := c_n) (c_rain := c_rain) (c_ear := c_ear) (c_many := c_many) (c_seed := c_seed) (c_taped := c_taped) (c_from := c_from) (c_to := sg) (c_token := c_token) (c_value := c_value) (c_imaged := c_imaged) (c_tape := c_tape) (x := y) hy hc (fun r e => by rw [hr r e]; exact k0)) FUEL c_to h
set_option maxRecDepth 100000 in
set_option maxHeartbeats 4000000 in
theorem s_R_next (C : kC p l e rm_R_next s m args below meth c D (tyG cI cL cZ) A 2 cX5_next yX5_next.cls (Cond.code yX5_next cX5_next 2 none :: WS) none) {a_this : Nat} {a_gravel : Nat} {a_kind : Nat} {a_own : Nat} {a_likely : Nat} {a_tape : Nat} {a_holding : Nat} {a_rowLength : Nat} {a_rowOf : Nat} {a_refusals : Nat} {a_old : Nat} {a_ahead : Nat} {a_cost : Nat} {a_may : Nat} {a_rest : Nat} {a_way : Nat} {c_n : Int32} {c_rain : Int32} {c_ear : Int32} {c_many : Int32} {c_seed : Int32} {c_taped : Int32} {c_from : Int32} {c_to : Int32} {c_token : Int32} {c_value : Int32} {c_imaged : Int32} {c_tape : (Nat → Int32)} {x : (Int32 × Int32 × Int32 × Int32)} (h : f_R_next c_taped c_from c_to c_token c_value c_tape = some x) :
    kW p l e rm_R_next s m args below meth c D A 2 (cells_R_next cI cL cZ a_this a_gravel a_kind a_own a_likely a_tape a_holding a_rowLength a_rowOf a_refusals a_old a_ahead a_cost a_may a_rest a_way c_n c_rain c_ear c_many c_seed c_taped c_from c_to c_token c_value c_imaged c_tape) [(0, .ref a_this)] (MQ below (kQv D A (cells_R_next cI cL cZ a_this a_gravel a_kind a_own a_likely a_tape a_holding a_rowLength a_rowOf a_refusals a_old a_ahead a_cost a_may a_rest a_way c_n c_rain c_ear c_many c_seed c_taped x.1 x.2.1 x.2.2.1 x.2.2.2 c_imaged c_tape)) args s 0 0 A) 0 [] := by
  unfold f_R_next at h
  refine k_aload_n C dX5_next_0 0 rfl rfl ?_
  refine k_aload_n C dX5_next_1 0 rfl rfl ?_
  refine k_get C (C0 := RX5) (T := TX5) (N := 26) (fun w h => List.mem_cons_of_mem _ (us_R w h)) 0 rfl rfl 12 (by decide) (List.mem_cons_of_mem _ wq_610) rfl rfl dX5_next_2 ?_
  refine k_put C (C0 := RX5) (T := TX5) (N := 26) (ws' := (cells_R_next cI cL cZ a_this a_gravel a_kind a_own a_likely a_tape a_holding a_rowLength a_rowOf a_refusals a_old a_ahead a_cost a_may a_rest a_way c_n c_rain c_ear c_many c_seed c_taped c_to c_to c_token c_value c_imaged c_tape)) (fun w h => List.mem_cons_of_mem _ (us_R w h)) tyX5 tyX5_ok nmX5 0 rfl rfl 11 (by decide) (List.mem_cons_of_mem _ wq_611) rfl rfl (tyX5_ok 11 (by decide)) rfl rfl (Nat.le_of_ble_eq_true rfl) rfl dX5_next_5 ?_
  obtain ⟨x2, hx2, h⟩ := bindE h
  refine s_R_next_l8 C hx2 ?_
  refine k_aload_n C dX5_next_46 0 rfl rfl ?_
  refine k_aload_n C dX5_next_47 0 rfl rfl ?_
  refine k_get C (C0 := RX5) (T := TX5) (N := 26) (fun w h => List.mem_cons_of_mem _ (us_R w h)) 0 rfl rfl 11 (by decide) (List.mem_cons_of_mem _ wq_611) rfl rfl dX5_next_48 ?_
  refine k_put C (C0 := RX5) (T := TX5) (N := 26) (ws' := (cells_R_next cI cL cZ a_this a_gravel a_kind a_own a_likely a_tape a_holding a_rowLength a_rowOf a_refusals a_old a_ahead a_cost a_may a_rest a_way c_n c_rain c_ear c_many c_seed c_taped x2 x2 c_token c_value c_imaged c_tape)) (fun w h => List.mem_cons_of_mem _ (us_R w h)) tyX5 tyX5_ok nmX5 0 rfl rfl 12 (by decide) (List.mem_cons_of_mem _ wq_610) rfl rfl (tyX5_ok 12 (by decide)) rfl rfl (Nat.le_of_ble_eq_true rfl) rfl dX5_next_51 ?_
  refine k_aload_n C dX5_next_54 0 rfl rfl ?_
  refine k_get C (C0 := RX5) (T := TX5) (N := 26) (fun w h => List.mem_cons_of_mem _ (us_R w h)) 0 rfl rfl 11 (by decide) (List.mem_cons_of_mem _ wq_611) rfl rfl dX5_next_55 ?_
  refine k_aload_n C dX5_next_58 0 rfl rfl ?_
  refine k_get C (C0 := RX5) (T := TX5) (N := 26) (fun w h => List.mem_cons_of_mem _ (us_R w h)) 0 rfl rfl 9 (by decide) (List.mem_cons_of_mem _ wq_608) rfl rfl dX5_next_59 ?_
  refine k_icmp_ne C (tgt := 72) dX5_next_62 (by decide) (fun c_62 => ?_) (fun c_62 => ?_)
  · have h := ifF c_62 h
    refine k_aload_n C dX5_next_72 0 rfl rfl ?_
    refine k_get C (C0 := RX5) (T := TX5) (N := 26) (fun w h => List.mem_cons_of_mem _ (us_R w h)) 0 rfl rfl 10 (by decide) (List.mem_cons_of_mem _ wq_609) rfl rfl dX5_next_73 ?_
    refine k_aload_n C dX5_next_76 0 rfl rfl ?_
    refine k_dup C dX5_next_77 rfl ?_
    refine k_get C (C0 := RX5) (T := TX5) (N := 26) (fun w h => List.mem_cons_of_mem _ (us_R w h)) 0 rfl rfl 12 (by decide) (List.mem_cons_of_mem _ wq_610) rfl rfl dX5_next_78 ?_
    refine k_dup_x1 C dX5_next_81 rfl rfl ?_
    refine k_iconst C (v := (1 : Int32)) dX5_next_82 (by decide) ?_
    refine k_iadd C dX5_next_83 ?_
    refine k_put C (C0 := RX5) (T := TX5) (N := 26) (ws' := (cells_R_next cI cL cZ a_this a_gravel a_kind a_own a_likely a_tape a_holding a_rowLength a_rowOf a_refusals a_old a_ahead a_cost a_may a_rest a_way c_n c_rain c_ear c_many c_seed c_taped x2 (x2 + (1 : Int32)) c_token c_value c_imaged c_tape)) (fun w h => List.mem_cons_of_mem _ (us_R w h)) tyX5 tyX5_ok nmX5 0 rfl rfl 12 (by decide) (List.mem_cons_of_mem _ wq_610) rfl rfl (tyX5_ok 12 (by decide)) rfl rfl (Nat.le_of_ble_eq_true rfl) rfl dX5_next_84 ?_
    obtain ⟨x3, hx3, h⟩ := bindE h
    refine k_iald C 1 0 rfl rfl hx3 dX5_next_87 ?_
    refine k_istore_n C (lv' := [(1, .int x3), (0, .ref a_this)]) dX5_next_88 rfl (by decide) rfl ?_
    refine k_iload_n C dX5_next_89 0 rfl rfl ?_
    obtain ⟨x4, hx4, h⟩ := bindE h
    refine kcallE_i C (r := x4) (fun H locs ls hP hD hS hF hz => krunS C (c_R_isLetter l D cI cL cZ H.size x3 x4 hx4) (va_cwS 1 C.2.2.2.2.1 (gS wq_613 wq_614 wq_551 wq_612) rfl rfl rfl (by decide +kernel) ⟨(Nat.le_of_ble_eq_true rfl), (Nat.le_of_ble_eq_true rfl)⟩) kEnv_T rfl rfl (Nat.le_of_ble_eq_true rfl) dX5_next_90 hP hD hz) ?_
    refine k_if_eq C (tgt := 144) dX5_next_93 (by decide) (fun c_93 => ?_) (fun c_93 => ?_)
    · have h := ifT c_93 h
      refine k_iload_n C dX5_next_144 0 rfl rfl ?_
      obtain ⟨x5, hx5, h⟩ := bindE h
      refine kcallE_i C (r := x5) (fun H locs ls hP hD hS hF hz => krunS C (c_R_isDigit l D cI cL cZ H.size x3 x5 hx5) (va_cwS 1 C.2.2.2.2.1 (gS wq_616 wq_617 wq_551 wq_615) rfl rfl rfl (by decide +kernel) ⟨(Nat.le_of_ble_eq_true rfl), (Nat.le_of_ble_eq_true rfl)⟩) kEnv_T rfl rfl (Nat.le_of_ble_eq_true rfl) dX5_next_145 hP hD hz) ?_
      refine k_if_eq C (tgt := 262) dX5_next_148 (by decide) (fun c_148 => ?_) (fun c_148 => ?_)
      · have h := ifT c_148 h
        refine k_aload_n C dX5_next_262 1 rfl rfl ?_
        refine k_iload_n C dX5_next_263 0 rfl rfl ?_
        refine k_bipush C (v := (59 : Int32)) dX5_next_264 (by decide) ?_
        refine k_icmp_ne C (tgt := 274) dX5_next_266 (by decide) (fun c_266 => ?_) (fun c_266 => ?_)
        · have h := ifF c_266 h
          refine k_bipush C (v := (120 : Int32)) dX5_next_274 (by decide) ?_
          refine k_put C (C0 := RX5) (T := TX5) (N := 26) (ws' := (cells_R_next cI cL cZ a_this a_gravel a_kind a_own a_likely a_tape a_holding a_rowLength a_rowOf a_refusals a_old a_ahead a_cost a_may a_rest a_way c_n c_rain c_ear c_many c_seed c_taped x2 (x2 + (1 : Int32)) (120 : Int32) c_value c_imaged c_tape)) (fun w h => List.mem_cons_of_mem _ (us_R w h)) tyX5 tyX5_ok nmX5 0 rfl rfl 13 (by decide) (List.mem_cons_of_mem _ wq_618) rfl rfl (tyX5_ok 13 (by decide)) rfl rfl (Nat.le_of_ble_eq_true rfl) rfl dX5_next_276 ?_
          obtain rfl := Option.some.inj h
          exact kret_v C rfl dX5_next_279
        · have h := ifT c_266 h
          refine k_bipush C (v := (59 : Int32)) dX5_next_269 (by decide) ?_
          refine k_goto C (tgt := 276) dX5_next_271 (by decide) ?_
          refine k_put C (C0 := RX5) (T := TX5) (N := 26) (ws' := (cells_R_next cI cL cZ a_this a_gravel a_kind a_own a_likely a_tape a_holding a_rowLength a_rowOf a_refusals a_old a_ahead a_cost a_may a_rest a_way c_n c_rain c_ear c_many c_seed c_taped x2 (x2 + (1 : Int32)) (59 : Int32) c_value c_imaged c_tape)) (fun w h => List.mem_cons_of_mem _ (us_R w h)) tyX5 tyX5_ok nmX5 0 rfl rfl 13 (by decide) (List.mem_cons_of_mem _ wq_618) rfl rfl (tyX5_ok 13 (by decide)) rfl rfl (Nat.le_of_ble_eq_true rfl) rfl dX5_next_276 ?_
          obtain rfl := Option.some.inj h
          exact kret_v C rfl dX5_next_279
      · have h := ifF c_148 h
        refine k_aload_n C dX5_next_151 1 rfl rfl ?_
        refine k_iload_n C dX5_next_152 0 rfl rfl ?_
        refine k_bipush C (v := (48 : Int32)) dX5_next_153 (by decide) ?_
        refine k_isub C dX5_next_155 ?_
        refine k_put C (C0 := RX5) (T := TX5) (N := 26) (ws' := (cells_R_next cI cL cZ a_this a_gravel a_kind a_own a_likely a_tape a_holding a_rowLength a_rowOf a_refusals a_old a_ahead a_cost a_may a_rest a_way c_n c_rain c_ear c_many c_seed c_taped x2 (x2 + (1 : Int32)) c_token (x3 - (48 : Int32)) c_imaged c_tape)) (fun w h => List.mem_cons_of_mem _ (us_R w h)) tyX5 tyX5_ok nmX5 0 rfl rfl 14 (by decide) (List.mem_cons_of_mem _ wq_619) rfl rfl (tyX5_ok 14 (by decide)) rfl rfl (Nat.le_of_ble_eq_true rfl) rfl dX5_next_156 ?_
        obtain ⟨x9, hx9, h⟩ := bindE h
        refine k_lv (lv' := [(0, .ref a_this)]) [1] rfl ?_
        refine s_R_next_l159 C hx9 ?_
        refine k_aload_n C dX5_next_235 0 rfl rfl ?_
        refine k_aload_n C dX5_next_236 0 rfl rfl ?_
        refine k_get C (C0 := RX5) (T := TX5) (N := 26) (fun w h => List.mem_cons_of_mem _ (us_R w h)) 0 rfl rfl 12 (by decide) (List.mem_cons_of_mem _ wq_610) rfl rfl dX5_next_237 ?_
        refine k_aload_n C dX5_next_240 0 rfl rfl ?_
        refine k_get C (C0 := RX5) (T := TX5) (N := 26) (fun w h => List.mem_cons_of_mem _ (us_R w h)) 0 rfl rfl 11 (by decide) (List.mem_cons_of_mem _ wq_611) rfl rfl dX5_next_241 ?_
        refine k_isub C dX5_next_244 ?_
        refine k_iconst C (v := (2 : Int32)) dX5_next_245 (by decide) ?_
        refine k_icmp_le C (tgt := 254) dX5_next_246 (by decide) (fun c_246 => ?_) (fun c_246 => ?_)
        · have h := ifT c_246 h
          refine k_bipush C (v := (48 : Int32)) dX5_next_254 (by decide) ?_
          refine k_put C (C0 := RX5) (T := TX5) (N := 26) (ws' := (cells_R_next cI cL cZ a_this a_gravel a_kind a_own a_likely a_tape a_holding a_rowLength a_rowOf a_refusals a_old a_ahead a_cost a_may a_rest a_way c_n c_rain c_ear c_many c_seed c_taped x2 x9.1 (48 : Int32) x9.2 c_imaged c_tape)) (fun w h => List.mem_cons_of_mem _ (us_R w h)) tyX5 tyX5_ok nmX5 0 rfl rfl 13 (by decide) (List.mem_cons_of_mem _ wq_618) rfl rfl (tyX5_ok 13 (by decide)) rfl rfl (Nat.le_of_ble_eq_true rfl) rfl dX5_next_256 ?_
          refine k_goto C (tgt := 279) dX5_next_259 (by decide) ?_
          obtain rfl := Option.some.inj h
          exact kret_v C rfl dX5_next_279
        · have h := ifF c_246 h
          refine k_bipush C (v := (120 : Int32)) dX5_next_249 (by decide) ?_
          refine k_goto C (tgt := 256) dX5_next_251 (by decide) ?_
          refine k_put C (C0 := RX5) (T := TX5) (N := 26) (ws' := (cells_R_next cI cL cZ a_this a_gravel a_kind a_own a_likely a_tape a_holding a_rowLength a_rowOf a_refusals a_old a_ahead a_cost a_may a_rest a_way c_n c_rain c_ear c_many c_seed c_taped x2 x9.1 (120 : Int32) x9.2 c_imaged c_tape)) (fun w h => List.mem_cons_of_mem _ (us_R w h)) tyX5 tyX5_ok nmX5 0 rfl rfl 13 (by decide) (List.mem_cons_of_mem _ wq_618) rfl rfl (tyX5_ok 13 (by decide)) rfl rfl (Nat.le_of_ble_eq_true rfl) rfl dX5_next_256 ?_
          refine k_goto C (tgt := 279) dX5_next_259 (by decide) ?_
          obtain rfl := Option.some.inj h
          exact kret_v C rfl dX5_next_279
    · have h := ifF c_93 h
      obtain ⟨x12, hx12, h⟩ := bindE h
      refine k_lv (lv' := [(0, .ref a_this)]) [1] rfl ?_
      refine s_R_next_l96 C hx12 ?_
      refine k_aload_n C dX5_next_135 0 rfl rfl ?_
      refine k_bipush C (v := (119 : Int32)) dX5_next_136 (by decide) ?_
      refine k_put C (C0 := RX5) (T := TX5) (N := 26) (ws' := (cells_R_next cI cL cZ a_this a_gravel a_kind a_own a_likely a_tape a_holding a_rowLength a_rowOf a_refusals a_old a_ahead a_cost a_may a_rest a_way c_n c_rain c_ear c_many c_seed c_taped x2 x12 (119 : Int32) c_value c_imaged c_tape)) (fun w h => List.mem_cons_of_mem _ (us_R w h)) tyX5 tyX5_ok nmX5 0 rfl rfl 13 (by decide) (List.mem_cons_of_mem _ wq_618) rfl rfl (tyX5_ok 13 (by decide)) rfl rfl (Nat.le_of_ble_eq_true rfl) rfl dX5_next_138 ?_
      refine k_goto C (tgt := 279) dX5_next_141 (by decide) ?_
      obtain rfl := Option.some.inj h
      exact kret_v C rfl dX5_next_279
  · have h := ifT c_62 h
    refine k_aload_n C dX5_next_65 0 rfl rfl ?_
    refine k_bipush C (v := (101 : Int32)) dX5_next_66 (by decide) ?_
    refine k_put C (C0 := RX5) (T := TX5) (N := 26) (ws' := (cells_R_next cI cL cZ a_this a_gravel a_kind a_own a_likely a_tape a_holding a_rowLength a_rowOf a_refusals a_old a_ahead a_cost a_may a_rest a_way c_n c_rain c_ear c_many c_seed c_taped x2 x2 (101 : Int32) c_value c_imaged c_tape)) (fun w h => List.mem_cons_of_mem _ (us_R w h)) tyX5 tyX5_ok nmX5 0 rfl rfl 13 (by decide) (List.mem_cons_of_mem _ wq_618) rfl rfl (tyX5_ok 13 (by decide)) rfl rfl (Nat.le_of_ble_eq_true rfl) rfl dX5_next_68 ?_
    obtain rfl := Option.some.inj h
    exact kret_v C rfl dX5_next_71
theorem c_R_next (l : Launch) (D : va_G) (cI : ClassId) (cL : ClassId) (cZ : ClassId) (sz : Nat) (a_this : Nat) (a_gravel : Nat) (a_kind : Nat) (a_own : Nat) (a_likely : Nat) (a_tape : Nat) (a_holding : Nat) (a_rowLength : Nat) (a_rowOf : Nat) (a_refusals : Nat) (a_old : Nat) (a_ahead : Nat) (a_cost : Nat) (a_may : Nat) (a_rest : Nat) (a_way : Nat) (c_n : Int32) (c_rain : Int32) (c_ear : Int32) (c_many : Int32) (c_seed : Int32) (c_taped : Int32) (c_from : Int32) (c_to : Int32) (c_token : Int32) (c_value : Int32) (c_imaged : Int32) (c_tape : (Nat → Int32)) (x : (Int32 × Int32 × Int32 × Int32)) (h : f_R_next c_taped c_from c_to c_token c_value c_tape = some x) :
    Met l yX5_next (Cond.code yX5_next cX5_next 2 none :: WS) rm_R_next (kP D (tyG cI cL cZ) kTrue [.ref a_this] sz (cells_R_next cI cL cZ a_this a_gravel a_kind a_own a_likely a_tape a_holding a_rowLength a_rowOf a_refusals a_old a_ahead a_cost a_may a_rest a_way c_n c_rain c_ear c_many c_seed c_taped c_from c_to c_token c_value c_imaged c_tape)) (kQv D (va_A (cells_R_next cI cL cZ a_this a_gravel a_kind a_own a_likely a_tape a_holding a_rowLength a_rowOf a_refusals a_old a_ahead a_cost a_may a_rest a_way c_n c_rain c_ear c_many c_seed c_taped c_from c_to c_token c_value c_imaged c_tape) sz) (cells_R_next cI cL cZ a_this a_gravel a_kind a_own a_likely a_tape a_holding a_rowLength a_rowOf a_refusals a_old a_ahead a_cost a_may a_rest a_way c_n c_rain c_ear c_many c_seed c_taped x.1 x.2.1 x.2.2.1 x.2.2.2 c_imaged c_tape)) 0 0 (va_A (cells_R_next cI cL cZ a_this a_gravel a_kind a_own a_likely a_tape a_holding a_rowLength a_rowOf a_refusals a_old a_ahead a_cost a_may a_rest a_way c_n c_rain c_ear c_many c_seed c_taped c_from c_to c_token c_value c_imaged c_tape) sz) :=
  kmet (by decide) (Nat.le_of_ble_eq_true rfl) rfl (fun p e s m below meth c C hE => s_R_next C h)
abbrev cells_R_isWord (cI : ClassId) (cL : ClassId) (cZ : ClassId) (a_this : Nat) (a_gravel : Nat) (a_kind : Nat) (a_own : Nat) (a_likely : Nat) (a_tape : Nat) (a_holding : Nat) (a_rowLength : Nat) (a_rowOf : Nat) (a_refusals : Nat) (a_old : Nat) (a_ahead : Nat) (a_cost : Nat) (a_may : Nat) (a_rest : Nat) (a_way : Nat) (c_n : Int32) (c_rain : Int32) (c_ear : Int32) (c_many : Int32) (c_seed : Int32) (c_taped : Int32) (c_from : Int32) (c_to : Int32) (c_token : Int32) (c_value : Int32) (c_imaged : Int32) (c_tape : (Nat → Int32)) : va_W := [(a_this, .inr (5, [.int c_n, .ref a_gravel, .int c_rain, .int c_ear, .int c_many, .ref a_kind, .ref a_own, .ref a_likely, .int c_seed, .int c_taped, .ref a_tape, .int c_from, .int c_to, .int c_token, .int c_value, .ref a_holding, .ref a_rowLength, .ref a_rowOf, .ref a_refusals, .int c_imaged, .ref a_old, .ref a_ahead, .ref a_cost, .ref a_may, .ref a_rest, .ref a_way])), (a_tape, .inl (cI, 250, .inl c_tape))]
abbrev rm_R_isWord : Room := { frames := 4, cells := 0, slots := 0, locals := 85 }
set_option maxRecDepth 100000 in
set_option maxHeartbeats 4000000 in
theorem s_R_isWord_b29 (C : kC p l e rm_R_isWord s m args below meth c D (tyG cI cL cZ) A 3 cX5_isWord yX5_isWord.cls (Cond.code yX5_isWord cX5_isWord 3 (some .boolean) :: WS) (some .boolean)) {X : kX} (hE : kEs X A s) {a_this : Nat} {a_gravel : Nat} {a_kind : Nat} {a_own : Nat} {a_likely : Nat} {a_tape : Nat} {a_holding : Nat} {a_rowLength : Nat} {a_rowOf : Nat} {a_refusals : Nat} {a_old : Nat} {a_ahead : Nat} {a_cost : Nat} {a_may : Nat} {a_rest : Nat} {a_way : Nat} {v2 : Int32} {v1 : Nat} {c_n : Int32} {c_rain : Int32} {c_ear : Int32} {c_many : Int32} {c_seed : Int32} {c_taped : Int32} {c_from : Int32} {c_to : Int32} {c_token : Int32} {c_value : Int32} {c_imaged : Int32} {c_tape : (Nat → Int32)} (hv1 : v1 < 7) {x : (Int32 ⊕ (Unit ⊕ Unit))} (h : f_R_isWord_b29 v1 c_from c_tape v2 = some x)
    (kc : ∀ s', x = .inl s' → kW p l e rm_R_isWord s m args below meth c D A 3 (cells_R_isWord cI cL cZ a_this a_gravel a_kind a_own a_likely a_tape a_holding a_rowLength a_rowOf a_refusals a_old a_ahead a_cost a_may a_rest a_way c_n c_rain c_ear c_many c_seed c_taped c_from c_to c_token c_value c_imaged c_tape) [(0, .ref a_this), (1, .ref (X.1 v1)), (2, .int s')] Q 29 [])
    (k0 : ∀ r, x = .inr (.inl r) → kW p l e rm_R_isWord s m args below meth c D A 3 (cells_R_isWord cI cL cZ a_this a_gravel a_kind a_own a_likely a_tape a_holding a_rowLength a_rowOf a_refusals a_old a_ahead a_cost a_may a_rest a_way c_n c_rain c_ear c_many c_seed c_taped c_from c_to c_token c_value c_imaged c_tape) [] Q 56 [])
    (k1 : ∀ r, x = .inr (.inr r) → kW p l e rm_R_isWord s m args below meth c D A 3 (cells_R_isWord cI cL cZ a_this a_gravel a_kind a_own a_likely a_tape a_holding a_rowLength a_rowOf a_refusals a_old a_ahead a_cost a_may a_rest a_way c_n c_rain c_ear c_many c_seed c_taped c_from c_to c_token c_value c_imaged c_tape) [] Q 64 []) :
    kW p l e rm_R_isWord s m args below meth c D A 3 (cells_R_isWord cI cL cZ a_this a_gravel a_kind a_own a_likely a_tape a_holding a_rowLength a_rowOf a_refusals a_old a_ahead a_cost a_may a_rest a_way c_n c_rain c_ear c_many c_seed c_taped c_from c_to c_token c_value c_imaged c_tape) [(0, .ref a_this), (1, .ref (X.1 v1)), (2, .int v2)] Q 29 [] := by
  unfold f_R_isWord_b29 at h
  refine k_iload_n C dX5_isWord_29 2 rfl rfl ?_
  refine k_aload_n C dX5_isWord_30 1 rfl rfl ?_
  refine k_slen C hE hv1 wq_620 ⟨(Nat.le_of_ble_eq_true rfl), (Nat.le_of_ble_eq_true rfl)⟩ (Nat.le_of_ble_eq_true rfl) dX5_isWord_31 ?_
  refine k_icmp_ge C (tgt := 64) dX5_isWord_34 (by decide) (fun c_34 => ?_) (fun c_34 => ?_)
  · have h := ifT c_34 h
    refine k_lv (lv' := []) [] rfl ?_
    exact k1 _ (Option.some.inj h).symm
  · have h := ifF c_34 h
    refine k_aload_n C dX5_isWord_37 0 rfl rfl ?_
    refine k_get C (C0 := RX5) (T := TX5) (N := 26) (fun w h => List.mem_cons_of_mem _ (us_R w h)) 0 rfl rfl 10 (by decide) (List.mem_cons_of_mem _ wq_609) rfl rfl dX5_isWord_38 ?_
    refine k_aload_n C dX5_isWord_41 0 rfl rfl ?_
    refine k_get C (C0 := RX5) (T := TX5) (N := 26) (fun w h => List.mem_cons_of_mem _ (us_R w h)) 0 rfl rfl 11 (by decide) (List.mem_cons_of_mem _ wq_611) rfl rfl dX5_isWord_42 ?_
    refine k_iload_n C dX5_isWord_45 2 rfl rfl ?_
    refine k_iadd C dX5_isWord_46 ?_
    obtain ⟨x1, hx1, h⟩ := bindE h
    refine k_iald C 1 0 rfl rfl hx1 dX5_isWord_47 ?_
    refine k_aload_n C dX5_isWord_48 1 rfl rfl ?_
    refine k_iload_n C dX5_isWord_49 2 rfl rfl ?_
    obtain ⟨x2, hx2, h⟩ := bindE h
    refine k_schr C hE hv1 hx2 wq_621 ⟨(Nat.le_of_ble_eq_true rfl), (Nat.le_of_ble_eq_true rfl)⟩ (Nat.le_of_ble_eq_true rfl) dX5_isWord_50 ?_
    refine k_icmp_eq C (tgt := 58) dX5_isWord_53 (by decide) (fun c_53 => ?_) (fun c_53 => ?_)
    · have h := ifT c_53 h
      refine k_iinc C (v := (v2 + (1 : Int32))) (lv' := [(2, .int (v2 + (1 : Int32))), (0, .ref a_this), (1, .ref (X.1 v1))]) dX5_isWord_58 2 rfl rfl (by decide) rfl ?_
      refine k_goto C (tgt := 29) dX5_isWord_61 (by decide) ?_
      refine k_lv (lv' := [(0, .ref a_this), (1, .ref (X.1 v1)), (2, .int (v2 + (1 : Int32)))]) [1, 2, 0] rfl ?_
      exact kc _ (Option.some.inj h).symm
    · have h := ifF c_53 h
      refine k_lv (lv' := []) [] rfl ?_
      exact k0 _ (Option.some.inj h).symm
set_option maxRecDepth 100000 in
set_option maxHeartbeats 4000000 in
theorem s_R_isWord_l29 (C : kC p l e rm_R_isWord s m args below meth c D (tyG cI cL cZ) A 3 cX5_isWord yX5_isWord.cls (Cond.code yX5_isWord cX5_isWord 3 (some .boolean) :: WS) (some .boolean)) {X : kX} (hE : kEs X A s) {a_this : Nat} {a_gravel : Nat} {a_kind : Nat} {a_own : Nat} {a_likely : Nat} {a_tape : Nat} {a_holding : Nat} {a_rowLength : Nat} {a_rowOf : Nat} {a_refusals : Nat} {a_old : Nat} {a_ahead : Nat} {a_cost : Nat} {a_may : Nat} {a_rest : Nat} {a_way : Nat} {v2 : Int32} {v1 : Nat} {c_n : Int32} {c_rain : Int32} {c_ear : Int32} {c_many : Int32} {c_seed : Int32} {c_taped : Int32} {c_from : Int32} {c_to : Int32} {c_token : Int32} {c_value : Int32} {c_imaged : Int32} {c_tape : (Nat → Int32)} (hv1 : v1 < 7) {x : (Unit ⊕ Unit)} (h : f_R_isWord_l29 v1 c_from c_tape v2 = some x)
    (k0 : ∀ r, x = (.inl r) → kW p l e rm_R_isWord s m args below meth c D A 3 (cells_R_isWord cI cL cZ a_this a_gravel a_kind a_own a_likely a_tape a_holding a_rowLength a_rowOf a_refusals a_old a_ahead a_cost a_may a_rest a_way c_n c_rain c_ear c_many c_seed c_taped c_from c_to c_token c_value c_imaged c_tape) [] Q 56 [])
    (k1 : ∀ r, x = (.inr r) → kW p l e rm_R_isWord s m args below meth c D A 3 (cells_R_isWord cI cL cZ a_this a_gravel a_kind a_own a_likely a_tape a_holding a_rowLength a_rowOf a_refusals a_old a_ahead a_cost a_may a_rest a_way c_n c_rain c_ear c_many c_seed c_taped c_from c_to c_token c_value c_imaged c_tape) [] Q 64 []) :
    kW p l e rm_R_isWord s m args below meth c D A 3 (cells_R_isWord cI cL cZ a_this a_gravel a_kind a_own a_likely a_tape a_holding a_rowLength a_rowOf a_refusals a_old a_ahead a_cost a_may a_rest a_way c_n c_rain c_ear c_many c_seed c_taped c_from c_to c_token c_value c_imaged c_tape) [(0, .ref a_this), (1, .ref (X.1 v1)), (2, .int v2)] Q 29 [] := by
  unfold f_R_isWord_l29 at h
  exact iter_W (body := fun s => f_R_isWord_b29 v1 c_from c_tape s) (r := x) (T := fun sg => kW p l e rm_R_isWord s m args below meth c D A 3 (cells_R_isWord cI cL cZ a_this a_gravel a_kind a_own a_likely a_tape a_holding a_rowLength a_rowOf a_refusals a_old a_ahead a_cost a_may a_rest a_way c_n c_rain c_ear c_many c_seed c_taped c_from c_to c_token c_value c_imaged c_tape) [(0, .ref a_this), (1, .ref (X.1 v1)), (2, .int sg)] Q 29 []) (fun sg y hy hc _ hr => s_R_isWord_b29 C hE hv1 (v2 := sg) (v1 := v1) (c_n := c_n) (c_rain := c_rain) (c_ear := c_ear) (c_many := c_many) (c_seed := c_seed) (c_taped := c_taped) (c_from := c_from) (c_to := c_to) (c_token := c_token) (c_value := c_value) (c_imaged := c_imaged) (c_tape := c_tape) (x := y) hy hc (fun r e => k0 r (hr _ e).symm) (fun r e => k1 r (hr _ e).symm)) FUEL v2 h

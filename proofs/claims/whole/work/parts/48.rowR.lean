variable {p : Program} {l : Launch} {e : Env} {s : State} {m : MethodId} {args : Array Value} {below : List Frame} {meth : Method} {c : Code} {D : va_G} {A : Nat → Prop} {cI cL cZ : ClassId} {Q : State → Prop}
abbrev cells_R_no (cI : ClassId) (cL : ClassId) (cZ : ClassId) (a_this : Nat) (a_gravel : Nat) (a_kind : Nat) (a_own : Nat) (a_likely : Nat) (a_tape : Nat) (a_holding : Nat) (a_rowLength : Nat) (a_rowOf : Nat) (a_refusals : Nat) (a_old : Nat) (a_ahead : Nat) (a_cost : Nat) (a_may : Nat) (a_rest : Nat) (a_way : Nat) (c_n : Int32) (c_rain : Int32) (c_ear : Int32) (c_many : Int32) (c_seed : Int32) (c_taped : Int32) (c_from : Int32) (c_to : Int32) (c_token : Int32) (c_value : Int32) (c_imaged : Int32) (c_refusals : (Nat → Int32)) : va_W := [(a_this, .inr (5, [.int c_n, .ref a_gravel, .int c_rain, .int c_ear, .int c_many, .ref a_kind, .ref a_own, .ref a_likely, .int c_seed, .int c_taped, .ref a_tape, .int c_from, .int c_to, .int c_token, .int c_value, .ref a_holding, .ref a_rowLength, .ref a_rowOf, .ref a_refusals, .int c_imaged, .ref a_old, .ref a_ahead, .ref a_cost, .ref a_may, .ref a_rest, .ref a_way])), (a_refusals, .inl (cI, 7, .inl c_refusals))]
abbrev rm_R_no : Room := { frames := 0, cells := 0, slots := 0, locals := 0 }
set_option maxRecDepth 100000 in
set_option maxHeartbeats 4000000 in
theorem s_R_no (C : kC p l e rm_R_no s m args below meth c D (tyG cI cL cZ) A 2 cX5_no yX5_no.cls (Cond.code yX5_no cX5_no 2 (some .int) :: WS) (some .int)) {a_this : Nat} {a_gravel : Nat} {a_kind : Nat} {a_own : Nat} {a_likely : Nat} {a_tape : Nat} {a_holding : Nat} {a_rowLength : Nat} {a_rowOf : Nat} {a_refusals : Nat} {a_old : Nat} {a_ahead : Nat} {a_cost : Nat} {a_may : Nat} {a_rest : Nat} {a_way : Nat} {v1 : Int32} {c_n : Int32} {c_rain : Int32} {c_ear : Int32} {c_many : Int32} {c_seed : Int32} {c_taped : Int32} {c_from : Int32} {c_to : Int32} {c_token : Int32} {c_value : Int32} {c_imaged : Int32} {c_refusals : (Nat → Int32)} {x : (Int32 × (Nat → Int32))} (h : f_R_no v1 c_refusals = some x) :
    kW p l e rm_R_no s m args below meth c D A 2 (cells_R_no cI cL cZ a_this a_gravel a_kind a_own a_likely a_tape a_holding a_rowLength a_rowOf a_refusals a_old a_ahead a_cost a_may a_rest a_way c_n c_rain c_ear c_many c_seed c_taped c_from c_to c_token c_value c_imaged c_refusals) [(0, .ref a_this), (1, .int v1)] (MQ below (kQi D A (cells_R_no cI cL cZ a_this a_gravel a_kind a_own a_likely a_tape a_holding a_rowLength a_rowOf a_refusals a_old a_ahead a_cost a_may a_rest a_way c_n c_rain c_ear c_many c_seed c_taped c_from c_to c_token c_value c_imaged x.2) x.1) args s 0 0 A) 0 [] := by
  unfold f_R_no at h
  refine k_aload_n C dX5_no_0 0 rfl rfl ?_
  refine k_get C (C0 := RX5) (T := TX5) (N := 26) (fun w h => List.mem_cons_of_mem _ (us_R w h)) 0 rfl rfl 18 (by decide) (List.mem_cons_of_mem _ wq_546) rfl rfl dX5_no_1 ?_
  refine k_iload_n C dX5_no_4 1 rfl rfl ?_
  refine k_ineg C dX5_no_5 ?_
  refine k_dup2_11 C dX5_no_6 rfl rfl ?_
  obtain ⟨x1, hx1, h⟩ := bindE h
  refine k_iald C 1 0 rfl rfl hx1 dX5_no_7 ?_
  refine k_iconst C (v := (1 : Int32)) dX5_no_8 (by decide) ?_
  refine k_iadd C dX5_no_9 ?_
  obtain ⟨x2, hx2, h⟩ := bindE h
  refine k_iast C 1 0 (ws' := (cells_R_no cI cL cZ a_this a_gravel a_kind a_own a_likely a_tape a_holding a_rowLength a_rowOf a_refusals a_old a_ahead a_cost a_may a_rest a_way c_n c_rain c_ear c_many c_seed c_taped c_from c_to c_token c_value c_imaged x2)) rfl rfl hx2 rfl dX5_no_10 ?_
  refine k_iload_n C dX5_no_11 1 rfl rfl ?_
  obtain rfl := Option.some.inj h
  exact kret_i C rfl dX5_no_12
theorem c_R_no (l : Launch) (D : va_G) (cI : ClassId) (cL : ClassId) (cZ : ClassId) (sz : Nat) (a_this : Nat) (a_gravel : Nat) (a_kind : Nat) (a_own : Nat) (a_likely : Nat) (a_tape : Nat) (a_holding : Nat) (a_rowLength : Nat) (a_rowOf : Nat) (a_refusals : Nat) (a_old : Nat) (a_ahead : Nat) (a_cost : Nat) (a_may : Nat) (a_rest : Nat) (a_way : Nat) (v1 : Int32) (c_n : Int32) (c_rain : Int32) (c_ear : Int32) (c_many : Int32) (c_seed : Int32) (c_taped : Int32) (c_from : Int32) (c_to : Int32) (c_token : Int32) (c_value : Int32) (c_imaged : Int32) (c_refusals : (Nat → Int32)) (x : (Int32 × (Nat → Int32))) (h : f_R_no v1 c_refusals = some x) :
    Met l yX5_no (Cond.code yX5_no cX5_no 2 (some .int) :: WS) rm_R_no (kP D (tyG cI cL cZ) kTrue [.ref a_this, .int v1] sz (cells_R_no cI cL cZ a_this a_gravel a_kind a_own a_likely a_tape a_holding a_rowLength a_rowOf a_refusals a_old a_ahead a_cost a_may a_rest a_way c_n c_rain c_ear c_many c_seed c_taped c_from c_to c_token c_value c_imaged c_refusals)) (kQi D (va_A (cells_R_no cI cL cZ a_this a_gravel a_kind a_own a_likely a_tape a_holding a_rowLength a_rowOf a_refusals a_old a_ahead a_cost a_may a_rest a_way c_n c_rain c_ear c_many c_seed c_taped c_from c_to c_token c_value c_imaged c_refusals) sz) (cells_R_no cI cL cZ a_this a_gravel a_kind a_own a_likely a_tape a_holding a_rowLength a_rowOf a_refusals a_old a_ahead a_cost a_may a_rest a_way c_n c_rain c_ear c_many c_seed c_taped c_from c_to c_token c_value c_imaged x.2) x.1) 0 0 (va_A (cells_R_no cI cL cZ a_this a_gravel a_kind a_own a_likely a_tape a_holding a_rowLength a_rowOf a_refusals a_old a_ahead a_cost a_may a_rest a_way c_n c_rain c_ear c_many c_seed c_taped c_from c_to c_token c_value c_imaged c_refusals) sz) :=
  kmet (by decide) (Nat.le_of_ble_eq_true rfl) rfl (fun p e s m below meth c C hE => s_R_no C h)
abbrev cells_R_within (cI : ClassId) (cL : ClassId) (cZ : ClassId) : va_W := []
abbrev rm_R_within : Room := { frames := 0, cells := 0, slots := 0, locals := 0 }
set_option maxRecDepth 100000 in
set_option maxHeartbeats 4000000 in
theorem s_R_within (C : kC p l e rm_R_within s m args below meth c D (tyG cI cL cZ) A 3 cX5_within yX5_within.cls (Cond.code yX5_within cX5_within 3 (some .boolean) :: WS) (some .boolean)) {v0 : Int32} {v1 : Int32} {v2 : Int32} {x : Int32} (h : f_R_within v0 v1 v2 = some x) :
    kW p l e rm_R_within s m args below meth c D A 3 (cells_R_within cI cL cZ) [(0, .int v0), (1, .int v1), (2, .int v2)] (MQ below (kQi D A (cells_R_within cI cL cZ) x) args s 0 0 A) 0 [] := by
  unfold f_R_within at h
  refine k_iload_n C dX5_within_0 0 rfl rfl ?_
  refine k_iload_n C dX5_within_1 1 rfl rfl ?_
  refine k_icmp_lt C (tgt := 14) dX5_within_2 (by decide) (fun c_2 => ?_) (fun c_2 => ?_)
  · have h := ifT c_2 h
    refine k_iconst C (v := (0 : Int32)) dX5_within_14 (by decide) ?_
    obtain rfl := Option.some.inj h
    exact kret_z C rfl nz0 dX5_within_15
  · have h := ifF c_2 h
    refine k_iload_n C dX5_within_5 0 rfl rfl ?_
    refine k_iload_n C dX5_within_6 2 rfl rfl ?_
    refine k_icmp_gt C (tgt := 14) dX5_within_7 (by decide) (fun c_7 => ?_) (fun c_7 => ?_)
    · have h := ifT c_7 h
      refine k_iconst C (v := (0 : Int32)) dX5_within_14 (by decide) ?_
      obtain rfl := Option.some.inj h
      exact kret_z C rfl nz0 dX5_within_15
    · have h := ifF c_7 h
      refine k_iconst C (v := (1 : Int32)) dX5_within_10 (by decide) ?_
      refine k_goto C (tgt := 15) dX5_within_11 (by decide) ?_
      obtain rfl := Option.some.inj h
      exact kret_z C rfl nz1 dX5_within_15
theorem c_R_within (l : Launch) (D : va_G) (cI : ClassId) (cL : ClassId) (cZ : ClassId) (sz : Nat) (v0 : Int32) (v1 : Int32) (v2 : Int32) (x : Int32) (h : f_R_within v0 v1 v2 = some x) :
    Met l yX5_within (Cond.code yX5_within cX5_within 3 (some .boolean) :: WS) rm_R_within (kP D (tyG cI cL cZ) kTrue [.int v0, .int v1, .int v2] sz (cells_R_within cI cL cZ)) (kQi D (va_A (cells_R_within cI cL cZ) sz) (cells_R_within cI cL cZ) x) 0 0 (va_A (cells_R_within cI cL cZ) sz) :=
  kmet (by decide) (Nat.le_of_ble_eq_true rfl) rfl (fun p e s m below meth c C hE => s_R_within C h)
abbrev cells_R_isFeet (cI : ClassId) (cL : ClassId) (cZ : ClassId) (a_this : Nat) (a_gravel : Nat) (a_kind : Nat) (a_own : Nat) (a_likely : Nat) (a_tape : Nat) (a_holding : Nat) (a_rowLength : Nat) (a_rowOf : Nat) (a_refusals : Nat) (a_old : Nat) (a_ahead : Nat) (a_cost : Nat) (a_may : Nat) (a_rest : Nat) (a_way : Nat) (c_n : Int32) (c_rain : Int32) (c_ear : Int32) (c_many : Int32) (c_seed : Int32) (c_taped : Int32) (c_from : Int32) (c_to : Int32) (c_token : Int32) (c_value : Int32) (c_imaged : Int32) : va_W := [(a_this, .inr (5, [.int c_n, .ref a_gravel, .int c_rain, .int c_ear, .int c_many, .ref a_kind, .ref a_own, .ref a_likely, .int c_seed, .int c_taped, .ref a_tape, .int c_from, .int c_to, .int c_token, .int c_value, .ref a_holding, .ref a_rowLength, .ref a_rowOf, .ref a_refusals, .int c_imaged, .ref a_old, .ref a_ahead, .ref a_cost, .ref a_may, .ref a_rest, .ref a_way]))]
abbrev rm_R_isFeet : Room := { frames := 1, cells := 0, slots := 0, locals := 22 }
set_option maxRecDepth 100000 in
set_option maxHeartbeats 4000000 in
theorem s_R_isFeet (C : kC p l e rm_R_isFeet s m args below meth c D (tyG cI cL cZ) A 2 cX5_isFeet yX5_isFeet.cls (Cond.code yX5_isFeet cX5_isFeet 2 (some .boolean) :: WS) (some .boolean)) {a_this : Nat} {a_gravel : Nat} {a_kind : Nat} {a_own : Nat} {a_likely : Nat} {a_tape : Nat} {a_holding : Nat} {a_rowLength : Nat} {a_rowOf : Nat} {a_refusals : Nat} {a_old : Nat} {a_ahead : Nat} {a_cost : Nat} {a_may : Nat} {a_rest : Nat} {a_way : Nat} {v1 : Int32} {c_n : Int32} {c_rain : Int32} {c_ear : Int32} {c_many : Int32} {c_seed : Int32} {c_taped : Int32} {c_from : Int32} {c_to : Int32} {c_token : Int32} {c_value : Int32} {c_imaged : Int32} {x : Int32} (h : f_R_isFeet v1 c_many = some x) :
    kW p l e rm_R_isFeet s m args below meth c D A 2 (cells_R_isFeet cI cL cZ a_this a_gravel a_kind a_own a_likely a_tape a_holding a_rowLength a_rowOf a_refusals a_old a_ahead a_cost a_may a_rest a_way c_n c_rain c_ear c_many c_seed c_taped c_from c_to c_token c_value c_imaged) [(0, .ref a_this), (1, .int v1)] (MQ below (kQi D A (cells_R_isFeet cI cL cZ a_this a_gravel a_kind a_own a_likely a_tape a_holding a_rowLength a_rowOf a_refusals a_old a_ahead a_cost a_may a_rest a_way c_n c_rain c_ear c_many c_seed c_taped c_from c_to c_token c_value c_imaged) x) args s 0 0 A) 0 [] := by
  unfold f_R_isFeet at h
  refine k_iload_n C dX5_isFeet_0 1 rfl rfl ?_
  refine k_iconst C (v := (0 : Int32)) dX5_isFeet_1 (by decide) ?_
  refine k_aload_n C dX5_isFeet_2 0 rfl rfl ?_
  refine k_get C (C0 := RX5) (T := TX5) (N := 26) (fun w h => List.mem_cons_of_mem _ (us_R w h)) 0 rfl rfl 4 (by decide) (List.mem_cons_of_mem _ wq_547) rfl rfl dX5_isFeet_3 ?_
  refine k_iconst C (v := (1 : Int32)) dX5_isFeet_6 (by decide) ?_
  refine k_isub C dX5_isFeet_7 ?_
  obtain ⟨x1, hx1, h⟩ := bindE h
  refine kcallE_i C (r := x1) (fun H locs ls hP hD hS hF hz => krunS C (c_R_within l D cI cL cZ H.size v1 (0 : Int32) (c_many - (1 : Int32)) x1 hx1) (va_cwS 3 C.2.2.2.2.1 (gS wq_549 wq_550 wq_551 wq_548) rfl rfl rfl (by decide +kernel) ⟨(Nat.le_of_ble_eq_true rfl), (Nat.le_of_ble_eq_true rfl)⟩) kEnv_T rfl rfl (Nat.le_of_ble_eq_true rfl) dX5_isFeet_8 hP hD hz) ?_
  obtain ⟨x2, hx2, h⟩ := bindE h
  obtain ⟨hz, rfl⟩ := zrE hx2
  obtain rfl := Option.some.inj h
  exact kret_z C rfl hz dX5_isFeet_11
theorem c_R_isFeet (l : Launch) (D : va_G) (cI : ClassId) (cL : ClassId) (cZ : ClassId) (sz : Nat) (a_this : Nat) (a_gravel : Nat) (a_kind : Nat) (a_own : Nat) (a_likely : Nat) (a_tape : Nat) (a_holding : Nat) (a_rowLength : Nat) (a_rowOf : Nat) (a_refusals : Nat) (a_old : Nat) (a_ahead : Nat) (a_cost : Nat) (a_may : Nat) (a_rest : Nat) (a_way : Nat) (v1 : Int32) (c_n : Int32) (c_rain : Int32) (c_ear : Int32) (c_many : Int32) (c_seed : Int32) (c_taped : Int32) (c_from : Int32) (c_to : Int32) (c_token : Int32) (c_value : Int32) (c_imaged : Int32) (x : Int32) (h : f_R_isFeet v1 c_many = some x) :
    Met l yX5_isFeet (Cond.code yX5_isFeet cX5_isFeet 2 (some .boolean) :: WS) rm_R_isFeet (kP D (tyG cI cL cZ) kTrue [.ref a_this, .int v1] sz (cells_R_isFeet cI cL cZ a_this a_gravel a_kind a_own a_likely a_tape a_holding a_rowLength a_rowOf a_refusals a_old a_ahead a_cost a_may a_rest a_way c_n c_rain c_ear c_many c_seed c_taped c_from c_to c_token c_value c_imaged)) (kQi D (va_A (cells_R_isFeet cI cL cZ a_this a_gravel a_kind a_own a_likely a_tape a_holding a_rowLength a_rowOf a_refusals a_old a_ahead a_cost a_may a_rest a_way c_n c_rain c_ear c_many c_seed c_taped c_from c_to c_token c_value c_imaged) sz) (cells_R_isFeet cI cL cZ a_this a_gravel a_kind a_own a_likely a_tape a_holding a_rowLength a_rowOf a_refusals a_old a_ahead a_cost a_may a_rest a_way c_n c_rain c_ear c_many c_seed c_taped c_from c_to c_token c_value c_imaged) x) 0 0 (va_A (cells_R_isFeet cI cL cZ a_this a_gravel a_kind a_own a_likely a_tape a_holding a_rowLength a_rowOf a_refusals a_old a_ahead a_cost a_may a_rest a_way c_n c_rain c_ear c_many c_seed c_taped c_from c_to c_token c_value c_imaged) sz) :=
  kmet (by decide) (Nat.le_of_ble_eq_true rfl) rfl (fun p e s m below meth c C hE => s_R_isFeet C h)
abbrev cells_R_isCell (cI : ClassId) (cL : ClassId) (cZ : ClassId) (a_this : Nat) (a_gravel : Nat) (a_kind : Nat) (a_own : Nat) (a_likely : Nat) (a_tape : Nat) (a_holding : Nat) (a_rowLength : Nat) (a_rowOf : Nat) (a_refusals : Nat) (a_old : Nat) (a_ahead : Nat) (a_cost : Nat) (a_may : Nat) (a_rest : Nat) (a_way : Nat) (c_n : Int32) (c_rain : Int32) (c_ear : Int32) (c_many : Int32) (c_seed : Int32) (c_taped : Int32) (c_from : Int32) (c_to : Int32) (c_token : Int32) (c_value : Int32) (c_imaged : Int32) : va_W := [(a_this, .inr (5, [.int c_n, .ref a_gravel, .int c_rain, .int c_ear, .int c_many, .ref a_kind, .ref a_own, .ref a_likely, .int c_seed, .int c_taped, .ref a_tape, .int c_from, .int c_to, .int c_token, .int c_value, .ref a_holding, .ref a_rowLength, .ref a_rowOf, .ref a_refusals, .int c_imaged, .ref a_old, .ref a_ahead, .ref a_cost, .ref a_may, .ref a_rest, .ref a_way]))]
abbrev rm_R_isCell : Room := { frames := 1, cells := 0, slots := 0, locals := 22 }
set_option maxRecDepth 100000 in
set_option maxHeartbeats 4000000 in
theorem s_R_isCell (C : kC p l e rm_R_isCell s m args below meth c D (tyG cI cL cZ) A 2 cX5_isCell yX5_isCell.cls (Cond.code yX5_isCell cX5_isCell 2 (some .boolean) :: WS) (some .boolean)) {a_this : Nat} {a_gravel : Nat} {a_kind : Nat} {a_own : Nat} {a_likely : Nat} {a_tape : Nat} {a_holding : Nat} {a_rowLength : Nat} {a_rowOf : Nat} {a_refusals : Nat} {a_old : Nat} {a_ahead : Nat} {a_cost : Nat} {a_may : Nat} {a_rest : Nat} {a_way : Nat} {v1 : Int32} {c_n : Int32} {c_rain : Int32} {c_ear : Int32} {c_many : Int32} {c_seed : Int32} {c_taped : Int32} {c_from : Int32} {c_to : Int32} {c_token : Int32} {c_value : Int32} {c_imaged : Int32} {x : Int32} (h : f_R_isCell v1 c_n = some x) :
    kW p l e rm_R_isCell s m args below meth c D A 2 (cells_R_isCell cI cL cZ a_this a_gravel a_kind a_own a_likely a_tape a_holding a_rowLength a_rowOf a_refusals a_old a_ahead a_cost a_may a_rest a_way c_n c_rain c_ear c_many c_seed c_taped c_from c_to c_token c_value c_imaged) [(0, .ref a_this), (1, .int v1)] (MQ below (kQi D A (cells_R_isCell cI cL cZ a_this a_gravel a_kind a_own a_likely a_tape a_holding a_rowLength a_rowOf a_refusals a_old a_ahead a_cost a_may a_rest a_way c_n c_rain c_ear c_many c_seed c_taped c_from c_to c_token c_value c_imaged) x) args s 0 0 A) 0 [] := by
  unfold f_R_isCell at h
  refine k_iload_n C dX5_isCell_0 1 rfl rfl ?_
  refine k_iconst C (v := (0 : Int32)) dX5_isCell_1 (by decide) ?_
  refine k_aload_n C dX5_isCell_2 0 rfl rfl ?_
  refine k_get C (C0 := RX5) (T := TX5) (N := 26) (fun w h => List.mem_cons_of_mem _ (us_R w h)) 0 rfl rfl 0 (by decide) (List.mem_cons_of_mem _ wq_552) rfl rfl dX5_isCell_3 ?_
  refine k_aload_n C dX5_isCell_6 0 rfl rfl ?_
  refine k_get C (C0 := RX5) (T := TX5) (N := 26) (fun w h => List.mem_cons_of_mem _ (us_R w h)) 0 rfl rfl 0 (by decide) (List.mem_cons_of_mem _ wq_552) rfl rfl dX5_isCell_7 ?_
  refine k_imul C dX5_isCell_10 ?_
  refine k_iconst C (v := (1 : Int32)) dX5_isCell_11 (by decide) ?_
  refine k_isub C dX5_isCell_12 ?_
  obtain ⟨x1, hx1, h⟩ := bindE h
  refine kcallE_i C (r := x1) (fun H locs ls hP hD hS hF hz => krunS C (c_R_within l D cI cL cZ H.size v1 (0 : Int32) ((c_n * c_n) - (1 : Int32)) x1 hx1) (va_cwS 3 C.2.2.2.2.1 (gS wq_549 wq_550 wq_551 wq_548) rfl rfl rfl (by decide +kernel) ⟨(Nat.le_of_ble_eq_true rfl), (Nat.le_of_ble_eq_true rfl)⟩) kEnv_T rfl rfl (Nat.le_of_ble_eq_true rfl) dX5_isCell_13 hP hD hz) ?_
  obtain ⟨x2, hx2, h⟩ := bindE h
  obtain ⟨hz, rfl⟩ := zrE hx2
  obtain rfl := Option.some.inj h
  exact kret_z C rfl hz dX5_isCell_16
theorem c_R_isCell (l : Launch) (D : va_G) (cI : ClassId) (cL : ClassId) (cZ : ClassId) (sz : Nat) (a_this : Nat) (a_gravel : Nat) (a_kind : Nat) (a_own : Nat) (a_likely : Nat) (a_tape : Nat) (a_holding : Nat) (a_rowLength : Nat) (a_rowOf : Nat) (a_refusals : Nat) (a_old : Nat) (a_ahead : Nat) (a_cost : Nat) (a_may : Nat) (a_rest : Nat) (a_way : Nat) (v1 : Int32) (c_n : Int32) (c_rain : Int32) (c_ear : Int32) (c_many : Int32) (c_seed : Int32) (c_taped : Int32) (c_from : Int32) (c_to : Int32) (c_token : Int32) (c_value : Int32) (c_imaged : Int32) (x : Int32) (h : f_R_isCell v1 c_n = some x) :
    Met l yX5_isCell (Cond.code yX5_isCell cX5_isCell 2 (some .boolean) :: WS) rm_R_isCell (kP D (tyG cI cL cZ) kTrue [.ref a_this, .int v1] sz (cells_R_isCell cI cL cZ a_this a_gravel a_kind a_own a_likely a_tape a_holding a_rowLength a_rowOf a_refusals a_old a_ahead a_cost a_may a_rest a_way c_n c_rain c_ear c_many c_seed c_taped c_from c_to c_token c_value c_imaged)) (kQi D (va_A (cells_R_isCell cI cL cZ a_this a_gravel a_kind a_own a_likely a_tape a_holding a_rowLength a_rowOf a_refusals a_old a_ahead a_cost a_may a_rest a_way c_n c_rain c_ear c_many c_seed c_taped c_from c_to c_token c_value c_imaged) sz) (cells_R_isCell cI cL cZ a_this a_gravel a_kind a_own a_likely a_tape a_holding a_rowLength a_rowOf a_refusals a_old a_ahead a_cost a_may a_rest a_way c_n c_rain c_ear c_many c_seed c_taped c_from c_to c_token c_value c_imaged) x) 0 0 (va_A (cells_R_isCell cI cL cZ a_this a_gravel a_kind a_own a_likely a_tape a_holding a_rowLength a_rowOf a_refusals a_old a_ahead a_cost a_may a_rest a_way c_n c_rain c_ear c_many c_seed c_taped c_from c_to c_token c_value c_imaged) sz) :=
  kmet (by decide) (Nat.le_of_ble_eq_true rfl) rfl (fun p e s m below meth c C hE => s_R_isCell C h)
abbrev cells_R_isColumn (cI : ClassId) (cL : ClassId) (cZ : ClassId) (a_this : Nat) (a_gravel : Nat) (a_kind : Nat) (a_own : Nat) (a_likely : Nat) (a_tape : Nat) (a_holding : Nat) (a_rowLength : Nat) (a_rowOf : Nat) (a_refusals : Nat) (a_old : Nat) (a_ahead : Nat) (a_cost : Nat) (a_may : Nat) (a_rest : Nat) (a_way : Nat) (c_n : Int32) (c_rain : Int32) (c_ear : Int32) (c_many : Int32) (c_seed : Int32) (c_taped : Int32) (c_from : Int32) (c_to : Int32) (c_token : Int32) (c_value : Int32) (c_imaged : Int32) : va_W := [(a_this, .inr (5, [.int c_n, .ref a_gravel, .int c_rain, .int c_ear, .int c_many, .ref a_kind, .ref a_own, .ref a_likely, .int c_seed, .int c_taped, .ref a_tape, .int c_from, .int c_to, .int c_token, .int c_value, .ref a_holding, .ref a_rowLength, .ref a_rowOf, .ref a_refusals, .int c_imaged, .ref a_old, .ref a_ahead, .ref a_cost, .ref a_may, .ref a_rest, .ref a_way]))]
abbrev rm_R_isColumn : Room := { frames := 1, cells := 0, slots := 0, locals := 22 }
set_option maxRecDepth 100000 in
set_option maxHeartbeats 4000000 in
theorem s_R_isColumn (C : kC p l e rm_R_isColumn s m args below meth c D (tyG cI cL cZ) A 2 cX5_isColumn yX5_isColumn.cls (Cond.code yX5_isColumn cX5_isColumn 2 (some .boolean) :: WS) (some .boolean)) {a_this : Nat} {a_gravel : Nat} {a_kind : Nat} {a_own : Nat} {a_likely : Nat} {a_tape : Nat} {a_holding : Nat} {a_rowLength : Nat} {a_rowOf : Nat} {a_refusals : Nat} {a_old : Nat} {a_ahead : Nat} {a_cost : Nat} {a_may : Nat} {a_rest : Nat} {a_way : Nat} {v1 : Int32} {c_n : Int32} {c_rain : Int32} {c_ear : Int32} {c_many : Int32} {c_seed : Int32} {c_taped : Int32} {c_from : Int32} {c_to : Int32} {c_token : Int32} {c_value : Int32} {c_imaged : Int32} {x : Int32} (h : f_R_isColumn v1 c_n = some x) :
    kW p l e rm_R_isColumn s m args below meth c D A 2 (cells_R_isColumn cI cL cZ a_this a_gravel a_kind a_own a_likely a_tape a_holding a_rowLength a_rowOf a_refusals a_old a_ahead a_cost a_may a_rest a_way c_n c_rain c_ear c_many c_seed c_taped c_from c_to c_token c_value c_imaged) [(0, .ref a_this), (1, .int v1)] (MQ below (kQi D A (cells_R_isColumn cI cL cZ a_this a_gravel a_kind a_own a_likely a_tape a_holding a_rowLength a_rowOf a_refusals a_old a_ahead a_cost a_may a_rest a_way c_n c_rain c_ear c_many c_seed c_taped c_from c_to c_token c_value c_imaged) x) args s 0 0 A) 0 [] := by
  unfold f_R_isColumn at h
  refine k_iload_n C dX5_isColumn_0 1 rfl rfl ?_
  refine k_iconst C (v := (0 : Int32)) dX5_isColumn_1 (by decide) ?_
  refine k_aload_n C dX5_isColumn_2 0 rfl rfl ?_
  refine k_get C (C0 := RX5) (T := TX5) (N := 26) (fun w h => List.mem_cons_of_mem _ (us_R w h)) 0 rfl rfl 0 (by decide) (List.mem_cons_of_mem _ wq_552) rfl rfl dX5_isColumn_3 ?_
  refine k_iconst C (v := (1 : Int32)) dX5_isColumn_6 (by decide) ?_
  refine k_isub C dX5_isColumn_7 ?_
  obtain ⟨x1, hx1, h⟩ := bindE h
  refine kcallE_i C (r := x1) (fun H locs ls hP hD hS hF hz => krunS C (c_R_within l D cI cL cZ H.size v1 (0 : Int32) (c_n - (1 : Int32)) x1 hx1) (va_cwS 3 C.2.2.2.2.1 (gS wq_549 wq_550 wq_551 wq_548) rfl rfl rfl (by decide +kernel) ⟨(Nat.le_of_ble_eq_true rfl), (Nat.le_of_ble_eq_true rfl)⟩) kEnv_T rfl rfl (Nat.le_of_ble_eq_true rfl) dX5_isColumn_8 hP hD hz) ?_
  obtain ⟨x2, hx2, h⟩ := bindE h
  obtain ⟨hz, rfl⟩ := zrE hx2
  obtain rfl := Option.some.inj h
  exact kret_z C rfl hz dX5_isColumn_11
theorem c_R_isColumn (l : Launch) (D : va_G) (cI : ClassId) (cL : ClassId) (cZ : ClassId) (sz : Nat) (a_this : Nat) (a_gravel : Nat) (a_kind : Nat) (a_own : Nat) (a_likely : Nat) (a_tape : Nat) (a_holding : Nat) (a_rowLength : Nat) (a_rowOf : Nat) (a_refusals : Nat) (a_old : Nat) (a_ahead : Nat) (a_cost : Nat) (a_may : Nat) (a_rest : Nat) (a_way : Nat) (v1 : Int32) (c_n : Int32) (c_rain : Int32) (c_ear : Int32) (c_many : Int32) (c_seed : Int32) (c_taped : Int32) (c_from : Int32) (c_to : Int32) (c_token : Int32) (c_value : Int32) (c_imaged : Int32) (x : Int32) (h : f_R_isColumn v1 c_n = some x) :
    Met l yX5_isColumn (Cond.code yX5_isColumn cX5_isColumn 2 (some .boolean) :: WS) rm_R_isColumn (kP D (tyG cI cL cZ) kTrue [.ref a_this, .int v1] sz (cells_R_isColumn cI cL cZ a_this a_gravel a_kind a_own a_likely a_tape a_holding a_rowLength a_rowOf a_refusals a_old a_ahead a_cost a_may a_rest a_way c_n c_rain c_ear c_many c_seed c_taped c_from c_to c_token c_value c_imaged)) (kQi D (va_A (cells_R_isColumn cI cL cZ a_this a_gravel a_kind a_own a_likely a_tape a_holding a_rowLength a_rowOf a_refusals a_old a_ahead a_cost a_may a_rest a_way c_n c_rain c_ear c_many c_seed c_taped c_from c_to c_token c_value c_imaged) sz) (cells_R_isColumn cI cL cZ a_this a_gravel a_kind a_own a_likely a_tape a_holding a_rowLength a_rowOf a_refusals a_old a_ahead a_cost a_may a_rest a_way c_n c_rain c_ear c_many c_seed c_taped c_from c_to c_token c_value c_imaged) x) 0 0 (va_A (cells_R_isColumn cI cL cZ a_this a_gravel a_kind a_own a_likely a_tape a_holding a_rowLength a_rowOf a_refusals a_old a_ahead a_cost a_may a_rest a_way c_n c_rain c_ear c_many c_seed c_taped c_from c_to c_token c_value c_imaged) sz) :=
  kmet (by decide) (Nat.le_of_ble_eq_true rfl) rfl (fun p e s m below meth c C hE => s_R_isColumn C h)
abbrev cells_R_isPlace (cI : ClassId) (cL : ClassId) (cZ : ClassId) (a_this : Nat) (a_gravel : Nat) (a_kind : Nat) (a_own : Nat) (a_likely : Nat) (a_tape : Nat) (a_holding : Nat) (a_rowLength : Nat) (a_rowOf : Nat) (a_refusals : Nat) (a_old : Nat) (a_ahead : Nat) (a_cost : Nat) (a_may : Nat) (a_rest : Nat) (a_way : Nat) (c_n : Int32) (c_rain : Int32) (c_ear : Int32) (c_many : Int32) (c_seed : Int32) (c_taped : Int32) (c_from : Int32) (c_to : Int32) (c_token : Int32) (c_value : Int32) (c_imaged : Int32) : va_W := [(a_this, .inr (5, [.int c_n, .ref a_gravel, .int c_rain, .int c_ear, .int c_many, .ref a_kind, .ref a_own, .ref a_likely, .int c_seed, .int c_taped, .ref a_tape, .int c_from, .int c_to, .int c_token, .int c_value, .ref a_holding, .ref a_rowLength, .ref a_rowOf, .ref a_refusals, .int c_imaged, .ref a_old, .ref a_ahead, .ref a_cost, .ref a_may, .ref a_rest, .ref a_way]))]
abbrev rm_R_isPlace : Room := { frames := 1, cells := 0, slots := 0, locals := 22 }
set_option maxRecDepth 100000 in
set_option maxHeartbeats 4000000 in
theorem s_R_isPlace (C : kC p l e rm_R_isPlace s m args below meth c D (tyG cI cL cZ) A 2 cX5_isPlace yX5_isPlace.cls (Cond.code yX5_isPlace cX5_isPlace 2 (some .boolean) :: WS) (some .boolean)) {a_this : Nat} {a_gravel : Nat} {a_kind : Nat} {a_own : Nat} {a_likely : Nat} {a_tape : Nat} {a_holding : Nat} {a_rowLength : Nat} {a_rowOf : Nat} {a_refusals : Nat} {a_old : Nat} {a_ahead : Nat} {a_cost : Nat} {a_may : Nat} {a_rest : Nat} {a_way : Nat} {v1 : Int32} {c_n : Int32} {c_rain : Int32} {c_ear : Int32} {c_many : Int32} {c_seed : Int32} {c_taped : Int32} {c_from : Int32} {c_to : Int32} {c_token : Int32} {c_value : Int32} {c_imaged : Int32} {x : Int32} (h : f_R_isPlace v1 c_n = some x) :
    kW p l e rm_R_isPlace s m args below meth c D A 2 (cells_R_isPlace cI cL cZ a_this a_gravel a_kind a_own a_likely a_tape a_holding a_rowLength a_rowOf a_refusals a_old a_ahead a_cost a_may a_rest a_way c_n c_rain c_ear c_many c_seed c_taped c_from c_to c_token c_value c_imaged) [(0, .ref a_this), (1, .int v1)] (MQ below (kQi D A (cells_R_isPlace cI cL cZ a_this a_gravel a_kind a_own a_likely a_tape a_holding a_rowLength a_rowOf a_refusals a_old a_ahead a_cost a_may a_rest a_way c_n c_rain c_ear c_many c_seed c_taped c_from c_to c_token c_value c_imaged) x) args s 0 0 A) 0 [] := by
  unfold f_R_isPlace at h
  refine k_iload_n C dX5_isPlace_0 1 rfl rfl ?_
  refine k_iconst C (v := (-1 : Int32)) dX5_isPlace_1 (by decide) ?_
  refine k_aload_n C dX5_isPlace_2 0 rfl rfl ?_
  refine k_get C (C0 := RX5) (T := TX5) (N := 26) (fun w h => List.mem_cons_of_mem _ (us_R w h)) 0 rfl rfl 0 (by decide) (List.mem_cons_of_mem _ wq_552) rfl rfl dX5_isPlace_3 ?_
  refine k_iconst C (v := (1 : Int32)) dX5_isPlace_6 (by decide) ?_
  refine k_isub C dX5_isPlace_7 ?_
  obtain ⟨x1, hx1, h⟩ := bindE h
  refine kcallE_i C (r := x1) (fun H locs ls hP hD hS hF hz => krunS C (c_R_within l D cI cL cZ H.size v1 (-1 : Int32) (c_n - (1 : Int32)) x1 hx1) (va_cwS 3 C.2.2.2.2.1 (gS wq_549 wq_550 wq_551 wq_548) rfl rfl rfl (by decide +kernel) ⟨(Nat.le_of_ble_eq_true rfl), (Nat.le_of_ble_eq_true rfl)⟩) kEnv_T rfl rfl (Nat.le_of_ble_eq_true rfl) dX5_isPlace_8 hP hD hz) ?_
  obtain ⟨x2, hx2, h⟩ := bindE h
  obtain ⟨hz, rfl⟩ := zrE hx2
  obtain rfl := Option.some.inj h
  exact kret_z C rfl hz dX5_isPlace_11
theorem c_R_isPlace (l : Launch) (D : va_G) (cI : ClassId) (cL : ClassId) (cZ : ClassId) (sz : Nat) (a_this : Nat) (a_gravel : Nat) (a_kind : Nat) (a_own : Nat) (a_likely : Nat) (a_tape : Nat) (a_holding : Nat) (a_rowLength : Nat) (a_rowOf : Nat) (a_refusals : Nat) (a_old : Nat) (a_ahead : Nat) (a_cost : Nat) (a_may : Nat) (a_rest : Nat) (a_way : Nat) (v1 : Int32) (c_n : Int32) (c_rain : Int32) (c_ear : Int32) (c_many : Int32) (c_seed : Int32) (c_taped : Int32) (c_from : Int32) (c_to : Int32) (c_token : Int32) (c_value : Int32) (c_imaged : Int32) (x : Int32) (h : f_R_isPlace v1 c_n = some x) :
    Met l yX5_isPlace (Cond.code yX5_isPlace cX5_isPlace 2 (some .boolean) :: WS) rm_R_isPlace (kP D (tyG cI cL cZ) kTrue [.ref a_this, .int v1] sz (cells_R_isPlace cI cL cZ a_this a_gravel a_kind a_own a_likely a_tape a_holding a_rowLength a_rowOf a_refusals a_old a_ahead a_cost a_may a_rest a_way c_n c_rain c_ear c_many c_seed c_taped c_from c_to c_token c_value c_imaged)) (kQi D (va_A (cells_R_isPlace cI cL cZ a_this a_gravel a_kind a_own a_likely a_tape a_holding a_rowLength a_rowOf a_refusals a_old a_ahead a_cost a_may a_rest a_way c_n c_rain c_ear c_many c_seed c_taped c_from c_to c_token c_value c_imaged) sz) (cells_R_isPlace cI cL cZ a_this a_gravel a_kind a_own a_likely a_tape a_holding a_rowLength a_rowOf a_refusals a_old a_ahead a_cost a_may a_rest a_way c_n c_rain c_ear c_many c_seed c_taped c_from c_to c_token c_value c_imaged) x) 0 0 (va_A (cells_R_isPlace cI cL cZ a_this a_gravel a_kind a_own a_likely a_tape a_holding a_rowLength a_rowOf a_refusals a_old a_ahead a_cost a_may a_rest a_way c_n c_rain c_ear c_many c_seed c_taped c_from c_to c_token c_value c_imaged) sz) :=
  kmet (by decide) (Nat.le_of_ble_eq_true rfl) rfl (fun p e s m below meth c C hE => s_R_isPlace C h)
abbrev cells_R_isShelf (cI : ClassId) (cL : ClassId) (cZ : ClassId) : va_W := []
abbrev rm_R_isShelf : Room := { frames := 1, cells := 0, slots := 0, locals := 22 }
set_option maxRecDepth 100000 in
set_option maxHeartbeats 4000000 in
theorem s_R_isShelf (C : kC p l e rm_R_isShelf s m args below meth c D (tyG cI cL cZ) A 1 cX5_isShelf yX5_isShelf.cls (Cond.code yX5_isShelf cX5_isShelf 1 (some .boolean) :: WS) (some .boolean)) {v0 : Int32} {x : Int32} (h : f_R_isShelf v0 = some x) :
    kW p l e rm_R_isShelf s m args below meth c D A 1 (cells_R_isShelf cI cL cZ) [(0, .int v0)] (MQ below (kQi D A (cells_R_isShelf cI cL cZ) x) args s 0 0 A) 0 [] := by
  unfold f_R_isShelf at h
  refine k_iload_n C dX5_isShelf_0 0 rfl rfl ?_
  refine k_iconst C (v := (0 : Int32)) dX5_isShelf_1 (by decide) ?_
  refine k_bipush C (v := (7 : Int32)) dX5_isShelf_2 (by decide) ?_
  obtain ⟨x1, hx1, h⟩ := bindE h
  refine kcallE_i C (r := x1) (fun H locs ls hP hD hS hF hz => krunS C (c_R_within l D cI cL cZ H.size v0 (0 : Int32) (7 : Int32) x1 hx1) (va_cwS 3 C.2.2.2.2.1 (gS wq_549 wq_550 wq_551 wq_548) rfl rfl rfl (by decide +kernel) ⟨(Nat.le_of_ble_eq_true rfl), (Nat.le_of_ble_eq_true rfl)⟩) kEnv_T rfl rfl (Nat.le_of_ble_eq_true rfl) dX5_isShelf_4 hP hD hz) ?_
  obtain ⟨x2, hx2, h⟩ := bindE h
  obtain ⟨hz, rfl⟩ := zrE hx2
  obtain rfl := Option.some.inj h
  exact kret_z C rfl hz dX5_isShelf_7
theorem c_R_isShelf (l : Launch) (D : va_G) (cI : ClassId) (cL : ClassId) (cZ : ClassId) (sz : Nat) (v0 : Int32) (x : Int32) (h : f_R_isShelf v0 = some x) :
    Met l yX5_isShelf (Cond.code yX5_isShelf cX5_isShelf 1 (some .boolean) :: WS) rm_R_isShelf (kP D (tyG cI cL cZ) kTrue [.int v0] sz (cells_R_isShelf cI cL cZ)) (kQi D (va_A (cells_R_isShelf cI cL cZ) sz) (cells_R_isShelf cI cL cZ) x) 0 0 (va_A (cells_R_isShelf cI cL cZ) sz) :=
  kmet (by decide) (Nat.le_of_ble_eq_true rfl) rfl (fun p e s m below meth c C hE => s_R_isShelf C h)
abbrev cells_R_isRow (cI : ClassId) (cL : ClassId) (cZ : ClassId) (a_this : Nat) (a_gravel : Nat) (a_kind : Nat) (a_own : Nat) (a_likely : Nat) (a_tape : Nat) (a_holding : Nat) (a_rowLength : Nat) (a_rowOf : Nat) (a_refusals : Nat) (a_old : Nat) (a_ahead : Nat) (a_cost : Nat) (a_may : Nat) (a_rest : Nat) (a_way : Nat) (c_n : Int32) (c_rain : Int32) (c_ear : Int32) (c_many : Int32) (c_seed : Int32) (c_taped : Int32) (c_from : Int32) (c_to : Int32) (c_token : Int32) (c_value : Int32) (c_imaged : Int32) (c_holding : (Nat → Int32)) : va_W := [(a_this, .inr (5, [.int c_n, .ref a_gravel, .int c_rain, .int c_ear, .int c_many, .ref a_kind, .ref a_own, .ref a_likely, .int c_seed, .int c_taped, .ref a_tape, .int c_from, .int c_to, .int c_token, .int c_value, .ref a_holding, .ref a_rowLength, .ref a_rowOf, .ref a_refusals, .int c_imaged, .ref a_old, .ref a_ahead, .ref a_cost, .ref a_may, .ref a_rest, .ref a_way])), (a_holding, .inl (cI, 8, .inl c_holding))]
abbrev rm_R_isRow : Room := { frames := 1, cells := 0, slots := 0, locals := 22 }
set_option maxRecDepth 100000 in
set_option maxHeartbeats 4000000 in
theorem s_R_isRow (C : kC p l e rm_R_isRow s m args below meth c D (tyG cI cL cZ) A 2 cX5_isRow yX5_isRow.cls (Cond.code yX5_isRow cX5_isRow 2 (some .boolean) :: WS) (some .boolean)) {a_this : Nat} {a_gravel : Nat} {a_kind : Nat} {a_own : Nat} {a_likely : Nat} {a_tape : Nat} {a_holding : Nat} {a_rowLength : Nat} {a_rowOf : Nat} {a_refusals : Nat} {a_old : Nat} {a_ahead : Nat} {a_cost : Nat} {a_may : Nat} {a_rest : Nat} {a_way : Nat} {v1 : Int32} {c_n : Int32} {c_rain : Int32} {c_ear : Int32} {c_many : Int32} {c_seed : Int32} {c_taped : Int32} {c_from : Int32} {c_to : Int32} {c_token : Int32} {c_value : Int32} {c_imaged : Int32} {c_holding : (Nat → Int32)} {x : Int32} (h : f_R_isRow v1 c_holding = some x) :
    kW p l e rm_R_isRow s m args below meth c D A 2 (cells_R_isRow cI cL cZ a_this a_gravel a_kind a_own a_likely a_tape a_holding a_rowLength a_rowOf a_refusals a_old a_ahead a_cost a_may a_rest a_way c_n c_rain c_ear c_many c_seed c_taped c_from c_to c_token c_value c_imaged c_holding) [(0, .ref a_this), (1, .int v1)] (MQ below (kQi D A (cells_R_isRow cI cL cZ a_this a_gravel a_kind a_own a_likely a_tape a_holding a_rowLength a_rowOf a_refusals a_old a_ahead a_cost a_may a_rest a_way c_n c_rain c_ear c_many c_seed c_taped c_from c_to c_token c_value c_imaged c_holding) x) args s 0 0 A) 0 [] := by
  unfold f_R_isRow at h
  refine k_aload_n C dX5_isRow_0 0 rfl rfl ?_
  refine k_get C (C0 := RX5) (T := TX5) (N := 26) (fun w h => List.mem_cons_of_mem _ (us_R w h)) 0 rfl rfl 15 (by decide) (List.mem_cons_of_mem _ wq_553) rfl rfl dX5_isRow_1 ?_
  refine k_iload_n C dX5_isRow_4 1 rfl rfl ?_
  obtain ⟨x1, hx1, h⟩ := bindE h
  refine k_iald C 1 0 rfl rfl hx1 dX5_isRow_5 ?_
  refine k_iconst C (v := (0 : Int32)) dX5_isRow_6 (by decide) ?_
  refine k_iconst C (v := (4 : Int32)) dX5_isRow_7 (by decide) ?_
  obtain ⟨x2, hx2, h⟩ := bindE h
  refine kcallE_i C (r := x2) (fun H locs ls hP hD hS hF hz => krunS C (c_R_within l D cI cL cZ H.size x1 (0 : Int32) (4 : Int32) x2 hx2) (va_cwS 3 C.2.2.2.2.1 (gS wq_549 wq_550 wq_551 wq_548) rfl rfl rfl (by decide +kernel) ⟨(Nat.le_of_ble_eq_true rfl), (Nat.le_of_ble_eq_true rfl)⟩) kEnv_T rfl rfl (Nat.le_of_ble_eq_true rfl) dX5_isRow_8 hP hD hz) ?_
  obtain ⟨x3, hx3, h⟩ := bindE h
  obtain ⟨hz, rfl⟩ := zrE hx3
  obtain rfl := Option.some.inj h
  exact kret_z C rfl hz dX5_isRow_11
theorem c_R_isRow (l : Launch) (D : va_G) (cI : ClassId) (cL : ClassId) (cZ : ClassId) (sz : Nat) (a_this : Nat) (a_gravel : Nat) (a_kind : Nat) (a_own : Nat) (a_likely : Nat) (a_tape : Nat) (a_holding : Nat) (a_rowLength : Nat) (a_rowOf : Nat) (a_refusals : Nat) (a_old : Nat) (a_ahead : Nat) (a_cost : Nat) (a_may : Nat) (a_rest : Nat) (a_way : Nat) (v1 : Int32) (c_n : Int32) (c_rain : Int32) (c_ear : Int32) (c_many : Int32) (c_seed : Int32) (c_taped : Int32) (c_from : Int32) (c_to : Int32) (c_token : Int32) (c_value : Int32) (c_imaged : Int32) (c_holding : (Nat → Int32)) (x : Int32) (h : f_R_isRow v1 c_holding = some x) :
    Met l yX5_isRow (Cond.code yX5_isRow cX5_isRow 2 (some .boolean) :: WS) rm_R_isRow (kP D (tyG cI cL cZ) kTrue [.ref a_this, .int v1] sz (cells_R_isRow cI cL cZ a_this a_gravel a_kind a_own a_likely a_tape a_holding a_rowLength a_rowOf a_refusals a_old a_ahead a_cost a_may a_rest a_way c_n c_rain c_ear c_many c_seed c_taped c_from c_to c_token c_value c_imaged c_holding)) (kQi D (va_A (cells_R_isRow cI cL cZ a_this a_gravel a_kind a_own a_likely a_tape a_holding a_rowLength a_rowOf a_refusals a_old a_ahead a_cost a_may a_rest a_way c_n c_rain c_ear c_many c_seed c_taped c_from c_to c_token c_value c_imaged c_holding) sz) (cells_R_isRow cI cL cZ a_this a_gravel a_kind a_own a_likely a_tape a_holding a_rowLength a_rowOf a_refusals a_old a_ahead a_cost a_may a_rest a_way c_n c_rain c_ear c_many c_seed c_taped c_from c_to c_token c_value c_imaged c_holding) x) 0 0 (va_A (cells_R_isRow cI cL cZ a_this a_gravel a_kind a_own a_likely a_tape a_holding a_rowLength a_rowOf a_refusals a_old a_ahead a_cost a_may a_rest a_way c_n c_rain c_ear c_many c_seed c_taped c_from c_to c_token c_value c_imaged c_holding) sz) :=
  kmet (by decide) (Nat.le_of_ble_eq_true rfl) rfl (fun p e s m below meth c C hE => s_R_isRow C h)
abbrev cells_R_row (cI : ClassId) (cL : ClassId) (cZ : ClassId) (a_this : Nat) (a_gravel : Nat) (a_kind : Nat) (a_own : Nat) (a_likely : Nat) (a_tape : Nat) (a_holding : Nat) (a_rowLength : Nat) (a_rowOf : Nat) (a_refusals : Nat) (a_old : Nat) (a_ahead : Nat) (a_cost : Nat) (a_may : Nat) (a_rest : Nat) (a_way : Nat) (c_n : Int32) (c_rain : Int32) (c_ear : Int32) (c_many : Int32) (c_seed : Int32) (c_taped : Int32) (c_from : Int32) (c_to : Int32) (c_token : Int32) (c_value : Int32) (c_imaged : Int32) (c_holding : (Nat → Int32)) (c_rowLength : (Nat → Int32)) (c_rowOf : (Nat → Int64)) (c_refusals : (Nat → Int32)) : va_W := [(a_this, .inr (5, [.int c_n, .ref a_gravel, .int c_rain, .int c_ear, .int c_many, .ref a_kind, .ref a_own, .ref a_likely, .int c_seed, .int c_taped, .ref a_tape, .int c_from, .int c_to, .int c_token, .int c_value, .ref a_holding, .ref a_rowLength, .ref a_rowOf, .ref a_refusals, .int c_imaged, .ref a_old, .ref a_ahead, .ref a_cost, .ref a_may, .ref a_rest, .ref a_way])), (a_holding, .inl (cI, 8, .inl c_holding)), (a_rowLength, .inl (cI, 8, .inl c_rowLength)), (a_rowOf, .inl (cL, 320, .inr (.inl c_rowOf))), (a_refusals, .inl (cI, 7, .inl c_refusals))]
abbrev rm_R_row : Room := { frames := 2, cells := 0, slots := 0, locals := 42 }
set_option maxRecDepth 100000 in
set_option maxHeartbeats 4000000 in
theorem s_R_row_j26 (C : kC p l e rm_R_row s m args below meth c D (tyG cI cL cZ) A 5 cX5_row yX5_row.cls (Cond.code yX5_row cX5_row 5 (some .int) :: WS) (some .int)) {a_this : Nat} {a_gravel : Nat} {a_kind : Nat} {a_own : Nat} {a_likely : Nat} {a_tape : Nat} {a_holding : Nat} {a_rowLength : Nat} {a_rowOf : Nat} {a_refusals : Nat} {a_old : Nat} {a_ahead : Nat} {a_cost : Nat} {a_may : Nat} {a_rest : Nat} {a_way : Nat} {c_n : Int32} {c_rain : Int32} {c_ear : Int32} {c_many : Int32} {c_seed : Int32} {c_taped : Int32} {c_from : Int32} {c_to : Int32} {c_token : Int32} {c_value : Int32} {c_imaged : Int32} {c_holding : (Nat → Int32)} {c_rowLength : (Nat → Int32)} {c_rowOf : (Nat → Int64)} {c_refusals : (Nat → Int32)} {x : (Int32 × (Nat → Int32) × (Nat → Int32) × (Nat → Int64) × (Nat → Int32))} (h : f_R_row_j26 c_holding c_rowLength c_rowOf c_refusals = some x) :
    kW p l e rm_R_row s m args below meth c D A 5 (cells_R_row cI cL cZ a_this a_gravel a_kind a_own a_likely a_tape a_holding a_rowLength a_rowOf a_refusals a_old a_ahead a_cost a_may a_rest a_way c_n c_rain c_ear c_many c_seed c_taped c_from c_to c_token c_value c_imaged c_holding c_rowLength c_rowOf c_refusals) [(0, .ref a_this)] (MQ below (kQi D A (cells_R_row cI cL cZ a_this a_gravel a_kind a_own a_likely a_tape a_holding a_rowLength a_rowOf a_refusals a_old a_ahead a_cost a_may a_rest a_way c_n c_rain c_ear c_many c_seed c_taped c_from c_to c_token c_value c_imaged x.2.1 x.2.2.1 x.2.2.2.1 x.2.2.2.2) x.1) args s 0 0 A) 26 [] := by
  unfold f_R_row_j26 at h
  refine k_aload_n C dX5_row_26 0 rfl rfl ?_
  refine k_bipush C (v := (-2 : Int32)) dX5_row_27 (by decide) ?_
  obtain ⟨x2, hx2, h⟩ := bindE h
  refine kcallU_i C (wc := (cells_R_no cI cL cZ a_this a_gravel a_kind a_own a_likely a_tape a_holding a_rowLength a_rowOf a_refusals a_old a_ahead a_cost a_may a_rest a_way c_n c_rain c_ear c_many c_seed c_taped c_from c_to c_token c_value c_imaged c_refusals)) (w1 := (cells_R_no cI cL cZ a_this a_gravel a_kind a_own a_likely a_tape a_holding a_rowLength a_rowOf a_refusals a_old a_ahead a_cost a_may a_rest a_way c_n c_rain c_ear c_many c_seed c_taped c_from c_to c_token c_value c_imaged x2.2)) (ws' := (cells_R_row cI cL cZ a_this a_gravel a_kind a_own a_likely a_tape a_holding a_rowLength a_rowOf a_refusals a_old a_ahead a_cost a_may a_rest a_way c_n c_rain c_ear c_many c_seed c_taped c_from c_to c_token c_value c_imaged c_holding c_rowLength c_rowOf x2.2)) (r := x2.1) [0, 4] (fun H locs ls hP hD hS hF hz => krunV C (q0 := 0) (ci := 5) (c_R_no l D cI cL cZ H.size a_this a_gravel a_kind a_own a_likely a_tape a_holding a_rowLength a_rowOf a_refusals a_old a_ahead a_cost a_may a_rest a_way (-2 : Int32) c_n c_rain c_ear c_many c_seed c_taped c_from c_to c_token c_value c_imaged c_refusals x2 hx2) (cwV 1 C.2.2.2.2.1 (gV wq_558 wq_559 wq_560 wq_551 wq_557) rfl rfl rfl (by decide +kernel) ⟨(Nat.le_of_ble_eq_true rfl), (Nat.le_of_ble_eq_true rfl)⟩) rfl rfl kEnv_T rfl rfl (Nat.le_of_ble_eq_true rfl) dX5_row_29 hP hD hz) rfl (by decide) rfl rfl ?_
  obtain rfl := Option.some.inj h
  exact kret_i C rfl dX5_row_32
set_option maxRecDepth 100000 in
set_option maxHeartbeats 4000000 in
theorem s_R_row_b50 (C : kC p l e rm_R_row s m args below meth c D (tyG cI cL cZ) A 5 cX5_row yX5_row.cls (Cond.code yX5_row cX5_row 5 (some .int) :: WS) (some .int)) {a_this : Nat} {a_gravel : Nat} {a_kind : Nat} {a_own : Nat} {a_likely : Nat} {a_tape : Nat} {a_holding : Nat} {a_rowLength : Nat} {a_rowOf : Nat} {a_refusals : Nat} {a_old : Nat} {a_ahead : Nat} {a_cost : Nat} {a_may : Nat} {a_rest : Nat} {a_way : Nat} {v1 : Int32} {v4 : Int32} {c_n : Int32} {c_rain : Int32} {c_ear : Int32} {c_many : Int32} {c_seed : Int32} {c_taped : Int32} {c_from : Int32} {c_to : Int32} {c_token : Int32} {c_value : Int32} {c_imaged : Int32} {c_holding : (Nat → Int32)} {c_rowLength : (Nat → Int32)} {c_rowOf : (Nat → Int64)} {c_refusals : (Nat → Int32)} {x : ((Int32 × (Nat → Int64)) ⊕ (Nat → Int64))} (h : f_R_row_b50 v1 v4 c_rowOf = some x)
    (kc : ∀ s', x = .inl s' → kW p l e rm_R_row s m args below meth c D A 5 (cells_R_row cI cL cZ a_this a_gravel a_kind a_own a_likely a_tape a_holding a_rowLength a_rowOf a_refusals a_old a_ahead a_cost a_may a_rest a_way c_n c_rain c_ear c_many c_seed c_taped c_from c_to c_token c_value c_imaged c_holding c_rowLength s'.2 c_refusals) [(0, .ref a_this), (1, .int v1), (4, .int s'.1)] Q 50 [])
    (k0 : ∀ r, x = .inr r → kW p l e rm_R_row s m args below meth c D A 5 (cells_R_row cI cL cZ a_this a_gravel a_kind a_own a_likely a_tape a_holding a_rowLength a_rowOf a_refusals a_old a_ahead a_cost a_may a_rest a_way c_n c_rain c_ear c_many c_seed c_taped c_from c_to c_token c_value c_imaged c_holding c_rowLength r c_refusals) [] Q 76 []) :
    kW p l e rm_R_row s m args below meth c D A 5 (cells_R_row cI cL cZ a_this a_gravel a_kind a_own a_likely a_tape a_holding a_rowLength a_rowOf a_refusals a_old a_ahead a_cost a_may a_rest a_way c_n c_rain c_ear c_many c_seed c_taped c_from c_to c_token c_value c_imaged c_holding c_rowLength c_rowOf c_refusals) [(0, .ref a_this), (1, .int v1), (4, .int v4)] Q 50 [] := by
  unfold f_R_row_b50 at h
  refine k_iload C dX5_row_50 2 rfl ?_
  refine k_bipush C (v := (40 : Int32)) dX5_row_52 (by decide) ?_
  refine k_icmp_ge C (tgt := 76) dX5_row_54 (by decide) (fun c_54 => ?_) (fun c_54 => ?_)
  · have h := ifT c_54 h
    refine k_lv (lv' := []) [] rfl ?_
    exact k0 _ (Option.some.inj h).symm
  · have h := ifF c_54 h
    refine k_aload_n C dX5_row_57 0 rfl rfl ?_
    refine k_get C (C0 := RX5) (T := TX5) (N := 26) (fun w h => List.mem_cons_of_mem _ (us_R w h)) 0 rfl rfl 17 (by decide) (List.mem_cons_of_mem _ wq_562) rfl rfl dX5_row_58 ?_
    refine k_bipush C (v := (40 : Int32)) dX5_row_61 (by decide) ?_
    refine k_iload_n C dX5_row_63 1 rfl rfl ?_
    refine k_imul C dX5_row_64 ?_
    refine k_iload C dX5_row_65 2 rfl ?_
    refine k_iadd C dX5_row_67 ?_
    refine k_lconst C (v := (0 : Int64)) dX5_row_68 (by decide) ?_
    obtain ⟨x7, hx7, h⟩ := bindE h
    refine k_last C 3 1 (ws' := (cells_R_row cI cL cZ a_this a_gravel a_kind a_own a_likely a_tape a_holding a_rowLength a_rowOf a_refusals a_old a_ahead a_cost a_may a_rest a_way c_n c_rain c_ear c_many c_seed c_taped c_from c_to c_token c_value c_imaged c_holding c_rowLength x7 c_refusals)) rfl rfl hx7 rfl dX5_row_69 ?_
    refine k_iinc C (v := (v4 + (1 : Int32))) (lv' := [(4, .int (v4 + (1 : Int32))), (0, .ref a_this), (1, .int v1)]) dX5_row_70 2 rfl rfl (by decide) rfl ?_
    refine k_goto C (tgt := 50) dX5_row_73 (by decide) ?_
    refine k_lv (lv' := [(0, .ref a_this), (1, .int v1), (4, .int (v4 + (1 : Int32)))]) [1, 2, 0] rfl ?_
    exact kc _ (Option.some.inj h).symm
set_option maxRecDepth 100000 in
set_option maxHeartbeats 4000000 in
theorem s_R_row_l50 (C : kC p l e rm_R_row s m args below meth c D (tyG cI cL cZ) A 5 cX5_row yX5_row.cls (Cond.code yX5_row cX5_row 5 (some .int) :: WS) (some .int)) {a_this : Nat} {a_gravel : Nat} {a_kind : Nat} {a_own : Nat} {a_likely : Nat} {a_tape : Nat} {a_holding : Nat} {a_rowLength : Nat} {a_rowOf : Nat} {a_refusals : Nat} {a_old : Nat} {a_ahead : Nat} {a_cost : Nat} {a_may : Nat} {a_rest : Nat} {a_way : Nat} {v1 : Int32} {v4 : Int32} {c_n : Int32} {c_rain : Int32} {c_ear : Int32} {c_many : Int32} {c_seed : Int32} {c_taped : Int32} {c_from : Int32} {c_to : Int32} {c_token : Int32} {c_value : Int32} {c_imaged : Int32} {c_holding : (Nat → Int32)} {c_rowLength : (Nat → Int32)} {c_rowOf : (Nat → Int64)} {c_refusals : (Nat → Int32)} {x : (Nat → Int64)} (h : f_R_row_l50 v1 v4 c_rowOf = some x)
    (k0 : kW p l e rm_R_row s m args below meth c D A 5 (cells_R_row cI cL cZ a_this a_gravel a_kind a_own a_likely a_tape a_holding a_rowLength a_rowOf a_refusals a_old a_ahead a_cost a_may a_rest a_way c_n c_rain c_ear c_many c_seed c_taped c_from c_to c_token c_value c_imaged c_holding c_rowLength x c_refusals) [] Q 76 []) :
    kW p l e rm_R_row s m args below meth c D A 5 (cells_R_row cI cL cZ a_this a_gravel a_kind a_own a_likely a_tape a_holding a_rowLength a_rowOf a_refusals a_old a_ahead a_cost a_may a_rest a_way c_n c_rain c_ear c_many c_seed c_taped c_from c_to c_token c_value c_imaged c_holding c_rowLength c_rowOf c_refusals) [(0, .ref a_this), (1, .int v1), (4, .int v4)] Q 50 [] := by
  unfold f_R_row_l50 at h
  exact iter_W (body := fun s => f_R_row_b50 v1 s.1 s.2) (r := x) (T := fun sg => kW p l e rm_R_row s m args below meth c D A 5 (cells_R_row cI cL cZ a_this a_gravel a_kind a_own a_likely a_tape a_holding a_rowLength a_rowOf a_refusals a_old a_ahead a_cost a_may a_rest a_way c_n c_rain c_ear c_many c_seed c_taped c_from c_to c_token c_value c_imaged c_holding c_rowLength sg.2 c_refusals) [(0, .ref a_this), (1, .int v1), (4, .int sg.1)] Q 50 []) (fun sg y hy hc _ hr => s_R_row_b50 C (v1 := v1) (v4 := sg.1) (c_n := c_n) (c_rain := c_rain) (c_ear := c_ear) (c_many := c_many) (c_seed := c_seed) (c_taped := c_taped) (c_from := c_from) (c_to := c_to) (c_token := c_token) (c_value := c_value) (c_imaged := c_imaged) (c_holding := c_holding) (c_rowLength := c_rowLength) (c_rowOf := sg.2) (c_refusals := c_refusals) (x := y) hy hc (fun r e => by rw [hr r e]; exact k0)) FUEL (v4, c_rowOf) h
set_option maxRecDepth 100000 in
set_option maxHeartbeats 4000000 in
theorem s_R_row (C : kC p l e rm_R_row s m args below meth c D (tyG cI cL cZ) A 5 cX5_row yX5_row.cls (Cond.code yX5_row cX5_row 5 (some .int) :: WS) (some .int)) {a_this : Nat} {a_gravel : Nat} {a_kind : Nat} {a_own : Nat} {a_likely : Nat} {a_tape : Nat} {a_holding : Nat} {a_rowLength : Nat} {a_rowOf : Nat} {a_refusals : Nat} {a_old : Nat} {a_ahead : Nat} {a_cost : Nat} {a_may : Nat} {a_rest : Nat} {a_way : Nat} {v1 : Int32} {v2 : Int32} {v3 : Int32} {c_n : Int32} {c_rain : Int32} {c_ear : Int32} {c_many : Int32} {c_seed : Int32} {c_taped : Int32} {c_from : Int32} {c_to : Int32} {c_token : Int32} {c_value : Int32} {c_imaged : Int32} {c_holding : (Nat → Int32)} {c_rowLength : (Nat → Int32)} {c_rowOf : (Nat → Int64)} {c_refusals : (Nat → Int32)} {x : (Int32 × (Nat → Int32) × (Nat → Int32) × (Nat → Int64) × (Nat → Int32))} (h : f_R_row v1 v2 v3 c_holding c_rowLength c_rowOf c_refusals = some x) :
    kW p l e rm_R_row s m args below meth c D A 5 (cells_R_row cI cL cZ a_this a_gravel a_kind a_own a_likely a_tape a_holding a_rowLength a_rowOf a_refusals a_old a_ahead a_cost a_may a_rest a_way c_n c_rain c_ear c_many c_seed c_taped c_from c_to c_token c_value c_imaged c_holding c_rowLength c_rowOf c_refusals) [(0, .ref a_this), (1, .int v1), (2, .int v2), (3, .int v3)] (MQ below (kQi D A (cells_R_row cI cL cZ a_this a_gravel a_kind a_own a_likely a_tape a_holding a_rowLength a_rowOf a_refusals a_old a_ahead a_cost a_may a_rest a_way c_n c_rain c_ear c_many c_seed c_taped c_from c_to c_token c_value c_imaged x.2.1 x.2.2.1 x.2.2.2.1 x.2.2.2.2) x.1) args s 0 0 A) 0 [] := by
  unfold f_R_row at h
  refine k_iload_n C dX5_row_0 1 rfl rfl ?_
  obtain ⟨x1, hx1, h⟩ := bindE h
  refine kcallE_i C (r := x1) (fun H locs ls hP hD hS hF hz => krunS C (c_R_isShelf l D cI cL cZ H.size v1 x1 hx1) (va_cwS 1 C.2.2.2.2.1 (gS wq_555 wq_556 wq_551 wq_554) rfl rfl rfl (by decide +kernel) ⟨(Nat.le_of_ble_eq_true rfl), (Nat.le_of_ble_eq_true rfl)⟩) kEnv_T rfl rfl (Nat.le_of_ble_eq_true rfl) dX5_row_1 hP hD hz) ?_
  refine k_if_eq C (tgt := 26) dX5_row_4 (by decide) (fun c_4 => ?_) (fun c_4 => ?_)
  · have h := ifT c_4 h
    refine k_lv (lv' := [(0, .ref a_this)]) [0] rfl ?_
    exact s_R_row_j26 C h
  · have h := ifF c_4 h
    refine k_iload_n C dX5_row_7 2 rfl rfl ?_
    refine k_iconst C (v := (0 : Int32)) dX5_row_8 (by decide) ?_
    refine k_iconst C (v := (4 : Int32)) dX5_row_9 (by decide) ?_
    obtain ⟨x3, hx3, h⟩ := bindE h
    refine kcallE_i C (r := x3) (fun H locs ls hP hD hS hF hz => krunS C (c_R_within l D cI cL cZ H.size v2 (0 : Int32) (4 : Int32) x3 hx3) (va_cwS 3 C.2.2.2.2.1 (gS wq_549 wq_550 wq_551 wq_548) rfl rfl rfl (by decide +kernel) ⟨(Nat.le_of_ble_eq_true rfl), (Nat.le_of_ble_eq_true rfl)⟩) kEnv_T rfl rfl (Nat.le_of_ble_eq_true rfl) dX5_row_10 hP hD hz) ?_
    refine k_if_eq C (tgt := 26) dX5_row_13 (by decide) (fun c_13 => ?_) (fun c_13 => ?_)
    · have h := ifT c_13 h
      refine k_lv (lv' := [(0, .ref a_this)]) [0] rfl ?_
      exact s_R_row_j26 C h
    · have h := ifF c_13 h
      refine k_iload_n C dX5_row_16 3 rfl rfl ?_
      refine k_iconst C (v := (0 : Int32)) dX5_row_17 (by decide) ?_
      refine k_bipush C (v := (40 : Int32)) dX5_row_18 (by decide) ?_
      obtain ⟨x4, hx4, h⟩ := bindE h
      refine kcallE_i C (r := x4) (fun H locs ls hP hD hS hF hz => krunS C (c_R_within l D cI cL cZ H.size v3 (0 : Int32) (40 : Int32) x4 hx4) (va_cwS 3 C.2.2.2.2.1 (gS wq_549 wq_550 wq_551 wq_548) rfl rfl rfl (by decide +kernel) ⟨(Nat.le_of_ble_eq_true rfl), (Nat.le_of_ble_eq_true rfl)⟩) kEnv_T rfl rfl (Nat.le_of_ble_eq_true rfl) dX5_row_20 hP hD hz) ?_
      refine k_if_ne C (tgt := 33) dX5_row_23 (by decide) (fun c_23 => ?_) (fun c_23 => ?_)
      · have h := ifF c_23 h
        refine k_aload_n C dX5_row_33 0 rfl rfl ?_
        refine k_get C (C0 := RX5) (T := TX5) (N := 26) (fun w h => List.mem_cons_of_mem _ (us_R w h)) 0 rfl rfl 15 (by decide) (List.mem_cons_of_mem _ wq_553) rfl rfl dX5_row_34 ?_
        refine k_iload_n C dX5_row_37 1 rfl rfl ?_
        refine k_iload_n C dX5_row_38 2 rfl rfl ?_
        obtain ⟨x5, hx5, h⟩ := bindE h
        refine k_iast C 1 0 (ws' := (cells_R_row cI cL cZ a_this a_gravel a_kind a_own a_likely a_tape a_holding a_rowLength a_rowOf a_refusals a_old a_ahead a_cost a_may a_rest a_way c_n c_rain c_ear c_many c_seed c_taped c_from c_to c_token c_value c_imaged x5 c_rowLength c_rowOf c_refusals)) rfl rfl hx5 rfl dX5_row_39 ?_
        refine k_aload_n C dX5_row_40 0 rfl rfl ?_
        refine k_get C (C0 := RX5) (T := TX5) (N := 26) (fun w h => List.mem_cons_of_mem _ (us_R w h)) 0 rfl rfl 16 (by decide) (List.mem_cons_of_mem _ wq_561) rfl rfl dX5_row_41 ?_
        refine k_iload_n C dX5_row_44 1 rfl rfl ?_
        refine k_iload_n C dX5_row_45 3 rfl rfl ?_
        obtain ⟨x6, hx6, h⟩ := bindE h
        refine k_iast C 2 0 (ws' := (cells_R_row cI cL cZ a_this a_gravel a_kind a_own a_likely a_tape a_holding a_rowLength a_rowOf a_refusals a_old a_ahead a_cost a_may a_rest a_way c_n c_rain c_ear c_many c_seed c_taped c_from c_to c_token c_value c_imaged x5 x6 c_rowOf c_refusals)) rfl rfl hx6 rfl dX5_row_46 ?_
        refine k_iconst C (v := (0 : Int32)) dX5_row_47 (by decide) ?_
        refine k_istore C (lv' := [(4, .int (0 : Int32)), (0, .ref a_this), (1, .int v1), (2, .int v2), (3, .int v3)]) dX5_row_48 (by decide) rfl ?_
        obtain ⟨x8, hx8, h⟩ := bindE h
        refine k_lv (lv' := [(0, .ref a_this), (1, .int v1), (4, .int (0 : Int32))]) [1, 2, 0] rfl ?_
        refine s_R_row_l50 C hx8 ?_
        refine k_iconst C (v := (1 : Int32)) dX5_row_76 (by decide) ?_
        obtain rfl := Option.some.inj h
        exact kret_i C rfl dX5_row_77
      · have h := ifT c_23 h
        refine k_lv (lv' := [(0, .ref a_this)]) [0] rfl ?_
        exact s_R_row_j26 C h
theorem c_R_row (l : Launch) (D : va_G) (cI : ClassId) (cL : ClassId) (cZ : ClassId) (sz : Nat) (a_this : Nat) (a_gravel : Nat) (a_kind : Nat) (a_own : Nat) (a_likely : Nat) (a_tape : Nat) (a_holding : Nat) (a_rowLength : Nat) (a_rowOf : Nat) (a_refusals : Nat) (a_old : Nat) (a_ahead : Nat) (a_cost : Nat) (a_may : Nat) (a_rest : Nat) (a_way : Nat) (v1 : Int32) (v2 : Int32) (v3 : Int32) (c_n : Int32) (c_rain : Int32) (c_ear : Int32) (c_many : Int32) (c_seed : Int32) (c_taped : Int32) (c_from : Int32) (c_to : Int32) (c_token : Int32) (c_value : Int32) (c_imaged : Int32) (c_holding : (Nat → Int32)) (c_rowLength : (Nat → Int32)) (c_rowOf : (Nat → Int64)) (c_refusals : (Nat → Int32)) (x : (Int32 × (Nat → Int32) × (Nat → Int32) × (Nat → Int64) × (Nat → Int32))) (h : f_R_row v1 v2 v3 c_holding c_rowLength c_rowOf c_refusals = some x) :
    Met l yX5_row (Cond.code yX5_row cX5_row 5 (some .int) :: WS) rm_R_row (kP D (tyG cI cL cZ) kTrue [.ref a_this, .int v1, .int v2, .int v3] sz (cells_R_row cI cL cZ a_this a_gravel a_kind a_own a_likely a_tape a_holding a_rowLength a_rowOf a_refusals a_old a_ahead a_cost a_may a_rest a_way c_n c_rain c_ear c_many c_seed c_taped c_from c_to c_token c_value c_imaged c_holding c_rowLength c_rowOf c_refusals)) (kQi D (va_A (cells_R_row cI cL cZ a_this a_gravel a_kind a_own a_likely a_tape a_holding a_rowLength a_rowOf a_refusals a_old a_ahead a_cost a_may a_rest a_way c_n c_rain c_ear c_many c_seed c_taped c_from c_to c_token c_value c_imaged c_holding c_rowLength c_rowOf c_refusals) sz) (cells_R_row cI cL cZ a_this a_gravel a_kind a_own a_likely a_tape a_holding a_rowLength a_rowOf a_refusals a_old a_ahead a_cost a_may a_rest a_way c_n c_rain c_ear c_many c_seed c_taped c_from c_to c_token c_value c_imaged x.2.1 x.2.2.1 x.2.2.2.1 x.2.2.2.2) x.1) 0 0 (va_A (cells_R_row cI cL cZ a_this a_gravel a_kind a_own a_likely a_tape a_holding a_rowLength a_rowOf a_refusals a_old a_ahead a_cost a_may a_rest a_way c_n c_rain c_ear c_many c_seed c_taped c_from c_to c_token c_value c_imaged c_holding c_rowLength c_rowOf c_refusals) sz) :=
  kmet (by decide) (Nat.le_of_ble_eq_true rfl) rfl (fun p e s m below meth c C hE => s_R_row C h)
abbrev cells_R_noRow (cI : ClassId) (cL : ClassId) (cZ : ClassId) (a_this : Nat) (a_gravel : Nat) (a_kind : Nat) (a_own : Nat) (a_likely : Nat) (a_tape : Nat) (a_holding : Nat) (a_rowLength : Nat) (a_rowOf : Nat) (a_refusals : Nat) (a_old : Nat) (a_ahead : Nat) (a_cost : Nat) (a_may : Nat) (a_rest : Nat) (a_way : Nat) (c_n : Int32) (c_rain : Int32) (c_ear : Int32) (c_many : Int32) (c_seed : Int32) (c_taped : Int32) (c_from : Int32) (c_to : Int32) (c_token : Int32) (c_value : Int32) (c_imaged : Int32) (c_holding : (Nat → Int32)) : va_W := [(a_this, .inr (5, [.int c_n, .ref a_gravel, .int c_rain, .int c_ear, .int c_many, .ref a_kind, .ref a_own, .ref a_likely, .int c_seed, .int c_taped, .ref a_tape, .int c_from, .int c_to, .int c_token, .int c_value, .ref a_holding, .ref a_rowLength, .ref a_rowOf, .ref a_refusals, .int c_imaged, .ref a_old, .ref a_ahead, .ref a_cost, .ref a_may, .ref a_rest, .ref a_way])), (a_holding, .inl (cI, 8, .inl c_holding))]
abbrev rm_R_noRow : Room := { frames := 0, cells := 0, slots := 0, locals := 0 }
set_option maxRecDepth 100000 in
set_option maxHeartbeats 4000000 in
theorem s_R_noRow (C : kC p l e rm_R_noRow s m args below meth c D (tyG cI cL cZ) A 2 cX5_noRow yX5_noRow.cls (Cond.code yX5_noRow cX5_noRow 2 (some .int) :: WS) (some .int)) {a_this : Nat} {a_gravel : Nat} {a_kind : Nat} {a_own : Nat} {a_likely : Nat} {a_tape : Nat} {a_holding : Nat} {a_rowLength : Nat} {a_rowOf : Nat} {a_refusals : Nat} {a_old : Nat} {a_ahead : Nat} {a_cost : Nat} {a_may : Nat} {a_rest : Nat} {a_way : Nat} {v1 : Int32} {c_n : Int32} {c_rain : Int32} {c_ear : Int32} {c_many : Int32} {c_seed : Int32} {c_taped : Int32} {c_from : Int32} {c_to : Int32} {c_token : Int32} {c_value : Int32} {c_imaged : Int32} {c_holding : (Nat → Int32)} {x : Int32} (h : f_R_noRow v1 c_holding = some x) :
    kW p l e rm_R_noRow s m args below meth c D A 2 (cells_R_noRow cI cL cZ a_this a_gravel a_kind a_own a_likely a_tape a_holding a_rowLength a_rowOf a_refusals a_old a_ahead a_cost a_may a_rest a_way c_n c_rain c_ear c_many c_seed c_taped c_from c_to c_token c_value c_imaged c_holding) [(0, .ref a_this), (1, .int v1)] (MQ below (kQi D A (cells_R_noRow cI cL cZ a_this a_gravel a_kind a_own a_likely a_tape a_holding a_rowLength a_rowOf a_refusals a_old a_ahead a_cost a_may a_rest a_way c_n c_rain c_ear c_many c_seed c_taped c_from c_to c_token c_value c_imaged c_holding) x) args s 0 0 A) 0 [] := by
  unfold f_R_noRow at h
  refine k_aload_n C dX5_noRow_0 0 rfl rfl ?_
  refine k_get C (C0 := RX5) (T := TX5) (N := 26) (fun w h => List.mem_cons_of_mem _ (us_R w h)) 0 rfl rfl 15 (by decide) (List.mem_cons_of_mem _ wq_553) rfl rfl dX5_noRow_1 ?_
  refine k_iload_n C dX5_noRow_4 1 rfl rfl ?_
  obtain ⟨x1, hx1, h⟩ := bindE h
  refine k_iald C 1 0 rfl rfl hx1 dX5_noRow_5 ?_
  refine k_bipush C (v := (10 : Int32)) dX5_noRow_6 (by decide) ?_
  refine k_icmp_lt C (tgt := 16) dX5_noRow_8 (by decide) (fun c_8 => ?_) (fun c_8 => ?_)
  · have h := ifT c_8 h
    refine k_aload_n C dX5_noRow_16 0 rfl rfl ?_
    refine k_get C (C0 := RX5) (T := TX5) (N := 26) (fun w h => List.mem_cons_of_mem _ (us_R w h)) 0 rfl rfl 15 (by decide) (List.mem_cons_of_mem _ wq_553) rfl rfl dX5_noRow_17 ?_
    refine k_iload_n C dX5_noRow_20 1 rfl rfl ?_
    obtain ⟨x2, hx2, h⟩ := bindE h
    refine k_iald C 1 0 rfl rfl hx2 dX5_noRow_21 ?_
    refine k_if_ge C (tgt := 30) dX5_noRow_22 (by decide) (fun c_22 => ?_) (fun c_22 => ?_)
    · have h := ifT c_22 h
      refine k_iconst C (v := (0 : Int32)) dX5_noRow_30 (by decide) ?_
      obtain rfl := Option.some.inj h
      exact kret_i C rfl dX5_noRow_31
    · have h := ifF c_22 h
      refine k_bipush C (v := (-4 : Int32)) dX5_noRow_25 (by decide) ?_
      refine k_goto C (tgt := 31) dX5_noRow_27 (by decide) ?_
      obtain rfl := Option.some.inj h
      exact kret_i C rfl dX5_noRow_31
  · have h := ifF c_8 h
    refine k_bipush C (v := (-3 : Int32)) dX5_noRow_11 (by decide) ?_
    refine k_goto C (tgt := 31) dX5_noRow_13 (by decide) ?_
    obtain rfl := Option.some.inj h
    exact kret_i C rfl dX5_noRow_31
theorem c_R_noRow (l : Launch) (D : va_G) (cI : ClassId) (cL : ClassId) (cZ : ClassId) (sz : Nat) (a_this : Nat) (a_gravel : Nat) (a_kind : Nat) (a_own : Nat) (a_likely : Nat) (a_tape : Nat) (a_holding : Nat) (a_rowLength : Nat) (a_rowOf : Nat) (a_refusals : Nat) (a_old : Nat) (a_ahead : Nat) (a_cost : Nat) (a_may : Nat) (a_rest : Nat) (a_way : Nat) (v1 : Int32) (c_n : Int32) (c_rain : Int32) (c_ear : Int32) (c_many : Int32) (c_seed : Int32) (c_taped : Int32) (c_from : Int32) (c_to : Int32) (c_token : Int32) (c_value : Int32) (c_imaged : Int32) (c_holding : (Nat → Int32)) (x : Int32) (h : f_R_noRow v1 c_holding = some x) :
    Met l yX5_noRow (Cond.code yX5_noRow cX5_noRow 2 (some .int) :: WS) rm_R_noRow (kP D (tyG cI cL cZ) kTrue [.ref a_this, .int v1] sz (cells_R_noRow cI cL cZ a_this a_gravel a_kind a_own a_likely a_tape a_holding a_rowLength a_rowOf a_refusals a_old a_ahead a_cost a_may a_rest a_way c_n c_rain c_ear c_many c_seed c_taped c_from c_to c_token c_value c_imaged c_holding)) (kQi D (va_A (cells_R_noRow cI cL cZ a_this a_gravel a_kind a_own a_likely a_tape a_holding a_rowLength a_rowOf a_refusals a_old a_ahead a_cost a_may a_rest a_way c_n c_rain c_ear c_many c_seed c_taped c_from c_to c_token c_value c_imaged c_holding) sz) (cells_R_noRow cI cL cZ a_this a_gravel a_kind a_own a_likely a_tape a_holding a_rowLength a_rowOf a_refusals a_old a_ahead a_cost a_may a_rest a_way c_n c_rain c_ear c_many c_seed c_taped c_from c_to c_token c_value c_imaged c_holding) x) 0 0 (va_A (cells_R_noRow cI cL cZ a_this a_gravel a_kind a_own a_likely a_tape a_holding a_rowLength a_rowOf a_refusals a_old a_ahead a_cost a_may a_rest a_way c_n c_rain c_ear c_many c_seed c_taped c_from c_to c_token c_value c_imaged c_holding) sz) :=
  kmet (by decide) (Nat.le_of_ble_eq_true rfl) rfl (fun p e s m below meth c C hE => s_R_noRow C h)
abbrev cells_R_kept (cI : ClassId) (cL : ClassId) (cZ : ClassId) : va_W := []
abbrev rm_R_kept : Room := { frames := 0, cells := 0, slots := 0, locals := 0 }
set_option maxRecDepth 100000 in
set_option maxHeartbeats 4000000 in
theorem s_R_kept (C : kC p l e rm_R_kept s m args below meth c D (tyG cI cL cZ) A 3 cX5_kept yX5_kept.cls (Cond.code yX5_kept cX5_kept 3 (some .long) :: WS) (some .long)) {v0 : Int32} {v1 : Int64} {x : Int64} (h : f_R_kept v0 v1 = some x) :
    kW p l e rm_R_kept s m args below meth c D A 3 (cells_R_kept cI cL cZ) [(0, .int v0), (1, .long v1)] (MQ below (kQl D A (cells_R_kept cI cL cZ) x) args s 0 0 A) 0 [] := by
  unfold f_R_kept at h
  refine k_iload_n C dX5_kept_0 0 rfl rfl ?_
  by_cases e_1_0 : v0 = (0 : Int32)
  · have h := ifT e_1_0 h
    have z : Int32.toInt v0 = 0 := by rw [e_1_0]; decide
    refine k_tableIn C (off := 31) (tgt := 32) dX5_kept_1 (by rw [z]; decide) (by rw [z]; decide) (by rw [z]; rfl) (by decide) ?_
    refine k_lload_n C dX5_kept_32 1 rfl rfl ?_
    refine k_l2i C dX5_kept_33 ?_
    refine k_i2b C dX5_kept_34 ?_
    refine k_i2l C dX5_kept_35 ?_
    obtain rfl := Option.some.inj h
    exact kret_l C rfl dX5_kept_36
  have h := ifF e_1_0 h
  by_cases e_1_1 : v0 = (1 : Int32)
  · have h := ifT e_1_1 h
    have z : Int32.toInt v0 = 1 := by rw [e_1_1]; decide
    refine k_tableIn C (off := 36) (tgt := 37) dX5_kept_1 (by rw [z]; decide) (by rw [z]; decide) (by rw [z]; rfl) (by decide) ?_
    refine k_lload_n C dX5_kept_37 1 rfl rfl ?_
    refine k_l2i C dX5_kept_38 ?_
    refine k_i2s C dX5_kept_39 ?_
    refine k_i2l C dX5_kept_40 ?_
    obtain rfl := Option.some.inj h
    exact kret_l C rfl dX5_kept_41
  have h := ifF e_1_1 h
  by_cases e_1_2 : v0 = (2 : Int32)
  · have h := ifT e_1_2 h
    have z : Int32.toInt v0 = 2 := by rw [e_1_2]; decide
    refine k_tableIn C (off := 41) (tgt := 42) dX5_kept_1 (by rw [z]; decide) (by rw [z]; decide) (by rw [z]; rfl) (by decide) ?_
    refine k_lload_n C dX5_kept_42 1 rfl rfl ?_
    refine k_l2i C dX5_kept_43 ?_
    refine k_i2l C dX5_kept_44 ?_
    obtain rfl := Option.some.inj h
    exact kret_l C rfl dX5_kept_45
  have h := ifF e_1_2 h
  by_cases e_1_3 : v0 = (3 : Int32)
  · have h := ifT e_1_3 h
    have z : Int32.toInt v0 = 3 := by rw [e_1_3]; decide
    refine k_tableIn C (off := 45) (tgt := 46) dX5_kept_1 (by rw [z]; decide) (by rw [z]; decide) (by rw [z]; rfl) (by decide) ?_
    refine k_lload_n C dX5_kept_46 1 rfl rfl ?_
    obtain rfl := Option.some.inj h
    exact kret_l C rfl dX5_kept_47
  have h := ifF e_1_3 h
  have ze_1_0 := lv_neT e_1_0 (a := 0) (by decide)
  have ze_1_1 := lv_neT e_1_1 (a := 1) (by decide)
  have ze_1_2 := lv_neT e_1_2 (a := 2) (by decide)
  have ze_1_3 := lv_neT e_1_3 (a := 3) (by decide)
  refine k_tableOut C (tgt := 48) dX5_kept_1 (by omega) (by decide) ?_
  refine k_lload_n C dX5_kept_48 1 rfl rfl ?_
  refine k_lconst C (v := (0 : Int64)) dX5_kept_49 (by decide) ?_
  refine k_lcmp C dX5_kept_50 ?_
  refine k_if_eq C (tgt := 58) dX5_kept_51 (by decide) (fun c_51 => ?_) (fun c_51 => ?_)
  · have h := ifT c_51 h
    refine k_lconst C (v := (0 : Int64)) dX5_kept_58 (by decide) ?_
    obtain rfl := Option.some.inj h
    exact kret_l C rfl dX5_kept_59
  · have h := ifF c_51 h
    refine k_lconst C (v := (1 : Int64)) dX5_kept_54 (by decide) ?_
    refine k_goto C (tgt := 59) dX5_kept_55 (by decide) ?_
    obtain rfl := Option.some.inj h
    exact kret_l C rfl dX5_kept_59
theorem c_R_kept (l : Launch) (D : va_G) (cI : ClassId) (cL : ClassId) (cZ : ClassId) (sz : Nat) (v0 : Int32) (v1 : Int64) (x : Int64) (h : f_R_kept v0 v1 = some x) :
    Met l yX5_kept (Cond.code yX5_kept cX5_kept 3 (some .long) :: WS) rm_R_kept (kP D (tyG cI cL cZ) kTrue [.int v0, .long v1] sz (cells_R_kept cI cL cZ)) (kQl D (va_A (cells_R_kept cI cL cZ) sz) (cells_R_kept cI cL cZ) x) 0 0 (va_A (cells_R_kept cI cL cZ) sz) :=
  kmet (by decide) (Nat.le_of_ble_eq_true rfl) rfl (fun p e s m below meth c C hE => s_R_kept C h)
abbrev cells_R_set (cI : ClassId) (cL : ClassId) (cZ : ClassId) (a_this : Nat) (a_gravel : Nat) (a_kind : Nat) (a_own : Nat) (a_likely : Nat) (a_tape : Nat) (a_holding : Nat) (a_rowLength : Nat) (a_rowOf : Nat) (a_refusals : Nat) (a_old : Nat) (a_ahead : Nat) (a_cost : Nat) (a_may : Nat) (a_rest : Nat) (a_way : Nat) (c_n : Int32) (c_rain : Int32) (c_ear : Int32) (c_many : Int32) (c_seed : Int32) (c_taped : Int32) (c_from : Int32) (c_to : Int32) (c_token : Int32) (c_value : Int32) (c_imaged : Int32) (c_holding : (Nat → Int32)) (c_rowLength : (Nat → Int32)) (c_rowOf : (Nat → Int64)) (c_refusals : (Nat → Int32)) : va_W := [(a_this, .inr (5, [.int c_n, .ref a_gravel, .int c_rain, .int c_ear, .int c_many, .ref a_kind, .ref a_own, .ref a_likely, .int c_seed, .int c_taped, .ref a_tape, .int c_from, .int c_to, .int c_token, .int c_value, .ref a_holding, .ref a_rowLength, .ref a_rowOf, .ref a_refusals, .int c_imaged, .ref a_old, .ref a_ahead, .ref a_cost, .ref a_may, .ref a_rest, .ref a_way])), (a_holding, .inl (cI, 8, .inl c_holding)), (a_rowLength, .inl (cI, 8, .inl c_rowLength)), (a_rowOf, .inl (cL, 320, .inr (.inl c_rowOf))), (a_refusals, .inl (cI, 7, .inl c_refusals))]
abbrev rm_R_set : Room := { frames := 2, cells := 0, slots := 0, locals := 43 }
set_option maxRecDepth 100000 in
set_option maxHeartbeats 4000000 in
theorem s_R_set (C : kC p l e rm_R_set s m args below meth c D (tyG cI cL cZ) A 5 cX5_set yX5_set.cls (Cond.code yX5_set cX5_set 5 (some .int) :: WS) (some .int)) {a_this : Nat} {a_gravel : Nat} {a_kind : Nat} {a_own : Nat} {a_likely : Nat} {a_tape : Nat} {a_holding : Nat} {a_rowLength : Nat} {a_rowOf : Nat} {a_refusals : Nat} {a_old : Nat} {a_ahead : Nat} {a_cost : Nat} {a_may : Nat} {a_rest : Nat} {a_way : Nat} {v1 : Int32} {v2 : Int32} {v3 : Int64} {c_n : Int32} {c_rain : Int32} {c_ear : Int32} {c_many : Int32} {c_seed : Int32} {c_taped : Int32} {c_from : Int32} {c_to : Int32} {c_token : Int32} {c_value : Int32} {c_imaged : Int32} {c_holding : (Nat → Int32)} {c_rowLength : (Nat → Int32)} {c_rowOf : (Nat → Int64)} {c_refusals : (Nat → Int32)} {x : (Int32 × (Nat → Int64) × (Nat → Int32))} (h : f_R_set v1 v2 v3 c_holding c_rowLength c_rowOf c_refusals = some x) :
    kW p l e rm_R_set s m args below meth c D A 5 (cells_R_set cI cL cZ a_this a_gravel a_kind a_own a_likely a_tape a_holding a_rowLength a_rowOf a_refusals a_old a_ahead a_cost a_may a_rest a_way c_n c_rain c_ear c_many c_seed c_taped c_from c_to c_token c_value c_imaged c_holding c_rowLength c_rowOf c_refusals) [(0, .ref a_this), (1, .int v1), (2, .int v2), (3, .long v3)] (MQ below (kQi D A (cells_R_set cI cL cZ a_this a_gravel a_kind a_own a_likely a_tape a_holding a_rowLength a_rowOf a_refusals a_old a_ahead a_cost a_may a_rest a_way c_n c_rain c_ear c_many c_seed c_taped c_from c_to c_token c_value c_imaged c_holding c_rowLength x.2.1 x.2.2) x.1) args s 0 0 A) 0 [] := by
  unfold f_R_set at h
  refine k_iload_n C dX5_set_0 1 rfl rfl ?_
  obtain ⟨x1, hx1, h⟩ := bindE h
  refine kcallE_i C (r := x1) (fun H locs ls hP hD hS hF hz => krunS C (c_R_isShelf l D cI cL cZ H.size v1 x1 hx1) (va_cwS 1 C.2.2.2.2.1 (gS wq_555 wq_556 wq_551 wq_554) rfl rfl rfl (by decide +kernel) ⟨(Nat.le_of_ble_eq_true rfl), (Nat.le_of_ble_eq_true rfl)⟩) kEnv_T rfl rfl (Nat.le_of_ble_eq_true rfl) dX5_set_1 hP hD hz) ?_
  refine k_if_ne C (tgt := 14) dX5_set_4 (by decide) (fun c_4 => ?_) (fun c_4 => ?_)
  · have h := ifF c_4 h
    refine k_aload_n C dX5_set_14 0 rfl rfl ?_
    refine k_iload_n C dX5_set_15 1 rfl rfl ?_
    obtain ⟨x2, hx2, h⟩ := bindE h
    refine kcallR_i C (wc := (cells_R_isRow cI cL cZ a_this a_gravel a_kind a_own a_likely a_tape a_holding a_rowLength a_rowOf a_refusals a_old a_ahead a_cost a_may a_rest a_way c_n c_rain c_ear c_many c_seed c_taped c_from c_to c_token c_value c_imaged c_holding)) (r := x2) [0, 1] (fun H locs ls hP hD hS hF hz => krunV C (q0 := 0) (ci := 5) (c_R_isRow l D cI cL cZ H.size a_this a_gravel a_kind a_own a_likely a_tape a_holding a_rowLength a_rowOf a_refusals a_old a_ahead a_cost a_may a_rest a_way v1 c_n c_rain c_ear c_many c_seed c_taped c_from c_to c_token c_value c_imaged c_holding x2 hx2) (cwV 1 C.2.2.2.2.1 (gV wq_564 wq_565 wq_566 wq_551 wq_563) rfl rfl rfl (by decide +kernel) ⟨(Nat.le_of_ble_eq_true rfl), (Nat.le_of_ble_eq_true rfl)⟩) rfl rfl kEnv_T rfl rfl (Nat.le_of_ble_eq_true rfl) dX5_set_16 hP hD hz) rfl (by decide) ?_
    refine k_if_ne C (tgt := 32) dX5_set_19 (by decide) (fun c_19 => ?_) (fun c_19 => ?_)
    · have h := ifF c_19 h
      refine k_iload_n C dX5_set_32 2 rfl rfl ?_
      refine k_iconst C (v := (0 : Int32)) dX5_set_33 (by decide) ?_
      refine k_aload_n C dX5_set_34 0 rfl rfl ?_
      refine k_get C (C0 := RX5) (T := TX5) (N := 26) (fun w h => List.mem_cons_of_mem _ (us_R w h)) 0 rfl rfl 16 (by decide) (List.mem_cons_of_mem _ wq_561) rfl rfl dX5_set_35 ?_
      refine k_iload_n C dX5_set_38 1 rfl rfl ?_
      obtain ⟨x3, hx3, h⟩ := bindE h
      refine k_iald C 2 0 rfl rfl hx3 dX5_set_39 ?_
      refine k_iconst C (v := (1 : Int32)) dX5_set_40 (by decide) ?_
      refine k_isub C dX5_set_41 ?_
      obtain ⟨x4, hx4, h⟩ := bindE h
      refine kcallE_i C (r := x4) (fun H locs ls hP hD hS hF hz => krunS C (c_R_within l D cI cL cZ H.size v2 (0 : Int32) (x3 - (1 : Int32)) x4 hx4) (va_cwS 3 C.2.2.2.2.1 (gS wq_549 wq_550 wq_551 wq_548) rfl rfl rfl (by decide +kernel) ⟨(Nat.le_of_ble_eq_true rfl), (Nat.le_of_ble_eq_true rfl)⟩) kEnv_T rfl rfl (Nat.le_of_ble_eq_true rfl) dX5_set_42 hP hD hz) ?_
      refine k_if_ne C (tgt := 55) dX5_set_45 (by decide) (fun c_45 => ?_) (fun c_45 => ?_)
      · have h := ifF c_45 h
        refine k_aload_n C dX5_set_55 0 rfl rfl ?_
        refine k_get C (C0 := RX5) (T := TX5) (N := 26) (fun w h => List.mem_cons_of_mem _ (us_R w h)) 0 rfl rfl 17 (by decide) (List.mem_cons_of_mem _ wq_562) rfl rfl dX5_set_56 ?_
        refine k_bipush C (v := (40 : Int32)) dX5_set_59 (by decide) ?_
        refine k_iload_n C dX5_set_61 1 rfl rfl ?_
        refine k_imul C dX5_set_62 ?_
        refine k_iload_n C dX5_set_63 2 rfl rfl ?_
        refine k_iadd C dX5_set_64 ?_
        refine k_aload_n C dX5_set_65 0 rfl rfl ?_
        refine k_get C (C0 := RX5) (T := TX5) (N := 26) (fun w h => List.mem_cons_of_mem _ (us_R w h)) 0 rfl rfl 15 (by decide) (List.mem_cons_of_mem _ wq_553) rfl rfl dX5_set_66 ?_
        refine k_iload_n C dX5_set_69 1 rfl rfl ?_
        obtain ⟨x5, hx5, h⟩ := bindE h
        refine k_iald C 1 0 rfl rfl hx5 dX5_set_70 ?_
        refine k_lload_n C dX5_set_71 3 rfl rfl ?_
        obtain ⟨x6, hx6, h⟩ := bindE h
        refine kcallE_l C (r := x6) (fun H locs ls hP hD hS hF hz => krunS C (c_R_kept l D cI cL cZ H.size x5 v3 x6 hx6) (va_cwS 2 C.2.2.2.2.1 (gS wq_568 wq_569 wq_551 wq_567) rfl rfl rfl (by decide +kernel) ⟨(Nat.le_of_ble_eq_true rfl), (Nat.le_of_ble_eq_true rfl)⟩) kEnv_T rfl rfl (Nat.le_of_ble_eq_true rfl) dX5_set_72 hP hD hz) ?_
        obtain ⟨x7, hx7, h⟩ := bindE h
        refine k_last C 3 1 (ws' := (cells_R_set cI cL cZ a_this a_gravel a_kind a_own a_likely a_tape a_holding a_rowLength a_rowOf a_refusals a_old a_ahead a_cost a_may a_rest a_way c_n c_rain c_ear c_many c_seed c_taped c_from c_to c_token c_value c_imaged c_holding c_rowLength x7 c_refusals)) rfl rfl hx7 rfl dX5_set_75 ?_
        refine k_iconst C (v := (1 : Int32)) dX5_set_76 (by decide) ?_
        obtain rfl := Option.some.inj h
        exact kret_i C rfl dX5_set_77
      · have h := ifT c_45 h
        refine k_aload_n C dX5_set_48 0 rfl rfl ?_
        refine k_bipush C (v := (-2 : Int32)) dX5_set_49 (by decide) ?_
        obtain ⟨x8, hx8, h⟩ := bindE h
        refine kcallU_i C (wc := (cells_R_no cI cL cZ a_this a_gravel a_kind a_own a_likely a_tape a_holding a_rowLength a_rowOf a_refusals a_old a_ahead a_cost a_may a_rest a_way c_n c_rain c_ear c_many c_seed c_taped c_from c_to c_token c_value c_imaged c_refusals)) (w1 := (cells_R_no cI cL cZ a_this a_gravel a_kind a_own a_likely a_tape a_holding a_rowLength a_rowOf a_refusals a_old a_ahead a_cost a_may a_rest a_way c_n c_rain c_ear c_many c_seed c_taped c_from c_to c_token c_value c_imaged x8.2)) (ws' := (cells_R_set cI cL cZ a_this a_gravel a_kind a_own a_likely a_tape a_holding a_rowLength a_rowOf a_refusals a_old a_ahead a_cost a_may a_rest a_way c_n c_rain c_ear c_many c_seed c_taped c_from c_to c_token c_value c_imaged c_holding c_rowLength c_rowOf x8.2)) (r := x8.1) [0, 4] (fun H locs ls hP hD hS hF hz => krunV C (q0 := 0) (ci := 5) (c_R_no l D cI cL cZ H.size a_this a_gravel a_kind a_own a_likely a_tape a_holding a_rowLength a_rowOf a_refusals a_old a_ahead a_cost a_may a_rest a_way (-2 : Int32) c_n c_rain c_ear c_many c_seed c_taped c_from c_to c_token c_value c_imaged c_refusals x8 hx8) (cwV 1 C.2.2.2.2.1 (gV wq_558 wq_559 wq_560 wq_551 wq_557) rfl rfl rfl (by decide +kernel) ⟨(Nat.le_of_ble_eq_true rfl), (Nat.le_of_ble_eq_true rfl)⟩) rfl rfl kEnv_T rfl rfl (Nat.le_of_ble_eq_true rfl) dX5_set_51 hP hD hz) rfl (by decide) rfl rfl ?_
        obtain rfl := Option.some.inj h
        exact kret_i C rfl dX5_set_54
    · have h := ifT c_19 h
      refine k_aload_n C dX5_set_22 0 rfl rfl ?_
      refine k_aload_n C dX5_set_23 0 rfl rfl ?_
      refine k_iload_n C dX5_set_24 1 rfl rfl ?_
      obtain ⟨x9, hx9, h⟩ := bindE h
      refine kcallR_i C (wc := (cells_R_noRow cI cL cZ a_this a_gravel a_kind a_own a_likely a_tape a_holding a_rowLength a_rowOf a_refusals a_old a_ahead a_cost a_may a_rest a_way c_n c_rain c_ear c_many c_seed c_taped c_from c_to c_token c_value c_imaged c_holding)) (r := x9) [0, 1] (fun H locs ls hP hD hS hF hz => krunV C (q0 := 0) (ci := 5) (c_R_noRow l D cI cL cZ H.size a_this a_gravel a_kind a_own a_likely a_tape a_holding a_rowLength a_rowOf a_refusals a_old a_ahead a_cost a_may a_rest a_way v1 c_n c_rain c_ear c_many c_seed c_taped c_from c_to c_token c_value c_imaged c_holding x9 hx9) (cwV 1 C.2.2.2.2.1 (gV wq_571 wq_572 wq_573 wq_551 wq_570) rfl rfl rfl (by decide +kernel) ⟨(Nat.le_of_ble_eq_true rfl), (Nat.le_of_ble_eq_true rfl)⟩) rfl rfl kEnv_T rfl rfl (Nat.le_of_ble_eq_true rfl) dX5_set_25 hP hD hz) rfl (by decide) ?_
      obtain ⟨x10, hx10, h⟩ := bindE h
      refine kcallU_i C (wc := (cells_R_no cI cL cZ a_this a_gravel a_kind a_own a_likely a_tape a_holding a_rowLength a_rowOf a_refusals a_old a_ahead a_cost a_may a_rest a_way c_n c_rain c_ear c_many c_seed c_taped c_from c_to c_token c_value c_imaged c_refusals)) (w1 := (cells_R_no cI cL cZ a_this a_gravel a_kind a_own a_likely a_tape a_holding a_rowLength a_rowOf a_refusals a_old a_ahead a_cost a_may a_rest a_way c_n c_rain c_ear c_many c_seed c_taped c_from c_to c_token c_value c_imaged x10.2)) (ws' := (cells_R_set cI cL cZ a_this a_gravel a_kind a_own a_likely a_tape a_holding a_rowLength a_rowOf a_refusals a_old a_ahead a_cost a_may a_rest a_way c_n c_rain c_ear c_many c_seed c_taped c_from c_to c_token c_value c_imaged c_holding c_rowLength c_rowOf x10.2)) (r := x10.1) [0, 4] (fun H locs ls hP hD hS hF hz => krunV C (q0 := 0) (ci := 5) (c_R_no l D cI cL cZ H.size a_this a_gravel a_kind a_own a_likely a_tape a_holding a_rowLength a_rowOf a_refusals a_old a_ahead a_cost a_may a_rest a_way x9 c_n c_rain c_ear c_many c_seed c_taped c_from c_to c_token c_value c_imaged c_refusals x10 hx10) (cwV 1 C.2.2.2.2.1 (gV wq_558 wq_559 wq_560 wq_551 wq_557) rfl rfl rfl (by decide +kernel) ⟨(Nat.le_of_ble_eq_true rfl), (Nat.le_of_ble_eq_true rfl)⟩) rfl rfl kEnv_T rfl rfl (Nat.le_of_ble_eq_true rfl) dX5_set_28 hP hD hz) rfl (by decide) rfl rfl ?_
      obtain rfl := Option.some.inj h
      exact kret_i C rfl dX5_set_31
  · have h := ifT c_4 h
    refine k_aload_n C dX5_set_7 0 rfl rfl ?_
    refine k_bipush C (v := (-2 : Int32)) dX5_set_8 (by decide) ?_
    obtain ⟨x11, hx11, h⟩ := bindE h
    refine kcallU_i C (wc := (cells_R_no cI cL cZ a_this a_gravel a_kind a_own a_likely a_tape a_holding a_rowLength a_rowOf a_refusals a_old a_ahead a_cost a_may a_rest a_way c_n c_rain c_ear c_many c_seed c_taped c_from c_to c_token c_value c_imaged c_refusals)) (w1 := (cells_R_no cI cL cZ a_this a_gravel a_kind a_own a_likely a_tape a_holding a_rowLength a_rowOf a_refusals a_old a_ahead a_cost a_may a_rest a_way c_n c_rain c_ear c_many c_seed c_taped c_from c_to c_token c_value c_imaged x11.2)) (ws' := (cells_R_set cI cL cZ a_this a_gravel a_kind a_own a_likely a_tape a_holding a_rowLength a_rowOf a_refusals a_old a_ahead a_cost a_may a_rest a_way c_n c_rain c_ear c_many c_seed c_taped c_from c_to c_token c_value c_imaged c_holding c_rowLength c_rowOf x11.2)) (r := x11.1) [0, 4] (fun H locs ls hP hD hS hF hz => krunV C (q0 := 0) (ci := 5) (c_R_no l D cI cL cZ H.size a_this a_gravel a_kind a_own a_likely a_tape a_holding a_rowLength a_rowOf a_refusals a_old a_ahead a_cost a_may a_rest a_way (-2 : Int32) c_n c_rain c_ear c_many c_seed c_taped c_from c_to c_token c_value c_imaged c_refusals x11 hx11) (cwV 1 C.2.2.2.2.1 (gV wq_558 wq_559 wq_560 wq_551 wq_557) rfl rfl rfl (by decide +kernel) ⟨(Nat.le_of_ble_eq_true rfl), (Nat.le_of_ble_eq_true rfl)⟩) rfl rfl kEnv_T rfl rfl (Nat.le_of_ble_eq_true rfl) dX5_set_10 hP hD hz) rfl (by decide) rfl rfl ?_
    obtain rfl := Option.some.inj h
    exact kret_i C rfl dX5_set_13
theorem c_R_set (l : Launch) (D : va_G) (cI : ClassId) (cL : ClassId) (cZ : ClassId) (sz : Nat) (a_this : Nat) (a_gravel : Nat) (a_kind : Nat) (a_own : Nat) (a_likely : Nat) (a_tape : Nat) (a_holding : Nat) (a_rowLength : Nat) (a_rowOf : Nat) (a_refusals : Nat) (a_old : Nat) (a_ahead : Nat) (a_cost : Nat) (a_may : Nat) (a_rest : Nat) (a_way : Nat) (v1 : Int32) (v2 : Int32) (v3 : Int64) (c_n : Int32) (c_rain : Int32) (c_ear : Int32) (c_many : Int32) (c_seed : Int32) (c_taped : Int32) (c_from : Int32) (c_to : Int32) (c_token : Int32) (c_value : Int32) (c_imaged : Int32) (c_holding : (Nat → Int32)) (c_rowLength : (Nat → Int32)) (c_rowOf : (Nat → Int64)) (c_refusals : (Nat → Int32)) (x : (Int32 × (Nat → Int64) × (Nat → Int32))) (h : f_R_set v1 v2 v3 c_holding c_rowLength c_rowOf c_refusals = some x) :
    Met l yX5_set (Cond.code yX5_set cX5_set 5 (some .int) :: WS) rm_R_set (kP D (tyG cI cL cZ) kTrue [.ref a_this, .int v1, .int v2, .long v3] sz (cells_R_set cI cL cZ a_this a_gravel a_kind a_own a_likely a_tape a_holding a_rowLength a_rowOf a_refusals a_old a_ahead a_cost a_may a_rest a_way c_n c_rain c_ear c_many c_seed c_taped c_from c_to c_token c_value c_imaged c_holding c_rowLength c_rowOf c_refusals)) (kQi D (va_A (cells_R_set cI cL cZ a_this a_gravel a_kind a_own a_likely a_tape a_holding a_rowLength a_rowOf a_refusals a_old a_ahead a_cost a_may a_rest a_way c_n c_rain c_ear c_many c_seed c_taped c_from c_to c_token c_value c_imaged c_holding c_rowLength c_rowOf c_refusals) sz) (cells_R_set cI cL cZ a_this a_gravel a_kind a_own a_likely a_tape a_holding a_rowLength a_rowOf a_refusals a_old a_ahead a_cost a_may a_rest a_way c_n c_rain c_ear c_many c_seed c_taped c_from c_to c_token c_value c_imaged c_holding c_rowLength x.2.1 x.2.2) x.1) 0 0 (va_A (cells_R_set cI cL cZ a_this a_gravel a_kind a_own a_likely a_tape a_holding a_rowLength a_rowOf a_refusals a_old a_ahead a_cost a_may a_rest a_way c_n c_rain c_ear c_many c_seed c_taped c_from c_to c_token c_value c_imaged c_holding c_rowLength c_rowOf c_refusals) sz) :=
  kmet (by decide) (Nat.le_of_ble_eq_true rfl) rfl (fun p e s m below meth c C hE => s_R_set C h)
abbrev cells_R_copy (cI : ClassId) (cL : ClassId) (cZ : ClassId) (a_this : Nat) (a_gravel : Nat) (a_kind : Nat) (a_own : Nat) (a_likely : Nat) (a_tape : Nat) (a_holding : Nat) (a_rowLength : Nat) (a_rowOf : Nat) (a_refusals : Nat) (a_old : Nat) (a_ahead : Nat) (a_cost : Nat) (a_may : Nat) (a_rest : Nat) (a_way : Nat) (c_n : Int32) (c_rain : Int32) (c_ear : Int32) (c_many : Int32) (c_seed : Int32) (c_taped : Int32) (c_from : Int32) (c_to : Int32) (c_token : Int32) (c_value : Int32) (c_imaged : Int32) (c_holding : (Nat → Int32)) (c_rowLength : (Nat → Int32)) (c_rowOf : (Nat → Int64)) (c_refusals : (Nat → Int32)) : va_W := [(a_this, .inr (5, [.int c_n, .ref a_gravel, .int c_rain, .int c_ear, .int c_many, .ref a_kind, .ref a_own, .ref a_likely, .int c_seed, .int c_taped, .ref a_tape, .int c_from, .int c_to, .int c_token, .int c_value, .ref a_holding, .ref a_rowLength, .ref a_rowOf, .ref a_refusals, .int c_imaged, .ref a_old, .ref a_ahead, .ref a_cost, .ref a_may, .ref a_rest, .ref a_way])), (a_holding, .inl (cI, 8, .inl c_holding)), (a_rowLength, .inl (cI, 8, .inl c_rowLength)), (a_rowOf, .inl (cL, 320, .inr (.inl c_rowOf))), (a_refusals, .inl (cI, 7, .inl c_refusals))]
abbrev rm_R_copy : Room := { frames := 2, cells := 0, slots := 0, locals := 43 }
set_option maxRecDepth 100000 in
set_option maxHeartbeats 4000000 in
theorem s_R_copy_j14 (C : kC p l e rm_R_copy s m args below meth c D (tyG cI cL cZ) A 7 cX5_copy yX5_copy.cls (Cond.code yX5_copy cX5_copy 7 (some .int) :: WS) (some .int)) {a_this : Nat} {a_gravel : Nat} {a_kind : Nat} {a_own : Nat} {a_likely : Nat} {a_tape : Nat} {a_holding : Nat} {a_rowLength : Nat} {a_rowOf : Nat} {a_refusals : Nat} {a_old : Nat} {a_ahead : Nat} {a_cost : Nat} {a_may : Nat} {a_rest : Nat} {a_way : Nat} {c_n : Int32} {c_rain : Int32} {c_ear : Int32} {c_many : Int32} {c_seed : Int32} {c_taped : Int32} {c_from : Int32} {c_to : Int32} {c_token : Int32} {c_value : Int32} {c_imaged : Int32} {c_holding : (Nat → Int32)} {c_rowLength : (Nat → Int32)} {c_rowOf : (Nat → Int64)} {c_refusals : (Nat → Int32)} {x : (Int32 × (Nat → Int64) × (Nat → Int32))} (h : f_R_copy_j14 c_rowOf c_refusals = some x) :
    kW p l e rm_R_copy s m args below meth c D A 7 (cells_R_copy cI cL cZ a_this a_gravel a_kind a_own a_likely a_tape a_holding a_rowLength a_rowOf a_refusals a_old a_ahead a_cost a_may a_rest a_way c_n c_rain c_ear c_many c_seed c_taped c_from c_to c_token c_value c_imaged c_holding c_rowLength c_rowOf c_refusals) [(0, .ref a_this)] (MQ below (kQi D A (cells_R_copy cI cL cZ a_this a_gravel a_kind a_own a_likely a_tape a_holding a_rowLength a_rowOf a_refusals a_old a_ahead a_cost a_may a_rest a_way c_n c_rain c_ear c_many c_seed c_taped c_from c_to c_token c_value c_imaged c_holding c_rowLength x.2.1 x.2.2) x.1) args s 0 0 A) 14 [] := by
  unfold f_R_copy_j14 at h
  refine k_aload_n C dX5_copy_14 0 rfl rfl ?_
  refine k_bipush C (v := (-2 : Int32)) dX5_copy_15 (by decide) ?_
  obtain ⟨x2, hx2, h⟩ := bindE h
  refine kcallU_i C (wc := (cells_R_no cI cL cZ a_this a_gravel a_kind a_own a_likely a_tape a_holding a_rowLength a_rowOf a_refusals a_old a_ahead a_cost a_may a_rest a_way c_n c_rain c_ear c_many c_seed c_taped c_from c_to c_token c_value c_imaged c_refusals)) (w1 := (cells_R_no cI cL cZ a_this a_gravel a_kind a_own a_likely a_tape a_holding a_rowLength a_rowOf a_refusals a_old a_ahead a_cost a_may a_rest a_way c_n c_rain c_ear c_many c_seed c_taped c_from c_to c_token c_value c_imaged x2.2)) (ws' := (cells_R_copy cI cL cZ a_this a_gravel a_kind a_own a_likely a_tape a_holding a_rowLength a_rowOf a_refusals a_old a_ahead a_cost a_may a_rest a_way c_n c_rain c_ear c_many c_seed c_taped c_from c_to c_token c_value c_imaged c_holding c_rowLength c_rowOf x2.2)) (r := x2.1) [0, 4] (fun H locs ls hP hD hS hF hz => krunV C (q0 := 0) (ci := 5) (c_R_no l D cI cL cZ H.size a_this a_gravel a_kind a_own a_likely a_tape a_holding a_rowLength a_rowOf a_refusals a_old a_ahead a_cost a_may a_rest a_way (-2 : Int32) c_n c_rain c_ear c_many c_seed c_taped c_from c_to c_token c_value c_imaged c_refusals x2 hx2) (cwV 1 C.2.2.2.2.1 (gV wq_558 wq_559 wq_560 wq_551 wq_557) rfl rfl rfl (by decide +kernel) ⟨(Nat.le_of_ble_eq_true rfl), (Nat.le_of_ble_eq_true rfl)⟩) rfl rfl kEnv_T rfl rfl (Nat.le_of_ble_eq_true rfl) dX5_copy_17 hP hD hz) rfl (by decide) rfl rfl ?_
  obtain rfl := Option.some.inj h
  exact kret_i C rfl dX5_copy_20
set_option maxRecDepth 100000 in
set_option maxHeartbeats 4000000 in
theorem s_R_copy_j74 (C : kC p l e rm_R_copy s m args below meth c D (tyG cI cL cZ) A 7 cX5_copy yX5_copy.cls (Cond.code yX5_copy cX5_copy 7 (some .int) :: WS) (some .int)) {a_this : Nat} {a_gravel : Nat} {a_kind : Nat} {a_own : Nat} {a_likely : Nat} {a_tape : Nat} {a_holding : Nat} {a_rowLength : Nat} {a_rowOf : Nat} {a_refusals : Nat} {a_old : Nat} {a_ahead : Nat} {a_cost : Nat} {a_may : Nat} {a_rest : Nat} {a_way : Nat} {c_n : Int32} {c_rain : Int32} {c_ear : Int32} {c_many : Int32} {c_seed : Int32} {c_taped : Int32} {c_from : Int32} {c_to : Int32} {c_token : Int32} {c_value : Int32} {c_imaged : Int32} {c_holding : (Nat → Int32)} {c_rowLength : (Nat → Int32)} {c_rowOf : (Nat → Int64)} {c_refusals : (Nat → Int32)} {x : (Int32 × (Nat → Int64) × (Nat → Int32))} (h : f_R_copy_j74 c_rowOf c_refusals = some x) :
    kW p l e rm_R_copy s m args below meth c D A 7 (cells_R_copy cI cL cZ a_this a_gravel a_kind a_own a_likely a_tape a_holding a_rowLength a_rowOf a_refusals a_old a_ahead a_cost a_may a_rest a_way c_n c_rain c_ear c_many c_seed c_taped c_from c_to c_token c_value c_imaged c_holding c_rowLength c_rowOf c_refusals) [(0, .ref a_this)] (MQ below (kQi D A (cells_R_copy cI cL cZ a_this a_gravel a_kind a_own a_likely a_tape a_holding a_rowLength a_rowOf a_refusals a_old a_ahead a_cost a_may a_rest a_way c_n c_rain c_ear c_many c_seed c_taped c_from c_to c_token c_value c_imaged c_holding c_rowLength x.2.1 x.2.2) x.1) args s 0 0 A) 74 [] := by
  unfold f_R_copy_j74 at h
  refine k_aload_n C dX5_copy_74 0 rfl rfl ?_
  refine k_bipush C (v := (-3 : Int32)) dX5_copy_75 (by decide) ?_
  obtain ⟨x5, hx5, h⟩ := bindE h
  refine kcallU_i C (wc := (cells_R_no cI cL cZ a_this a_gravel a_kind a_own a_likely a_tape a_holding a_rowLength a_rowOf a_refusals a_old a_ahead a_cost a_may a_rest a_way c_n c_rain c_ear c_many c_seed c_taped c_from c_to c_token c_value c_imaged c_refusals)) (w1 := (cells_R_no cI cL cZ a_this a_gravel a_kind a_own a_likely a_tape a_holding a_rowLength a_rowOf a_refusals a_old a_ahead a_cost a_may a_rest a_way c_n c_rain c_ear c_many c_seed c_taped c_from c_to c_token c_value c_imaged x5.2)) (ws' := (cells_R_copy cI cL cZ a_this a_gravel a_kind a_own a_likely a_tape a_holding a_rowLength a_rowOf a_refusals a_old a_ahead a_cost a_may a_rest a_way c_n c_rain c_ear c_many c_seed c_taped c_from c_to c_token c_value c_imaged c_holding c_rowLength c_rowOf x5.2)) (r := x5.1) [0, 4] (fun H locs ls hP hD hS hF hz => krunV C (q0 := 0) (ci := 5) (c_R_no l D cI cL cZ H.size a_this a_gravel a_kind a_own a_likely a_tape a_holding a_rowLength a_rowOf a_refusals a_old a_ahead a_cost a_may a_rest a_way (-3 : Int32) c_n c_rain c_ear c_many c_seed c_taped c_from c_to c_token c_value c_imaged c_refusals x5 hx5) (cwV 1 C.2.2.2.2.1 (gV wq_558 wq_559 wq_560 wq_551 wq_557) rfl rfl rfl (by decide +kernel) ⟨(Nat.le_of_ble_eq_true rfl), (Nat.le_of_ble_eq_true rfl)⟩) rfl rfl kEnv_T rfl rfl (Nat.le_of_ble_eq_true rfl) dX5_copy_77 hP hD hz) rfl (by decide) rfl rfl ?_
  obtain rfl := Option.some.inj h
  exact kret_i C rfl dX5_copy_80
set_option maxRecDepth 100000 in
set_option maxHeartbeats 4000000 in
theorem s_R_copy_j99 (C : kC p l e rm_R_copy s m args below meth c D (tyG cI cL cZ) A 7 cX5_copy yX5_copy.cls (Cond.code yX5_copy cX5_copy 7 (some .int) :: WS) (some .int)) {a_this : Nat} {a_gravel : Nat} {a_kind : Nat} {a_own : Nat} {a_likely : Nat} {a_tape : Nat} {a_holding : Nat} {a_rowLength : Nat} {a_rowOf : Nat} {a_refusals : Nat} {a_old : Nat} {a_ahead : Nat} {a_cost : Nat} {a_may : Nat} {a_rest : Nat} {a_way : Nat} {c_n : Int32} {c_rain : Int32} {c_ear : Int32} {c_many : Int32} {c_seed : Int32} {c_taped : Int32} {c_from : Int32} {c_to : Int32} {c_token : Int32} {c_value : Int32} {c_imaged : Int32} {c_holding : (Nat → Int32)} {c_rowLength : (Nat → Int32)} {c_rowOf : (Nat → Int64)} {c_refusals : (Nat → Int32)} {x : (Int32 × (Nat → Int64) × (Nat → Int32))} (h : f_R_copy_j99 c_rowOf c_refusals = some x) :
    kW p l e rm_R_copy s m args below meth c D A 7 (cells_R_copy cI cL cZ a_this a_gravel a_kind a_own a_likely a_tape a_holding a_rowLength a_rowOf a_refusals a_old a_ahead a_cost a_may a_rest a_way c_n c_rain c_ear c_many c_seed c_taped c_from c_to c_token c_value c_imaged c_holding c_rowLength c_rowOf c_refusals) [(0, .ref a_this)] (MQ below (kQi D A (cells_R_copy cI cL cZ a_this a_gravel a_kind a_own a_likely a_tape a_holding a_rowLength a_rowOf a_refusals a_old a_ahead a_cost a_may a_rest a_way c_n c_rain c_ear c_many c_seed c_taped c_from c_to c_token c_value c_imaged c_holding c_rowLength x.2.1 x.2.2) x.1) args s 0 0 A) 99 [] := by
  unfold f_R_copy_j99 at h
  refine k_aload_n C dX5_copy_99 0 rfl rfl ?_
  refine k_bipush C (v := (-4 : Int32)) dX5_copy_100 (by decide) ?_
  obtain ⟨x9, hx9, h⟩ := bindE h
  refine kcallU_i C (wc := (cells_R_no cI cL cZ a_this a_gravel a_kind a_own a_likely a_tape a_holding a_rowLength a_rowOf a_refusals a_old a_ahead a_cost a_may a_rest a_way c_n c_rain c_ear c_many c_seed c_taped c_from c_to c_token c_value c_imaged c_refusals)) (w1 := (cells_R_no cI cL cZ a_this a_gravel a_kind a_own a_likely a_tape a_holding a_rowLength a_rowOf a_refusals a_old a_ahead a_cost a_may a_rest a_way c_n c_rain c_ear c_many c_seed c_taped c_from c_to c_token c_value c_imaged x9.2)) (ws' := (cells_R_copy cI cL cZ a_this a_gravel a_kind a_own a_likely a_tape a_holding a_rowLength a_rowOf a_refusals a_old a_ahead a_cost a_may a_rest a_way c_n c_rain c_ear c_many c_seed c_taped c_from c_to c_token c_value c_imaged c_holding c_rowLength c_rowOf x9.2)) (r := x9.1) [0, 4] (fun H locs ls hP hD hS hF hz => krunV C (q0 := 0) (ci := 5) (c_R_no l D cI cL cZ H.size a_this a_gravel a_kind a_own a_likely a_tape a_holding a_rowLength a_rowOf a_refusals a_old a_ahead a_cost a_may a_rest a_way (-4 : Int32) c_n c_rain c_ear c_many c_seed c_taped c_from c_to c_token c_value c_imaged c_refusals x9 hx9) (cwV 1 C.2.2.2.2.1 (gV wq_558 wq_559 wq_560 wq_551 wq_557) rfl rfl rfl (by decide +kernel) ⟨(Nat.le_of_ble_eq_true rfl), (Nat.le_of_ble_eq_true rfl)⟩) rfl rfl kEnv_T rfl rfl (Nat.le_of_ble_eq_true rfl) dX5_copy_102 hP hD hz) rfl (by decide) rfl rfl ?_
  obtain rfl := Option.some.inj h
  exact kret_i C rfl dX5_copy_105
set_option maxRecDepth 100000 in
set_option maxHeartbeats 4000000 in
theorem s_R_copy_j155 (C : kC p l e rm_R_copy s m args below meth c D (tyG cI cL cZ) A 7 cX5_copy yX5_copy.cls (Cond.code yX5_copy cX5_copy 7 (some .int) :: WS) (some .int)) {a_this : Nat} {a_gravel : Nat} {a_kind : Nat} {a_own : Nat} {a_likely : Nat} {a_tape : Nat} {a_holding : Nat} {a_rowLength : Nat} {a_rowOf : Nat} {a_refusals : Nat} {a_old : Nat} {a_ahead : Nat} {a_cost : Nat} {a_may : Nat} {a_rest : Nat} {a_way : Nat} {c_n : Int32} {c_rain : Int32} {c_ear : Int32} {c_many : Int32} {c_seed : Int32} {c_taped : Int32} {c_from : Int32} {c_to : Int32} {c_token : Int32} {c_value : Int32} {c_imaged : Int32} {c_holding : (Nat → Int32)} {c_rowLength : (Nat → Int32)} {c_rowOf : (Nat → Int64)} {c_refusals : (Nat → Int32)} {x : (Int32 × (Nat → Int64) × (Nat → Int32))} (h : f_R_copy_j155 c_rowOf c_refusals = some x) :
    kW p l e rm_R_copy s m args below meth c D A 7 (cells_R_copy cI cL cZ a_this a_gravel a_kind a_own a_likely a_tape a_holding a_rowLength a_rowOf a_refusals a_old a_ahead a_cost a_may a_rest a_way c_n c_rain c_ear c_many c_seed c_taped c_from c_to c_token c_value c_imaged c_holding c_rowLength c_rowOf c_refusals) [(0, .ref a_this)] (MQ below (kQi D A (cells_R_copy cI cL cZ a_this a_gravel a_kind a_own a_likely a_tape a_holding a_rowLength a_rowOf a_refusals a_old a_ahead a_cost a_may a_rest a_way c_n c_rain c_ear c_many c_seed c_taped c_from c_to c_token c_value c_imaged c_holding c_rowLength x.2.1 x.2.2) x.1) args s 0 0 A) 155 [] := by
  unfold f_R_copy_j155 at h
  refine k_aload_n C dX5_copy_155 0 rfl rfl ?_
  refine k_bipush C (v := (-2 : Int32)) dX5_copy_156 (by decide) ?_
  obtain ⟨x11, hx11, h⟩ := bindE h
  refine kcallU_i C (wc := (cells_R_no cI cL cZ a_this a_gravel a_kind a_own a_likely a_tape a_holding a_rowLength a_rowOf a_refusals a_old a_ahead a_cost a_may a_rest a_way c_n c_rain c_ear c_many c_seed c_taped c_from c_to c_token c_value c_imaged c_refusals)) (w1 := (cells_R_no cI cL cZ a_this a_gravel a_kind a_own a_likely a_tape a_holding a_rowLength a_rowOf a_refusals a_old a_ahead a_cost a_may a_rest a_way c_n c_rain c_ear c_many c_seed c_taped c_from c_to c_token c_value c_imaged x11.2)) (ws' := (cells_R_copy cI cL cZ a_this a_gravel a_kind a_own a_likely a_tape a_holding a_rowLength a_rowOf a_refusals a_old a_ahead a_cost a_may a_rest a_way c_n c_rain c_ear c_many c_seed c_taped c_from c_to c_token c_value c_imaged c_holding c_rowLength c_rowOf x11.2)) (r := x11.1) [0, 4] (fun H locs ls hP hD hS hF hz => krunV C (q0 := 0) (ci := 5) (c_R_no l D cI cL cZ H.size a_this a_gravel a_kind a_own a_likely a_tape a_holding a_rowLength a_rowOf a_refusals a_old a_ahead a_cost a_may a_rest a_way (-2 : Int32) c_n c_rain c_ear c_many c_seed c_taped c_from c_to c_token c_value c_imaged c_refusals x11 hx11) (cwV 1 C.2.2.2.2.1 (gV wq_558 wq_559 wq_560 wq_551 wq_557) rfl rfl rfl (by decide +kernel) ⟨(Nat.le_of_ble_eq_true rfl), (Nat.le_of_ble_eq_true rfl)⟩) rfl rfl kEnv_T rfl rfl (Nat.le_of_ble_eq_true rfl) dX5_copy_158 hP hD hz) rfl (by decide) rfl rfl ?_
  obtain rfl := Option.some.inj h
  exact kret_i C rfl dX5_copy_161
set_option maxRecDepth 100000 in
set_option maxHeartbeats 4000000 in
theorem s_R_copy_b225 (C : kC p l e rm_R_copy s m args below meth c D (tyG cI cL cZ) A 7 cX5_copy yX5_copy.cls (Cond.code yX5_copy cX5_copy 7 (some .int) :: WS) (some .int)) {a_this : Nat} {a_gravel : Nat} {a_kind : Nat} {a_own : Nat} {a_likely : Nat} {a_tape : Nat} {a_holding : Nat} {a_rowLength : Nat} {a_rowOf : Nat} {a_refusals : Nat} {a_old : Nat} {a_ahead : Nat} {a_cost : Nat} {a_may : Nat} {a_rest : Nat} {a_way : Nat} {v1 : Int32} {v2 : Int32} {v3 : Int32} {v4 : Int32} {v5 : Int32} {v6 : Int32} {c_n : Int32} {c_rain : Int32} {c_ear : Int32} {c_many : Int32} {c_seed : Int32} {c_taped : Int32} {c_from : Int32} {c_to : Int32} {c_token : Int32} {c_value : Int32} {c_imaged : Int32} {c_holding : (Nat → Int32)} {c_rowLength : (Nat → Int32)} {c_rowOf : (Nat → Int64)} {c_refusals : (Nat → Int32)} {x : ((Int32 × (Nat → Int64)) ⊕ (Nat → Int64))} (h : f_R_copy_b225 v1 v2 v3 v4 v5 v6 c_rowOf = some x)
    (kc : ∀ s', x = .inl s' → kW p l e rm_R_copy s m args below meth c D A 7 (cells_R_copy cI cL cZ a_this a_gravel a_kind a_own a_likely a_tape a_holding a_rowLength a_rowOf a_refusals a_old a_ahead a_cost a_may a_rest a_way c_n c_rain c_ear c_many c_seed c_taped c_from c_to c_token c_value c_imaged c_holding c_rowLength s'.2 c_refusals) [(0, .ref a_this), (1, .int v1), (2, .int v2), (3, .int v3), (4, .int v4), (5, .int v5), (6, .int s'.1)] Q 225 [])
    (k0 : ∀ r, x = .inr r → kW p l e rm_R_copy s m args below meth c D A 7 (cells_R_copy cI cL cZ a_this a_gravel a_kind a_own a_likely a_tape a_holding a_rowLength a_rowOf a_refusals a_old a_ahead a_cost a_may a_rest a_way c_n c_rain c_ear c_many c_seed c_taped c_from c_to c_token c_value c_imaged c_holding c_rowLength r c_refusals) [(5, .int v5)] Q 267 []) :
    kW p l e rm_R_copy s m args below meth c D A 7 (cells_R_copy cI cL cZ a_this a_gravel a_kind a_own a_likely a_tape a_holding a_rowLength a_rowOf a_refusals a_old a_ahead a_cost a_may a_rest a_way c_n c_rain c_ear c_many c_seed c_taped c_from c_to c_token c_value c_imaged c_holding c_rowLength c_rowOf c_refusals) [(0, .ref a_this), (1, .int v1), (2, .int v2), (3, .int v3), (4, .int v4), (5, .int v5), (6, .int v6)] Q 225 [] := by
  unfold f_R_copy_b225 at h
  refine k_iload C dX5_copy_225 6 rfl ?_
  refine k_iload C dX5_copy_227 5 rfl ?_
  refine k_icmp_ge C (tgt := 267) dX5_copy_229 (by decide) (fun c_229 => ?_) (fun c_229 => ?_)
  · have h := ifT c_229 h
    refine k_lv (lv' := [(5, .int v5)]) [5] rfl ?_
    exact k0 _ (Option.some.inj h).symm
  · have h := ifF c_229 h
    refine k_aload_n C dX5_copy_232 0 rfl rfl ?_
    refine k_get C (C0 := RX5) (T := TX5) (N := 26) (fun w h => List.mem_cons_of_mem _ (us_R w h)) 0 rfl rfl 17 (by decide) (List.mem_cons_of_mem _ wq_562) rfl rfl dX5_copy_233 ?_
    refine k_bipush C (v := (40 : Int32)) dX5_copy_236 (by decide) ?_
    refine k_iload_n C dX5_copy_238 2 rfl rfl ?_
    refine k_imul C dX5_copy_239 ?_
    refine k_iload C dX5_copy_240 4 rfl ?_
    refine k_iadd C dX5_copy_242 ?_
    refine k_iload C dX5_copy_243 6 rfl ?_
    refine k_iadd C dX5_copy_245 ?_
    refine k_aload_n C dX5_copy_246 0 rfl rfl ?_
    refine k_get C (C0 := RX5) (T := TX5) (N := 26) (fun w h => List.mem_cons_of_mem _ (us_R w h)) 0 rfl rfl 17 (by decide) (List.mem_cons_of_mem _ wq_562) rfl rfl dX5_copy_247 ?_
    refine k_bipush C (v := (40 : Int32)) dX5_copy_250 (by decide) ?_
    refine k_iload_n C dX5_copy_252 1 rfl rfl ?_
    refine k_imul C dX5_copy_253 ?_
    refine k_iload_n C dX5_copy_254 3 rfl rfl ?_
    refine k_iadd C dX5_copy_255 ?_
    refine k_iload C dX5_copy_256 6 rfl ?_
    refine k_iadd C dX5_copy_258 ?_
    obtain ⟨x14, hx14, h⟩ := bindE h
    refine k_lald C 3 1 rfl rfl hx14 dX5_copy_259 ?_
    obtain ⟨x15, hx15, h⟩ := bindE h
    refine k_last C 3 1 (ws' := (cells_R_copy cI cL cZ a_this a_gravel a_kind a_own a_likely a_tape a_holding a_rowLength a_rowOf a_refusals a_old a_ahead a_cost a_may a_rest a_way c_n c_rain c_ear c_many c_seed c_taped c_from c_to c_token c_value c_imaged c_holding c_rowLength x15 c_refusals)) rfl rfl hx15 rfl dX5_copy_260 ?_
    refine k_iinc C (v := (v6 + (1 : Int32))) (lv' := [(6, .int (v6 + (1 : Int32))), (0, .ref a_this), (1, .int v1), (2, .int v2), (3, .int v3), (4, .int v4), (5, .int v5)]) dX5_copy_261 6 rfl rfl (by decide) rfl ?_
    refine k_goto C (tgt := 225) dX5_copy_264 (by decide) ?_
    refine k_lv (lv' := [(0, .ref a_this), (1, .int v1), (2, .int v2), (3, .int v3), (4, .int v4), (5, .int v5), (6, .int (v6 + (1 : Int32)))]) [1, 2, 3, 4, 5, 6, 0] rfl ?_
    exact kc _ (Option.some.inj h).symm
set_option maxRecDepth 100000 in
set_option maxHeartbeats 4000000 in
theorem s_R_copy_l225 (C : kC p l e rm_R_copy s m args below meth c D (tyG cI cL cZ) A 7 cX5_copy yX5_copy.cls (Cond.code yX5_copy cX5_copy 7 (some .int) :: WS) (some .int)) {a_this : Nat} {a_gravel : Nat} {a_kind : Nat} {a_own : Nat} {a_likely : Nat} {a_tape : Nat} {a_holding : Nat} {a_rowLength : Nat} {a_rowOf : Nat} {a_refusals : Nat} {a_old : Nat} {a_ahead : Nat} {a_cost : Nat} {a_may : Nat} {a_rest : Nat} {a_way : Nat} {v1 : Int32} {v2 : Int32} {v3 : Int32} {v4 : Int32} {v5 : Int32} {v6 : Int32} {c_n : Int32} {c_rain : Int32} {c_ear : Int32} {c_many : Int32} {c_seed : Int32} {c_taped : Int32} {c_from : Int32} {c_to : Int32} {c_token : Int32} {c_value : Int32} {c_imaged : Int32} {c_holding : (Nat → Int32)} {c_rowLength : (Nat → Int32)} {c_rowOf : (Nat → Int64)} {c_refusals : (Nat → Int32)} {x : (Nat → Int64)} (h : f_R_copy_l225 v1 v2 v3 v4 v5 v6 c_rowOf = some x)
    (k0 : kW p l e rm_R_copy s m args below meth c D A 7 (cells_R_copy cI cL cZ a_this a_gravel a_kind a_own a_likely a_tape a_holding a_rowLength a_rowOf a_refusals a_old a_ahead a_cost a_may a_rest a_way c_n c_rain c_ear c_many c_seed c_taped c_from c_to c_token c_value c_imaged c_holding c_rowLength x c_refusals) [(5, .int v5)] Q 267 []) :
    kW p l e rm_R_copy s m args below meth c D A 7 (cells_R_copy cI cL cZ a_this a_gravel a_kind a_own a_likely a_tape a_holding a_rowLength a_rowOf a_refusals a_old a_ahead a_cost a_may a_rest a_way c_n c_rain c_ear c_many c_seed c_taped c_from c_to c_token c_value c_imaged c_holding c_rowLength c_rowOf c_refusals) [(0, .ref a_this), (1, .int v1), (2, .int v2), (3, .int v3), (4, .int v4), (5, .int v5), (6, .int v6)] Q 225 [] := by
  unfold f_R_copy_l225 at h
  exact iter_W (body := fun s => f_R_copy_b225 v1 v2 v3 v4 v5 s.1 s.2) (r := x) (T := fun sg => kW p l e rm_R_copy s m args below meth c D A 7 (cells_R_copy cI cL cZ a_this a_gravel a_kind a_own a_likely a_tape a_holding a_rowLength a_rowOf a_refusals a_old a_ahead a_cost a_may a_rest a_way c_n c_rain c_ear c_many c_seed c_taped c_from c_to c_token c_value c_imaged c_holding c_rowLength sg.2 c_refusals) [(0, .ref a_this), (1, .int v1), (2, .int v2), (3, .int v3), (4, .int v4), (5, .int v5), (6, .int sg.1)] Q 225 []) (fun sg y hy hc _ hr => s_R_copy_b225 C (v1 := v1) (v2 := v2) (v3 := v3) (v4 := v4) (v5 := v5) (v6 := sg.1) (c_n := c_n) (c_rain := c_rain) (c_ear := c_ear) (c_many := c_many) (c_seed := c_seed) (c_taped := c_taped) (c_from := c_from) (c_to := c_to) (c_token := c_token) (c_value := c_value) (c_imaged := c_imaged) (c_holding := c_holding) (c_rowLength := c_rowLength) (c_rowOf := sg.2) (c_refusals := c_refusals) (x := y) hy hc (fun r e => by rw [hr r e]; exact k0)) FUEL (v6, c_rowOf) h
set_option maxRecDepth 100000 in
set_option maxHeartbeats 4000000 in
theorem s_R_copy_j222 (C : kC p l e rm_R_copy s m args below meth c D (tyG cI cL cZ) A 7 cX5_copy yX5_copy.cls (Cond.code yX5_copy cX5_copy 7 (some .int) :: WS) (some .int)) {a_this : Nat} {a_gravel : Nat} {a_kind : Nat} {a_own : Nat} {a_likely : Nat} {a_tape : Nat} {a_holding : Nat} {a_rowLength : Nat} {a_rowOf : Nat} {a_refusals : Nat} {a_old : Nat} {a_ahead : Nat} {a_cost : Nat} {a_may : Nat} {a_rest : Nat} {a_way : Nat} {v1 : Int32} {v2 : Int32} {v3 : Int32} {v4 : Int32} {v5 : Int32} {c_n : Int32} {c_rain : Int32} {c_ear : Int32} {c_many : Int32} {c_seed : Int32} {c_taped : Int32} {c_from : Int32} {c_to : Int32} {c_token : Int32} {c_value : Int32} {c_imaged : Int32} {c_holding : (Nat → Int32)} {c_rowLength : (Nat → Int32)} {c_rowOf : (Nat → Int64)} {c_refusals : (Nat → Int32)} {x : (Int32 × (Nat → Int64) × (Nat → Int32))} (h : f_R_copy_j222 v1 v2 v3 v4 v5 c_rowOf c_refusals = some x) :
    kW p l e rm_R_copy s m args below meth c D A 7 (cells_R_copy cI cL cZ a_this a_gravel a_kind a_own a_likely a_tape a_holding a_rowLength a_rowOf a_refusals a_old a_ahead a_cost a_may a_rest a_way c_n c_rain c_ear c_many c_seed c_taped c_from c_to c_token c_value c_imaged c_holding c_rowLength c_rowOf c_refusals) [(0, .ref a_this), (1, .int v1), (2, .int v2), (3, .int v3), (4, .int v4), (5, .int v5)] (MQ below (kQi D A (cells_R_copy cI cL cZ a_this a_gravel a_kind a_own a_likely a_tape a_holding a_rowLength a_rowOf a_refusals a_old a_ahead a_cost a_may a_rest a_way c_n c_rain c_ear c_many c_seed c_taped c_from c_to c_token c_value c_imaged c_holding c_rowLength x.2.1 x.2.2) x.1) args s 0 0 A) 222 [] := by
  unfold f_R_copy_j222 at h
  refine k_iconst C (v := (0 : Int32)) dX5_copy_222 (by decide) ?_
  refine k_istore C (lv' := [(6, .int (0 : Int32)), (0, .ref a_this), (1, .int v1), (2, .int v2), (3, .int v3), (4, .int v4), (5, .int v5)]) dX5_copy_223 (by decide) rfl ?_
  obtain ⟨x16, hx16, h⟩ := bindE h
  refine k_lv (lv' := [(0, .ref a_this), (1, .int v1), (2, .int v2), (3, .int v3), (4, .int v4), (5, .int v5), (6, .int (0 : Int32))]) [1, 2, 3, 4, 5, 6, 0] rfl ?_
  refine s_R_copy_l225 C hx16 ?_
  refine k_iload C dX5_copy_267 0 rfl ?_
  obtain rfl := Option.some.inj h
  exact kret_i C rfl dX5_copy_269
set_option maxRecDepth 100000 in
set_option maxHeartbeats 4000000 in
theorem s_R_copy_b179 (C : kC p l e rm_R_copy s m args below meth c D (tyG cI cL cZ) A 7 cX5_copy yX5_copy.cls (Cond.code yX5_copy cX5_copy 7 (some .int) :: WS) (some .int)) {a_this : Nat} {a_gravel : Nat} {a_kind : Nat} {a_own : Nat} {a_likely : Nat} {a_tape : Nat} {a_holding : Nat} {a_rowLength : Nat} {a_rowOf : Nat} {a_refusals : Nat} {a_old : Nat} {a_ahead : Nat} {a_cost : Nat} {a_may : Nat} {a_rest : Nat} {a_way : Nat} {v1 : Int32} {v2 : Int32} {v3 : Int32} {v4 : Int32} {v5 : Int32} {v6 : Int32} {c_n : Int32} {c_rain : Int32} {c_ear : Int32} {c_many : Int32} {c_seed : Int32} {c_taped : Int32} {c_from : Int32} {c_to : Int32} {c_token : Int32} {c_value : Int32} {c_imaged : Int32} {c_holding : (Nat → Int32)} {c_rowLength : (Nat → Int32)} {c_rowOf : (Nat → Int64)} {c_refusals : (Nat → Int32)} {x : ((Int32 × (Nat → Int64)) ⊕ (Nat → Int64))} (h : f_R_copy_b179 v1 v2 v3 v4 v6 c_rowOf = some x)
    (kc : ∀ s', x = .inl s' → kW p l e rm_R_copy s m args below meth c D A 7 (cells_R_copy cI cL cZ a_this a_gravel a_kind a_own a_likely a_tape a_holding a_rowLength a_rowOf a_refusals a_old a_ahead a_cost a_may a_rest a_way c_n c_rain c_ear c_many c_seed c_taped c_from c_to c_token c_value c_imaged c_holding c_rowLength s'.2 c_refusals) [(0, .ref a_this), (1, .int v1), (2, .int v2), (3, .int v3), (4, .int v4), (5, .int v5), (6, .int s'.1)] Q 179 [])
    (k0 : ∀ r, x = .inr r → kW p l e rm_R_copy s m args below meth c D A 7 (cells_R_copy cI cL cZ a_this a_gravel a_kind a_own a_likely a_tape a_holding a_rowLength a_rowOf a_refusals a_old a_ahead a_cost a_may a_rest a_way c_n c_rain c_ear c_many c_seed c_taped c_from c_to c_token c_value c_imaged c_holding c_rowLength r c_refusals) [(5, .int v5)] Q 219 []) :
    kW p l e rm_R_copy s m args below meth c D A 7 (cells_R_copy cI cL cZ a_this a_gravel a_kind a_own a_likely a_tape a_holding a_rowLength a_rowOf a_refusals a_old a_ahead a_cost a_may a_rest a_way c_n c_rain c_ear c_many c_seed c_taped c_from c_to c_token c_value c_imaged c_holding c_rowLength c_rowOf c_refusals) [(0, .ref a_this), (1, .int v1), (2, .int v2), (3, .int v3), (4, .int v4), (5, .int v5), (6, .int v6)] Q 179 [] := by
  unfold f_R_copy_b179 at h
  refine k_iload C dX5_copy_179 6 rfl ?_
  refine k_if_lt C (tgt := 219) dX5_copy_181 (by decide) (fun c_181 => ?_) (fun c_181 => ?_)
  · have h := ifT c_181 h
    refine k_lv (lv' := [(5, .int v5)]) [5] rfl ?_
    exact k0 _ (Option.some.inj h).symm
  · have h := ifF c_181 h
    refine k_aload_n C dX5_copy_184 0 rfl rfl ?_
    refine k_get C (C0 := RX5) (T := TX5) (N := 26) (fun w h => List.mem_cons_of_mem _ (us_R w h)) 0 rfl rfl 17 (by decide) (List.mem_cons_of_mem _ wq_562) rfl rfl dX5_copy_185 ?_
    refine k_bipush C (v := (40 : Int32)) dX5_copy_188 (by decide) ?_
    refine k_iload_n C dX5_copy_190 2 rfl rfl ?_
    refine k_imul C dX5_copy_191 ?_
    refine k_iload C dX5_copy_192 4 rfl ?_
    refine k_iadd C dX5_copy_194 ?_
    refine k_iload C dX5_copy_195 6 rfl ?_
    refine k_iadd C dX5_copy_197 ?_
    refine k_aload_n C dX5_copy_198 0 rfl rfl ?_
    refine k_get C (C0 := RX5) (T := TX5) (N := 26) (fun w h => List.mem_cons_of_mem _ (us_R w h)) 0 rfl rfl 17 (by decide) (List.mem_cons_of_mem _ wq_562) rfl rfl dX5_copy_199 ?_
    refine k_bipush C (v := (40 : Int32)) dX5_copy_202 (by decide) ?_
    refine k_iload_n C dX5_copy_204 1 rfl rfl ?_
    refine k_imul C dX5_copy_205 ?_
    refine k_iload_n C dX5_copy_206 3 rfl rfl ?_
    refine k_iadd C dX5_copy_207 ?_
    refine k_iload C dX5_copy_208 6 rfl ?_
    refine k_iadd C dX5_copy_210 ?_
    obtain ⟨x17, hx17, h⟩ := bindE h
    refine k_lald C 3 1 rfl rfl hx17 dX5_copy_211 ?_
    obtain ⟨x18, hx18, h⟩ := bindE h
    refine k_last C 3 1 (ws' := (cells_R_copy cI cL cZ a_this a_gravel a_kind a_own a_likely a_tape a_holding a_rowLength a_rowOf a_refusals a_old a_ahead a_cost a_may a_rest a_way c_n c_rain c_ear c_many c_seed c_taped c_from c_to c_token c_value c_imaged c_holding c_rowLength x18 c_refusals)) rfl rfl hx18 rfl dX5_copy_212 ?_
    refine k_iinc C (v := (v6 + (-1 : Int32))) (lv' := [(6, .int (v6 + (-1 : Int32))), (0, .ref a_this), (1, .int v1), (2, .int v2), (3, .int v3), (4, .int v4), (5, .int v5)]) dX5_copy_213 6 rfl rfl (by decide) rfl ?_
    refine k_goto C (tgt := 179) dX5_copy_216 (by decide) ?_
    refine k_lv (lv' := [(0, .ref a_this), (1, .int v1), (2, .int v2), (3, .int v3), (4, .int v4), (5, .int v5), (6, .int (v6 + (-1 : Int32)))]) [1, 2, 3, 4, 5, 6, 0] rfl ?_
    exact kc _ (Option.some.inj h).symm
set_option maxRecDepth 100000 in
set_option maxHeartbeats 4000000 in
theorem s_R_copy_l179 (C : kC p l e rm_R_copy s m args below meth c D (tyG cI cL cZ) A 7 cX5_copy yX5_copy.cls (Cond.code yX5_copy cX5_copy 7 (some .int) :: WS) (some .int)) {a_this : Nat} {a_gravel : Nat} {a_kind : Nat} {a_own : Nat} {a_likely : Nat} {a_tape : Nat} {a_holding : Nat} {a_rowLength : Nat} {a_rowOf : Nat} {a_refusals : Nat} {a_old : Nat} {a_ahead : Nat} {a_cost : Nat} {a_may : Nat} {a_rest : Nat} {a_way : Nat} {v1 : Int32} {v2 : Int32} {v3 : Int32} {v4 : Int32} {v5 : Int32} {v6 : Int32} {c_n : Int32} {c_rain : Int32} {c_ear : Int32} {c_many : Int32} {c_seed : Int32} {c_taped : Int32} {c_from : Int32} {c_to : Int32} {c_token : Int32} {c_value : Int32} {c_imaged : Int32} {c_holding : (Nat → Int32)} {c_rowLength : (Nat → Int32)} {c_rowOf : (Nat → Int64)} {c_refusals : (Nat → Int32)} {x : (Nat → Int64)} (h : f_R_copy_l179 v1 v2 v3 v4 v6 c_rowOf = some x)
    (k0 : kW p l e rm_R_copy s m args below meth c D A 7 (cells_R_copy cI cL cZ a_this a_gravel a_kind a_own a_likely a_tape a_holding a_rowLength a_rowOf a_refusals a_old a_ahead a_cost a_may a_rest a_way c_n c_rain c_ear c_many c_seed c_taped c_from c_to c_token c_value c_imaged c_holding c_rowLength x c_refusals) [(5, .int v5)] Q 219 []) :
    kW p l e rm_R_copy s m args below meth c D A 7 (cells_R_copy cI cL cZ a_this a_gravel a_kind a_own a_likely a_tape a_holding a_rowLength a_rowOf a_refusals a_old a_ahead a_cost a_may a_rest a_way c_n c_rain c_ear c_many c_seed c_taped c_from c_to c_token c_value c_imaged c_holding c_rowLength c_rowOf c_refusals) [(0, .ref a_this), (1, .int v1), (2, .int v2), (3, .int v3), (4, .int v4), (5, .int v5), (6, .int v6)] Q 179 [] := by
  unfold f_R_copy_l179 at h
  exact iter_W (body := fun s => f_R_copy_b179 v1 v2 v3 v4 s.1 s.2) (r := x) (T := fun sg => kW p l e rm_R_copy s m args below meth c D A 7 (cells_R_copy cI cL cZ a_this a_gravel a_kind a_own a_likely a_tape a_holding a_rowLength a_rowOf a_refusals a_old a_ahead a_cost a_may a_rest a_way c_n c_rain c_ear c_many c_seed c_taped c_from c_to c_token c_value c_imaged c_holding c_rowLength sg.2 c_refusals) [(0, .ref a_this), (1, .int v1), (2, .int v2), (3, .int v3), (4, .int v4), (5, .int v5), (6, .int sg.1)] Q 179 []) (fun sg y hy hc _ hr => s_R_copy_b179 C (v1 := v1) (v2 := v2) (v3 := v3) (v4 := v4) (v5 := v5) (v6 := sg.1) (c_n := c_n) (c_rain := c_rain) (c_ear := c_ear) (c_many := c_many) (c_seed := c_seed) (c_taped := c_taped) (c_from := c_from) (c_to := c_to) (c_token := c_token) (c_value := c_value) (c_imaged := c_imaged) (c_holding := c_holding) (c_rowLength := c_rowLength) (c_rowOf := sg.2) (c_refusals := c_refusals) (x := y) hy hc (fun r e => by rw [hr r e]; exact k0)) FUEL (v6, c_rowOf) h
set_option maxRecDepth 100000 in
set_option maxHeartbeats 4000000 in
theorem s_R_copy_j81 (C : kC p l e rm_R_copy s m args below meth c D (tyG cI cL cZ) A 7 cX5_copy yX5_copy.cls (Cond.code yX5_copy cX5_copy 7 (some .int) :: WS) (some .int)) {a_this : Nat} {a_gravel : Nat} {a_kind : Nat} {a_own : Nat} {a_likely : Nat} {a_tape : Nat} {a_holding : Nat} {a_rowLength : Nat} {a_rowOf : Nat} {a_refusals : Nat} {a_old : Nat} {a_ahead : Nat} {a_cost : Nat} {a_may : Nat} {a_rest : Nat} {a_way : Nat} {v1 : Int32} {v2 : Int32} {v3 : Int32} {v4 : Int32} {v5 : Int32} {c_n : Int32} {c_rain : Int32} {c_ear : Int32} {c_many : Int32} {c_seed : Int32} {c_taped : Int32} {c_from : Int32} {c_to : Int32} {c_token : Int32} {c_value : Int32} {c_imaged : Int32} {c_holding : (Nat → Int32)} {c_rowLength : (Nat → Int32)} {c_rowOf : (Nat → Int64)} {c_refusals : (Nat → Int32)} {x : (Int32 × (Nat → Int64) × (Nat → Int32))} (h : f_R_copy_j81 v1 v2 v3 v4 v5 c_holding c_rowLength c_rowOf c_refusals = some x) :
    kW p l e rm_R_copy s m args below meth c D A 7 (cells_R_copy cI cL cZ a_this a_gravel a_kind a_own a_likely a_tape a_holding a_rowLength a_rowOf a_refusals a_old a_ahead a_cost a_may a_rest a_way c_n c_rain c_ear c_many c_seed c_taped c_from c_to c_token c_value c_imaged c_holding c_rowLength c_rowOf c_refusals) [(0, .ref a_this), (1, .int v1), (2, .int v2), (3, .int v3), (4, .int v4), (5, .int v5)] (MQ below (kQi D A (cells_R_copy cI cL cZ a_this a_gravel a_kind a_own a_likely a_tape a_holding a_rowLength a_rowOf a_refusals a_old a_ahead a_cost a_may a_rest a_way c_n c_rain c_ear c_many c_seed c_taped c_from c_to c_token c_value c_imaged c_holding c_rowLength x.2.1 x.2.2) x.1) args s 0 0 A) 81 [] := by
  unfold f_R_copy_j81 at h
  refine k_aload_n C dX5_copy_81 0 rfl rfl ?_
  refine k_get C (C0 := RX5) (T := TX5) (N := 26) (fun w h => List.mem_cons_of_mem _ (us_R w h)) 0 rfl rfl 15 (by decide) (List.mem_cons_of_mem _ wq_553) rfl rfl dX5_copy_82 ?_
  refine k_iload_n C dX5_copy_85 1 rfl rfl ?_
  obtain ⟨x8, hx8, h⟩ := bindE h
  refine k_iald C 1 0 rfl rfl hx8 dX5_copy_86 ?_
  refine k_if_lt C (tgt := 99) dX5_copy_87 (by decide) (fun c_87 => ?_) (fun c_87 => ?_)
  · have h := ifT c_87 h
    refine k_lv (lv' := [(0, .ref a_this)]) [0] rfl ?_
    exact s_R_copy_j99 C h
  · have h := ifF c_87 h
    refine k_aload_n C dX5_copy_90 0 rfl rfl ?_
    refine k_get C (C0 := RX5) (T := TX5) (N := 26) (fun w h => List.mem_cons_of_mem _ (us_R w h)) 0 rfl rfl 15 (by decide) (List.mem_cons_of_mem _ wq_553) rfl rfl dX5_copy_91 ?_
    refine k_iload_n C dX5_copy_94 2 rfl rfl ?_
    obtain ⟨x10, hx10, h⟩ := bindE h
    refine k_iald C 1 0 rfl rfl hx10 dX5_copy_95 ?_
    refine k_if_ge C (tgt := 106) dX5_copy_96 (by decide) (fun c_96 => ?_) (fun c_96 => ?_)
    · have h := ifT c_96 h
      refine k_iload C dX5_copy_106 5 rfl ?_
      refine k_if_lt C (tgt := 155) dX5_copy_108 (by decide) (fun c_108 => ?_) (fun c_108 => ?_)
      · have h := ifT c_108 h
        refine k_lv (lv' := [(0, .ref a_this)]) [0] rfl ?_
        exact s_R_copy_j155 C h
      · have h := ifF c_108 h
        refine k_iload_n C dX5_copy_111 3 rfl rfl ?_
        refine k_if_lt C (tgt := 155) dX5_copy_112 (by decide) (fun c_112 => ?_) (fun c_112 => ?_)
        · have h := ifT c_112 h
          refine k_lv (lv' := [(0, .ref a_this)]) [0] rfl ?_
          exact s_R_copy_j155 C h
        · have h := ifF c_112 h
          refine k_iload C dX5_copy_115 4 rfl ?_
          refine k_if_lt C (tgt := 155) dX5_copy_117 (by decide) (fun c_117 => ?_) (fun c_117 => ?_)
          · have h := ifT c_117 h
            refine k_lv (lv' := [(0, .ref a_this)]) [0] rfl ?_
            exact s_R_copy_j155 C h
          · have h := ifF c_117 h
            refine k_iload_n C dX5_copy_120 3 rfl rfl ?_
            refine k_i2l C dX5_copy_121 ?_
            refine k_iload C dX5_copy_122 5 rfl ?_
            refine k_i2l C dX5_copy_124 ?_
            refine k_ladd C dX5_copy_125 ?_
            refine k_aload_n C dX5_copy_126 0 rfl rfl ?_
            refine k_get C (C0 := RX5) (T := TX5) (N := 26) (fun w h => List.mem_cons_of_mem _ (us_R w h)) 0 rfl rfl 16 (by decide) (List.mem_cons_of_mem _ wq_561) rfl rfl dX5_copy_127 ?_
            refine k_iload_n C dX5_copy_130 1 rfl rfl ?_
            obtain ⟨x12, hx12, h⟩ := bindE h
            refine k_iald C 2 0 rfl rfl hx12 dX5_copy_131 ?_
            refine k_i2l C dX5_copy_132 ?_
            refine k_lcmp C dX5_copy_133 ?_
            refine k_if_gt C (tgt := 155) dX5_copy_134 (by decide) (fun c_134 => ?_) (fun c_134 => ?_)
            · have h := ifT c_134 h
              refine k_lv (lv' := [(0, .ref a_this)]) [0] rfl ?_
              exact s_R_copy_j155 C h
            · have h := ifF c_134 h
              refine k_iload C dX5_copy_137 4 rfl ?_
              refine k_i2l C dX5_copy_139 ?_
              refine k_iload C dX5_copy_140 5 rfl ?_
              refine k_i2l C dX5_copy_142 ?_
              refine k_ladd C dX5_copy_143 ?_
              refine k_aload_n C dX5_copy_144 0 rfl rfl ?_
              refine k_get C (C0 := RX5) (T := TX5) (N := 26) (fun w h => List.mem_cons_of_mem _ (us_R w h)) 0 rfl rfl 16 (by decide) (List.mem_cons_of_mem _ wq_561) rfl rfl dX5_copy_145 ?_
              refine k_iload_n C dX5_copy_148 2 rfl rfl ?_
              obtain ⟨x13, hx13, h⟩ := bindE h
              refine k_iald C 2 0 rfl rfl hx13 dX5_copy_149 ?_
              refine k_i2l C dX5_copy_150 ?_
              refine k_lcmp C dX5_copy_151 ?_
              refine k_if_le C (tgt := 162) dX5_copy_152 (by decide) (fun c_152 => ?_) (fun c_152 => ?_)
              · have h := ifT c_152 h
                refine k_iload_n C dX5_copy_162 1 rfl rfl ?_
                refine k_iload_n C dX5_copy_163 2 rfl rfl ?_
                refine k_icmp_ne C (tgt := 222) dX5_copy_164 (by decide) (fun c_164 => ?_) (fun c_164 => ?_)
                · have h := ifF c_164 h
                  exact s_R_copy_j222 C h
                · have h := ifT c_164 h
                  refine k_iload_n C dX5_copy_167 3 rfl rfl ?_
                  refine k_iload C dX5_copy_168 4 rfl ?_
                  refine k_icmp_ge C (tgt := 222) dX5_copy_170 (by decide) (fun c_170 => ?_) (fun c_170 => ?_)
                  · have h := ifT c_170 h
                    exact s_R_copy_j222 C h
                  · have h := ifF c_170 h
                    refine k_iload C dX5_copy_173 5 rfl ?_
                    refine k_iconst C (v := (1 : Int32)) dX5_copy_175 (by decide) ?_
                    refine k_isub C dX5_copy_176 ?_
                    refine k_istore C (lv' := [(6, .int (v5 - (1 : Int32))), (0, .ref a_this), (1, .int v1), (2, .int v2), (3, .int v3), (4, .int v4), (5, .int v5)]) dX5_copy_177 (by decide) rfl ?_
                    obtain ⟨x19, hx19, h⟩ := bindE h
                    refine k_lv (lv' := [(0, .ref a_this), (1, .int v1), (2, .int v2), (3, .int v3), (4, .int v4), (5, .int v5), (6, .int (v5 - (1 : Int32)))]) [1, 2, 3, 4, 5, 6, 0] rfl ?_
                    refine s_R_copy_l179 C hx19 ?_
                    refine k_goto C (tgt := 267) dX5_copy_219 (by decide) ?_
                    refine k_iload C dX5_copy_267 0 rfl ?_
                    obtain rfl := Option.some.inj h
                    exact kret_i C rfl dX5_copy_269
              · have h := ifF c_152 h
                refine k_lv (lv' := [(0, .ref a_this)]) [0] rfl ?_
                exact s_R_copy_j155 C h
    · have h := ifF c_96 h
      refine k_lv (lv' := [(0, .ref a_this)]) [0] rfl ?_
      exact s_R_copy_j99 C h

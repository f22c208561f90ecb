variable {p : Program} {l : Launch} {e : Env} {s : State} {m : MethodId} {args : Array Value} {below : List Frame} {meth : Method} {c : Code} {D : va_G} {A : Nat → Prop} {cI cL cZ : ClassId} {Q : State → Prop}
set_option maxRecDepth 100000 in
set_option maxHeartbeats 4000000 in
theorem s_R_isWord (C : kC p l e rm_R_isWord s m args below meth c D (tyG cI cL cZ) A 3 cX5_isWord yX5_isWord.cls (Cond.code yX5_isWord cX5_isWord 3 (some .boolean) :: WS) (some .boolean)) {X : kX} (hE : kEs X A s) {a_this : Nat} {a_gravel : Nat} {a_kind : Nat} {a_own : Nat} {a_likely : Nat} {a_tape : Nat} {a_holding : Nat} {a_rowLength : Nat} {a_rowOf : Nat} {a_refusals : Nat} {a_old : Nat} {a_ahead : Nat} {a_cost : Nat} {a_may : Nat} {a_rest : Nat} {a_way : Nat} {v1 : Nat} {c_n : Int32} {c_rain : Int32} {c_ear : Int32} {c_many : Int32} {c_seed : Int32} {c_taped : Int32} {c_from : Int32} {c_to : Int32} {c_token : Int32} {c_value : Int32} {c_imaged : Int32} {c_tape : (Nat → Int32)} (hv1 : v1 < 7) {x : Int32} (h : f_R_isWord v1 c_from c_to c_token c_tape = some x) :
    kW p l e rm_R_isWord s m args below meth c D A 3 (cells_R_isWord cI cL cZ a_this a_gravel a_kind a_own a_likely a_tape a_holding a_rowLength a_rowOf a_refusals a_old a_ahead a_cost a_may a_rest a_way c_n c_rain c_ear c_many c_seed c_taped c_from c_to c_token c_value c_imaged c_tape) [(0, .ref a_this), (1, .ref (X.1 v1))] (MQ below (kQi D A (cells_R_isWord cI cL cZ a_this a_gravel a_kind a_own a_likely a_tape a_holding a_rowLength a_rowOf a_refusals a_old a_ahead a_cost a_may a_rest a_way c_n c_rain c_ear c_many c_seed c_taped c_from c_to c_token c_value c_imaged c_tape) x) args s 0 0 A) 0 [] := by
  unfold f_R_isWord at h
  refine k_aload_n C dX5_isWord_0 0 rfl rfl ?_
  refine k_get C (C0 := RX5) (T := TX5) (N := 26) (fun w h => List.mem_cons_of_mem _ (us_R w h)) 0 rfl rfl 13 (by decide) (List.mem_cons_of_mem _ wq_618) rfl rfl dX5_isWord_1 ?_
  refine k_bipush C (v := (119 : Int32)) dX5_isWord_4 (by decide) ?_
  refine k_icmp_ne C (tgt := 25) dX5_isWord_6 (by decide) (fun c_6 => ?_) (fun c_6 => ?_)
  · have h := ifF c_6 h
    refine k_iconst C (v := (0 : Int32)) dX5_isWord_25 (by decide) ?_
    obtain rfl := Option.some.inj h
    exact kret_z C rfl nz0 dX5_isWord_26
  · have h := ifT c_6 h
    refine k_aload_n C dX5_isWord_9 0 rfl rfl ?_
    refine k_get C (C0 := RX5) (T := TX5) (N := 26) (fun w h => List.mem_cons_of_mem _ (us_R w h)) 0 rfl rfl 12 (by decide) (List.mem_cons_of_mem _ wq_610) rfl rfl dX5_isWord_10 ?_
    refine k_aload_n C dX5_isWord_13 0 rfl rfl ?_
    refine k_get C (C0 := RX5) (T := TX5) (N := 26) (fun w h => List.mem_cons_of_mem _ (us_R w h)) 0 rfl rfl 11 (by decide) (List.mem_cons_of_mem _ wq_611) rfl rfl dX5_isWord_14 ?_
    refine k_isub C dX5_isWord_17 ?_
    refine k_aload_n C dX5_isWord_18 1 rfl rfl ?_
    refine k_slen C hE hv1 wq_620 ⟨(Nat.le_of_ble_eq_true rfl), (Nat.le_of_ble_eq_true rfl)⟩ (Nat.le_of_ble_eq_true rfl) dX5_isWord_19 ?_
    refine k_icmp_eq C (tgt := 27) dX5_isWord_22 (by decide) (fun c_22 => ?_) (fun c_22 => ?_)
    · have h := ifT c_22 h
      refine k_iconst C (v := (0 : Int32)) dX5_isWord_27 (by decide) ?_
      refine k_istore_n C (lv' := [(2, .int (0 : Int32)), (0, .ref a_this), (1, .ref (X.1 v1))]) dX5_isWord_28 rfl (by decide) rfl ?_
      obtain ⟨x3, hx3, h⟩ := bindE h
      refine k_lv (lv' := [(0, .ref a_this), (1, .ref (X.1 v1)), (2, .int (0 : Int32))]) [1, 2, 0] rfl ?_
      refine s_R_isWord_l29 C hE hv1 hx3 ?_ ?_
      · intro x4 ex4
        subst ex4
        have h := sumL h
        refine k_iconst C (v := (0 : Int32)) dX5_isWord_56 (by decide) ?_
        obtain rfl := Option.some.inj h
        exact kret_z C rfl nz0 dX5_isWord_57
      · intro x5 ex5
        subst ex5
        have h := sumR h
        refine k_iconst C (v := (1 : Int32)) dX5_isWord_64 (by decide) ?_
        obtain rfl := Option.some.inj h
        exact kret_z C rfl nz1 dX5_isWord_65
    · have h := ifF c_22 h
      refine k_iconst C (v := (0 : Int32)) dX5_isWord_25 (by decide) ?_
      obtain rfl := Option.some.inj h
      exact kret_z C rfl nz0 dX5_isWord_26
theorem c_R_isWord (l : Launch) (D : va_G) (cI : ClassId) (cL : ClassId) (cZ : ClassId) (X : kX) (sz : Nat) (a_this : Nat) (a_gravel : Nat) (a_kind : Nat) (a_own : Nat) (a_likely : Nat) (a_tape : Nat) (a_holding : Nat) (a_rowLength : Nat) (a_rowOf : Nat) (a_refusals : Nat) (a_old : Nat) (a_ahead : Nat) (a_cost : Nat) (a_may : Nat) (a_rest : Nat) (a_way : Nat) (v1 : Nat) (c_n : Int32) (c_rain : Int32) (c_ear : Int32) (c_many : Int32) (c_seed : Int32) (c_taped : Int32) (c_from : Int32) (c_to : Int32) (c_token : Int32) (c_value : Int32) (c_imaged : Int32) (c_tape : (Nat → Int32)) (hv1 : v1 < 7) (x : Int32) (h : f_R_isWord v1 c_from c_to c_token c_tape = some x) :
    Met l yX5_isWord (Cond.code yX5_isWord cX5_isWord 3 (some .boolean) :: WS) rm_R_isWord (kP D (tyG cI cL cZ) (kEs X (va_A (cells_R_isWord cI cL cZ a_this a_gravel a_kind a_own a_likely a_tape a_holding a_rowLength a_rowOf a_refusals a_old a_ahead a_cost a_may a_rest a_way c_n c_rain c_ear c_many c_seed c_taped c_from c_to c_token c_value c_imaged c_tape) sz)) [.ref a_this, .ref (X.1 v1)] sz (cells_R_isWord cI cL cZ a_this a_gravel a_kind a_own a_likely a_tape a_holding a_rowLength a_rowOf a_refusals a_old a_ahead a_cost a_may a_rest a_way c_n c_rain c_ear c_many c_seed c_taped c_from c_to c_token c_value c_imaged c_tape)) (kQi D (va_A (cells_R_isWord cI cL cZ a_this a_gravel a_kind a_own a_likely a_tape a_holding a_rowLength a_rowOf a_refusals a_old a_ahead a_cost a_may a_rest a_way c_n c_rain c_ear c_many c_seed c_taped c_from c_to c_token c_value c_imaged c_tape) sz) (cells_R_isWord cI cL cZ a_this a_gravel a_kind a_own a_likely a_tape a_holding a_rowLength a_rowOf a_refusals a_old a_ahead a_cost a_may a_rest a_way c_n c_rain c_ear c_many c_seed c_taped c_from c_to c_token c_value c_imaged c_tape) x) 0 0 (va_A (cells_R_isWord cI cL cZ a_this a_gravel a_kind a_own a_likely a_tape a_holding a_rowLength a_rowOf a_refusals a_old a_ahead a_cost a_may a_rest a_way c_n c_rain c_ear c_many c_seed c_taped c_from c_to c_token c_value c_imaged c_tape) sz) :=
  kmet (by decide) (Nat.le_of_ble_eq_true rfl) rfl (fun p e s m below meth c C hE => s_R_isWord C hE hv1 h)
abbrev cells_R_number (cI : ClassId) (cL : ClassId) (cZ : ClassId) (a_this : Nat) (a_gravel : Nat) (a_kind : Nat) (a_own : Nat) (a_likely : Nat) (a_tape : Nat) (a_holding : Nat) (a_rowLength : Nat) (a_rowOf : Nat) (a_refusals : Nat) (a_old : Nat) (a_ahead : Nat) (a_cost : Nat) (a_may : Nat) (a_rest : Nat) (a_way : Nat) (c_n : Int32) (c_rain : Int32) (c_ear : Int32) (c_many : Int32) (c_seed : Int32) (c_taped : Int32) (c_from : Int32) (c_to : Int32) (c_token : Int32) (c_value : Int32) (c_imaged : Int32) (c_tape : (Nat → Int32)) : va_W := [(a_this, .inr (5, [.int c_n, .ref a_gravel, .int c_rain, .int c_ear, .int c_many, .ref a_kind, .ref a_own, .ref a_likely, .int c_seed, .int c_taped, .ref a_tape, .int c_from, .int c_to, .int c_token, .int c_value, .ref a_holding, .ref a_rowLength, .ref a_rowOf, .ref a_refusals, .int c_imaged, .ref a_old, .ref a_ahead, .ref a_cost, .ref a_may, .ref a_rest, .ref a_way])), (a_tape, .inl (cI, 250, .inl c_tape))]
abbrev rm_R_number : Room := { frames := 2, cells := 0, slots := 0, locals := 41 }
set_option maxRecDepth 100000 in
set_option maxHeartbeats 4000000 in
theorem s_R_number (C : kC p l e rm_R_number s m args below meth c D (tyG cI cL cZ) A 3 cX5_number yX5_number.cls (Cond.code yX5_number cX5_number 3 (some .int) :: WS) (some .int)) {a_this : Nat} {a_gravel : Nat} {a_kind : Nat} {a_own : Nat} {a_likely : Nat} {a_tape : Nat} {a_holding : Nat} {a_rowLength : Nat} {a_rowOf : Nat} {a_refusals : Nat} {a_old : Nat} {a_ahead : Nat} {a_cost : Nat} {a_may : Nat} {a_rest : Nat} {a_way : Nat} {v1 : Int32} {v2 : Int32} {c_n : Int32} {c_rain : Int32} {c_ear : Int32} {c_many : Int32} {c_seed : Int32} {c_taped : Int32} {c_from : Int32} {c_to : Int32} {c_token : Int32} {c_value : Int32} {c_imaged : Int32} {c_tape : (Nat → Int32)} {x : (Int32 × Int32 × Int32 × Int32 × Int32)} (h : f_R_number v1 v2 c_taped c_from c_to c_token c_value c_tape = some x) :
    kW p l e rm_R_number s m args below meth c D A 3 (cells_R_number cI cL cZ a_this a_gravel a_kind a_own a_likely a_tape a_holding a_rowLength a_rowOf a_refusals a_old a_ahead a_cost a_may a_rest a_way c_n c_rain c_ear c_many c_seed c_taped c_from c_to c_token c_value c_imaged c_tape) [(0, .ref a_this), (1, .int v1), (2, .int v2)] (MQ below (kQi D A (cells_R_number cI cL cZ a_this a_gravel a_kind a_own a_likely a_tape a_holding a_rowLength a_rowOf a_refusals a_old a_ahead a_cost a_may a_rest a_way c_n c_rain c_ear c_many c_seed c_taped x.2.1 x.2.2.1 x.2.2.2.1 x.2.2.2.2 c_imaged c_tape) x.1) args s 0 0 A) 0 [] := by
  unfold f_R_number at h
  refine k_aload_n C dX5_number_0 0 rfl rfl ?_
  obtain ⟨x1, hx1, h⟩ := bindE h
  refine kcallU_v C (wc := (cells_R_next cI cL cZ a_this a_gravel a_kind a_own a_likely a_tape a_holding a_rowLength a_rowOf a_refusals a_old a_ahead a_cost a_may a_rest a_way c_n c_rain c_ear c_many c_seed c_taped c_from c_to c_token c_value c_imaged c_tape)) (w1 := (cells_R_next cI cL cZ a_this a_gravel a_kind a_own a_likely a_tape a_holding a_rowLength a_rowOf a_refusals a_old a_ahead a_cost a_may a_rest a_way c_n c_rain c_ear c_many c_seed c_taped x1.1 x1.2.1 x1.2.2.1 x1.2.2.2 c_imaged c_tape)) (ws' := (cells_R_number cI cL cZ a_this a_gravel a_kind a_own a_likely a_tape a_holding a_rowLength a_rowOf a_refusals a_old a_ahead a_cost a_may a_rest a_way c_n c_rain c_ear c_many c_seed c_taped x1.1 x1.2.1 x1.2.2.1 x1.2.2.2 c_imaged c_tape)) [0, 1] (fun H locs ls hP hD hS hF hz => krunV C (q0 := 0) (ci := 5) (c_R_next l D cI cL cZ H.size a_this a_gravel a_kind a_own a_likely a_tape a_holding a_rowLength a_rowOf a_refusals a_old a_ahead a_cost a_may a_rest a_way c_n c_rain c_ear c_many c_seed c_taped c_from c_to c_token c_value c_imaged c_tape x1 hx1) (cwV 0 C.2.2.2.2.1 (gV wq_623 wq_624 wq_625 wq_551 wq_622) rfl rfl rfl (by decide +kernel) ⟨(Nat.le_of_ble_eq_true rfl), (Nat.le_of_ble_eq_true rfl)⟩) rfl rfl kEnv_T rfl rfl (Nat.le_of_ble_eq_true rfl) dX5_number_1 hP hD hz) rfl (by decide) rfl rfl ?_
  refine k_aload_n C dX5_number_4 0 rfl rfl ?_
  refine k_get C (C0 := RX5) (T := TX5) (N := 26) (fun w h => List.mem_cons_of_mem _ (us_R w h)) 0 rfl rfl 13 (by decide) (List.mem_cons_of_mem _ wq_618) rfl rfl dX5_number_5 ?_
  refine k_bipush C (v := (48 : Int32)) dX5_number_8 (by decide) ?_
  refine k_icmp_ne C (tgt := 32) dX5_number_10 (by decide) (fun c_10 => ?_) (fun c_10 => ?_)
  · have h := ifF c_10 h
    refine k_iconst C (v := (-1 : Int32)) dX5_number_32 (by decide) ?_
    obtain rfl := Option.some.inj h
    exact kret_i C rfl dX5_number_33
  · have h := ifT c_10 h
    refine k_aload_n C dX5_number_13 0 rfl rfl ?_
    refine k_get C (C0 := RX5) (T := TX5) (N := 26) (fun w h => List.mem_cons_of_mem _ (us_R w h)) 0 rfl rfl 14 (by decide) (List.mem_cons_of_mem _ wq_619) rfl rfl dX5_number_14 ?_
    refine k_iload_n C dX5_number_17 1 rfl rfl ?_
    refine k_iload_n C dX5_number_18 2 rfl rfl ?_
    obtain ⟨x2, hx2, h⟩ := bindE h
    refine kcallE_i C (r := x2) (fun H locs ls hP hD hS hF hz => krunS C (c_R_within l D cI cL cZ H.size x1.2.2.2 v1 v2 x2 hx2) (va_cwS 3 C.2.2.2.2.1 (gS wq_549 wq_550 wq_551 wq_548) rfl rfl rfl (by decide +kernel) ⟨(Nat.le_of_ble_eq_true rfl), (Nat.le_of_ble_eq_true rfl)⟩) kEnv_T rfl rfl (Nat.le_of_ble_eq_true rfl) dX5_number_19 hP hD hz) ?_
    refine k_if_eq C (tgt := 32) dX5_number_22 (by decide) (fun c_22 => ?_) (fun c_22 => ?_)
    · have h := ifT c_22 h
      refine k_iconst C (v := (-1 : Int32)) dX5_number_32 (by decide) ?_
      obtain rfl := Option.some.inj h
      exact kret_i C rfl dX5_number_33
    · have h := ifF c_22 h
      refine k_aload_n C dX5_number_25 0 rfl rfl ?_
      refine k_get C (C0 := RX5) (T := TX5) (N := 26) (fun w h => List.mem_cons_of_mem _ (us_R w h)) 0 rfl rfl 14 (by decide) (List.mem_cons_of_mem _ wq_619) rfl rfl dX5_number_26 ?_
      refine k_goto C (tgt := 33) dX5_number_29 (by decide) ?_
      obtain rfl := Option.some.inj h
      exact kret_i C rfl dX5_number_33
theorem c_R_number (l : Launch) (D : va_G) (cI : ClassId) (cL : ClassId) (cZ : ClassId) (sz : Nat) (a_this : Nat) (a_gravel : Nat) (a_kind : Nat) (a_own : Nat) (a_likely : Nat) (a_tape : Nat) (a_holding : Nat) (a_rowLength : Nat) (a_rowOf : Nat) (a_refusals : Nat) (a_old : Nat) (a_ahead : Nat) (a_cost : Nat) (a_may : Nat) (a_rest : Nat) (a_way : Nat) (v1 : Int32) (v2 : Int32) (c_n : Int32) (c_rain : Int32) (c_ear : Int32) (c_many : Int32) (c_seed : Int32) (c_taped : Int32) (c_from : Int32) (c_to : Int32) (c_token : Int32) (c_value : Int32) (c_imaged : Int32) (c_tape : (Nat → Int32)) (x : (Int32 × Int32 × Int32 × Int32 × Int32)) (h : f_R_number v1 v2 c_taped c_from c_to c_token c_value c_tape = some x) :
    Met l yX5_number (Cond.code yX5_number cX5_number 3 (some .int) :: WS) rm_R_number (kP D (tyG cI cL cZ) kTrue [.ref a_this, .int v1, .int v2] sz (cells_R_number cI cL cZ a_this a_gravel a_kind a_own a_likely a_tape a_holding a_rowLength a_rowOf a_refusals a_old a_ahead a_cost a_may a_rest a_way c_n c_rain c_ear c_many c_seed c_taped c_from c_to c_token c_value c_imaged c_tape)) (kQi D (va_A (cells_R_number cI cL cZ a_this a_gravel a_kind a_own a_likely a_tape a_holding a_rowLength a_rowOf a_refusals a_old a_ahead a_cost a_may a_rest a_way c_n c_rain c_ear c_many c_seed c_taped c_from c_to c_token c_value c_imaged c_tape) sz) (cells_R_number cI cL cZ a_this a_gravel a_kind a_own a_likely a_tape a_holding a_rowLength a_rowOf a_refusals a_old a_ahead a_cost a_may a_rest a_way c_n c_rain c_ear c_many c_seed c_taped x.2.1 x.2.2.1 x.2.2.2.1 x.2.2.2.2 c_imaged c_tape) x.1) 0 0 (va_A (cells_R_number cI cL cZ a_this a_gravel a_kind a_own a_likely a_tape a_holding a_rowLength a_rowOf a_refusals a_old a_ahead a_cost a_may a_rest a_way c_n c_rain c_ear c_many c_seed c_taped c_from c_to c_token c_value c_imaged c_tape) sz) :=
  kmet (by decide) (Nat.le_of_ble_eq_true rfl) rfl (fun p e s m below meth c C hE => s_R_number C h)
abbrev cells_R_statement (cI : ClassId) (cL : ClassId) (cZ : ClassId) (a_this : Nat) (a_gravel : Nat) (a_kind : Nat) (a_own : Nat) (a_likely : Nat) (a_tape : Nat) (a_holding : Nat) (a_rowLength : Nat) (a_rowOf : Nat) (a_refusals : Nat) (a_old : Nat) (a_ahead : Nat) (a_cost : Nat) (a_may : Nat) (a_rest : Nat) (a_way : Nat) (c_n : Int32) (c_rain : Int32) (c_ear : Int32) (c_many : Int32) (c_seed : Int32) (c_taped : Int32) (c_from : Int32) (c_to : Int32) (c_token : Int32) (c_value : Int32) (c_imaged : Int32) (c_gravel : (Nat → Int32)) (c_kind : (Nat → Int32)) (c_own : (Nat → Int32)) (c_likely : (Nat → Int32)) (c_tape : (Nat → Int32)) : va_W := [(a_this, .inr (5, [.int c_n, .ref a_gravel, .int c_rain, .int c_ear, .int c_many, .ref a_kind, .ref a_own, .ref a_likely, .int c_seed, .int c_taped, .ref a_tape, .int c_from, .int c_to, .int c_token, .int c_value, .ref a_holding, .ref a_rowLength, .ref a_rowOf, .ref a_refusals, .int c_imaged, .ref a_old, .ref a_ahead, .ref a_cost, .ref a_may, .ref a_rest, .ref a_way])), (a_gravel, .inl (cI, 36, .inl c_gravel)), (a_kind, .inl (cI, 8, .inl c_kind)), (a_own, .inl (cI, 8, .inl c_own)), (a_likely, .inl (cI, 8, .inl c_likely)), (a_tape, .inl (cI, 250, .inl c_tape))]
abbrev rm_R_statement : Room := { frames := 5, cells := 0, slots := 0, locals := 107 }
set_option maxRecDepth 100000 in
set_option maxHeartbeats 4000000 in
theorem s_R_statement_j208 (C : kC p l e rm_R_statement s m args below meth c D (tyG cI cL cZ) A 4 cX5_statement yX5_statement.cls (Cond.code yX5_statement cX5_statement 4 (some .boolean) :: WS) (some .boolean)) {X : kX} (hE : kEs X A s) {a_this : Nat} {a_gravel : Nat} {a_kind : Nat} {a_own : Nat} {a_likely : Nat} {a_tape : Nat} {a_holding : Nat} {a_rowLength : Nat} {a_rowOf : Nat} {a_refusals : Nat} {a_old : Nat} {a_ahead : Nat} {a_cost : Nat} {a_may : Nat} {a_rest : Nat} {a_way : Nat} {v1 : Int32} {v2 : Int32} {t0 : Int32} {c_n : Int32} {c_rain : Int32} {c_ear : Int32} {c_many : Int32} {c_seed : Int32} {c_taped : Int32} {c_from : Int32} {c_to : Int32} {c_token : Int32} {c_value : Int32} {c_imaged : Int32} {c_gravel : (Nat → Int32)} {c_kind : (Nat → Int32)} {c_own : (Nat → Int32)} {c_likely : (Nat → Int32)} {c_tape : (Nat → Int32)} {x : (Int32 × Int32 × Int32 × Int32 × Int32 × Int32 × Int32 × Int32 × Int32 × (Nat → Int32) × (Nat → Int32) × (Nat → Int32) × (Nat → Int32))} (h : f_R_statement_j208 v1 v2 t0 c_n c_rain c_ear c_many c_from c_to c_token c_value c_gravel c_kind c_own c_likely = some x) :
    kW p l e rm_R_statement s m args below meth c D A 4 (cells_R_statement cI cL cZ a_this a_gravel a_kind a_own a_likely a_tape a_holding a_rowLength a_rowOf a_refusals a_old a_ahead a_cost a_may a_rest a_way c_n c_rain c_ear c_many c_seed c_taped c_from c_to c_token c_value c_imaged c_gravel c_kind c_own c_likely c_tape) [(0, .ref a_this), (1, .int v1), (2, .int v2)] (MQ below (kQi D A (cells_R_statement cI cL cZ a_this a_gravel a_kind a_own a_likely a_tape a_holding a_rowLength a_rowOf a_refusals a_old a_ahead a_cost a_may a_rest a_way x.2.1 x.2.2.1 x.2.2.2.1 x.2.2.2.2.1 c_seed c_taped x.2.2.2.2.2.1 x.2.2.2.2.2.2.1 x.2.2.2.2.2.2.2.1 x.2.2.2.2.2.2.2.2.1 c_imaged x.2.2.2.2.2.2.2.2.2.1 x.2.2.2.2.2.2.2.2.2.2.1 x.2.2.2.2.2.2.2.2.2.2.2.1 x.2.2.2.2.2.2.2.2.2.2.2.2 c_tape) x.1) args s 0 0 A) 208 [.int t0] := by
  unfold f_R_statement_j208 at h
  refine k_istore_n C (lv' := [(3, .int t0), (0, .ref a_this), (1, .int v1), (2, .int v2)]) dX5_statement_208 rfl (by decide) rfl ?_
  refine k_iload_n C dX5_statement_209 0 rfl rfl ?_
  refine k_iconst C (v := (-1 : Int32)) dX5_statement_210 (by decide) ?_
  refine k_icmp_ne C (tgt := 216) dX5_statement_211 (by decide) (fun c_211 => ?_) (fun c_211 => ?_)
  · have h := ifF c_211 h
    refine k_aload_n C dX5_statement_216 1 rfl rfl ?_
    refine k_iload_n C dX5_statement_217 2 rfl rfl ?_
    refine k_iload_n C dX5_statement_218 3 rfl rfl ?_
    refine k_iload_n C dX5_statement_219 0 rfl rfl ?_
    obtain ⟨x13, hx13, h⟩ := bindE h
    refine kcallU_i C (wc := (cells_R_newFeet cI cL cZ a_this a_gravel a_kind a_own a_likely a_tape a_holding a_rowLength a_rowOf a_refusals a_old a_ahead a_cost a_may a_rest a_way c_n c_rain c_ear c_many c_seed c_taped c_from c_to c_token c_value c_imaged c_kind c_own c_likely)) (w1 := (cells_R_newFeet cI cL cZ a_this a_gravel a_kind a_own a_likely a_tape a_holding a_rowLength a_rowOf a_refusals a_old a_ahead a_cost a_may a_rest a_way c_n c_rain c_ear x13.2.1 c_seed c_taped c_from c_to c_token c_value c_imaged x13.2.2.1 x13.2.2.2.1 x13.2.2.2.2)) (ws' := (cells_R_statement cI cL cZ a_this a_gravel a_kind a_own a_likely a_tape a_holding a_rowLength a_rowOf a_refusals a_old a_ahead a_cost a_may a_rest a_way c_n c_rain c_ear x13.2.1 c_seed c_taped c_from c_to c_token c_value c_imaged c_gravel x13.2.2.1 x13.2.2.2.1 x13.2.2.2.2 c_tape)) (r := x13.1) [0, 2, 3, 4] (fun H locs ls hP hD hS hF hz => krunV C (q0 := 0) (ci := 5) (c_R_newFeet l D cI cL cZ H.size a_this a_gravel a_kind a_own a_likely a_tape a_holding a_rowLength a_rowOf a_refusals a_old a_ahead a_cost a_may a_rest a_way v1 v2 t0 c_n c_rain c_ear c_many c_seed c_taped c_from c_to c_token c_value c_imaged c_kind c_own c_likely x13 hx13) (cwV 3 C.2.2.2.2.1 (gV wq_605 wq_606 wq_607 wq_551 wq_604) rfl rfl rfl (by decide +kernel) ⟨(Nat.le_of_ble_eq_true rfl), (Nat.le_of_ble_eq_true rfl)⟩) rfl rfl kEnv_T rfl rfl (Nat.le_of_ble_eq_true rfl) dX5_statement_220 hP hD hz) rfl (by decide) rfl rfl ?_
    refine k_pop C dX5_statement_223 rfl ?_
    refine k_iconst C (v := (1 : Int32)) dX5_statement_224 (by decide) ?_
    obtain rfl := Option.some.inj h
    exact kret_z C rfl nz1 dX5_statement_225
  · have h := ifT c_211 h
    refine k_iconst C (v := (0 : Int32)) dX5_statement_214 (by decide) ?_
    obtain rfl := Option.some.inj h
    exact kret_z C rfl nz0 dX5_statement_215
set_option maxRecDepth 100000 in
set_option maxHeartbeats 4000000 in
theorem s_R_statement_j191 (C : kC p l e rm_R_statement s m args below meth c D (tyG cI cL cZ) A 4 cX5_statement yX5_statement.cls (Cond.code yX5_statement cX5_statement 4 (some .boolean) :: WS) (some .boolean)) {X : kX} (hE : kEs X A s) {a_this : Nat} {a_gravel : Nat} {a_kind : Nat} {a_own : Nat} {a_likely : Nat} {a_tape : Nat} {a_holding : Nat} {a_rowLength : Nat} {a_rowOf : Nat} {a_refusals : Nat} {a_old : Nat} {a_ahead : Nat} {a_cost : Nat} {a_may : Nat} {a_rest : Nat} {a_way : Nat} {v1 : Int32} {t0 : Int32} {c_n : Int32} {c_rain : Int32} {c_ear : Int32} {c_many : Int32} {c_seed : Int32} {c_taped : Int32} {c_from : Int32} {c_to : Int32} {c_token : Int32} {c_value : Int32} {c_imaged : Int32} {c_gravel : (Nat → Int32)} {c_kind : (Nat → Int32)} {c_own : (Nat → Int32)} {c_likely : (Nat → Int32)} {c_tape : (Nat → Int32)} {x : (Int32 × Int32 × Int32 × Int32 × Int32 × Int32 × Int32 × Int32 × Int32 × (Nat → Int32) × (Nat → Int32) × (Nat → Int32) × (Nat → Int32))} (h : f_R_statement_j191 v1 t0 c_n c_rain c_ear c_many c_taped c_from c_to c_token c_value c_gravel c_kind c_own c_likely c_tape = some x) :
    kW p l e rm_R_statement s m args below meth c D A 4 (cells_R_statement cI cL cZ a_this a_gravel a_kind a_own a_likely a_tape a_holding a_rowLength a_rowOf a_refusals a_old a_ahead a_cost a_may a_rest a_way c_n c_rain c_ear c_many c_seed c_taped c_from c_to c_token c_value c_imaged c_gravel c_kind c_own c_likely c_tape) [(0, .ref a_this), (1, .int v1)] (MQ below (kQi D A (cells_R_statement cI cL cZ a_this a_gravel a_kind a_own a_likely a_tape a_holding a_rowLength a_rowOf a_refusals a_old a_ahead a_cost a_may a_rest a_way x.2.1 x.2.2.1 x.2.2.2.1 x.2.2.2.2.1 c_seed c_taped x.2.2.2.2.2.1 x.2.2.2.2.2.2.1 x.2.2.2.2.2.2.2.1 x.2.2.2.2.2.2.2.2.1 c_imaged x.2.2.2.2.2.2.2.2.2.1 x.2.2.2.2.2.2.2.2.2.2.1 x.2.2.2.2.2.2.2.2.2.2.2.1 x.2.2.2.2.2.2.2.2.2.2.2.2 c_tape) x.1) args s 0 0 A) 191 [.int t0] := by
  unfold f_R_statement_j191 at h
  refine k_istore_n C (lv' := [(2, .int t0), (0, .ref a_this), (1, .int v1)]) dX5_statement_191 rfl (by decide) rfl ?_
  refine k_iload_n C dX5_statement_192 0 rfl rfl ?_
  refine k_iconst C (v := (-1 : Int32)) dX5_statement_193 (by decide) ?_
  refine k_icmp_ne C (tgt := 201) dX5_statement_194 (by decide) (fun c_194 => ?_) (fun c_194 => ?_)
  · have h := ifF c_194 h
    refine k_aload_n C dX5_statement_201 1 rfl rfl ?_
    refine k_iconst C (v := (1 : Int32)) dX5_statement_202 (by decide) ?_
    refine k_bipush C (v := (99 : Int32)) dX5_statement_203 (by decide) ?_
    obtain ⟨x12, hx12, h⟩ := bindE h
    refine kcallU_i C (wc := (cells_R_number cI cL cZ a_this a_gravel a_kind a_own a_likely a_tape a_holding a_rowLength a_rowOf a_refusals a_old a_ahead a_cost a_may a_rest a_way c_n c_rain c_ear c_many c_seed c_taped c_from c_to c_token c_value c_imaged c_tape)) (w1 := (cells_R_number cI cL cZ a_this a_gravel a_kind a_own a_likely a_tape a_holding a_rowLength a_rowOf a_refusals a_old a_ahead a_cost a_may a_rest a_way c_n c_rain c_ear c_many c_seed c_taped x12.2.1 x12.2.2.1 x12.2.2.2.1 x12.2.2.2.2 c_imaged c_tape)) (ws' := (cells_R_statement cI cL cZ a_this a_gravel a_kind a_own a_likely a_tape a_holding a_rowLength a_rowOf a_refusals a_old a_ahead a_cost a_may a_rest a_way c_n c_rain c_ear c_many c_seed c_taped x12.2.1 x12.2.2.1 x12.2.2.2.1 x12.2.2.2.2 c_imaged c_gravel c_kind c_own c_likely c_tape)) (r := x12.1) [0, 5] (fun H locs ls hP hD hS hF hz => krunV C (q0 := 0) (ci := 5) (c_R_number l D cI cL cZ H.size a_this a_gravel a_kind a_own a_likely a_tape a_holding a_rowLength a_rowOf a_refusals a_old a_ahead a_cost a_may a_rest a_way (1 : Int32) (99 : Int32) c_n c_rain c_ear c_many c_seed c_taped c_from c_to c_token c_value c_imaged c_tape x12 hx12) (cwV 2 C.2.2.2.2.1 (gV wq_631 wq_632 wq_633 wq_551 wq_630) rfl rfl rfl (by decide +kernel) ⟨(Nat.le_of_ble_eq_true rfl), (Nat.le_of_ble_eq_true rfl)⟩) rfl rfl kEnv_T rfl rfl (Nat.le_of_ble_eq_true rfl) dX5_statement_205 hP hD hz) rfl (by decide) rfl rfl ?_
    refine k_lv (lv' := [(0, .ref a_this), (1, .int v1), (2, .int t0)]) [1, 2, 0] rfl ?_
    exact s_R_statement_j208 C hE h
  · have h := ifT c_194 h
    refine k_iconst C (v := (-1 : Int32)) dX5_statement_197 (by decide) ?_
    refine k_goto C (tgt := 208) dX5_statement_198 (by decide) ?_
    refine k_lv (lv' := [(0, .ref a_this), (1, .int v1), (2, .int t0)]) [1, 2, 0] rfl ?_
    exact s_R_statement_j208 C hE h
set_option maxRecDepth 100000 in
set_option maxHeartbeats 4000000 in
theorem s_R_statement_j74 (C : kC p l e rm_R_statement s m args below meth c D (tyG cI cL cZ) A 4 cX5_statement yX5_statement.cls (Cond.code yX5_statement cX5_statement 4 (some .boolean) :: WS) (some .boolean)) {X : kX} (hE : kEs X A s) {a_this : Nat} {a_gravel : Nat} {a_kind : Nat} {a_own : Nat} {a_likely : Nat} {a_tape : Nat} {a_holding : Nat} {a_rowLength : Nat} {a_rowOf : Nat} {a_refusals : Nat} {a_old : Nat} {a_ahead : Nat} {a_cost : Nat} {a_may : Nat} {a_rest : Nat} {a_way : Nat} {v1 : Int32} {t0 : Int32} {c_n : Int32} {c_rain : Int32} {c_ear : Int32} {c_many : Int32} {c_seed : Int32} {c_taped : Int32} {c_from : Int32} {c_to : Int32} {c_token : Int32} {c_value : Int32} {c_imaged : Int32} {c_gravel : (Nat → Int32)} {c_kind : (Nat → Int32)} {c_own : (Nat → Int32)} {c_likely : (Nat → Int32)} {c_tape : (Nat → Int32)} {x : (Int32 × Int32 × Int32 × Int32 × Int32 × Int32 × Int32 × Int32 × Int32 × (Nat → Int32) × (Nat → Int32) × (Nat → Int32) × (Nat → Int32))} (h : f_R_statement_j74 v1 t0 c_n c_rain c_ear c_many c_from c_to c_token c_value c_gravel c_kind c_own c_likely = some x) :
    kW p l e rm_R_statement s m args below meth c D A 4 (cells_R_statement cI cL cZ a_this a_gravel a_kind a_own a_likely a_tape a_holding a_rowLength a_rowOf a_refusals a_old a_ahead a_cost a_may a_rest a_way c_n c_rain c_ear c_many c_seed c_taped c_from c_to c_token c_value c_imaged c_gravel c_kind c_own c_likely c_tape) [(0, .ref a_this), (1, .int v1)] (MQ below (kQi D A (cells_R_statement cI cL cZ a_this a_gravel a_kind a_own a_likely a_tape a_holding a_rowLength a_rowOf a_refusals a_old a_ahead a_cost a_may a_rest a_way x.2.1 x.2.2.1 x.2.2.2.1 x.2.2.2.2.1 c_seed c_taped x.2.2.2.2.2.1 x.2.2.2.2.2.2.1 x.2.2.2.2.2.2.2.1 x.2.2.2.2.2.2.2.2.1 c_imaged x.2.2.2.2.2.2.2.2.2.1 x.2.2.2.2.2.2.2.2.2.2.1 x.2.2.2.2.2.2.2.2.2.2.2.1 x.2.2.2.2.2.2.2.2.2.2.2.2 c_tape) x.1) args s 0 0 A) 74 [.int t0] := by
  unfold f_R_statement_j74 at h
  refine k_istore_n C (lv' := [(2, .int t0), (0, .ref a_this), (1, .int v1)]) dX5_statement_74 rfl (by decide) rfl ?_
  refine k_iload_n C dX5_statement_75 0 rfl rfl ?_
  refine k_iconst C (v := (-1 : Int32)) dX5_statement_76 (by decide) ?_
  refine k_icmp_ne C (tgt := 82) dX5_statement_77 (by decide) (fun c_77 => ?_) (fun c_77 => ?_)
  · have h := ifF c_77 h
    refine k_aload_n C dX5_statement_82 1 rfl rfl ?_
    refine k_get C (C0 := RX5) (T := TX5) (N := 26) (fun w h => List.mem_cons_of_mem _ (us_R w h)) 0 rfl rfl 1 (by decide) (List.mem_cons_of_mem _ wq_578) rfl rfl dX5_statement_83 ?_
    refine k_iload_n C dX5_statement_86 2 rfl rfl ?_
    refine k_iload_n C dX5_statement_87 0 rfl rfl ?_
    obtain ⟨x19, hx19, h⟩ := bindE h
    refine k_iast C 1 0 (ws' := (cells_R_statement cI cL cZ a_this a_gravel a_kind a_own a_likely a_tape a_holding a_rowLength a_rowOf a_refusals a_old a_ahead a_cost a_may a_rest a_way c_n c_rain c_ear c_many c_seed c_taped c_from c_to c_token c_value c_imaged x19 c_kind c_own c_likely c_tape)) rfl rfl hx19 rfl dX5_statement_88 ?_
    refine k_iconst C (v := (1 : Int32)) dX5_statement_89 (by decide) ?_
    obtain rfl := Option.some.inj h
    exact kret_z C rfl nz1 dX5_statement_90
  · have h := ifT c_77 h
    refine k_iconst C (v := (0 : Int32)) dX5_statement_80 (by decide) ?_
    obtain rfl := Option.some.inj h
    exact kret_z C rfl nz0 dX5_statement_81
set_option maxRecDepth 100000 in
set_option maxHeartbeats 4000000 in
theorem s_R_statement (C : kC p l e rm_R_statement s m args below meth c D (tyG cI cL cZ) A 4 cX5_statement yX5_statement.cls (Cond.code yX5_statement cX5_statement 4 (some .boolean) :: WS) (some .boolean)) {X : kX} (hE : kEs X A s) {a_this : Nat} {a_gravel : Nat} {a_kind : Nat} {a_own : Nat} {a_likely : Nat} {a_tape : Nat} {a_holding : Nat} {a_rowLength : Nat} {a_rowOf : Nat} {a_refusals : Nat} {a_old : Nat} {a_ahead : Nat} {a_cost : Nat} {a_may : Nat} {a_rest : Nat} {a_way : Nat} {c_n : Int32} {c_rain : Int32} {c_ear : Int32} {c_many : Int32} {c_seed : Int32} {c_taped : Int32} {c_from : Int32} {c_to : Int32} {c_token : Int32} {c_value : Int32} {c_imaged : Int32} {c_gravel : (Nat → Int32)} {c_kind : (Nat → Int32)} {c_own : (Nat → Int32)} {c_likely : (Nat → Int32)} {c_tape : (Nat → Int32)} {x : (Int32 × Int32 × Int32 × Int32 × Int32 × Int32 × Int32 × Int32 × Int32 × (Nat → Int32) × (Nat → Int32) × (Nat → Int32) × (Nat → Int32))} (h : f_R_statement c_n c_rain c_ear c_many c_taped c_from c_to c_token c_value c_gravel c_kind c_own c_likely c_tape = some x) :
    kW p l e rm_R_statement s m args below meth c D A 4 (cells_R_statement cI cL cZ a_this a_gravel a_kind a_own a_likely a_tape a_holding a_rowLength a_rowOf a_refusals a_old a_ahead a_cost a_may a_rest a_way c_n c_rain c_ear c_many c_seed c_taped c_from c_to c_token c_value c_imaged c_gravel c_kind c_own c_likely c_tape) [(0, .ref a_this)] (MQ below (kQi D A (cells_R_statement cI cL cZ a_this a_gravel a_kind a_own a_likely a_tape a_holding a_rowLength a_rowOf a_refusals a_old a_ahead a_cost a_may a_rest a_way x.2.1 x.2.2.1 x.2.2.2.1 x.2.2.2.2.1 c_seed c_taped x.2.2.2.2.2.1 x.2.2.2.2.2.2.1 x.2.2.2.2.2.2.2.1 x.2.2.2.2.2.2.2.2.1 c_imaged x.2.2.2.2.2.2.2.2.2.1 x.2.2.2.2.2.2.2.2.2.2.1 x.2.2.2.2.2.2.2.2.2.2.2.1 x.2.2.2.2.2.2.2.2.2.2.2.2 c_tape) x.1) args s 0 0 A) 0 [] := by
  unfold f_R_statement at h
  refine k_aload_n C dX5_statement_0 0 rfl rfl ?_
  refine k_ldcS C hE (index := 158) (k := 2) (tx := "side") (by decide) dX5_statement_1 ?_
  obtain ⟨x1, hx1, h⟩ := bindE h
  refine kcallR_i C (wc := (cells_R_isWord cI cL cZ a_this a_gravel a_kind a_own a_likely a_tape a_holding a_rowLength a_rowOf a_refusals a_old a_ahead a_cost a_may a_rest a_way c_n c_rain c_ear c_many c_seed c_taped c_from c_to c_token c_value c_imaged c_tape)) (r := x1) [0, 5] (fun H locs ls hP hD hS hF hz => krunV C (q0 := 0) (ci := 5) (c_R_isWord l D cI cL cZ X H.size a_this a_gravel a_kind a_own a_likely a_tape a_holding a_rowLength a_rowOf a_refusals a_old a_ahead a_cost a_may a_rest a_way 2 c_n c_rain c_ear c_many c_seed c_taped c_from c_to c_token c_value c_imaged c_tape (by decide) x1 hx1) (cwV 1 C.2.2.2.2.1 (gV wq_627 wq_628 wq_629 wq_551 wq_626) rfl rfl rfl (by decide +kernel) ⟨(Nat.le_of_ble_eq_true rfl), (Nat.le_of_ble_eq_true rfl)⟩) rfl rfl (kEs_call hE hS hF) rfl rfl (Nat.le_of_ble_eq_true rfl) dX5_statement_3 hP hD hz) rfl (by decide) ?_
  refine k_if_eq C (tgt := 32) dX5_statement_6 (by decide) (fun c_6 => ?_) (fun c_6 => ?_)
  · have h := ifT c_6 h
    refine k_aload_n C dX5_statement_32 0 rfl rfl ?_
    refine k_ldcS C hE (index := 167) (k := 3) (tx := "gravel") (by decide) dX5_statement_33 ?_
    obtain ⟨x2, hx2, h⟩ := bindE h
    refine kcallR_i C (wc := (cells_R_isWord cI cL cZ a_this a_gravel a_kind a_own a_likely a_tape a_holding a_rowLength a_rowOf a_refusals a_old a_ahead a_cost a_may a_rest a_way c_n c_rain c_ear c_many c_seed c_taped c_from c_to c_token c_value c_imaged c_tape)) (r := x2) [0, 5] (fun H locs ls hP hD hS hF hz => krunV C (q0 := 0) (ci := 5) (c_R_isWord l D cI cL cZ X H.size a_this a_gravel a_kind a_own a_likely a_tape a_holding a_rowLength a_rowOf a_refusals a_old a_ahead a_cost a_may a_rest a_way 3 c_n c_rain c_ear c_many c_seed c_taped c_from c_to c_token c_value c_imaged c_tape (by decide) x2 hx2) (cwV 1 C.2.2.2.2.1 (gV wq_627 wq_628 wq_629 wq_551 wq_626) rfl rfl rfl (by decide +kernel) ⟨(Nat.le_of_ble_eq_true rfl), (Nat.le_of_ble_eq_true rfl)⟩) rfl rfl (kEs_call hE hS hF) rfl rfl (Nat.le_of_ble_eq_true rfl) dX5_statement_35 hP hD hz) rfl (by decide) ?_
    refine k_if_eq C (tgt := 91) dX5_statement_38 (by decide) (fun c_38 => ?_) (fun c_38 => ?_)
    · have h := ifT c_38 h
      refine k_aload_n C dX5_statement_91 0 rfl rfl ?_
      refine k_ldcS C hE (index := 168) (k := 4) (tx := "plank") (by decide) dX5_statement_92 ?_
      obtain ⟨x3, hx3, h⟩ := bindE h
      refine kcallR_i C (wc := (cells_R_isWord cI cL cZ a_this a_gravel a_kind a_own a_likely a_tape a_holding a_rowLength a_rowOf a_refusals a_old a_ahead a_cost a_may a_rest a_way c_n c_rain c_ear c_many c_seed c_taped c_from c_to c_token c_value c_imaged c_tape)) (r := x3) [0, 5] (fun H locs ls hP hD hS hF hz => krunV C (q0 := 0) (ci := 5) (c_R_isWord l D cI cL cZ X H.size a_this a_gravel a_kind a_own a_likely a_tape a_holding a_rowLength a_rowOf a_refusals a_old a_ahead a_cost a_may a_rest a_way 4 c_n c_rain c_ear c_many c_seed c_taped c_from c_to c_token c_value c_imaged c_tape (by decide) x3 hx3) (cwV 1 C.2.2.2.2.1 (gV wq_627 wq_628 wq_629 wq_551 wq_626) rfl rfl rfl (by decide +kernel) ⟨(Nat.le_of_ble_eq_true rfl), (Nat.le_of_ble_eq_true rfl)⟩) rfl rfl (kEs_call hE hS hF) rfl rfl (Nat.le_of_ble_eq_true rfl) dX5_statement_94 hP hD hz) rfl (by decide) ?_
      refine k_if_eq C (tgt := 133) dX5_statement_97 (by decide) (fun c_97 => ?_) (fun c_97 => ?_)
      · have h := ifT c_97 h
        refine k_aload_n C dX5_statement_133 0 rfl rfl ?_
        refine k_ldcS C hE (index := 170) (k := 1) (tx := "rake") (by decide) dX5_statement_134 ?_
        obtain ⟨x4, hx4, h⟩ := bindE h
        refine kcallR_i C (wc := (cells_R_isWord cI cL cZ a_this a_gravel a_kind a_own a_likely a_tape a_holding a_rowLength a_rowOf a_refusals a_old a_ahead a_cost a_may a_rest a_way c_n c_rain c_ear c_many c_seed c_taped c_from c_to c_token c_value c_imaged c_tape)) (r := x4) [0, 5] (fun H locs ls hP hD hS hF hz => krunV C (q0 := 0) (ci := 5) (c_R_isWord l D cI cL cZ X H.size a_this a_gravel a_kind a_own a_likely a_tape a_holding a_rowLength a_rowOf a_refusals a_old a_ahead a_cost a_may a_rest a_way 1 c_n c_rain c_ear c_many c_seed c_taped c_from c_to c_token c_value c_imaged c_tape (by decide) x4 hx4) (cwV 1 C.2.2.2.2.1 (gV wq_627 wq_628 wq_629 wq_551 wq_626) rfl rfl rfl (by decide +kernel) ⟨(Nat.le_of_ble_eq_true rfl), (Nat.le_of_ble_eq_true rfl)⟩) rfl rfl (kEs_call hE hS hF) rfl rfl (Nat.le_of_ble_eq_true rfl) dX5_statement_136 hP hD hz) rfl (by decide) ?_
        refine k_if_eq C (tgt := 148) dX5_statement_139 (by decide) (fun c_139 => ?_) (fun c_139 => ?_)
        · have h := ifT c_139 h
          refine k_aload_n C dX5_statement_148 0 rfl rfl ?_
          refine k_ldcS C hE (index := 175) (k := 0) (tx := "foot") (by decide) dX5_statement_149 ?_
          obtain ⟨x5, hx5, h⟩ := bindE h
          refine kcallR_i C (wc := (cells_R_isWord cI cL cZ a_this a_gravel a_kind a_own a_likely a_tape a_holding a_rowLength a_rowOf a_refusals a_old a_ahead a_cost a_may a_rest a_way c_n c_rain c_ear c_many c_seed c_taped c_from c_to c_token c_value c_imaged c_tape)) (r := x5) [0, 5] (fun H locs ls hP hD hS hF hz => krunV C (q0 := 0) (ci := 5) (c_R_isWord l D cI cL cZ X H.size a_this a_gravel a_kind a_own a_likely a_tape a_holding a_rowLength a_rowOf a_refusals a_old a_ahead a_cost a_may a_rest a_way 0 c_n c_rain c_ear c_many c_seed c_taped c_from c_to c_token c_value c_imaged c_tape (by decide) x5 hx5) (cwV 1 C.2.2.2.2.1 (gV wq_627 wq_628 wq_629 wq_551 wq_626) rfl rfl rfl (by decide +kernel) ⟨(Nat.le_of_ble_eq_true rfl), (Nat.le_of_ble_eq_true rfl)⟩) rfl rfl (kEs_call hE hS hF) rfl rfl (Nat.le_of_ble_eq_true rfl) dX5_statement_151 hP hD hz) rfl (by decide) ?_
          refine k_if_eq C (tgt := 226) dX5_statement_154 (by decide) (fun c_154 => ?_) (fun c_154 => ?_)
          · have h := ifT c_154 h
            refine k_aload_n C dX5_statement_226 0 rfl rfl ?_
            refine k_ldcS C hE (index := 177) (k := 5) (tx := "rain") (by decide) dX5_statement_227 ?_
            obtain ⟨x6, hx6, h⟩ := bindE h
            refine kcallR_i C (wc := (cells_R_isWord cI cL cZ a_this a_gravel a_kind a_own a_likely a_tape a_holding a_rowLength a_rowOf a_refusals a_old a_ahead a_cost a_may a_rest a_way c_n c_rain c_ear c_many c_seed c_taped c_from c_to c_token c_value c_imaged c_tape)) (r := x6) [0, 5] (fun H locs ls hP hD hS hF hz => krunV C (q0 := 0) (ci := 5) (c_R_isWord l D cI cL cZ X H.size a_this a_gravel a_kind a_own a_likely a_tape a_holding a_rowLength a_rowOf a_refusals a_old a_ahead a_cost a_may a_rest a_way 5 c_n c_rain c_ear c_many c_seed c_taped c_from c_to c_token c_value c_imaged c_tape (by decide) x6 hx6) (cwV 1 C.2.2.2.2.1 (gV wq_627 wq_628 wq_629 wq_551 wq_626) rfl rfl rfl (by decide +kernel) ⟨(Nat.le_of_ble_eq_true rfl), (Nat.le_of_ble_eq_true rfl)⟩) rfl rfl (kEs_call hE hS hF) rfl rfl (Nat.le_of_ble_eq_true rfl) dX5_statement_229 hP hD hz) rfl (by decide) ?_
            refine k_if_eq C (tgt := 257) dX5_statement_232 (by decide) (fun c_232 => ?_) (fun c_232 => ?_)
            · have h := ifT c_232 h
              refine k_aload_n C dX5_statement_257 0 rfl rfl ?_
              refine k_ldcS C hE (index := 178) (k := 6) (tx := "ear") (by decide) dX5_statement_258 ?_
              obtain ⟨x7, hx7, h⟩ := bindE h
              refine kcallR_i C (wc := (cells_R_isWord cI cL cZ a_this a_gravel a_kind a_own a_likely a_tape a_holding a_rowLength a_rowOf a_refusals a_old a_ahead a_cost a_may a_rest a_way c_n c_rain c_ear c_many c_seed c_taped c_from c_to c_token c_value c_imaged c_tape)) (r := x7) [0, 5] (fun H locs ls hP hD hS hF hz => krunV C (q0 := 0) (ci := 5) (c_R_isWord l D cI cL cZ X H.size a_this a_gravel a_kind a_own a_likely a_tape a_holding a_rowLength a_rowOf a_refusals a_old a_ahead a_cost a_may a_rest a_way 6 c_n c_rain c_ear c_many c_seed c_taped c_from c_to c_token c_value c_imaged c_tape (by decide) x7 hx7) (cwV 1 C.2.2.2.2.1 (gV wq_627 wq_628 wq_629 wq_551 wq_626) rfl rfl rfl (by decide +kernel) ⟨(Nat.le_of_ble_eq_true rfl), (Nat.le_of_ble_eq_true rfl)⟩) rfl rfl (kEs_call hE hS hF) rfl rfl (Nat.le_of_ble_eq_true rfl) dX5_statement_260 hP hD hz) rfl (by decide) ?_
              refine k_if_ne C (tgt := 268) dX5_statement_263 (by decide) (fun c_263 => ?_) (fun c_263 => ?_)
              · have h := ifF c_263 h
                refine k_aload_n C dX5_statement_268 0 rfl rfl ?_
                refine k_iconst C (v := (1 : Int32)) dX5_statement_269 (by decide) ?_
                refine k_bipush C (v := (99 : Int32)) dX5_statement_270 (by decide) ?_
                obtain ⟨x8, hx8, h⟩ := bindE h
                refine kcallU_i C (wc := (cells_R_number cI cL cZ a_this a_gravel a_kind a_own a_likely a_tape a_holding a_rowLength a_rowOf a_refusals a_old a_ahead a_cost a_may a_rest a_way c_n c_rain c_ear c_many c_seed c_taped c_from c_to c_token c_value c_imaged c_tape)) (w1 := (cells_R_number cI cL cZ a_this a_gravel a_kind a_own a_likely a_tape a_holding a_rowLength a_rowOf a_refusals a_old a_ahead a_cost a_may a_rest a_way c_n c_rain c_ear c_many c_seed c_taped x8.2.1 x8.2.2.1 x8.2.2.2.1 x8.2.2.2.2 c_imaged c_tape)) (ws' := (cells_R_statement cI cL cZ a_this a_gravel a_kind a_own a_likely a_tape a_holding a_rowLength a_rowOf a_refusals a_old a_ahead a_cost a_may a_rest a_way c_n c_rain c_ear c_many c_seed c_taped x8.2.1 x8.2.2.1 x8.2.2.2.1 x8.2.2.2.2 c_imaged c_gravel c_kind c_own c_likely c_tape)) (r := x8.1) [0, 5] (fun H locs ls hP hD hS hF hz => krunV C (q0 := 0) (ci := 5) (c_R_number l D cI cL cZ H.size a_this a_gravel a_kind a_own a_likely a_tape a_holding a_rowLength a_rowOf a_refusals a_old a_ahead a_cost a_may a_rest a_way (1 : Int32) (99 : Int32) c_n c_rain c_ear c_many c_seed c_taped c_from c_to c_token c_value c_imaged c_tape x8 hx8) (cwV 2 C.2.2.2.2.1 (gV wq_631 wq_632 wq_633 wq_551 wq_630) rfl rfl rfl (by decide +kernel) ⟨(Nat.le_of_ble_eq_true rfl), (Nat.le_of_ble_eq_true rfl)⟩) rfl rfl kEnv_T rfl rfl (Nat.le_of_ble_eq_true rfl) dX5_statement_272 hP hD hz) rfl (by decide) rfl rfl ?_
                refine k_istore_n C (lv' := [(1, .int x8.1), (0, .ref a_this)]) dX5_statement_275 rfl (by decide) rfl ?_
                refine k_iload_n C dX5_statement_276 0 rfl rfl ?_
                refine k_iconst C (v := (-1 : Int32)) dX5_statement_277 (by decide) ?_
                refine k_icmp_ne C (tgt := 283) dX5_statement_278 (by decide) (fun c_278 => ?_) (fun c_278 => ?_)
                · have h := ifF c_278 h
                  refine k_aload_n C dX5_statement_283 1 rfl rfl ?_
                  refine k_iload_n C dX5_statement_284 0 rfl rfl ?_
                  refine k_put C (C0 := RX5) (T := TX5) (N := 26) (ws' := (cells_R_statement cI cL cZ a_this a_gravel a_kind a_own a_likely a_tape a_holding a_rowLength a_rowOf a_refusals a_old a_ahead a_cost a_may a_rest a_way c_n c_rain x8.1 c_many c_seed c_taped x8.2.1 x8.2.2.1 x8.2.2.2.1 x8.2.2.2.2 c_imaged c_gravel c_kind c_own c_likely c_tape)) (fun w h => List.mem_cons_of_mem _ (us_R w h)) tyX5 tyX5_ok nmX5 0 rfl rfl 3 (by decide) (List.mem_cons_of_mem _ wq_603) rfl rfl (tyX5_ok 3 (by decide)) rfl rfl (Nat.le_of_ble_eq_true rfl) rfl dX5_statement_285 ?_
                  refine k_iconst C (v := (1 : Int32)) dX5_statement_288 (by decide) ?_
                  obtain rfl := Option.some.inj h
                  exact kret_z C rfl nz1 dX5_statement_289
                · have h := ifT c_278 h
                  refine k_iconst C (v := (0 : Int32)) dX5_statement_281 (by decide) ?_
                  obtain rfl := Option.some.inj h
                  exact kret_z C rfl nz0 dX5_statement_282
              · have h := ifT c_263 h
                refine k_iconst C (v := (0 : Int32)) dX5_statement_266 (by decide) ?_
                obtain rfl := Option.some.inj h
                exact kret_z C rfl nz0 dX5_statement_267
            · have h := ifF c_232 h
              refine k_aload_n C dX5_statement_235 0 rfl rfl ?_
              refine k_iconst C (v := (0 : Int32)) dX5_statement_236 (by decide) ?_
              refine k_bipush C (v := (9 : Int32)) dX5_statement_237 (by decide) ?_
              obtain ⟨x9, hx9, h⟩ := bindE h
              refine kcallU_i C (wc := (cells_R_number cI cL cZ a_this a_gravel a_kind a_own a_likely a_tape a_holding a_rowLength a_rowOf a_refusals a_old a_ahead a_cost a_may a_rest a_way c_n c_rain c_ear c_many c_seed c_taped c_from c_to c_token c_value c_imaged c_tape)) (w1 := (cells_R_number cI cL cZ a_this a_gravel a_kind a_own a_likely a_tape a_holding a_rowLength a_rowOf a_refusals a_old a_ahead a_cost a_may a_rest a_way c_n c_rain c_ear c_many c_seed c_taped x9.2.1 x9.2.2.1 x9.2.2.2.1 x9.2.2.2.2 c_imaged c_tape)) (ws' := (cells_R_statement cI cL cZ a_this a_gravel a_kind a_own a_likely a_tape a_holding a_rowLength a_rowOf a_refusals a_old a_ahead a_cost a_may a_rest a_way c_n c_rain c_ear c_many c_seed c_taped x9.2.1 x9.2.2.1 x9.2.2.2.1 x9.2.2.2.2 c_imaged c_gravel c_kind c_own c_likely c_tape)) (r := x9.1) [0, 5] (fun H locs ls hP hD hS hF hz => krunV C (q0 := 0) (ci := 5) (c_R_number l D cI cL cZ H.size a_this a_gravel a_kind a_own a_likely a_tape a_holding a_rowLength a_rowOf a_refusals a_old a_ahead a_cost a_may a_rest a_way (0 : Int32) (9 : Int32) c_n c_rain c_ear c_many c_seed c_taped c_from c_to c_token c_value c_imaged c_tape x9 hx9) (cwV 2 C.2.2.2.2.1 (gV wq_631 wq_632 wq_633 wq_551 wq_630) rfl rfl rfl (by decide +kernel) ⟨(Nat.le_of_ble_eq_true rfl), (Nat.le_of_ble_eq_true rfl)⟩) rfl rfl kEnv_T rfl rfl (Nat.le_of_ble_eq_true rfl) dX5_statement_239 hP hD hz) rfl (by decide) rfl rfl ?_
              refine k_istore_n C (lv' := [(1, .int x9.1), (0, .ref a_this)]) dX5_statement_242 rfl (by decide) rfl ?_
              refine k_iload_n C dX5_statement_243 0 rfl rfl ?_
              refine k_iconst C (v := (-1 : Int32)) dX5_statement_244 (by decide) ?_
              refine k_icmp_ne C (tgt := 250) dX5_statement_245 (by decide) (fun c_245 => ?_) (fun c_245 => ?_)
              · have h := ifF c_245 h
                refine k_aload_n C dX5_statement_250 1 rfl rfl ?_
                refine k_iload_n C dX5_statement_251 0 rfl rfl ?_
                refine k_put C (C0 := RX5) (T := TX5) (N := 26) (ws' := (cells_R_statement cI cL cZ a_this a_gravel a_kind a_own a_likely a_tape a_holding a_rowLength a_rowOf a_refusals a_old a_ahead a_cost a_may a_rest a_way c_n x9.1 c_ear c_many c_seed c_taped x9.2.1 x9.2.2.1 x9.2.2.2.1 x9.2.2.2.2 c_imaged c_gravel c_kind c_own c_likely c_tape)) (fun w h => List.mem_cons_of_mem _ (us_R w h)) tyX5 tyX5_ok nmX5 0 rfl rfl 2 (by decide) (List.mem_cons_of_mem _ wq_579) rfl rfl (tyX5_ok 2 (by decide)) rfl rfl (Nat.le_of_ble_eq_true rfl) rfl dX5_statement_252 ?_
                refine k_iconst C (v := (1 : Int32)) dX5_statement_255 (by decide) ?_
                obtain rfl := Option.some.inj h
                exact kret_z C rfl nz1 dX5_statement_256
              · have h := ifT c_245 h
                refine k_iconst C (v := (0 : Int32)) dX5_statement_248 (by decide) ?_
                obtain rfl := Option.some.inj h
                exact kret_z C rfl nz0 dX5_statement_249
          · have h := ifF c_154 h
            refine k_aload_n C dX5_statement_157 0 rfl rfl ?_
            refine k_get C (C0 := RX5) (T := TX5) (N := 26) (fun w h => List.mem_cons_of_mem _ (us_R w h)) 0 rfl rfl 4 (by decide) (List.mem_cons_of_mem _ wq_547) rfl rfl dX5_statement_158 ?_
            refine k_bipush C (v := (8 : Int32)) dX5_statement_161 (by decide) ?_
            refine k_icmp_ne C (tgt := 168) dX5_statement_163 (by decide) (fun c_163 => ?_) (fun c_163 => ?_)
            · have h := ifF c_163 h
              refine k_aload_n C dX5_statement_168 0 rfl rfl ?_
              refine k_iconst C (v := (0 : Int32)) dX5_statement_169 (by decide) ?_
              refine k_iconst C (v := (5 : Int32)) dX5_statement_170 (by decide) ?_
              obtain ⟨x10, hx10, h⟩ := bindE h
              refine kcallU_i C (wc := (cells_R_number cI cL cZ a_this a_gravel a_kind a_own a_likely a_tape a_holding a_rowLength a_rowOf a_refusals a_old a_ahead a_cost a_may a_rest a_way c_n c_rain c_ear c_many c_seed c_taped c_from c_to c_token c_value c_imaged c_tape)) (w1 := (cells_R_number cI cL cZ a_this a_gravel a_kind a_own a_likely a_tape a_holding a_rowLength a_rowOf a_refusals a_old a_ahead a_cost a_may a_rest a_way c_n c_rain c_ear c_many c_seed c_taped x10.2.1 x10.2.2.1 x10.2.2.2.1 x10.2.2.2.2 c_imaged c_tape)) (ws' := (cells_R_statement cI cL cZ a_this a_gravel a_kind a_own a_likely a_tape a_holding a_rowLength a_rowOf a_refusals a_old a_ahead a_cost a_may a_rest a_way c_n c_rain c_ear c_many c_seed c_taped x10.2.1 x10.2.2.1 x10.2.2.2.1 x10.2.2.2.2 c_imaged c_gravel c_kind c_own c_likely c_tape)) (r := x10.1) [0, 5] (fun H locs ls hP hD hS hF hz => krunV C (q0 := 0) (ci := 5) (c_R_number l D cI cL cZ H.size a_this a_gravel a_kind a_own a_likely a_tape a_holding a_rowLength a_rowOf a_refusals a_old a_ahead a_cost a_may a_rest a_way (0 : Int32) (5 : Int32) c_n c_rain c_ear c_many c_seed c_taped c_from c_to c_token c_value c_imaged c_tape x10 hx10) (cwV 2 C.2.2.2.2.1 (gV wq_631 wq_632 wq_633 wq_551 wq_630) rfl rfl rfl (by decide +kernel) ⟨(Nat.le_of_ble_eq_true rfl), (Nat.le_of_ble_eq_true rfl)⟩) rfl rfl kEnv_T rfl rfl (Nat.le_of_ble_eq_true rfl) dX5_statement_171 hP hD hz) rfl (by decide) rfl rfl ?_
              refine k_istore_n C (lv' := [(1, .int x10.1), (0, .ref a_this)]) dX5_statement_174 rfl (by decide) rfl ?_
              refine k_iload_n C dX5_statement_175 0 rfl rfl ?_
              refine k_iconst C (v := (-1 : Int32)) dX5_statement_176 (by decide) ?_
              refine k_icmp_ne C (tgt := 184) dX5_statement_177 (by decide) (fun c_177 => ?_) (fun c_177 => ?_)
              · have h := ifF c_177 h
                refine k_aload_n C dX5_statement_184 1 rfl rfl ?_
                refine k_iconst C (v := (0 : Int32)) dX5_statement_185 (by decide) ?_
                refine k_bipush C (v := (9 : Int32)) dX5_statement_186 (by decide) ?_
                obtain ⟨x11, hx11, h⟩ := bindE h
                refine kcallU_i C (wc := (cells_R_number cI cL cZ a_this a_gravel a_kind a_own a_likely a_tape a_holding a_rowLength a_rowOf a_refusals a_old a_ahead a_cost a_may a_rest a_way c_n c_rain c_ear c_many c_seed c_taped x10.2.1 x10.2.2.1 x10.2.2.2.1 x10.2.2.2.2 c_imaged c_tape)) (w1 := (cells_R_number cI cL cZ a_this a_gravel a_kind a_own a_likely a_tape a_holding a_rowLength a_rowOf a_refusals a_old a_ahead a_cost a_may a_rest a_way c_n c_rain c_ear c_many c_seed c_taped x11.2.1 x11.2.2.1 x11.2.2.2.1 x11.2.2.2.2 c_imaged c_tape)) (ws' := (cells_R_statement cI cL cZ a_this a_gravel a_kind a_own a_likely a_tape a_holding a_rowLength a_rowOf a_refusals a_old a_ahead a_cost a_may a_rest a_way c_n c_rain c_ear c_many c_seed c_taped x11.2.1 x11.2.2.1 x11.2.2.2.1 x11.2.2.2.2 c_imaged c_gravel c_kind c_own c_likely c_tape)) (r := x11.1) [0, 5] (fun H locs ls hP hD hS hF hz => krunV C (q0 := 0) (ci := 5) (c_R_number l D cI cL cZ H.size a_this a_gravel a_kind a_own a_likely a_tape a_holding a_rowLength a_rowOf a_refusals a_old a_ahead a_cost a_may a_rest a_way (0 : Int32) (9 : Int32) c_n c_rain c_ear c_many c_seed c_taped x10.2.1 x10.2.2.1 x10.2.2.2.1 x10.2.2.2.2 c_imaged c_tape x11 hx11) (cwV 2 C.2.2.2.2.1 (gV wq_631 wq_632 wq_633 wq_551 wq_630) rfl rfl rfl (by decide +kernel) ⟨(Nat.le_of_ble_eq_true rfl), (Nat.le_of_ble_eq_true rfl)⟩) rfl rfl kEnv_T rfl rfl (Nat.le_of_ble_eq_true rfl) dX5_statement_188 hP hD hz) rfl (by decide) rfl rfl ?_
                refine k_lv (lv' := [(0, .ref a_this), (1, .int x10.1)]) [1, 0] rfl ?_
                exact s_R_statement_j191 C hE h
              · have h := ifT c_177 h
                refine k_iconst C (v := (-1 : Int32)) dX5_statement_180 (by decide) ?_
                refine k_goto C (tgt := 191) dX5_statement_181 (by decide) ?_
                refine k_lv (lv' := [(0, .ref a_this), (1, .int x10.1)]) [1, 0] rfl ?_
                exact s_R_statement_j191 C hE h
            · have h := ifT c_163 h
              refine k_iconst C (v := (0 : Int32)) dX5_statement_166 (by decide) ?_
              obtain rfl := Option.some.inj h
              exact kret_z C rfl nz0 dX5_statement_167
        · have h := ifF c_139 h
          refine k_aload_n C dX5_statement_142 0 rfl rfl ?_
          obtain ⟨x14, hx14, h⟩ := bindE h
          refine kcallU_v C (wc := (cells_R_rakes cI cL cZ a_this a_gravel a_kind a_own a_likely a_tape a_holding a_rowLength a_rowOf a_refusals a_old a_ahead a_cost a_may a_rest a_way c_n c_rain c_ear c_many c_seed c_taped c_from c_to c_token c_value c_imaged c_gravel)) (w1 := (cells_R_rakes cI cL cZ a_this a_gravel a_kind a_own a_likely a_tape a_holding a_rowLength a_rowOf a_refusals a_old a_ahead a_cost a_may a_rest a_way c_n c_rain c_ear c_many c_seed c_taped c_from c_to c_token c_value c_imaged x14)) (ws' := (cells_R_statement cI cL cZ a_this a_gravel a_kind a_own a_likely a_tape a_holding a_rowLength a_rowOf a_refusals a_old a_ahead a_cost a_may a_rest a_way c_n c_rain c_ear c_many c_seed c_taped c_from c_to c_token c_value c_imaged x14 c_kind c_own c_likely c_tape)) [0, 1] (fun H locs ls hP hD hS hF hz => krunV C (q0 := 0) (ci := 5) (c_R_rakes l D cI cL cZ H.size a_this a_gravel a_kind a_own a_likely a_tape a_holding a_rowLength a_rowOf a_refusals a_old a_ahead a_cost a_may a_rest a_way c_n c_rain c_ear c_many c_seed c_taped c_from c_to c_token c_value c_imaged c_gravel x14 hx14) (cwV 0 C.2.2.2.2.1 (gV wq_635 wq_636 wq_637 wq_551 wq_634) rfl rfl rfl (by decide +kernel) ⟨(Nat.le_of_ble_eq_true rfl), (Nat.le_of_ble_eq_true rfl)⟩) rfl rfl kEnv_T rfl rfl (Nat.le_of_ble_eq_true rfl) dX5_statement_143 hP hD hz) rfl (by decide) rfl rfl ?_
          refine k_iconst C (v := (1 : Int32)) dX5_statement_146 (by decide) ?_
          obtain rfl := Option.some.inj h
          exact kret_z C rfl nz1 dX5_statement_147
      · have h := ifF c_97 h
        refine k_aload_n C dX5_statement_100 0 rfl rfl ?_
        refine k_iconst C (v := (0 : Int32)) dX5_statement_101 (by decide) ?_
        refine k_aload_n C dX5_statement_102 0 rfl rfl ?_
        refine k_get C (C0 := RX5) (T := TX5) (N := 26) (fun w h => List.mem_cons_of_mem _ (us_R w h)) 0 rfl rfl 0 (by decide) (List.mem_cons_of_mem _ wq_552) rfl rfl dX5_statement_103 ?_
        refine k_aload_n C dX5_statement_106 0 rfl rfl ?_
        refine k_get C (C0 := RX5) (T := TX5) (N := 26) (fun w h => List.mem_cons_of_mem _ (us_R w h)) 0 rfl rfl 0 (by decide) (List.mem_cons_of_mem _ wq_552) rfl rfl dX5_statement_107 ?_
        refine k_imul C dX5_statement_110 ?_
        refine k_iconst C (v := (1 : Int32)) dX5_statement_111 (by decide) ?_
        refine k_isub C dX5_statement_112 ?_
        obtain ⟨x15, hx15, h⟩ := bindE h
        refine kcallU_i C (wc := (cells_R_number cI cL cZ a_this a_gravel a_kind a_own a_likely a_tape a_holding a_rowLength a_rowOf a_refusals a_old a_ahead a_cost a_may a_rest a_way c_n c_rain c_ear c_many c_seed c_taped c_from c_to c_token c_value c_imaged c_tape)) (w1 := (cells_R_number cI cL cZ a_this a_gravel a_kind a_own a_likely a_tape a_holding a_rowLength a_rowOf a_refusals a_old a_ahead a_cost a_may a_rest a_way c_n c_rain c_ear c_many c_seed c_taped x15.2.1 x15.2.2.1 x15.2.2.2.1 x15.2.2.2.2 c_imaged c_tape)) (ws' := (cells_R_statement cI cL cZ a_this a_gravel a_kind a_own a_likely a_tape a_holding a_rowLength a_rowOf a_refusals a_old a_ahead a_cost a_may a_rest a_way c_n c_rain c_ear c_many c_seed c_taped x15.2.1 x15.2.2.1 x15.2.2.2.1 x15.2.2.2.2 c_imaged c_gravel c_kind c_own c_likely c_tape)) (r := x15.1) [0, 5] (fun H locs ls hP hD hS hF hz => krunV C (q0 := 0) (ci := 5) (c_R_number l D cI cL cZ H.size a_this a_gravel a_kind a_own a_likely a_tape a_holding a_rowLength a_rowOf a_refusals a_old a_ahead a_cost a_may a_rest a_way (0 : Int32) ((c_n * c_n) - (1 : Int32)) c_n c_rain c_ear c_many c_seed c_taped c_from c_to c_token c_value c_imaged c_tape x15 hx15) (cwV 2 C.2.2.2.2.1 (gV wq_631 wq_632 wq_633 wq_551 wq_630) rfl rfl rfl (by decide +kernel) ⟨(Nat.le_of_ble_eq_true rfl), (Nat.le_of_ble_eq_true rfl)⟩) rfl rfl kEnv_T rfl rfl (Nat.le_of_ble_eq_true rfl) dX5_statement_113 hP hD hz) rfl (by decide) rfl rfl ?_
        refine k_istore_n C (lv' := [(1, .int x15.1), (0, .ref a_this)]) dX5_statement_116 rfl (by decide) rfl ?_
        refine k_iload_n C dX5_statement_117 0 rfl rfl ?_
        refine k_iconst C (v := (-1 : Int32)) dX5_statement_118 (by decide) ?_
        refine k_icmp_ne C (tgt := 124) dX5_statement_119 (by decide) (fun c_119 => ?_) (fun c_119 => ?_)
        · have h := ifF c_119 h
          refine k_aload_n C dX5_statement_124 1 rfl rfl ?_
          refine k_get C (C0 := RX5) (T := TX5) (N := 26) (fun w h => List.mem_cons_of_mem _ (us_R w h)) 0 rfl rfl 1 (by decide) (List.mem_cons_of_mem _ wq_578) rfl rfl dX5_statement_125 ?_
          refine k_iload_n C dX5_statement_128 0 rfl rfl ?_
          refine k_iconst C (v := (0 : Int32)) dX5_statement_129 (by decide) ?_
          obtain ⟨x16, hx16, h⟩ := bindE h
          refine k_iast C 1 0 (ws' := (cells_R_statement cI cL cZ a_this a_gravel a_kind a_own a_likely a_tape a_holding a_rowLength a_rowOf a_refusals a_old a_ahead a_cost a_may a_rest a_way c_n c_rain c_ear c_many c_seed c_taped x15.2.1 x15.2.2.1 x15.2.2.2.1 x15.2.2.2.2 c_imaged x16 c_kind c_own c_likely c_tape)) rfl rfl hx16 rfl dX5_statement_130 ?_
          refine k_iconst C (v := (1 : Int32)) dX5_statement_131 (by decide) ?_
          obtain rfl := Option.some.inj h
          exact kret_z C rfl nz1 dX5_statement_132
        · have h := ifT c_119 h
          refine k_iconst C (v := (0 : Int32)) dX5_statement_122 (by decide) ?_
          obtain rfl := Option.some.inj h
          exact kret_z C rfl nz0 dX5_statement_123
    · have h := ifF c_38 h
      refine k_aload_n C dX5_statement_41 0 rfl rfl ?_
      refine k_iconst C (v := (0 : Int32)) dX5_statement_42 (by decide) ?_
      refine k_aload_n C dX5_statement_43 0 rfl rfl ?_
      refine k_get C (C0 := RX5) (T := TX5) (N := 26) (fun w h => List.mem_cons_of_mem _ (us_R w h)) 0 rfl rfl 0 (by decide) (List.mem_cons_of_mem _ wq_552) rfl rfl dX5_statement_44 ?_
      refine k_aload_n C dX5_statement_47 0 rfl rfl ?_
      refine k_get C (C0 := RX5) (T := TX5) (N := 26) (fun w h => List.mem_cons_of_mem _ (us_R w h)) 0 rfl rfl 0 (by decide) (List.mem_cons_of_mem _ wq_552) rfl rfl dX5_statement_48 ?_
      refine k_imul C dX5_statement_51 ?_
      refine k_iconst C (v := (1 : Int32)) dX5_statement_52 (by decide) ?_
      refine k_isub C dX5_statement_53 ?_
      obtain ⟨x17, hx17, h⟩ := bindE h
      refine kcallU_i C (wc := (cells_R_number cI cL cZ a_this a_gravel a_kind a_own a_likely a_tape a_holding a_rowLength a_rowOf a_refusals a_old a_ahead a_cost a_may a_rest a_way c_n c_rain c_ear c_many c_seed c_taped c_from c_to c_token c_value c_imaged c_tape)) (w1 := (cells_R_number cI cL cZ a_this a_gravel a_kind a_own a_likely a_tape a_holding a_rowLength a_rowOf a_refusals a_old a_ahead a_cost a_may a_rest a_way c_n c_rain c_ear c_many c_seed c_taped x17.2.1 x17.2.2.1 x17.2.2.2.1 x17.2.2.2.2 c_imaged c_tape)) (ws' := (cells_R_statement cI cL cZ a_this a_gravel a_kind a_own a_likely a_tape a_holding a_rowLength a_rowOf a_refusals a_old a_ahead a_cost a_may a_rest a_way c_n c_rain c_ear c_many c_seed c_taped x17.2.1 x17.2.2.1 x17.2.2.2.1 x17.2.2.2.2 c_imaged c_gravel c_kind c_own c_likely c_tape)) (r := x17.1) [0, 5] (fun H locs ls hP hD hS hF hz => krunV C (q0 := 0) (ci := 5) (c_R_number l D cI cL cZ H.size a_this a_gravel a_kind a_own a_likely a_tape a_holding a_rowLength a_rowOf a_refusals a_old a_ahead a_cost a_may a_rest a_way (0 : Int32) ((c_n * c_n) - (1 : Int32)) c_n c_rain c_ear c_many c_seed c_taped c_from c_to c_token c_value c_imaged c_tape x17 hx17) (cwV 2 C.2.2.2.2.1 (gV wq_631 wq_632 wq_633 wq_551 wq_630) rfl rfl rfl (by decide +kernel) ⟨(Nat.le_of_ble_eq_true rfl), (Nat.le_of_ble_eq_true rfl)⟩) rfl rfl kEnv_T rfl rfl (Nat.le_of_ble_eq_true rfl) dX5_statement_54 hP hD hz) rfl (by decide) rfl rfl ?_
      refine k_istore_n C (lv' := [(1, .int x17.1), (0, .ref a_this)]) dX5_statement_57 rfl (by decide) rfl ?_
      refine k_iload_n C dX5_statement_58 0 rfl rfl ?_
      refine k_iconst C (v := (-1 : Int32)) dX5_statement_59 (by decide) ?_
      refine k_icmp_ne C (tgt := 67) dX5_statement_60 (by decide) (fun c_60 => ?_) (fun c_60 => ?_)
      · have h := ifF c_60 h
        refine k_aload_n C dX5_statement_67 1 rfl rfl ?_
        refine k_iconst C (v := (0 : Int32)) dX5_statement_68 (by decide) ?_
        refine k_bipush C (v := (9 : Int32)) dX5_statement_69 (by decide) ?_
        obtain ⟨x18, hx18, h⟩ := bindE h
        refine kcallU_i C (wc := (cells_R_number cI cL cZ a_this a_gravel a_kind a_own a_likely a_tape a_holding a_rowLength a_rowOf a_refusals a_old a_ahead a_cost a_may a_rest a_way c_n c_rain c_ear c_many c_seed c_taped x17.2.1 x17.2.2.1 x17.2.2.2.1 x17.2.2.2.2 c_imaged c_tape)) (w1 := (cells_R_number cI cL cZ a_this a_gravel a_kind a_own a_likely a_tape a_holding a_rowLength a_rowOf a_refusals a_old a_ahead a_cost a_may a_rest a_way c_n c_rain c_ear c_many c_seed c_taped x18.2.1 x18.2.2.1 x18.2.2.2.1 x18.2.2.2.2 c_imaged c_tape)) (ws' := (cells_R_statement cI cL cZ a_this a_gravel a_kind a_own a_likely a_tape a_holding a_rowLength a_rowOf a_refusals a_old a_ahead a_cost a_may a_rest a_way c_n c_rain c_ear c_many c_seed c_taped x18.2.1 x18.2.2.1 x18.2.2.2.1 x18.2.2.2.2 c_imaged c_gravel c_kind c_own c_likely c_tape)) (r := x18.1) [0, 5] (fun H locs ls hP hD hS hF hz => krunV C (q0 := 0) (ci := 5) (c_R_number l D cI cL cZ H.size a_this a_gravel a_kind a_own a_likely a_tape a_holding a_rowLength a_rowOf a_refusals a_old a_ahead a_cost a_may a_rest a_way (0 : Int32) (9 : Int32) c_n c_rain c_ear c_many c_seed c_taped x17.2.1 x17.2.2.1 x17.2.2.2.1 x17.2.2.2.2 c_imaged c_tape x18 hx18) (cwV 2 C.2.2.2.2.1 (gV wq_631 wq_632 wq_633 wq_551 wq_630) rfl rfl rfl (by decide +kernel) ⟨(Nat.le_of_ble_eq_true rfl), (Nat.le_of_ble_eq_true rfl)⟩) rfl rfl kEnv_T rfl rfl (Nat.le_of_ble_eq_true rfl) dX5_statement_71 hP hD hz) rfl (by decide) rfl rfl ?_
        refine k_lv (lv' := [(0, .ref a_this), (1, .int x17.1)]) [1, 0] rfl ?_
        exact s_R_statement_j74 C hE h
      · have h := ifT c_60 h
        refine k_iconst C (v := (-1 : Int32)) dX5_statement_63 (by decide) ?_
        refine k_goto C (tgt := 74) dX5_statement_64 (by decide) ?_
        refine k_lv (lv' := [(0, .ref a_this), (1, .int x17.1)]) [1, 0] rfl ?_
        exact s_R_statement_j74 C hE h
  · have h := ifF c_6 h
    refine k_aload_n C dX5_statement_9 0 rfl rfl ?_
    refine k_iconst C (v := (2 : Int32)) dX5_statement_10 (by decide) ?_
    refine k_bipush C (v := (6 : Int32)) dX5_statement_11 (by decide) ?_
    obtain ⟨x20, hx20, h⟩ := bindE h
    refine kcallU_i C (wc := (cells_R_number cI cL cZ a_this a_gravel a_kind a_own a_likely a_tape a_holding a_rowLength a_rowOf a_refusals a_old a_ahead a_cost a_may a_rest a_way c_n c_rain c_ear c_many c_seed c_taped c_from c_to c_token c_value c_imaged c_tape)) (w1 := (cells_R_number cI cL cZ a_this a_gravel a_kind a_own a_likely a_tape a_holding a_rowLength a_rowOf a_refusals a_old a_ahead a_cost a_may a_rest a_way c_n c_rain c_ear c_many c_seed c_taped x20.2.1 x20.2.2.1 x20.2.2.2.1 x20.2.2.2.2 c_imaged c_tape)) (ws' := (cells_R_statement cI cL cZ a_this a_gravel a_kind a_own a_likely a_tape a_holding a_rowLength a_rowOf a_refusals a_old a_ahead a_cost a_may a_rest a_way c_n c_rain c_ear c_many c_seed c_taped x20.2.1 x20.2.2.1 x20.2.2.2.1 x20.2.2.2.2 c_imaged c_gravel c_kind c_own c_likely c_tape)) (r := x20.1) [0, 5] (fun H locs ls hP hD hS hF hz => krunV C (q0 := 0) (ci := 5) (c_R_number l D cI cL cZ H.size a_this a_gravel a_kind a_own a_likely a_tape a_holding a_rowLength a_rowOf a_refusals a_old a_ahead a_cost a_may a_rest a_way (2 : Int32) (6 : Int32) c_n c_rain c_ear c_many c_seed c_taped c_from c_to c_token c_value c_imaged c_tape x20 hx20) (cwV 2 C.2.2.2.2.1 (gV wq_631 wq_632 wq_633 wq_551 wq_630) rfl rfl rfl (by decide +kernel) ⟨(Nat.le_of_ble_eq_true rfl), (Nat.le_of_ble_eq_true rfl)⟩) rfl rfl kEnv_T rfl rfl (Nat.le_of_ble_eq_true rfl) dX5_statement_13 hP hD hz) rfl (by decide) rfl rfl ?_
    refine k_istore_n C (lv' := [(1, .int x20.1), (0, .ref a_this)]) dX5_statement_16 rfl (by decide) rfl ?_
    refine k_iload_n C dX5_statement_17 0 rfl rfl ?_
    refine k_iconst C (v := (-1 : Int32)) dX5_statement_18 (by decide) ?_
    refine k_icmp_ne C (tgt := 24) dX5_statement_19 (by decide) (fun c_19 => ?_) (fun c_19 => ?_)
    · have h := ifF c_19 h
      refine k_aload_n C dX5_statement_24 1 rfl rfl ?_
      refine k_iload_n C dX5_statement_25 0 rfl rfl ?_
      obtain ⟨x21, hx21, h⟩ := bindE h
      refine kcallU_i C (wc := (cells_R_sides cI cL cZ a_this a_gravel a_kind a_own a_likely a_tape a_holding a_rowLength a_rowOf a_refusals a_old a_ahead a_cost a_may a_rest a_way c_n c_rain c_ear c_many c_seed c_taped x20.2.1 x20.2.2.1 x20.2.2.2.1 x20.2.2.2.2 c_imaged c_gravel)) (w1 := (cells_R_sides cI cL cZ a_this a_gravel a_kind a_own a_likely a_tape a_holding a_rowLength a_rowOf a_refusals a_old a_ahead a_cost a_may a_rest a_way x21.2.1 c_rain c_ear c_many c_seed c_taped x20.2.1 x20.2.2.1 x20.2.2.2.1 x20.2.2.2.2 c_imaged x21.2.2)) (ws' := (cells_R_statement cI cL cZ a_this a_gravel a_kind a_own a_likely a_tape a_holding a_rowLength a_rowOf a_refusals a_old a_ahead a_cost a_may a_rest a_way x21.2.1 c_rain c_ear c_many c_seed c_taped x20.2.1 x20.2.2.1 x20.2.2.2.1 x20.2.2.2.2 c_imaged x21.2.2 c_kind c_own c_likely c_tape)) (r := x21.1) [0, 1] (fun H locs ls hP hD hS hF hz => krunV C (q0 := 0) (ci := 5) (c_R_sides l D cI cL cZ H.size a_this a_gravel a_kind a_own a_likely a_tape a_holding a_rowLength a_rowOf a_refusals a_old a_ahead a_cost a_may a_rest a_way x20.1 c_n c_rain c_ear c_many c_seed c_taped x20.2.1 x20.2.2.1 x20.2.2.2.1 x20.2.2.2.2 c_imaged c_gravel x21 hx21) (cwV 1 C.2.2.2.2.1 (gV wq_596 wq_597 wq_598 wq_551 wq_595) rfl rfl rfl (by decide +kernel) ⟨(Nat.le_of_ble_eq_true rfl), (Nat.le_of_ble_eq_true rfl)⟩) rfl rfl kEnv_T rfl rfl (Nat.le_of_ble_eq_true rfl) dX5_statement_26 hP hD hz) rfl (by decide) rfl rfl ?_
      refine k_pop C dX5_statement_29 rfl ?_
      refine k_iconst C (v := (1 : Int32)) dX5_statement_30 (by decide) ?_
      obtain rfl := Option.some.inj h
      exact kret_z C rfl nz1 dX5_statement_31
    · have h := ifT c_19 h
      refine k_iconst C (v := (0 : Int32)) dX5_statement_22 (by decide) ?_
      obtain rfl := Option.some.inj h
      exact kret_z C rfl nz0 dX5_statement_23
theorem c_R_statement (l : Launch) (D : va_G) (cI : ClassId) (cL : ClassId) (cZ : ClassId) (X : kX) (sz : Nat) (a_this : Nat) (a_gravel : Nat) (a_kind : Nat) (a_own : Nat) (a_likely : Nat) (a_tape : Nat) (a_holding : Nat) (a_rowLength : Nat) (a_rowOf : Nat) (a_refusals : Nat) (a_old : Nat) (a_ahead : Nat) (a_cost : Nat) (a_may : Nat) (a_rest : Nat) (a_way : Nat) (c_n : Int32) (c_rain : Int32) (c_ear : Int32) (c_many : Int32) (c_seed : Int32) (c_taped : Int32) (c_from : Int32) (c_to : Int32) (c_token : Int32) (c_value : Int32) (c_imaged : Int32) (c_gravel : (Nat → Int32)) (c_kind : (Nat → Int32)) (c_own : (Nat → Int32)) (c_likely : (Nat → Int32)) (c_tape : (Nat → Int32)) (x : (Int32 × Int32 × Int32 × Int32 × Int32 × Int32 × Int32 × Int32 × Int32 × (Nat → Int32) × (Nat → Int32) × (Nat → Int32) × (Nat → Int32))) (h : f_R_statement c_n c_rain c_ear c_many c_taped c_from c_to c_token c_value c_gravel c_kind c_own c_likely c_tape = some x) :
    Met l yX5_statement (Cond.code yX5_statement cX5_statement 4 (some .boolean) :: WS) rm_R_statement (kP D (tyG cI cL cZ) (kEs X (va_A (cells_R_statement cI cL cZ a_this a_gravel a_kind a_own a_likely a_tape a_holding a_rowLength a_rowOf a_refusals a_old a_ahead a_cost a_may a_rest a_way c_n c_rain c_ear c_many c_seed c_taped c_from c_to c_token c_value c_imaged c_gravel c_kind c_own c_likely c_tape) sz)) [.ref a_this] sz (cells_R_statement cI cL cZ a_this a_gravel a_kind a_own a_likely a_tape a_holding a_rowLength a_rowOf a_refusals a_old a_ahead a_cost a_may a_rest a_way c_n c_rain c_ear c_many c_seed c_taped c_from c_to c_token c_value c_imaged c_gravel c_kind c_own c_likely c_tape)) (kQi D (va_A (cells_R_statement cI cL cZ a_this a_gravel a_kind a_own a_likely a_tape a_holding a_rowLength a_rowOf a_refusals a_old a_ahead a_cost a_may a_rest a_way c_n c_rain c_ear c_many c_seed c_taped c_from c_to c_token c_value c_imaged c_gravel c_kind c_own c_likely c_tape) sz) (cells_R_statement cI cL cZ a_this a_gravel a_kind a_own a_likely a_tape a_holding a_rowLength a_rowOf a_refusals a_old a_ahead a_cost a_may a_rest a_way x.2.1 x.2.2.1 x.2.2.2.1 x.2.2.2.2.1 c_seed c_taped x.2.2.2.2.2.1 x.2.2.2.2.2.2.1 x.2.2.2.2.2.2.2.1 x.2.2.2.2.2.2.2.2.1 c_imaged x.2.2.2.2.2.2.2.2.2.1 x.2.2.2.2.2.2.2.2.2.2.1 x.2.2.2.2.2.2.2.2.2.2.2.1 x.2.2.2.2.2.2.2.2.2.2.2.2 c_tape) x.1) 0 0 (va_A (cells_R_statement cI cL cZ a_this a_gravel a_kind a_own a_likely a_tape a_holding a_rowLength a_rowOf a_refusals a_old a_ahead a_cost a_may a_rest a_way c_n c_rain c_ear c_many c_seed c_taped c_from c_to c_token c_value c_imaged c_gravel c_kind c_own c_likely c_tape) sz) :=
  kmet (by decide) (Nat.le_of_ble_eq_true rfl) rfl (fun p e s m below meth c C hE => s_R_statement C hE h)
abbrev cells_R_keep (cI : ClassId) (cL : ClassId) (cZ : ClassId) (a_this : Nat) (a_gravel : Nat) (a_kind : Nat) (a_own : Nat) (a_likely : Nat) (a_tape : Nat) (a_holding : Nat) (a_rowLength : Nat) (a_rowOf : Nat) (a_refusals : Nat) (a_old : Nat) (a_ahead : Nat) (a_cost : Nat) (a_may : Nat) (a_rest : Nat) (a_way : Nat) (a_p1 : Nat) (c_n : Int32) (c_rain : Int32) (c_ear : Int32) (c_many : Int32) (c_seed : Int32) (c_taped : Int32) (c_from : Int32) (c_to : Int32) (c_token : Int32) (c_value : Int32) (c_imaged : Int32) (c_gravel : (Nat → Int32)) (c_kind : (Nat → Int32)) (c_own : (Nat → Int32)) (c_likely : (Nat → Int32)) (c_p1 : (Nat → Int32)) : va_W := [(a_this, .inr (5, [.int c_n, .ref a_gravel, .int c_rain, .int c_ear, .int c_many, .ref a_kind, .ref a_own, .ref a_likely, .int c_seed, .int c_taped, .ref a_tape, .int c_from, .int c_to, .int c_token, .int c_value, .ref a_holding, .ref a_rowLength, .ref a_rowOf, .ref a_refusals, .int c_imaged, .ref a_old, .ref a_ahead, .ref a_cost, .ref a_may, .ref a_rest, .ref a_way])), (a_gravel, .inl (cI, 36, .inl c_gravel)), (a_kind, .inl (cI, 8, .inl c_kind)), (a_own, .inl (cI, 8, .inl c_own)), (a_likely, .inl (cI, 8, .inl c_likely)), (a_p1, .inl (cI, 65, .inl c_p1))]
abbrev rm_R_keep : Room := { frames := 0, cells := 0, slots := 0, locals := 0 }
set_option maxRecDepth 100000 in
set_option maxHeartbeats 4000000 in
theorem s_R_keep_b2 (C : kC p l e rm_R_keep s m args below meth c D (tyG cI cL cZ) A 3 cX5_keep yX5_keep.cls (Cond.code yX5_keep cX5_keep 3 none :: WS) none) {a_this : Nat} {a_gravel : Nat} {a_kind : Nat} {a_own : Nat} {a_likely : Nat} {a_tape : Nat} {a_holding : Nat} {a_rowLength : Nat} {a_rowOf : Nat} {a_refusals : Nat} {a_old : Nat} {a_ahead : Nat} {a_cost : Nat} {a_may : Nat} {a_rest : Nat} {a_way : Nat} {a_p1 : Nat} {v2 : Int32} {c_n : Int32} {c_rain : Int32} {c_ear : Int32} {c_many : Int32} {c_seed : Int32} {c_taped : Int32} {c_from : Int32} {c_to : Int32} {c_token : Int32} {c_value : Int32} {c_imaged : Int32} {c_gravel : (Nat → Int32)} {c_kind : (Nat → Int32)} {c_own : (Nat → Int32)} {c_likely : (Nat → Int32)} {c_p1 : (Nat → Int32)} {x : ((Int32 × (Nat → Int32)) ⊕ (Nat → Int32))} (h : f_R_keep_b2 c_gravel v2 c_p1 = some x)
    (kc : ∀ s', x = .inl s' → kW p l e rm_R_keep s m args below meth c D A 3 (cells_R_keep cI cL cZ a_this a_gravel a_kind a_own a_likely a_tape a_holding a_rowLength a_rowOf a_refusals a_old a_ahead a_cost a_may a_rest a_way a_p1 c_n c_rain c_ear c_many c_seed c_taped c_from c_to c_token c_value c_imaged c_gravel c_kind c_own c_likely s'.2) [(0, .ref a_this), (1, .ref a_p1), (2, .int s'.1)] Q 2 [])
    (k0 : ∀ r, x = .inr r → kW p l e rm_R_keep s m args below meth c D A 3 (cells_R_keep cI cL cZ a_this a_gravel a_kind a_own a_likely a_tape a_holding a_rowLength a_rowOf a_refusals a_old a_ahead a_cost a_may a_rest a_way a_p1 c_n c_rain c_ear c_many c_seed c_taped c_from c_to c_token c_value c_imaged c_gravel c_kind c_own c_likely r) [(0, .ref a_this), (1, .ref a_p1)] Q 23 []) :
    kW p l e rm_R_keep s m args below meth c D A 3 (cells_R_keep cI cL cZ a_this a_gravel a_kind a_own a_likely a_tape a_holding a_rowLength a_rowOf a_refusals a_old a_ahead a_cost a_may a_rest a_way a_p1 c_n c_rain c_ear c_many c_seed c_taped c_from c_to c_token c_value c_imaged c_gravel c_kind c_own c_likely c_p1) [(0, .ref a_this), (1, .ref a_p1), (2, .int v2)] Q 2 [] := by
  unfold f_R_keep_b2 at h
  refine k_iload_n C dX5_keep_2 2 rfl rfl ?_
  refine k_bipush C (v := (36 : Int32)) dX5_keep_3 (by decide) ?_
  refine k_icmp_ge C (tgt := 23) dX5_keep_5 (by decide) (fun c_5 => ?_) (fun c_5 => ?_)
  · have h := ifT c_5 h
    refine k_lv (lv' := [(0, .ref a_this), (1, .ref a_p1)]) [0, 1] rfl ?_
    exact k0 _ (Option.some.inj h).symm
  · have h := ifF c_5 h
    refine k_aload_n C dX5_keep_8 1 rfl rfl ?_
    refine k_iload_n C dX5_keep_9 2 rfl rfl ?_
    refine k_aload_n C dX5_keep_10 0 rfl rfl ?_
    refine k_get C (C0 := RX5) (T := TX5) (N := 26) (fun w h => List.mem_cons_of_mem _ (us_R w h)) 0 rfl rfl 1 (by decide) (List.mem_cons_of_mem _ wq_578) rfl rfl dX5_keep_11 ?_
    refine k_iload_n C dX5_keep_14 2 rfl rfl ?_
    obtain ⟨x1, hx1, h⟩ := bindE h
    refine k_iald C 1 0 rfl rfl hx1 dX5_keep_15 ?_
    obtain ⟨x2, hx2, h⟩ := bindE h
    refine k_iast C 5 0 (ws' := (cells_R_keep cI cL cZ a_this a_gravel a_kind a_own a_likely a_tape a_holding a_rowLength a_rowOf a_refusals a_old a_ahead a_cost a_may a_rest a_way a_p1 c_n c_rain c_ear c_many c_seed c_taped c_from c_to c_token c_value c_imaged c_gravel c_kind c_own c_likely x2)) rfl rfl hx2 rfl dX5_keep_16 ?_
    refine k_iinc C (v := (v2 + (1 : Int32))) (lv' := [(2, .int (v2 + (1 : Int32))), (0, .ref a_this), (1, .ref a_p1)]) dX5_keep_17 2 rfl rfl (by decide) rfl ?_
    refine k_goto C (tgt := 2) dX5_keep_20 (by decide) ?_
    refine k_lv (lv' := [(0, .ref a_this), (1, .ref a_p1), (2, .int (v2 + (1 : Int32)))]) [1, 2, 0] rfl ?_
    exact kc _ (Option.some.inj h).symm
set_option maxRecDepth 100000 in
set_option maxHeartbeats 4000000 in
theorem s_R_keep_l2 (C : kC p l e rm_R_keep s m args below meth c D (tyG cI cL cZ) A 3 cX5_keep yX5_keep.cls (Cond.code yX5_keep cX5_keep 3 none :: WS) none) {a_this : Nat} {a_gravel : Nat} {a_kind : Nat} {a_own : Nat} {a_likely : Nat} {a_tape : Nat} {a_holding : Nat} {a_rowLength : Nat} {a_rowOf : Nat} {a_refusals : Nat} {a_old : Nat} {a_ahead : Nat} {a_cost : Nat} {a_may : Nat} {a_rest : Nat} {a_way : Nat} {a_p1 : Nat} {v2 : Int32} {c_n : Int32} {c_rain : Int32} {c_ear : Int32} {c_many : Int32} {c_seed : Int32} {c_taped : Int32} {c_from : Int32} {c_to : Int32} {c_token : Int32} {c_value : Int32} {c_imaged : Int32} {c_gravel : (Nat → Int32)} {c_kind : (Nat → Int32)} {c_own : (Nat → Int32)} {c_likely : (Nat → Int32)} {c_p1 : (Nat → Int32)} {x : (Nat → Int32)} (h : f_R_keep_l2 c_gravel v2 c_p1 = some x)
    (k0 : kW p l e rm_R_keep s m args below meth c D A 3 (cells_R_keep cI cL cZ a_this a_gravel a_kind a_own a_likely a_tape a_holding a_rowLength a_rowOf a_refusals a_old a_ahead a_cost a_may a_rest a_way a_p1 c_n c_rain c_ear c_many c_seed c_taped c_from c_to c_token c_value c_imaged c_gravel c_kind c_own c_likely x) [(0, .ref a_this), (1, .ref a_p1)] Q 23 []) :
    kW p l e rm_R_keep s m args below meth c D A 3 (cells_R_keep cI cL cZ a_this a_gravel a_kind a_own a_likely a_tape a_holding a_rowLength a_rowOf a_refusals a_old a_ahead a_cost a_may a_rest a_way a_p1 c_n c_rain c_ear c_many c_seed c_taped c_from c_to c_token c_value c_imaged c_gravel c_kind c_own c_likely c_p1) [(0, .ref a_this), (1, .ref a_p1), (2, .int v2)] Q 2 [] := by
  unfold f_R_keep_l2 at h
  exact iter_W (body := fun s => f_R_keep_b2 c_gravel s.1 s.2) (r := x) (T := fun sg => kW p l e rm_R_keep s m args below meth c D A 3 (cells_R_keep cI cL cZ a_this a_gravel a_kind a_own a_likely a_tape a_holding a_rowLength a_rowOf a_refusals a_old a_ahead a_cost a_may a_rest a_way a_p1 c_n c_rain c_ear c_many c_seed c_taped c_from c_to c_token c_value c_imaged c_gravel c_kind c_own c_likely sg.2) [(0, .ref a_this), (1, .ref a_p1), (2, .int sg.1)] Q 2 []) (fun sg y hy hc _ hr => s_R_keep_b2 C (v2 := sg.1) (c_n := c_n) (c_rain := c_rain) (c_ear := c_ear) (c_many := c_many) (c_seed := c_seed) (c_taped := c_taped) (c_from := c_from) (c_to := c_to) (c_token := c_token) (c_value := c_value) (c_imaged := c_imaged) (c_gravel := c_gravel) (c_kind := c_kind) (c_own := c_own) (c_likely := c_likely) (c_p1 := sg.2) (x := y) hy hc (fun r e => by rw [hr r e]; exact k0)) FUEL (v2, c_p1) h
set_option maxRecDepth 100000 in
set_option maxHeartbeats 4000000 in
theorem s_R_keep_b25 (C : kC p l e rm_R_keep s m args below meth c D (tyG cI cL cZ) A 3 cX5_keep yX5_keep.cls (Cond.code yX5_keep cX5_keep 3 none :: WS) none) {a_this : Nat} {a_gravel : Nat} {a_kind : Nat} {a_own : Nat} {a_likely : Nat} {a_tape : Nat} {a_holding : Nat} {a_rowLength : Nat} {a_rowOf : Nat} {a_refusals : Nat} {a_old : Nat} {a_ahead : Nat} {a_cost : Nat} {a_may : Nat} {a_rest : Nat} {a_way : Nat} {a_p1 : Nat} {v2 : Int32} {c_n : Int32} {c_rain : Int32} {c_ear : Int32} {c_many : Int32} {c_seed : Int32} {c_taped : Int32} {c_from : Int32} {c_to : Int32} {c_token : Int32} {c_value : Int32} {c_imaged : Int32} {c_gravel : (Nat → Int32)} {c_kind : (Nat → Int32)} {c_own : (Nat → Int32)} {c_likely : (Nat → Int32)} {c_p1 : (Nat → Int32)} {x : ((Int32 × (Nat → Int32)) ⊕ (Nat → Int32))} (h : f_R_keep_b25 c_kind c_own c_likely v2 c_p1 = some x)
    (kc : ∀ s', x = .inl s' → kW p l e rm_R_keep s m args below meth c D A 3 (cells_R_keep cI cL cZ a_this a_gravel a_kind a_own a_likely a_tape a_holding a_rowLength a_rowOf a_refusals a_old a_ahead a_cost a_may a_rest a_way a_p1 c_n c_rain c_ear c_many c_seed c_taped c_from c_to c_token c_value c_imaged c_gravel c_kind c_own c_likely s'.2) [(0, .ref a_this), (1, .ref a_p1), (2, .int s'.1)] Q 25 [])
    (k0 : ∀ r, x = .inr r → kW p l e rm_R_keep s m args below meth c D A 3 (cells_R_keep cI cL cZ a_this a_gravel a_kind a_own a_likely a_tape a_holding a_rowLength a_rowOf a_refusals a_old a_ahead a_cost a_may a_rest a_way a_p1 c_n c_rain c_ear c_many c_seed c_taped c_from c_to c_token c_value c_imaged c_gravel c_kind c_own c_likely r) [(0, .ref a_this), (1, .ref a_p1)] Q 73 []) :
    kW p l e rm_R_keep s m args below meth c D A 3 (cells_R_keep cI cL cZ a_this a_gravel a_kind a_own a_likely a_tape a_holding a_rowLength a_rowOf a_refusals a_old a_ahead a_cost a_may a_rest a_way a_p1 c_n c_rain c_ear c_many c_seed c_taped c_from c_to c_token c_value c_imaged c_gravel c_kind c_own c_likely c_p1) [(0, .ref a_this), (1, .ref a_p1), (2, .int v2)] Q 25 [] := by
  unfold f_R_keep_b25 at h
  refine k_iload_n C dX5_keep_25 2 rfl rfl ?_
  refine k_bipush C (v := (8 : Int32)) dX5_keep_26 (by decide) ?_
  refine k_icmp_ge C (tgt := 73) dX5_keep_28 (by decide) (fun c_28 => ?_) (fun c_28 => ?_)
  · have h := ifT c_28 h
    refine k_lv (lv' := [(0, .ref a_this), (1, .ref a_p1)]) [0, 1] rfl ?_
    exact k0 _ (Option.some.inj h).symm
  · have h := ifF c_28 h
    refine k_aload_n C dX5_keep_31 1 rfl rfl ?_
    refine k_bipush C (v := (36 : Int32)) dX5_keep_32 (by decide) ?_
    refine k_iload_n C dX5_keep_34 2 rfl rfl ?_
    refine k_iadd C dX5_keep_35 ?_
    refine k_aload_n C dX5_keep_36 0 rfl rfl ?_
    refine k_get C (C0 := RX5) (T := TX5) (N := 26) (fun w h => List.mem_cons_of_mem _ (us_R w h)) 0 rfl rfl 5 (by decide) (List.mem_cons_of_mem _ wq_586) rfl rfl dX5_keep_37 ?_
    refine k_iload_n C dX5_keep_40 2 rfl rfl ?_
    obtain ⟨x4, hx4, h⟩ := bindE h
    refine k_iald C 2 0 rfl rfl hx4 dX5_keep_41 ?_
    obtain ⟨x5, hx5, h⟩ := bindE h
    refine k_iast C 5 0 (ws' := (cells_R_keep cI cL cZ a_this a_gravel a_kind a_own a_likely a_tape a_holding a_rowLength a_rowOf a_refusals a_old a_ahead a_cost a_may a_rest a_way a_p1 c_n c_rain c_ear c_many c_seed c_taped c_from c_to c_token c_value c_imaged c_gravel c_kind c_own c_likely x5)) rfl rfl hx5 rfl dX5_keep_42 ?_
    refine k_aload_n C dX5_keep_43 1 rfl rfl ?_
    refine k_bipush C (v := (44 : Int32)) dX5_keep_44 (by decide) ?_
    refine k_iload_n C dX5_keep_46 2 rfl rfl ?_
    refine k_iadd C dX5_keep_47 ?_
    refine k_aload_n C dX5_keep_48 0 rfl rfl ?_
    refine k_get C (C0 := RX5) (T := TX5) (N := 26) (fun w h => List.mem_cons_of_mem _ (us_R w h)) 0 rfl rfl 6 (by decide) (List.mem_cons_of_mem _ wq_585) rfl rfl dX5_keep_49 ?_
    refine k_iload_n C dX5_keep_52 2 rfl rfl ?_
    obtain ⟨x6, hx6, h⟩ := bindE h
    refine k_iald C 3 0 rfl rfl hx6 dX5_keep_53 ?_
    obtain ⟨x7, hx7, h⟩ := bindE h
    refine k_iast C 5 0 (ws' := (cells_R_keep cI cL cZ a_this a_gravel a_kind a_own a_likely a_tape a_holding a_rowLength a_rowOf a_refusals a_old a_ahead a_cost a_may a_rest a_way a_p1 c_n c_rain c_ear c_many c_seed c_taped c_from c_to c_token c_value c_imaged c_gravel c_kind c_own c_likely x7)) rfl rfl hx7 rfl dX5_keep_54 ?_
    refine k_aload_n C dX5_keep_55 1 rfl rfl ?_
    refine k_bipush C (v := (52 : Int32)) dX5_keep_56 (by decide) ?_
    refine k_iload_n C dX5_keep_58 2 rfl rfl ?_
    refine k_iadd C dX5_keep_59 ?_
    refine k_aload_n C dX5_keep_60 0 rfl rfl ?_
    refine k_get C (C0 := RX5) (T := TX5) (N := 26) (fun w h => List.mem_cons_of_mem _ (us_R w h)) 0 rfl rfl 7 (by decide) (List.mem_cons_of_mem _ wq_594) rfl rfl dX5_keep_61 ?_
    refine k_iload_n C dX5_keep_64 2 rfl rfl ?_
    obtain ⟨x8, hx8, h⟩ := bindE h
    refine k_iald C 4 0 rfl rfl hx8 dX5_keep_65 ?_
    obtain ⟨x9, hx9, h⟩ := bindE h
    refine k_iast C 5 0 (ws' := (cells_R_keep cI cL cZ a_this a_gravel a_kind a_own a_likely a_tape a_holding a_rowLength a_rowOf a_refusals a_old a_ahead a_cost a_may a_rest a_way a_p1 c_n c_rain c_ear c_many c_seed c_taped c_from c_to c_token c_value c_imaged c_gravel c_kind c_own c_likely x9)) rfl rfl hx9 rfl dX5_keep_66 ?_
    refine k_iinc C (v := (v2 + (1 : Int32))) (lv' := [(2, .int (v2 + (1 : Int32))), (0, .ref a_this), (1, .ref a_p1)]) dX5_keep_67 2 rfl rfl (by decide) rfl ?_
    refine k_goto C (tgt := 25) dX5_keep_70 (by decide) ?_
    refine k_lv (lv' := [(0, .ref a_this), (1, .ref a_p1), (2, .int (v2 + (1 : Int32)))]) [1, 2, 0] rfl ?_
    exact kc _ (Option.some.inj h).symm
set_option maxRecDepth 100000 in
set_option maxHeartbeats 4000000 in
theorem s_R_keep_l25 (C : kC p l e rm_R_keep s m args below meth c D (tyG cI cL cZ) A 3 cX5_keep yX5_keep.cls (Cond.code yX5_keep cX5_keep 3 none :: WS) none) {a_this : Nat} {a_gravel : Nat} {a_kind : Nat} {a_own : Nat} {a_likely : Nat} {a_tape : Nat} {a_holding : Nat} {a_rowLength : Nat} {a_rowOf : Nat} {a_refusals : Nat} {a_old : Nat} {a_ahead : Nat} {a_cost : Nat} {a_may : Nat} {a_rest : Nat} {a_way : Nat} {a_p1 : Nat} {v2 : Int32} {c_n : Int32} {c_rain : Int32} {c_ear : Int32} {c_many : Int32} {c_seed : Int32} {c_taped : Int32} {c_from : Int32} {c_to : Int32} {c_token : Int32} {c_value : Int32} {c_imaged : Int32} {c_gravel : (Nat → Int32)} {c_kind : (Nat → Int32)} {c_own : (Nat → Int32)} {c_likely : (Nat → Int32)} {c_p1 : (Nat → Int32)} {x : (Nat → Int32)} (h : f_R_keep_l25 c_kind c_own c_likely v2 c_p1 = some x)
    (k0 : kW p l e rm_R_keep s m args below meth c D A 3 (cells_R_keep cI cL cZ a_this a_gravel a_kind a_own a_likely a_tape a_holding a_rowLength a_rowOf a_refusals a_old a_ahead a_cost a_may a_rest a_way a_p1 c_n c_rain c_ear c_many c_seed c_taped c_from c_to c_token c_value c_imaged c_gravel c_kind c_own c_likely x) [(0, .ref a_this), (1, .ref a_p1)] Q 73 []) :
    kW p l e rm_R_keep s m args below meth c D A 3 (cells_R_keep cI cL cZ a_this a_gravel a_kind a_own a_likely a_tape a_holding a_rowLength a_rowOf a_refusals a_old a_ahead a_cost a_may a_rest a_way a_p1 c_n c_rain c_ear c_many c_seed c_taped c_from c_to c_token c_value c_imaged c_gravel c_kind c_own c_likely c_p1) [(0, .ref a_this), (1, .ref a_p1), (2, .int v2)] Q 25 [] := by
  unfold f_R_keep_l25 at h
  exact iter_W (body := fun s => f_R_keep_b25 c_kind c_own c_likely s.1 s.2) (r := x) (T := fun sg => kW p l e rm_R_keep s m args below meth c D A 3 (cells_R_keep cI cL cZ a_this a_gravel a_kind a_own a_likely a_tape a_holding a_rowLength a_rowOf a_refusals a_old a_ahead a_cost a_may a_rest a_way a_p1 c_n c_rain c_ear c_many c_seed c_taped c_from c_to c_token c_value c_imaged c_gravel c_kind c_own c_likely sg.2) [(0, .ref a_this), (1, .ref a_p1), (2, .int sg.1)] Q 25 []) (fun sg y hy hc _ hr => s_R_keep_b25 C (v2 := sg.1) (c_n := c_n) (c_rain := c_rain) (c_ear := c_ear) (c_many := c_many) (c_seed := c_seed) (c_taped := c_taped) (c_from := c_from) (c_to := c_to) (c_token := c_token) (c_value := c_value) (c_imaged := c_imaged) (c_gravel := c_gravel) (c_kind := c_kind) (c_own := c_own) (c_likely := c_likely) (c_p1 := sg.2) (x := y) hy hc (fun r e => by rw [hr r e]; exact k0)) FUEL (v2, c_p1) h
set_option maxRecDepth 100000 in
set_option maxHeartbeats 4000000 in
theorem s_R_keep (C : kC p l e rm_R_keep s m args below meth c D (tyG cI cL cZ) A 3 cX5_keep yX5_keep.cls (Cond.code yX5_keep cX5_keep 3 none :: WS) none) {a_this : Nat} {a_gravel : Nat} {a_kind : Nat} {a_own : Nat} {a_likely : Nat} {a_tape : Nat} {a_holding : Nat} {a_rowLength : Nat} {a_rowOf : Nat} {a_refusals : Nat} {a_old : Nat} {a_ahead : Nat} {a_cost : Nat} {a_may : Nat} {a_rest : Nat} {a_way : Nat} {a_p1 : Nat} {c_n : Int32} {c_rain : Int32} {c_ear : Int32} {c_many : Int32} {c_seed : Int32} {c_taped : Int32} {c_from : Int32} {c_to : Int32} {c_token : Int32} {c_value : Int32} {c_imaged : Int32} {c_gravel : (Nat → Int32)} {c_kind : (Nat → Int32)} {c_own : (Nat → Int32)} {c_likely : (Nat → Int32)} {c_p1 : (Nat → Int32)} {x : (Nat → Int32)} (h : f_R_keep c_n c_rain c_ear c_many c_seed c_gravel c_kind c_own c_likely c_p1 = some x) :
    kW p l e rm_R_keep s m args below meth c D A 3 (cells_R_keep cI cL cZ a_this a_gravel a_kind a_own a_likely a_tape a_holding a_rowLength a_rowOf a_refusals a_old a_ahead a_cost a_may a_rest a_way a_p1 c_n c_rain c_ear c_many c_seed c_taped c_from c_to c_token c_value c_imaged c_gravel c_kind c_own c_likely c_p1) [(0, .ref a_this), (1, .ref a_p1)] (MQ below (kQv D A (cells_R_keep cI cL cZ a_this a_gravel a_kind a_own a_likely a_tape a_holding a_rowLength a_rowOf a_refusals a_old a_ahead a_cost a_may a_rest a_way a_p1 c_n c_rain c_ear c_many c_seed c_taped c_from c_to c_token c_value c_imaged c_gravel c_kind c_own c_likely x)) args s 0 0 A) 0 [] := by
  unfold f_R_keep at h
  refine k_iconst C (v := (0 : Int32)) dX5_keep_0 (by decide) ?_
  refine k_istore_n C (lv' := [(2, .int (0 : Int32)), (0, .ref a_this), (1, .ref a_p1)]) dX5_keep_1 rfl (by decide) rfl ?_
  obtain ⟨x3, hx3, h⟩ := bindE h
  refine k_lv (lv' := [(0, .ref a_this), (1, .ref a_p1), (2, .int (0 : Int32))]) [1, 2, 0] rfl ?_
  refine s_R_keep_l2 C hx3 ?_
  refine k_iconst C (v := (0 : Int32)) dX5_keep_23 (by decide) ?_
  refine k_istore_n C (lv' := [(2, .int (0 : Int32)), (0, .ref a_this), (1, .ref a_p1)]) dX5_keep_24 rfl (by decide) rfl ?_
  obtain ⟨x10, hx10, h⟩ := bindE h
  refine k_lv (lv' := [(0, .ref a_this), (1, .ref a_p1), (2, .int (0 : Int32))]) [1, 2, 0] rfl ?_
  refine s_R_keep_l25 C hx10 ?_
  refine k_aload_n C dX5_keep_73 1 rfl rfl ?_
  refine k_bipush C (v := (60 : Int32)) dX5_keep_74 (by decide) ?_
  refine k_aload_n C dX5_keep_76 0 rfl rfl ?_
  refine k_get C (C0 := RX5) (T := TX5) (N := 26) (fun w h => List.mem_cons_of_mem _ (us_R w h)) 0 rfl rfl 0 (by decide) (List.mem_cons_of_mem _ wq_552) rfl rfl dX5_keep_77 ?_
  obtain ⟨x11, hx11, h⟩ := bindE h
  refine k_iast C 5 0 (ws' := (cells_R_keep cI cL cZ a_this a_gravel a_kind a_own a_likely a_tape a_holding a_rowLength a_rowOf a_refusals a_old a_ahead a_cost a_may a_rest a_way a_p1 c_n c_rain c_ear c_many c_seed c_taped c_from c_to c_token c_value c_imaged c_gravel c_kind c_own c_likely x11)) rfl rfl hx11 rfl dX5_keep_80 ?_
  refine k_aload_n C dX5_keep_81 1 rfl rfl ?_
  refine k_bipush C (v := (61 : Int32)) dX5_keep_82 (by decide) ?_
  refine k_aload_n C dX5_keep_84 0 rfl rfl ?_
  refine k_get C (C0 := RX5) (T := TX5) (N := 26) (fun w h => List.mem_cons_of_mem _ (us_R w h)) 0 rfl rfl 2 (by decide) (List.mem_cons_of_mem _ wq_579) rfl rfl dX5_keep_85 ?_
  obtain ⟨x12, hx12, h⟩ := bindE h
  refine k_iast C 5 0 (ws' := (cells_R_keep cI cL cZ a_this a_gravel a_kind a_own a_likely a_tape a_holding a_rowLength a_rowOf a_refusals a_old a_ahead a_cost a_may a_rest a_way a_p1 c_n c_rain c_ear c_many c_seed c_taped c_from c_to c_token c_value c_imaged c_gravel c_kind c_own c_likely x12)) rfl rfl hx12 rfl dX5_keep_88 ?_
  refine k_aload_n C dX5_keep_89 1 rfl rfl ?_
  refine k_bipush C (v := (62 : Int32)) dX5_keep_90 (by decide) ?_
  refine k_aload_n C dX5_keep_92 0 rfl rfl ?_
  refine k_get C (C0 := RX5) (T := TX5) (N := 26) (fun w h => List.mem_cons_of_mem _ (us_R w h)) 0 rfl rfl 3 (by decide) (List.mem_cons_of_mem _ wq_603) rfl rfl dX5_keep_93 ?_
  obtain ⟨x13, hx13, h⟩ := bindE h
  refine k_iast C 5 0 (ws' := (cells_R_keep cI cL cZ a_this a_gravel a_kind a_own a_likely a_tape a_holding a_rowLength a_rowOf a_refusals a_old a_ahead a_cost a_may a_rest a_way a_p1 c_n c_rain c_ear c_many c_seed c_taped c_from c_to c_token c_value c_imaged c_gravel c_kind c_own c_likely x13)) rfl rfl hx13 rfl dX5_keep_96 ?_
  refine k_aload_n C dX5_keep_97 1 rfl rfl ?_
  refine k_bipush C (v := (63 : Int32)) dX5_keep_98 (by decide) ?_
  refine k_aload_n C dX5_keep_100 0 rfl rfl ?_
  refine k_get C (C0 := RX5) (T := TX5) (N := 26) (fun w h => List.mem_cons_of_mem _ (us_R w h)) 0 rfl rfl 4 (by decide) (List.mem_cons_of_mem _ wq_547) rfl rfl dX5_keep_101 ?_
  obtain ⟨x14, hx14, h⟩ := bindE h
  refine k_iast C 5 0 (ws' := (cells_R_keep cI cL cZ a_this a_gravel a_kind a_own a_likely a_tape a_holding a_rowLength a_rowOf a_refusals a_old a_ahead a_cost a_may a_rest a_way a_p1 c_n c_rain c_ear c_many c_seed c_taped c_from c_to c_token c_value c_imaged c_gravel c_kind c_own c_likely x14)) rfl rfl hx14 rfl dX5_keep_104 ?_
  refine k_aload_n C dX5_keep_105 1 rfl rfl ?_
  refine k_bipush C (v := (64 : Int32)) dX5_keep_106 (by decide) ?_
  refine k_aload_n C dX5_keep_108 0 rfl rfl ?_
  refine k_get C (C0 := RX5) (T := TX5) (N := 26) (fun w h => List.mem_cons_of_mem _ (us_R w h)) 0 rfl rfl 8 (by decide) (List.mem_cons_of_mem _ wq_638) rfl rfl dX5_keep_109 ?_
  obtain ⟨x15, hx15, h⟩ := bindE h
  refine k_iast C 5 0 (ws' := (cells_R_keep cI cL cZ a_this a_gravel a_kind a_own a_likely a_tape a_holding a_rowLength a_rowOf a_refusals a_old a_ahead a_cost a_may a_rest a_way a_p1 c_n c_rain c_ear c_many c_seed c_taped c_from c_to c_token c_value c_imaged c_gravel c_kind c_own c_likely x15)) rfl rfl hx15 rfl dX5_keep_112 ?_
  obtain rfl := Option.some.inj h
  exact kret_v C rfl dX5_keep_113
theorem c_R_keep (l : Launch) (D : va_G) (cI : ClassId) (cL : ClassId) (cZ : ClassId) (sz : Nat) (a_this : Nat) (a_gravel : Nat) (a_kind : Nat) (a_own : Nat) (a_likely : Nat) (a_tape : Nat) (a_holding : Nat) (a_rowLength : Nat) (a_rowOf : Nat) (a_refusals : Nat) (a_old : Nat) (a_ahead : Nat) (a_cost : Nat) (a_may : Nat) (a_rest : Nat) (a_way : Nat) (a_p1 : Nat) (c_n : Int32) (c_rain : Int32) (c_ear : Int32) (c_many : Int32) (c_seed : Int32) (c_taped : Int32) (c_from : Int32) (c_to : Int32) (c_token : Int32) (c_value : Int32) (c_imaged : Int32) (c_gravel : (Nat → Int32)) (c_kind : (Nat → Int32)) (c_own : (Nat → Int32)) (c_likely : (Nat → Int32)) (c_p1 : (Nat → Int32)) (x : (Nat → Int32)) (h : f_R_keep c_n c_rain c_ear c_many c_seed c_gravel c_kind c_own c_likely c_p1 = some x) :
    Met l yX5_keep (Cond.code yX5_keep cX5_keep 3 none :: WS) rm_R_keep (kP D (tyG cI cL cZ) kTrue [.ref a_this, .ref a_p1] sz (cells_R_keep cI cL cZ a_this a_gravel a_kind a_own a_likely a_tape a_holding a_rowLength a_rowOf a_refusals a_old a_ahead a_cost a_may a_rest a_way a_p1 c_n c_rain c_ear c_many c_seed c_taped c_from c_to c_token c_value c_imaged c_gravel c_kind c_own c_likely c_p1)) (kQv D (va_A (cells_R_keep cI cL cZ a_this a_gravel a_kind a_own a_likely a_tape a_holding a_rowLength a_rowOf a_refusals a_old a_ahead a_cost a_may a_rest a_way a_p1 c_n c_rain c_ear c_many c_seed c_taped c_from c_to c_token c_value c_imaged c_gravel c_kind c_own c_likely c_p1) sz) (cells_R_keep cI cL cZ a_this a_gravel a_kind a_own a_likely a_tape a_holding a_rowLength a_rowOf a_refusals a_old a_ahead a_cost a_may a_rest a_way a_p1 c_n c_rain c_ear c_many c_seed c_taped c_from c_to c_token c_value c_imaged c_gravel c_kind c_own c_likely x)) 0 0 (va_A (cells_R_keep cI cL cZ a_this a_gravel a_kind a_own a_likely a_tape a_holding a_rowLength a_rowOf a_refusals a_old a_ahead a_cost a_may a_rest a_way a_p1 c_n c_rain c_ear c_many c_seed c_taped c_from c_to c_token c_value c_imaged c_gravel c_kind c_own c_likely c_p1) sz) :=
  kmet (by decide) (Nat.le_of_ble_eq_true rfl) rfl (fun p e s m below meth c C hE => s_R_keep C h)
abbrev cells_R_again (cI : ClassId) (cL : ClassId) (cZ : ClassId) (a_this : Nat) (a_gravel : Nat) (a_kind : Nat) (a_own : Nat) (a_likely : Nat) (a_tape : Nat) (a_holding : Nat) (a_rowLength : Nat) (a_rowOf : Nat) (a_refusals : Nat) (a_old : Nat) (a_ahead : Nat) (a_cost : Nat) (a_may : Nat) (a_rest : Nat) (a_way : Nat) (a_p1 : Nat) (c_n : Int32) (c_rain : Int32) (c_ear : Int32) (c_many : Int32) (c_seed : Int32) (c_taped : Int32) (c_from : Int32) (c_to : Int32) (c_token : Int32) (c_value : Int32) (c_imaged : Int32) (c_gravel : (Nat → Int32)) (c_kind : (Nat → Int32)) (c_own : (Nat → Int32)) (c_likely : (Nat → Int32)) (c_p1 : (Nat → Int32)) : va_W := [(a_this, .inr (5, [.int c_n, .ref a_gravel, .int c_rain, .int c_ear, .int c_many, .ref a_kind, .ref a_own, .ref a_likely, .int c_seed, .int c_taped, .ref a_tape, .int c_from, .int c_to, .int c_token, .int c_value, .ref a_holding, .ref a_rowLength, .ref a_rowOf, .ref a_refusals, .int c_imaged, .ref a_old, .ref a_ahead, .ref a_cost, .ref a_may, .ref a_rest, .ref a_way])), (a_gravel, .inl (cI, 36, .inl c_gravel)), (a_kind, .inl (cI, 8, .inl c_kind)), (a_own, .inl (cI, 8, .inl c_own)), (a_likely, .inl (cI, 8, .inl c_likely)), (a_p1, .inl (cI, 65, .inl c_p1))]
abbrev rm_R_again : Room := { frames := 0, cells := 0, slots := 0, locals := 0 }
set_option maxRecDepth 100000 in
set_option maxHeartbeats 4000000 in
theorem s_R_again_b2 (C : kC p l e rm_R_again s m args below meth c D (tyG cI cL cZ) A 3 cX5_again yX5_again.cls (Cond.code yX5_again cX5_again 3 none :: WS) none) {a_this : Nat} {a_gravel : Nat} {a_kind : Nat} {a_own : Nat} {a_likely : Nat} {a_tape : Nat} {a_holding : Nat} {a_rowLength : Nat} {a_rowOf : Nat} {a_refusals : Nat} {a_old : Nat} {a_ahead : Nat} {a_cost : Nat} {a_may : Nat} {a_rest : Nat} {a_way : Nat} {a_p1 : Nat} {v2 : Int32} {c_n : Int32} {c_rain : Int32} {c_ear : Int32} {c_many : Int32} {c_seed : Int32} {c_taped : Int32} {c_from : Int32} {c_to : Int32} {c_token : Int32} {c_value : Int32} {c_imaged : Int32} {c_gravel : (Nat → Int32)} {c_kind : (Nat → Int32)} {c_own : (Nat → Int32)} {c_likely : (Nat → Int32)} {c_p1 : (Nat → Int32)} {x : ((Int32 × (Nat → Int32)) ⊕ (Nat → Int32))} (h : f_R_again_b2 c_p1 v2 c_gravel = some x)
    (kc : ∀ s', x = .inl s' → kW p l e rm_R_again s m args below meth c D A 3 (cells_R_again cI cL cZ a_this a_gravel a_kind a_own a_likely a_tape a_holding a_rowLength a_rowOf a_refusals a_old a_ahead a_cost a_may a_rest a_way a_p1 c_n c_rain c_ear c_many c_seed c_taped c_from c_to c_token c_value c_imaged s'.2 c_kind c_own c_likely c_p1) [(0, .ref a_this), (1, .ref a_p1), (2, .int s'.1)] Q 2 [])
    (k0 : ∀ r, x = .inr r → kW p l e rm_R_again s m args below meth c D A 3 (cells_R_again cI cL cZ a_this a_gravel a_kind a_own a_likely a_tape a_holding a_rowLength a_rowOf a_refusals a_old a_ahead a_cost a_may a_rest a_way a_p1 c_n c_rain c_ear c_many c_seed c_taped c_from c_to c_token c_value c_imaged r c_kind c_own c_likely c_p1) [(0, .ref a_this), (1, .ref a_p1)] Q 23 []) :
    kW p l e rm_R_again s m args below meth c D A 3 (cells_R_again cI cL cZ a_this a_gravel a_kind a_own a_likely a_tape a_holding a_rowLength a_rowOf a_refusals a_old a_ahead a_cost a_may a_rest a_way a_p1 c_n c_rain c_ear c_many c_seed c_taped c_from c_to c_token c_value c_imaged c_gravel c_kind c_own c_likely c_p1) [(0, .ref a_this), (1, .ref a_p1), (2, .int v2)] Q 2 [] := by
  unfold f_R_again_b2 at h
  refine k_iload_n C dX5_again_2 2 rfl rfl ?_
  refine k_bipush C (v := (36 : Int32)) dX5_again_3 (by decide) ?_
  refine k_icmp_ge C (tgt := 23) dX5_again_5 (by decide) (fun c_5 => ?_) (fun c_5 => ?_)
  · have h := ifT c_5 h
    refine k_lv (lv' := [(0, .ref a_this), (1, .ref a_p1)]) [0, 1] rfl ?_
    exact k0 _ (Option.some.inj h).symm
  · have h := ifF c_5 h
    refine k_aload_n C dX5_again_8 0 rfl rfl ?_
    refine k_get C (C0 := RX5) (T := TX5) (N := 26) (fun w h => List.mem_cons_of_mem _ (us_R w h)) 0 rfl rfl 1 (by decide) (List.mem_cons_of_mem _ wq_578) rfl rfl dX5_again_9 ?_
    refine k_iload_n C dX5_again_12 2 rfl rfl ?_
    refine k_aload_n C dX5_again_13 1 rfl rfl ?_
    refine k_iload_n C dX5_again_14 2 rfl rfl ?_
    obtain ⟨x1, hx1, h⟩ := bindE h
    refine k_iald C 5 0 rfl rfl hx1 dX5_again_15 ?_
    obtain ⟨x2, hx2, h⟩ := bindE h
    refine k_iast C 1 0 (ws' := (cells_R_again cI cL cZ a_this a_gravel a_kind a_own a_likely a_tape a_holding a_rowLength a_rowOf a_refusals a_old a_ahead a_cost a_may a_rest a_way a_p1 c_n c_rain c_ear c_many c_seed c_taped c_from c_to c_token c_value c_imaged x2 c_kind c_own c_likely c_p1)) rfl rfl hx2 rfl dX5_again_16 ?_
    refine k_iinc C (v := (v2 + (1 : Int32))) (lv' := [(2, .int (v2 + (1 : Int32))), (0, .ref a_this), (1, .ref a_p1)]) dX5_again_17 2 rfl rfl (by decide) rfl ?_
    refine k_goto C (tgt := 2) dX5_again_20 (by decide) ?_
    refine k_lv (lv' := [(0, .ref a_this), (1, .ref a_p1), (2, .int (v2 + (1 : Int32)))]) [1, 2, 0] rfl ?_
    exact kc _ (Option.some.inj h).symm
set_option maxRecDepth 100000 in
set_option maxHeartbeats 4000000 in
theorem s_R_again_l2 (C : kC p l e rm_R_again s m args below meth c D (tyG cI cL cZ) A 3 cX5_again yX5_again.cls (Cond.code yX5_again cX5_again 3 none :: WS) none) {a_this : Nat} {a_gravel : Nat} {a_kind : Nat} {a_own : Nat} {a_likely : Nat} {a_tape : Nat} {a_holding : Nat} {a_rowLength : Nat} {a_rowOf : Nat} {a_refusals : Nat} {a_old : Nat} {a_ahead : Nat} {a_cost : Nat} {a_may : Nat} {a_rest : Nat} {a_way : Nat} {a_p1 : Nat} {v2 : Int32} {c_n : Int32} {c_rain : Int32} {c_ear : Int32} {c_many : Int32} {c_seed : Int32} {c_taped : Int32} {c_from : Int32} {c_to : Int32} {c_token : Int32} {c_value : Int32} {c_imaged : Int32} {c_gravel : (Nat → Int32)} {c_kind : (Nat → Int32)} {c_own : (Nat → Int32)} {c_likely : (Nat → Int32)} {c_p1 : (Nat → Int32)} {x : (Nat → Int32)} (h : f_R_again_l2 c_p1 v2 c_gravel = some x)
    (k0 : kW p l e rm_R_again s m args below meth c D A 3 (cells_R_again cI cL cZ a_this a_gravel a_kind a_own a_likely a_tape a_holding a_rowLength a_rowOf a_refusals a_old a_ahead a_cost a_may a_rest a_way a_p1 c_n c_rain c_ear c_many c_seed c_taped c_from c_to c_token c_value c_imaged x c_kind c_own c_likely c_p1) [(0, .ref a_this), (1, .ref a_p1)] Q 23 []) :
    kW p l e rm_R_again s m args below meth c D A 3 (cells_R_again cI cL cZ a_this a_gravel a_kind a_own a_likely a_tape a_holding a_rowLength a_rowOf a_refusals a_old a_ahead a_cost a_may a_rest a_way a_p1 c_n c_rain c_ear c_many c_seed c_taped c_from c_to c_token c_value c_imaged c_gravel c_kind c_own c_likely c_p1) [(0, .ref a_this), (1, .ref a_p1), (2, .int v2)] Q 2 [] := by
  unfold f_R_again_l2 at h
  exact iter_W (body := fun s => f_R_again_b2 c_p1 s.1 s.2) (r := x) (T := fun sg => kW p l e rm_R_again s m args below meth c D A 3 (cells_R_again cI cL cZ a_this a_gravel a_kind a_own a_likely a_tape a_holding a_rowLength a_rowOf a_refusals a_old a_ahead a_cost a_may a_rest a_way a_p1 c_n c_rain c_ear c_many c_seed c_taped c_from c_to c_token c_value c_imaged sg.2 c_kind c_own c_likely c_p1) [(0, .ref a_this), (1, .ref a_p1), (2, .int sg.1)] Q 2 []) (fun sg y hy hc _ hr => s_R_again_b2 C (v2 := sg.1) (c_n := c_n) (c_rain := c_rain) (c_ear := c_ear) (c_many := c_many) (c_seed := c_seed) (c_taped := c_taped) (c_from := c_from) (c_to := c_to) (c_token := c_token) (c_value := c_value) (c_imaged := c_imaged) (c_gravel := sg.2) (c_kind := c_kind) (c_own := c_own) (c_likely := c_likely) (c_p1 := c_p1) (x := y) hy hc (fun r e => by rw [hr r e]; exact k0)) FUEL (v2, c_gravel) h
set_option maxRecDepth 100000 in
set_option maxHeartbeats 4000000 in
theorem s_R_again_b25 (C : kC p l e rm_R_again s m args below meth c D (tyG cI cL cZ) A 3 cX5_again yX5_again.cls (Cond.code yX5_again cX5_again 3 none :: WS) none) {a_this : Nat} {a_gravel : Nat} {a_kind : Nat} {a_own : Nat} {a_likely : Nat} {a_tape : Nat} {a_holding : Nat} {a_rowLength : Nat} {a_rowOf : Nat} {a_refusals : Nat} {a_old : Nat} {a_ahead : Nat} {a_cost : Nat} {a_may : Nat} {a_rest : Nat} {a_way : Nat} {a_p1 : Nat} {v2 : Int32} {c_n : Int32} {c_rain : Int32} {c_ear : Int32} {c_many : Int32} {c_seed : Int32} {c_taped : Int32} {c_from : Int32} {c_to : Int32} {c_token : Int32} {c_value : Int32} {c_imaged : Int32} {c_gravel : (Nat → Int32)} {c_kind : (Nat → Int32)} {c_own : (Nat → Int32)} {c_likely : (Nat → Int32)} {c_p1 : (Nat → Int32)} {x : ((Int32 × (Nat → Int32) × (Nat → Int32) × (Nat → Int32)) ⊕ ((Nat → Int32) × (Nat → Int32) × (Nat → Int32)))} (h : f_R_again_b25 c_p1 v2 c_kind c_own c_likely = some x)
    (kc : ∀ s', x = .inl s' → kW p l e rm_R_again s m args below meth c D A 3 (cells_R_again cI cL cZ a_this a_gravel a_kind a_own a_likely a_tape a_holding a_rowLength a_rowOf a_refusals a_old a_ahead a_cost a_may a_rest a_way a_p1 c_n c_rain c_ear c_many c_seed c_taped c_from c_to c_token c_value c_imaged c_gravel s'.2.1 s'.2.2.1 s'.2.2.2 c_p1) [(0, .ref a_this), (1, .ref a_p1), (2, .int s'.1)] Q 25 [])
    (k0 : ∀ r, x = .inr r → kW p l e rm_R_again s m args below meth c D A 3 (cells_R_again cI cL cZ a_this a_gravel a_kind a_own a_likely a_tape a_holding a_rowLength a_rowOf a_refusals a_old a_ahead a_cost a_may a_rest a_way a_p1 c_n c_rain c_ear c_many c_seed c_taped c_from c_to c_token c_value c_imaged c_gravel r.1 r.2.1 r.2.2 c_p1) [(0, .ref a_this), (1, .ref a_p1)] Q 73 []) :
    kW p l e rm_R_again s m args below meth c D A 3 (cells_R_again cI cL cZ a_this a_gravel a_kind a_own a_likely a_tape a_holding a_rowLength a_rowOf a_refusals a_old a_ahead a_cost a_may a_rest a_way a_p1 c_n c_rain c_ear c_many c_seed c_taped c_from c_to c_token c_value c_imaged c_gravel c_kind c_own c_likely c_p1) [(0, .ref a_this), (1, .ref a_p1), (2, .int v2)] Q 25 [] := by
  unfold f_R_again_b25 at h
  refine k_iload_n C dX5_again_25 2 rfl rfl ?_
  refine k_bipush C (v := (8 : Int32)) dX5_again_26 (by decide) ?_
  refine k_icmp_ge C (tgt := 73) dX5_again_28 (by decide) (fun c_28 => ?_) (fun c_28 => ?_)
  · have h := ifT c_28 h
    refine k_lv (lv' := [(0, .ref a_this), (1, .ref a_p1)]) [0, 1] rfl ?_
    exact k0 _ (Option.some.inj h).symm
  · have h := ifF c_28 h
    refine k_aload_n C dX5_again_31 0 rfl rfl ?_
    refine k_get C (C0 := RX5) (T := TX5) (N := 26) (fun w h => List.mem_cons_of_mem _ (us_R w h)) 0 rfl rfl 5 (by decide) (List.mem_cons_of_mem _ wq_586) rfl rfl dX5_again_32 ?_
    refine k_iload_n C dX5_again_35 2 rfl rfl ?_
    refine k_aload_n C dX5_again_36 1 rfl rfl ?_
    refine k_bipush C (v := (36 : Int32)) dX5_again_37 (by decide) ?_
    refine k_iload_n C dX5_again_39 2 rfl rfl ?_
    refine k_iadd C dX5_again_40 ?_
    obtain ⟨x4, hx4, h⟩ := bindE h
    refine k_iald C 5 0 rfl rfl hx4 dX5_again_41 ?_
    obtain ⟨x5, hx5, h⟩ := bindE h
    refine k_iast C 2 0 (ws' := (cells_R_again cI cL cZ a_this a_gravel a_kind a_own a_likely a_tape a_holding a_rowLength a_rowOf a_refusals a_old a_ahead a_cost a_may a_rest a_way a_p1 c_n c_rain c_ear c_many c_seed c_taped c_from c_to c_token c_value c_imaged c_gravel x5 c_own c_likely c_p1)) rfl rfl hx5 rfl dX5_again_42 ?_
    refine k_aload_n C dX5_again_43 0 rfl rfl ?_
    refine k_get C (C0 := RX5) (T := TX5) (N := 26) (fun w h => List.mem_cons_of_mem _ (us_R w h)) 0 rfl rfl 6 (by decide) (List.mem_cons_of_mem _ wq_585) rfl rfl dX5_again_44 ?_
    refine k_iload_n C dX5_again_47 2 rfl rfl ?_
    refine k_aload_n C dX5_again_48 1 rfl rfl ?_
    refine k_bipush C (v := (44 : Int32)) dX5_again_49 (by decide) ?_
    refine k_iload_n C dX5_again_51 2 rfl rfl ?_
    refine k_iadd C dX5_again_52 ?_
    obtain ⟨x6, hx6, h⟩ := bindE h
    refine k_iald C 5 0 rfl rfl hx6 dX5_again_53 ?_
    obtain ⟨x7, hx7, h⟩ := bindE h
    refine k_iast C 3 0 (ws' := (cells_R_again cI cL cZ a_this a_gravel a_kind a_own a_likely a_tape a_holding a_rowLength a_rowOf a_refusals a_old a_ahead a_cost a_may a_rest a_way a_p1 c_n c_rain c_ear c_many c_seed c_taped c_from c_to c_token c_value c_imaged c_gravel x5 x7 c_likely c_p1)) rfl rfl hx7 rfl dX5_again_54 ?_
    refine k_aload_n C dX5_again_55 0 rfl rfl ?_
    refine k_get C (C0 := RX5) (T := TX5) (N := 26) (fun w h => List.mem_cons_of_mem _ (us_R w h)) 0 rfl rfl 7 (by decide) (List.mem_cons_of_mem _ wq_594) rfl rfl dX5_again_56 ?_
    refine k_iload_n C dX5_again_59 2 rfl rfl ?_
    refine k_aload_n C dX5_again_60 1 rfl rfl ?_
    refine k_bipush C (v := (52 : Int32)) dX5_again_61 (by decide) ?_
    refine k_iload_n C dX5_again_63 2 rfl rfl ?_
    refine k_iadd C dX5_again_64 ?_
    obtain ⟨x8, hx8, h⟩ := bindE h
    refine k_iald C 5 0 rfl rfl hx8 dX5_again_65 ?_
    obtain ⟨x9, hx9, h⟩ := bindE h
    refine k_iast C 4 0 (ws' := (cells_R_again cI cL cZ a_this a_gravel a_kind a_own a_likely a_tape a_holding a_rowLength a_rowOf a_refusals a_old a_ahead a_cost a_may a_rest a_way a_p1 c_n c_rain c_ear c_many c_seed c_taped c_from c_to c_token c_value c_imaged c_gravel x5 x7 x9 c_p1)) rfl rfl hx9 rfl dX5_again_66 ?_
    refine k_iinc C (v := (v2 + (1 : Int32))) (lv' := [(2, .int (v2 + (1 : Int32))), (0, .ref a_this), (1, .ref a_p1)]) dX5_again_67 2 rfl rfl (by decide) rfl ?_
    refine k_goto C (tgt := 25) dX5_again_70 (by decide) ?_
    refine k_lv (lv' := [(0, .ref a_this), (1, .ref a_p1), (2, .int (v2 + (1 : Int32)))]) [1, 2, 0] rfl ?_
    exact kc _ (Option.some.inj h).symm
set_option maxRecDepth 100000 in
set_option maxHeartbeats 4000000 in
theorem s_R_again_l25 (C : kC p l e rm_R_again s m args below meth c D (tyG cI cL cZ) A 3 cX5_again yX5_again.cls (Cond.code yX5_again cX5_again 3 none :: WS) none) {a_this : Nat} {a_gravel : Nat} {a_kind : Nat} {a_own : Nat} {a_likely : Nat} {a_tape : Nat} {a_holding : Nat} {a_rowLength : Nat} {a_rowOf : Nat} {a_refusals : Nat} {a_old : Nat} {a_ahead : Nat} {a_cost : Nat} {a_may : Nat} {a_rest : Nat} {a_way : Nat} {a_p1 : Nat} {v2 : Int32} {c_n : Int32} {c_rain : Int32} {c_ear : Int32} {c_many : Int32} {c_seed : Int32} {c_taped : Int32} {c_from : Int32} {c_to : Int32} {c_token : Int32} {c_value : Int32} {c_imaged : Int32} {c_gravel : (Nat → Int32)} {c_kind : (Nat → Int32)} {c_own : (Nat → Int32)} {c_likely : (Nat → Int32)} {c_p1 : (Nat → Int32)} {x : ((Nat → Int32) × (Nat → Int32) × (Nat → Int32))} (h : f_R_again_l25 c_p1 v2 c_kind c_own c_likely = some x)
    (k0 : kW p l e rm_R_again s m args below meth c D A 3 (cells_R_again cI cL cZ a_this a_gravel a_kind a_own a_likely a_tape a_holding a_rowLength a_rowOf a_refusals a_old a_ahead a_cost a_may a_rest a_way a_p1 c_n c_rain c_ear c_many c_seed c_taped c_from c_to c_token c_value c_imaged c_gravel x.1 x.2.1 x.2.2 c_p1) [(0, .ref a_this), (1, .ref a_p1)] Q 73 []) :
    kW p l e rm_R_again s m args below meth c D A 3 (cells_R_again cI cL cZ a_this a_gravel a_kind a_own a_likely a_tape a_holding a_rowLength a_rowOf a_refusals a_old a_ahead a_cost a_may a_rest a_way a_p1 c_n c_rain c_ear c_many c_seed c_taped c_from c_to c_token c_value c_imaged c_gravel c_kind c_own c_likely c_p1) [(0, .ref a_this), (1, .ref a_p1), (2, .int v2)] Q 25 [] := by
  unfold f_R_again_l25 at h
  exact iter_W (body := fun s => f_R_again_b25 c_p1 s.1 s.2.1 s.2.2.1 s.2.2.2) (r := x) (T := fun sg => kW p l e rm_R_again s m args below meth c D A 3 (cells_R_again cI cL cZ a_this a_gravel a_kind a_own a_likely a_tape a_holding a_rowLength a_rowOf a_refusals a_old a_ahead a_cost a_may a_rest a_way a_p1 c_n c_rain c_ear c_many c_seed c_taped c_from c_to c_token c_value c_imaged c_gravel sg.2.1 sg.2.2.1 sg.2.2.2 c_p1) [(0, .ref a_this), (1, .ref a_p1), (2, .int sg.1)] Q 25 []) (fun sg y hy hc _ hr => s_R_again_b25 C (v2 := sg.1) (c_n := c_n) (c_rain := c_rain) (c_ear := c_ear) (c_many := c_many) (c_seed := c_seed) (c_taped := c_taped) (c_from := c_from) (c_to := c_to) (c_token := c_token) (c_value := c_value) (c_imaged := c_imaged) (c_gravel := c_gravel) (c_kind := sg.2.1) (c_own := sg.2.2.1) (c_likely := sg.2.2.2) (c_p1 := c_p1) (x := y) hy hc (fun r e => by rw [hr r e]; exact k0)) FUEL (v2, c_kind, c_own, c_likely) h
set_option maxRecDepth 100000 in
set_option maxHeartbeats 4000000 in
theorem s_R_again (C : kC p l e rm_R_again s m args below meth c D (tyG cI cL cZ) A 3 cX5_again yX5_again.cls (Cond.code yX5_again cX5_again 3 none :: WS) none) {a_this : Nat} {a_gravel : Nat} {a_kind : Nat} {a_own : Nat} {a_likely : Nat} {a_tape : Nat} {a_holding : Nat} {a_rowLength : Nat} {a_rowOf : Nat} {a_refusals : Nat} {a_old : Nat} {a_ahead : Nat} {a_cost : Nat} {a_may : Nat} {a_rest : Nat} {a_way : Nat} {a_p1 : Nat} {c_n : Int32} {c_rain : Int32} {c_ear : Int32} {c_many : Int32} {c_seed : Int32} {c_taped : Int32} {c_from : Int32} {c_to : Int32} {c_token : Int32} {c_value : Int32} {c_imaged : Int32} {c_gravel : (Nat → Int32)} {c_kind : (Nat → Int32)} {c_own : (Nat → Int32)} {c_likely : (Nat → Int32)} {c_p1 : (Nat → Int32)} {x : (Int32 × Int32 × Int32 × Int32 × Int32 × (Nat → Int32) × (Nat → Int32) × (Nat → Int32) × (Nat → Int32))} (h : f_R_again c_n c_rain c_ear c_many c_seed c_gravel c_kind c_own c_likely c_p1 = some x) :
    kW p l e rm_R_again s m args below meth c D A 3 (cells_R_again cI cL cZ a_this a_gravel a_kind a_own a_likely a_tape a_holding a_rowLength a_rowOf a_refusals a_old a_ahead a_cost a_may a_rest a_way a_p1 c_n c_rain c_ear c_many c_seed c_taped c_from c_to c_token c_value c_imaged c_gravel c_kind c_own c_likely c_p1) [(0, .ref a_this), (1, .ref a_p1)] (MQ below (kQv D A (cells_R_again cI cL cZ a_this a_gravel a_kind a_own a_likely a_tape a_holding a_rowLength a_rowOf a_refusals a_old a_ahead a_cost a_may a_rest a_way a_p1 x.1 x.2.1 x.2.2.1 x.2.2.2.1 x.2.2.2.2.1 c_taped c_from c_to c_token c_value c_imaged x.2.2.2.2.2.1 x.2.2.2.2.2.2.1 x.2.2.2.2.2.2.2.1 x.2.2.2.2.2.2.2.2 c_p1)) args s 0 0 A) 0 [] := by
  unfold f_R_again at h
  refine k_iconst C (v := (0 : Int32)) dX5_again_0 (by decide) ?_
  refine k_istore_n C (lv' := [(2, .int (0 : Int32)), (0, .ref a_this), (1, .ref a_p1)]) dX5_again_1 rfl (by decide) rfl ?_
  obtain ⟨x3, hx3, h⟩ := bindE h
  refine k_lv (lv' := [(0, .ref a_this), (1, .ref a_p1), (2, .int (0 : Int32))]) [1, 2, 0] rfl ?_
  refine s_R_again_l2 C hx3 ?_
  refine k_iconst C (v := (0 : Int32)) dX5_again_23 (by decide) ?_
  refine k_istore_n C (lv' := [(2, .int (0 : Int32)), (0, .ref a_this), (1, .ref a_p1)]) dX5_again_24 rfl (by decide) rfl ?_
  obtain ⟨x10, hx10, h⟩ := bindE h
  refine k_lv (lv' := [(0, .ref a_this), (1, .ref a_p1), (2, .int (0 : Int32))]) [1, 2, 0] rfl ?_
  refine s_R_again_l25 C hx10 ?_
  refine k_aload_n C dX5_again_73 0 rfl rfl ?_
  refine k_aload_n C dX5_again_74 1 rfl rfl ?_
  refine k_bipush C (v := (60 : Int32)) dX5_again_75 (by decide) ?_
  obtain ⟨x11, hx11, h⟩ := bindE h
  refine k_iald C 5 0 rfl rfl hx11 dX5_again_77 ?_
  refine k_put C (C0 := RX5) (T := TX5) (N := 26) (ws' := (cells_R_again cI cL cZ a_this a_gravel a_kind a_own a_likely a_tape a_holding a_rowLength a_rowOf a_refusals a_old a_ahead a_cost a_may a_rest a_way a_p1 x11 c_rain c_ear c_many c_seed c_taped c_from c_to c_token c_value c_imaged x3 x10.1 x10.2.1 x10.2.2 c_p1)) (fun w h => List.mem_cons_of_mem _ (us_R w h)) tyX5 tyX5_ok nmX5 0 rfl rfl 0 (by decide) (List.mem_cons_of_mem _ wq_552) rfl rfl (tyX5_ok 0 (by decide)) rfl rfl (Nat.le_of_ble_eq_true rfl) rfl dX5_again_78 ?_
  refine k_aload_n C dX5_again_81 0 rfl rfl ?_
  refine k_aload_n C dX5_again_82 1 rfl rfl ?_
  refine k_bipush C (v := (61 : Int32)) dX5_again_83 (by decide) ?_
  obtain ⟨x12, hx12, h⟩ := bindE h
  refine k_iald C 5 0 rfl rfl hx12 dX5_again_85 ?_
  refine k_put C (C0 := RX5) (T := TX5) (N := 26) (ws' := (cells_R_again cI cL cZ a_this a_gravel a_kind a_own a_likely a_tape a_holding a_rowLength a_rowOf a_refusals a_old a_ahead a_cost a_may a_rest a_way a_p1 x11 x12 c_ear c_many c_seed c_taped c_from c_to c_token c_value c_imaged x3 x10.1 x10.2.1 x10.2.2 c_p1)) (fun w h => List.mem_cons_of_mem _ (us_R w h)) tyX5 tyX5_ok nmX5 0 rfl rfl 2 (by decide) (List.mem_cons_of_mem _ wq_579) rfl rfl (tyX5_ok 2 (by decide)) rfl rfl (Nat.le_of_ble_eq_true rfl) rfl dX5_again_86 ?_
  refine k_aload_n C dX5_again_89 0 rfl rfl ?_
  refine k_aload_n C dX5_again_90 1 rfl rfl ?_
  refine k_bipush C (v := (62 : Int32)) dX5_again_91 (by decide) ?_
  obtain ⟨x13, hx13, h⟩ := bindE h
  refine k_iald C 5 0 rfl rfl hx13 dX5_again_93 ?_
  refine k_put C (C0 := RX5) (T := TX5) (N := 26) (ws' := (cells_R_again cI cL cZ a_this a_gravel a_kind a_own a_likely a_tape a_holding a_rowLength a_rowOf a_refusals a_old a_ahead a_cost a_may a_rest a_way a_p1 x11 x12 x13 c_many c_seed c_taped c_from c_to c_token c_value c_imaged x3 x10.1 x10.2.1 x10.2.2 c_p1)) (fun w h => List.mem_cons_of_mem _ (us_R w h)) tyX5 tyX5_ok nmX5 0 rfl rfl 3 (by decide) (List.mem_cons_of_mem _ wq_603) rfl rfl (tyX5_ok 3 (by decide)) rfl rfl (Nat.le_of_ble_eq_true rfl) rfl dX5_again_94 ?_
  refine k_aload_n C dX5_again_97 0 rfl rfl ?_
  refine k_aload_n C dX5_again_98 1 rfl rfl ?_
  refine k_bipush C (v := (63 : Int32)) dX5_again_99 (by decide) ?_
  obtain ⟨x14, hx14, h⟩ := bindE h
  refine k_iald C 5 0 rfl rfl hx14 dX5_again_101 ?_
  refine k_put C (C0 := RX5) (T := TX5) (N := 26) (ws' := (cells_R_again cI cL cZ a_this a_gravel a_kind a_own a_likely a_tape a_holding a_rowLength a_rowOf a_refusals a_old a_ahead a_cost a_may a_rest a_way a_p1 x11 x12 x13 x14 c_seed c_taped c_from c_to c_token c_value c_imaged x3 x10.1 x10.2.1 x10.2.2 c_p1)) (fun w h => List.mem_cons_of_mem _ (us_R w h)) tyX5 tyX5_ok nmX5 0 rfl rfl 4 (by decide) (List.mem_cons_of_mem _ wq_547) rfl rfl (tyX5_ok 4 (by decide)) rfl rfl (Nat.le_of_ble_eq_true rfl) rfl dX5_again_102 ?_
  refine k_aload_n C dX5_again_105 0 rfl rfl ?_
  refine k_aload_n C dX5_again_106 1 rfl rfl ?_
  refine k_bipush C (v := (64 : Int32)) dX5_again_107 (by decide) ?_
  obtain ⟨x15, hx15, h⟩ := bindE h
  refine k_iald C 5 0 rfl rfl hx15 dX5_again_109 ?_
  refine k_put C (C0 := RX5) (T := TX5) (N := 26) (ws' := (cells_R_again cI cL cZ a_this a_gravel a_kind a_own a_likely a_tape a_holding a_rowLength a_rowOf a_refusals a_old a_ahead a_cost a_may a_rest a_way a_p1 x11 x12 x13 x14 x15 c_taped c_from c_to c_token c_value c_imaged x3 x10.1 x10.2.1 x10.2.2 c_p1)) (fun w h => List.mem_cons_of_mem _ (us_R w h)) tyX5 tyX5_ok nmX5 0 rfl rfl 8 (by decide) (List.mem_cons_of_mem _ wq_638) rfl rfl (tyX5_ok 8 (by decide)) rfl rfl (Nat.le_of_ble_eq_true rfl) rfl dX5_again_110 ?_
  obtain rfl := Option.some.inj h
  exact kret_v C rfl dX5_again_113
theorem c_R_again (l : Launch) (D : va_G) (cI : ClassId) (cL : ClassId) (cZ : ClassId) (sz : Nat) (a_this : Nat) (a_gravel : Nat) (a_kind : Nat) (a_own : Nat) (a_likely : Nat) (a_tape : Nat) (a_holding : Nat) (a_rowLength : Nat) (a_rowOf : Nat) (a_refusals : Nat) (a_old : Nat) (a_ahead : Nat) (a_cost : Nat) (a_may : Nat) (a_rest : Nat) (a_way : Nat) (a_p1 : Nat) (c_n : Int32) (c_rain : Int32) (c_ear : Int32) (c_many : Int32) (c_seed : Int32) (c_taped : Int32) (c_from : Int32) (c_to : Int32) (c_token : Int32) (c_value : Int32) (c_imaged : Int32) (c_gravel : (Nat → Int32)) (c_kind : (Nat → Int32)) (c_own : (Nat → Int32)) (c_likely : (Nat → Int32)) (c_p1 : (Nat → Int32)) (x : (Int32 × Int32 × Int32 × Int32 × Int32 × (Nat → Int32) × (Nat → Int32) × (Nat → Int32) × (Nat → Int32))) (h : f_R_again c_n c_rain c_ear c_many c_seed c_gravel c_kind c_own c_likely c_p1 = some x) :
    Met l yX5_again (Cond.code yX5_again cX5_again 3 none :: WS) rm_R_again (kP D (tyG cI cL cZ) kTrue [.ref a_this, .ref a_p1] sz (cells_R_again cI cL cZ a_this a_gravel a_kind a_own a_likely a_tape a_holding a_rowLength a_rowOf a_refusals a_old a_ahead a_cost a_may a_rest a_way a_p1 c_n c_rain c_ear c_many c_seed c_taped c_from c_to c_token c_value c_imaged c_gravel c_kind c_own c_likely c_p1)) (kQv D (va_A (cells_R_again cI cL cZ a_this a_gravel a_kind a_own a_likely a_tape a_holding a_rowLength a_rowOf a_refusals a_old a_ahead a_cost a_may a_rest a_way a_p1 c_n c_rain c_ear c_many c_seed c_taped c_from c_to c_token c_value c_imaged c_gravel c_kind c_own c_likely c_p1) sz) (cells_R_again cI cL cZ a_this a_gravel a_kind a_own a_likely a_tape a_holding a_rowLength a_rowOf a_refusals a_old a_ahead a_cost a_may a_rest a_way a_p1 x.1 x.2.1 x.2.2.1 x.2.2.2.1 x.2.2.2.2.1 c_taped c_from c_to c_token c_value c_imaged x.2.2.2.2.2.1 x.2.2.2.2.2.2.1 x.2.2.2.2.2.2.2.1 x.2.2.2.2.2.2.2.2 c_p1)) 0 0 (va_A (cells_R_again cI cL cZ a_this a_gravel a_kind a_own a_likely a_tape a_holding a_rowLength a_rowOf a_refusals a_old a_ahead a_cost a_may a_rest a_way a_p1 c_n c_rain c_ear c_many c_seed c_taped c_from c_to c_token c_value c_imaged c_gravel c_kind c_own c_likely c_p1) sz) :=
  kmet (by decide) (Nat.le_of_ble_eq_true rfl) rfl (fun p e s m below meth c C hE => s_R_again C h)
abbrev cells_R_drive (cI : ClassId) (cL : ClassId) (cZ : ClassId) (a_this : Nat) (a_gravel : Nat) (a_kind : Nat) (a_own : Nat) (a_likely : Nat) (a_tape : Nat) (a_holding : Nat) (a_rowLength : Nat) (a_rowOf : Nat) (a_refusals : Nat) (a_old : Nat) (a_ahead : Nat) (a_cost : Nat) (a_may : Nat) (a_rest : Nat) (a_way : Nat) (c_n : Int32) (c_rain : Int32) (c_ear : Int32) (c_many : Int32) (c_seed : Int32) (c_taped : Int32) (c_from : Int32) (c_to : Int32) (c_token : Int32) (c_value : Int32) (c_imaged : Int32) (c_gravel : (Nat → Int32)) (c_kind : (Nat → Int32)) (c_own : (Nat → Int32)) (c_likely : (Nat → Int32)) (c_tape : (Nat → Int32)) (c_refusals : (Nat → Int32)) (c_ahead : (Nat → Int32)) : va_W := [(a_this, .inr (5, [.int c_n, .ref a_gravel, .int c_rain, .int c_ear, .int c_many, .ref a_kind, .ref a_own, .ref a_likely, .int c_seed, .int c_taped, .ref a_tape, .int c_from, .int c_to, .int c_token, .int c_value, .ref a_holding, .ref a_rowLength, .ref a_rowOf, .ref a_refusals, .int c_imaged, .ref a_old, .ref a_ahead, .ref a_cost, .ref a_may, .ref a_rest, .ref a_way])), (a_gravel, .inl (cI, 36, .inl c_gravel)), (a_kind, .inl (cI, 8, .inl c_kind)), (a_own, .inl (cI, 8, .inl c_own)), (a_likely, .inl (cI, 8, .inl c_likely)), (a_tape, .inl (cI, 250, .inl c_tape)), (a_refusals, .inl (cI, 7, .inl c_refusals)), (a_ahead, .inl (cI, 65, .inl c_ahead))]
abbrev rm_R_drive : Room := { frames := 6, cells := 0, slots := 0, locals := 130 }

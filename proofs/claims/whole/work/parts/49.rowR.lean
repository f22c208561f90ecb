variable {p : Program} {l : Launch} {e : Env} {s : State} {m : MethodId} {args : Array Value} {below : List Frame} {meth : Method} {c : Code} {D : va_G} {A : Nat → Prop} {cI cL cZ : ClassId} {Q : State → Prop}
set_option maxRecDepth 100000 in
set_option maxHeartbeats 4000000 in
theorem s_R_copy (C : kC p l e rm_R_copy s m args below meth c D (tyG cI cL cZ) A 7 cX5_copy yX5_copy.cls (Cond.code yX5_copy cX5_copy 7 (some .int) :: WS) (some .int)) {a_this : Nat} {a_gravel : Nat} {a_kind : Nat} {a_own : Nat} {a_likely : Nat} {a_tape : Nat} {a_holding : Nat} {a_rowLength : Nat} {a_rowOf : Nat} {a_refusals : Nat} {a_old : Nat} {a_ahead : Nat} {a_cost : Nat} {a_may : Nat} {a_rest : Nat} {a_way : Nat} {v1 : Int32} {v2 : Int32} {v3 : Int32} {v4 : Int32} {v5 : Int32} {c_n : Int32} {c_rain : Int32} {c_ear : Int32} {c_many : Int32} {c_seed : Int32} {c_taped : Int32} {c_from : Int32} {c_to : Int32} {c_token : Int32} {c_value : Int32} {c_imaged : Int32} {c_holding : (Nat → Int32)} {c_rowLength : (Nat → Int32)} {c_rowOf : (Nat → Int64)} {c_refusals : (Nat → Int32)} {x : (Int32 × (Nat → Int64) × (Nat → Int32))} (h : f_R_copy v1 v2 v3 v4 v5 c_holding c_rowLength c_rowOf c_refusals = some x) :
    kW p l e rm_R_copy s m args below meth c D A 7 (cells_R_copy cI cL cZ a_this a_gravel a_kind a_own a_likely a_tape a_holding a_rowLength a_rowOf a_refusals a_old a_ahead a_cost a_may a_rest a_way c_n c_rain c_ear c_many c_seed c_taped c_from c_to c_token c_value c_imaged c_holding c_rowLength c_rowOf c_refusals) [(0, .ref a_this), (1, .int v1), (2, .int v2), (3, .int v3), (4, .int v4), (5, .int v5)] (MQ below (kQi D A (cells_R_copy cI cL cZ a_this a_gravel a_kind a_own a_likely a_tape a_holding a_rowLength a_rowOf a_refusals a_old a_ahead a_cost a_may a_rest a_way c_n c_rain c_ear c_many c_seed c_taped c_from c_to c_token c_value c_imaged c_holding c_rowLength x.2.1 x.2.2) x.1) args s 0 0 A) 0 [] := by
  unfold f_R_copy at h
  refine k_iload_n C dX5_copy_0 1 rfl rfl ?_
  obtain ⟨x1, hx1, h⟩ := bindE h
  refine kcallE_i C (r := x1) (fun H locs ls hP hD hS hF hz => krunS C (c_R_isShelf l D cI cL cZ H.size v1 x1 hx1) (va_cwS 1 C.2.2.2.2.1 (gS wq_555 wq_556 wq_551 wq_554) rfl rfl rfl (by decide +kernel) ⟨(Nat.le_of_ble_eq_true rfl), (Nat.le_of_ble_eq_true rfl)⟩) kEnv_T rfl rfl (Nat.le_of_ble_eq_true rfl) dX5_copy_1 hP hD hz) ?_
  refine k_if_eq C (tgt := 14) dX5_copy_4 (by decide) (fun c_4 => ?_) (fun c_4 => ?_)
  · have h := ifT c_4 h
    refine k_lv (lv' := [(0, .ref a_this)]) [0] rfl ?_
    exact s_R_copy_j14 C h
  · have h := ifF c_4 h
    refine k_iload_n C dX5_copy_7 2 rfl rfl ?_
    obtain ⟨x3, hx3, h⟩ := bindE h
    refine kcallE_i C (r := x3) (fun H locs ls hP hD hS hF hz => krunS C (c_R_isShelf l D cI cL cZ H.size v2 x3 hx3) (va_cwS 1 C.2.2.2.2.1 (gS wq_555 wq_556 wq_551 wq_554) rfl rfl rfl (by decide +kernel) ⟨(Nat.le_of_ble_eq_true rfl), (Nat.le_of_ble_eq_true rfl)⟩) kEnv_T rfl rfl (Nat.le_of_ble_eq_true rfl) dX5_copy_8 hP hD hz) ?_
    refine k_if_ne C (tgt := 21) dX5_copy_11 (by decide) (fun c_11 => ?_) (fun c_11 => ?_)
    · have h := ifF c_11 h
      refine k_aload_n C dX5_copy_21 0 rfl rfl ?_
      refine k_get C (C0 := RX5) (T := TX5) (N := 26) (fun w h => List.mem_cons_of_mem _ (us_R w h)) 0 rfl rfl 15 (by decide) (List.mem_cons_of_mem _ wq_553) rfl rfl dX5_copy_22 ?_
      refine k_iload_n C dX5_copy_25 1 rfl rfl ?_
      obtain ⟨x4, hx4, h⟩ := bindE h
      refine k_iald C 1 0 rfl rfl hx4 dX5_copy_26 ?_
      refine k_bipush C (v := (10 : Int32)) dX5_copy_27 (by decide) ?_
      refine k_icmp_ge C (tgt := 74) dX5_copy_29 (by decide) (fun c_29 => ?_) (fun c_29 => ?_)
      · have h := ifT c_29 h
        refine k_lv (lv' := [(0, .ref a_this)]) [0] rfl ?_
        exact s_R_copy_j74 C h
      · have h := ifF c_29 h
        refine k_aload_n C dX5_copy_32 0 rfl rfl ?_
        refine k_get C (C0 := RX5) (T := TX5) (N := 26) (fun w h => List.mem_cons_of_mem _ (us_R w h)) 0 rfl rfl 15 (by decide) (List.mem_cons_of_mem _ wq_553) rfl rfl dX5_copy_33 ?_
        refine k_iload_n C dX5_copy_36 2 rfl rfl ?_
        obtain ⟨x6, hx6, h⟩ := bindE h
        refine k_iald C 1 0 rfl rfl hx6 dX5_copy_37 ?_
        refine k_bipush C (v := (10 : Int32)) dX5_copy_38 (by decide) ?_
        refine k_icmp_ge C (tgt := 74) dX5_copy_40 (by decide) (fun c_40 => ?_) (fun c_40 => ?_)
        · have h := ifT c_40 h
          refine k_lv (lv' := [(0, .ref a_this)]) [0] rfl ?_
          exact s_R_copy_j74 C h
        · have h := ifF c_40 h
          refine k_aload_n C dX5_copy_43 0 rfl rfl ?_
          refine k_iload_n C dX5_copy_44 1 rfl rfl ?_
          obtain ⟨x7, hx7, h⟩ := bindE h
          refine kcallR_i C (wc := (cells_R_isRow cI cL cZ a_this a_gravel a_kind a_own a_likely a_tape a_holding a_rowLength a_rowOf a_refusals a_old a_ahead a_cost a_may a_rest a_way c_n c_rain c_ear c_many c_seed c_taped c_from c_to c_token c_value c_imaged c_holding)) (r := x7) [0, 1] (fun H locs ls hP hD hS hF hz => krunV C (q0 := 0) (ci := 5) (c_R_isRow l D cI cL cZ H.size a_this a_gravel a_kind a_own a_likely a_tape a_holding a_rowLength a_rowOf a_refusals a_old a_ahead a_cost a_may a_rest a_way v1 c_n c_rain c_ear c_many c_seed c_taped c_from c_to c_token c_value c_imaged c_holding x7 hx7) (cwV 1 C.2.2.2.2.1 (gV wq_564 wq_565 wq_566 wq_551 wq_563) rfl rfl rfl (by decide +kernel) ⟨(Nat.le_of_ble_eq_true rfl), (Nat.le_of_ble_eq_true rfl)⟩) rfl rfl kEnv_T rfl rfl (Nat.le_of_ble_eq_true rfl) dX5_copy_45 hP hD hz) rfl (by decide) ?_
          refine k_if_eq C (tgt := 81) dX5_copy_48 (by decide) (fun c_48 => ?_) (fun c_48 => ?_)
          · have h := ifT c_48 h
            exact s_R_copy_j81 C h
          · have h := ifF c_48 h
            refine k_aload_n C dX5_copy_51 0 rfl rfl ?_
            refine k_iload_n C dX5_copy_52 2 rfl rfl ?_
            obtain ⟨x20, hx20, h⟩ := bindE h
            refine kcallR_i C (wc := (cells_R_isRow cI cL cZ a_this a_gravel a_kind a_own a_likely a_tape a_holding a_rowLength a_rowOf a_refusals a_old a_ahead a_cost a_may a_rest a_way c_n c_rain c_ear c_many c_seed c_taped c_from c_to c_token c_value c_imaged c_holding)) (r := x20) [0, 1] (fun H locs ls hP hD hS hF hz => krunV C (q0 := 0) (ci := 5) (c_R_isRow l D cI cL cZ H.size a_this a_gravel a_kind a_own a_likely a_tape a_holding a_rowLength a_rowOf a_refusals a_old a_ahead a_cost a_may a_rest a_way v2 c_n c_rain c_ear c_many c_seed c_taped c_from c_to c_token c_value c_imaged c_holding x20 hx20) (cwV 1 C.2.2.2.2.1 (gV wq_564 wq_565 wq_566 wq_551 wq_563) rfl rfl rfl (by decide +kernel) ⟨(Nat.le_of_ble_eq_true rfl), (Nat.le_of_ble_eq_true rfl)⟩) rfl rfl kEnv_T rfl rfl (Nat.le_of_ble_eq_true rfl) dX5_copy_53 hP hD hz) rfl (by decide) ?_
            refine k_if_eq C (tgt := 81) dX5_copy_56 (by decide) (fun c_56 => ?_) (fun c_56 => ?_)
            · have h := ifT c_56 h
              exact s_R_copy_j81 C h
            · have h := ifF c_56 h
              refine k_aload_n C dX5_copy_59 0 rfl rfl ?_
              refine k_get C (C0 := RX5) (T := TX5) (N := 26) (fun w h => List.mem_cons_of_mem _ (us_R w h)) 0 rfl rfl 15 (by decide) (List.mem_cons_of_mem _ wq_553) rfl rfl dX5_copy_60 ?_
              refine k_iload_n C dX5_copy_63 1 rfl rfl ?_
              obtain ⟨x21, hx21, h⟩ := bindE h
              refine k_iald C 1 0 rfl rfl hx21 dX5_copy_64 ?_
              refine k_aload_n C dX5_copy_65 0 rfl rfl ?_
              refine k_get C (C0 := RX5) (T := TX5) (N := 26) (fun w h => List.mem_cons_of_mem _ (us_R w h)) 0 rfl rfl 15 (by decide) (List.mem_cons_of_mem _ wq_553) rfl rfl dX5_copy_66 ?_
              refine k_iload_n C dX5_copy_69 2 rfl rfl ?_
              obtain ⟨x22, hx22, h⟩ := bindE h
              refine k_iald C 1 0 rfl rfl hx22 dX5_copy_70 ?_
              refine k_icmp_eq C (tgt := 81) dX5_copy_71 (by decide) (fun c_71 => ?_) (fun c_71 => ?_)
              · have h := ifT c_71 h
                exact s_R_copy_j81 C h
              · have h := ifF c_71 h
                refine k_lv (lv' := [(0, .ref a_this)]) [0] rfl ?_
                exact s_R_copy_j74 C h
    · have h := ifT c_11 h
      refine k_lv (lv' := [(0, .ref a_this)]) [0] rfl ?_
      exact s_R_copy_j14 C h
theorem c_R_copy (l : Launch) (D : va_G) (cI : ClassId) (cL : ClassId) (cZ : ClassId) (sz : Nat) (a_this : Nat) (a_gravel : Nat) (a_kind : Nat) (a_own : Nat) (a_likely : Nat) (a_tape : Nat) (a_holding : Nat) (a_rowLength : Nat) (a_rowOf : Nat) (a_refusals : Nat) (a_old : Nat) (a_ahead : Nat) (a_cost : Nat) (a_may : Nat) (a_rest : Nat) (a_way : Nat) (v1 : Int32) (v2 : Int32) (v3 : Int32) (v4 : Int32) (v5 : Int32) (c_n : Int32) (c_rain : Int32) (c_ear : Int32) (c_many : Int32) (c_seed : Int32) (c_taped : Int32) (c_from : Int32) (c_to : Int32) (c_token : Int32) (c_value : Int32) (c_imaged : Int32) (c_holding : (Nat → Int32)) (c_rowLength : (Nat → Int32)) (c_rowOf : (Nat → Int64)) (c_refusals : (Nat → Int32)) (x : (Int32 × (Nat → Int64) × (Nat → Int32))) (h : f_R_copy v1 v2 v3 v4 v5 c_holding c_rowLength c_rowOf c_refusals = some x) :
    Met l yX5_copy (Cond.code yX5_copy cX5_copy 7 (some .int) :: WS) rm_R_copy (kP D (tyG cI cL cZ) kTrue [.ref a_this, .int v1, .int v2, .int v3, .int v4, .int v5] sz (cells_R_copy cI cL cZ a_this a_gravel a_kind a_own a_likely a_tape a_holding a_rowLength a_rowOf a_refusals a_old a_ahead a_cost a_may a_rest a_way c_n c_rain c_ear c_many c_seed c_taped c_from c_to c_token c_value c_imaged c_holding c_rowLength c_rowOf c_refusals)) (kQi D (va_A (cells_R_copy cI cL cZ a_this a_gravel a_kind a_own a_likely a_tape a_holding a_rowLength a_rowOf a_refusals a_old a_ahead a_cost a_may a_rest a_way c_n c_rain c_ear c_many c_seed c_taped c_from c_to c_token c_value c_imaged c_holding c_rowLength c_rowOf c_refusals) sz) (cells_R_copy cI cL cZ a_this a_gravel a_kind a_own a_likely a_tape a_holding a_rowLength a_rowOf a_refusals a_old a_ahead a_cost a_may a_rest a_way c_n c_rain c_ear c_many c_seed c_taped c_from c_to c_token c_value c_imaged c_holding c_rowLength x.2.1 x.2.2) x.1) 0 0 (va_A (cells_R_copy cI cL cZ a_this a_gravel a_kind a_own a_likely a_tape a_holding a_rowLength a_rowOf a_refusals a_old a_ahead a_cost a_may a_rest a_way c_n c_rain c_ear c_many c_seed c_taped c_from c_to c_token c_value c_imaged c_holding c_rowLength c_rowOf c_refusals) sz) :=
  kmet (by decide) (Nat.le_of_ble_eq_true rfl) rfl (fun p e s m below meth c C hE => s_R_copy C h)
abbrev cells_R_element (cI : ClassId) (cL : ClassId) (cZ : ClassId) (a_this : Nat) (a_gravel : Nat) (a_kind : Nat) (a_own : Nat) (a_likely : Nat) (a_tape : Nat) (a_holding : Nat) (a_rowLength : Nat) (a_rowOf : Nat) (a_refusals : Nat) (a_old : Nat) (a_ahead : Nat) (a_cost : Nat) (a_may : Nat) (a_rest : Nat) (a_way : Nat) (c_n : Int32) (c_rain : Int32) (c_ear : Int32) (c_many : Int32) (c_seed : Int32) (c_taped : Int32) (c_from : Int32) (c_to : Int32) (c_token : Int32) (c_value : Int32) (c_imaged : Int32) (c_holding : (Nat → Int32)) (c_rowLength : (Nat → Int32)) (c_rowOf : (Nat → Int64)) : va_W := [(a_this, .inr (5, [.int c_n, .ref a_gravel, .int c_rain, .int c_ear, .int c_many, .ref a_kind, .ref a_own, .ref a_likely, .int c_seed, .int c_taped, .ref a_tape, .int c_from, .int c_to, .int c_token, .int c_value, .ref a_holding, .ref a_rowLength, .ref a_rowOf, .ref a_refusals, .int c_imaged, .ref a_old, .ref a_ahead, .ref a_cost, .ref a_may, .ref a_rest, .ref a_way])), (a_holding, .inl (cI, 8, .inl c_holding)), (a_rowLength, .inl (cI, 8, .inl c_rowLength)), (a_rowOf, .inl (cL, 320, .inr (.inl c_rowOf)))]
abbrev rm_R_element : Room := { frames := 2, cells := 0, slots := 0, locals := 43 }
set_option maxRecDepth 100000 in
set_option maxHeartbeats 4000000 in
theorem s_R_element (C : kC p l e rm_R_element s m args below meth c D (tyG cI cL cZ) A 3 cX5_element yX5_element.cls (Cond.code yX5_element cX5_element 3 (some .long) :: WS) (some .long)) {a_this : Nat} {a_gravel : Nat} {a_kind : Nat} {a_own : Nat} {a_likely : Nat} {a_tape : Nat} {a_holding : Nat} {a_rowLength : Nat} {a_rowOf : Nat} {a_refusals : Nat} {a_old : Nat} {a_ahead : Nat} {a_cost : Nat} {a_may : Nat} {a_rest : Nat} {a_way : Nat} {v1 : Int32} {v2 : Int32} {c_n : Int32} {c_rain : Int32} {c_ear : Int32} {c_many : Int32} {c_seed : Int32} {c_taped : Int32} {c_from : Int32} {c_to : Int32} {c_token : Int32} {c_value : Int32} {c_imaged : Int32} {c_holding : (Nat → Int32)} {c_rowLength : (Nat → Int32)} {c_rowOf : (Nat → Int64)} {x : Int64} (h : f_R_element v1 v2 c_holding c_rowLength c_rowOf = some x) :
    kW p l e rm_R_element s m args below meth c D A 3 (cells_R_element cI cL cZ a_this a_gravel a_kind a_own a_likely a_tape a_holding a_rowLength a_rowOf a_refusals a_old a_ahead a_cost a_may a_rest a_way c_n c_rain c_ear c_many c_seed c_taped c_from c_to c_token c_value c_imaged c_holding c_rowLength c_rowOf) [(0, .ref a_this), (1, .int v1), (2, .int v2)] (MQ below (kQl D A (cells_R_element cI cL cZ a_this a_gravel a_kind a_own a_likely a_tape a_holding a_rowLength a_rowOf a_refusals a_old a_ahead a_cost a_may a_rest a_way c_n c_rain c_ear c_many c_seed c_taped c_from c_to c_token c_value c_imaged c_holding c_rowLength c_rowOf) x) args s 0 0 A) 0 [] := by
  unfold f_R_element at h
  refine k_iload_n C dX5_element_0 1 rfl rfl ?_
  obtain ⟨x1, hx1, h⟩ := bindE h
  refine kcallE_i C (r := x1) (fun H locs ls hP hD hS hF hz => krunS C (c_R_isShelf l D cI cL cZ H.size v1 x1 hx1) (va_cwS 1 C.2.2.2.2.1 (gS wq_555 wq_556 wq_551 wq_554) rfl rfl rfl (by decide +kernel) ⟨(Nat.le_of_ble_eq_true rfl), (Nat.le_of_ble_eq_true rfl)⟩) kEnv_T rfl rfl (Nat.le_of_ble_eq_true rfl) dX5_element_1 hP hD hz) ?_
  refine k_if_eq C (tgt := 45) dX5_element_4 (by decide) (fun c_4 => ?_) (fun c_4 => ?_)
  · have h := ifT c_4 h
    refine k_lconst C (v := (0 : Int64)) dX5_element_45 (by decide) ?_
    obtain rfl := Option.some.inj h
    exact kret_l C rfl dX5_element_46
  · have h := ifF c_4 h
    refine k_aload_n C dX5_element_7 0 rfl rfl ?_
    refine k_iload_n C dX5_element_8 1 rfl rfl ?_
    obtain ⟨x2, hx2, h⟩ := bindE h
    refine kcallR_i C (wc := (cells_R_isRow cI cL cZ a_this a_gravel a_kind a_own a_likely a_tape a_holding a_rowLength a_rowOf a_refusals a_old a_ahead a_cost a_may a_rest a_way c_n c_rain c_ear c_many c_seed c_taped c_from c_to c_token c_value c_imaged c_holding)) (r := x2) [0, 1] (fun H locs ls hP hD hS hF hz => krunV C (q0 := 0) (ci := 5) (c_R_isRow l D cI cL cZ H.size a_this a_gravel a_kind a_own a_likely a_tape a_holding a_rowLength a_rowOf a_refusals a_old a_ahead a_cost a_may a_rest a_way v1 c_n c_rain c_ear c_many c_seed c_taped c_from c_to c_token c_value c_imaged c_holding x2 hx2) (cwV 1 C.2.2.2.2.1 (gV wq_564 wq_565 wq_566 wq_551 wq_563) rfl rfl rfl (by decide +kernel) ⟨(Nat.le_of_ble_eq_true rfl), (Nat.le_of_ble_eq_true rfl)⟩) rfl rfl kEnv_T rfl rfl (Nat.le_of_ble_eq_true rfl) dX5_element_9 hP hD hz) rfl (by decide) ?_
    refine k_if_eq C (tgt := 45) dX5_element_12 (by decide) (fun c_12 => ?_) (fun c_12 => ?_)
    · have h := ifT c_12 h
      refine k_lconst C (v := (0 : Int64)) dX5_element_45 (by decide) ?_
      obtain rfl := Option.some.inj h
      exact kret_l C rfl dX5_element_46
    · have h := ifF c_12 h
      refine k_iload_n C dX5_element_15 2 rfl rfl ?_
      refine k_iconst C (v := (0 : Int32)) dX5_element_16 (by decide) ?_
      refine k_aload_n C dX5_element_17 0 rfl rfl ?_
      refine k_get C (C0 := RX5) (T := TX5) (N := 26) (fun w h => List.mem_cons_of_mem _ (us_R w h)) 0 rfl rfl 16 (by decide) (List.mem_cons_of_mem _ wq_561) rfl rfl dX5_element_18 ?_
      refine k_iload_n C dX5_element_21 1 rfl rfl ?_
      obtain ⟨x3, hx3, h⟩ := bindE h
      refine k_iald C 2 0 rfl rfl hx3 dX5_element_22 ?_
      refine k_iconst C (v := (1 : Int32)) dX5_element_23 (by decide) ?_
      refine k_isub C dX5_element_24 ?_
      obtain ⟨x4, hx4, h⟩ := bindE h
      refine kcallE_i C (r := x4) (fun H locs ls hP hD hS hF hz => krunS C (c_R_within l D cI cL cZ H.size v2 (0 : Int32) (x3 - (1 : Int32)) x4 hx4) (va_cwS 3 C.2.2.2.2.1 (gS wq_549 wq_550 wq_551 wq_548) rfl rfl rfl (by decide +kernel) ⟨(Nat.le_of_ble_eq_true rfl), (Nat.le_of_ble_eq_true rfl)⟩) kEnv_T rfl rfl (Nat.le_of_ble_eq_true rfl) dX5_element_25 hP hD hz) ?_
      refine k_if_eq C (tgt := 45) dX5_element_28 (by decide) (fun c_28 => ?_) (fun c_28 => ?_)
      · have h := ifT c_28 h
        refine k_lconst C (v := (0 : Int64)) dX5_element_45 (by decide) ?_
        obtain rfl := Option.some.inj h
        exact kret_l C rfl dX5_element_46
      · have h := ifF c_28 h
        refine k_aload_n C dX5_element_31 0 rfl rfl ?_
        refine k_get C (C0 := RX5) (T := TX5) (N := 26) (fun w h => List.mem_cons_of_mem _ (us_R w h)) 0 rfl rfl 17 (by decide) (List.mem_cons_of_mem _ wq_562) rfl rfl dX5_element_32 ?_
        refine k_bipush C (v := (40 : Int32)) dX5_element_35 (by decide) ?_
        refine k_iload_n C dX5_element_37 1 rfl rfl ?_
        refine k_imul C dX5_element_38 ?_
        refine k_iload_n C dX5_element_39 2 rfl rfl ?_
        refine k_iadd C dX5_element_40 ?_
        obtain ⟨x5, hx5, h⟩ := bindE h
        refine k_lald C 3 1 rfl rfl hx5 dX5_element_41 ?_
        refine k_goto C (tgt := 46) dX5_element_42 (by decide) ?_
        obtain rfl := Option.some.inj h
        exact kret_l C rfl dX5_element_46
theorem c_R_element (l : Launch) (D : va_G) (cI : ClassId) (cL : ClassId) (cZ : ClassId) (sz : Nat) (a_this : Nat) (a_gravel : Nat) (a_kind : Nat) (a_own : Nat) (a_likely : Nat) (a_tape : Nat) (a_holding : Nat) (a_rowLength : Nat) (a_rowOf : Nat) (a_refusals : Nat) (a_old : Nat) (a_ahead : Nat) (a_cost : Nat) (a_may : Nat) (a_rest : Nat) (a_way : Nat) (v1 : Int32) (v2 : Int32) (c_n : Int32) (c_rain : Int32) (c_ear : Int32) (c_many : Int32) (c_seed : Int32) (c_taped : Int32) (c_from : Int32) (c_to : Int32) (c_token : Int32) (c_value : Int32) (c_imaged : Int32) (c_holding : (Nat → Int32)) (c_rowLength : (Nat → Int32)) (c_rowOf : (Nat → Int64)) (x : Int64) (h : f_R_element v1 v2 c_holding c_rowLength c_rowOf = some x) :
    Met l yX5_element (Cond.code yX5_element cX5_element 3 (some .long) :: WS) rm_R_element (kP D (tyG cI cL cZ) kTrue [.ref a_this, .int v1, .int v2] sz (cells_R_element cI cL cZ a_this a_gravel a_kind a_own a_likely a_tape a_holding a_rowLength a_rowOf a_refusals a_old a_ahead a_cost a_may a_rest a_way c_n c_rain c_ear c_many c_seed c_taped c_from c_to c_token c_value c_imaged c_holding c_rowLength c_rowOf)) (kQl D (va_A (cells_R_element cI cL cZ a_this a_gravel a_kind a_own a_likely a_tape a_holding a_rowLength a_rowOf a_refusals a_old a_ahead a_cost a_may a_rest a_way c_n c_rain c_ear c_many c_seed c_taped c_from c_to c_token c_value c_imaged c_holding c_rowLength c_rowOf) sz) (cells_R_element cI cL cZ a_this a_gravel a_kind a_own a_likely a_tape a_holding a_rowLength a_rowOf a_refusals a_old a_ahead a_cost a_may a_rest a_way c_n c_rain c_ear c_many c_seed c_taped c_from c_to c_token c_value c_imaged c_holding c_rowLength c_rowOf) x) 0 0 (va_A (cells_R_element cI cL cZ a_this a_gravel a_kind a_own a_likely a_tape a_holding a_rowLength a_rowOf a_refusals a_old a_ahead a_cost a_may a_rest a_way c_n c_rain c_ear c_many c_seed c_taped c_from c_to c_token c_value c_imaged c_holding c_rowLength c_rowOf) sz) :=
  kmet (by decide) (Nat.le_of_ble_eq_true rfl) rfl (fun p e s m below meth c C hE => s_R_element C h)
abbrev cells_R_holds (cI : ClassId) (cL : ClassId) (cZ : ClassId) (a_this : Nat) (a_gravel : Nat) (a_kind : Nat) (a_own : Nat) (a_likely : Nat) (a_tape : Nat) (a_holding : Nat) (a_rowLength : Nat) (a_rowOf : Nat) (a_refusals : Nat) (a_old : Nat) (a_ahead : Nat) (a_cost : Nat) (a_may : Nat) (a_rest : Nat) (a_way : Nat) (c_n : Int32) (c_rain : Int32) (c_ear : Int32) (c_many : Int32) (c_seed : Int32) (c_taped : Int32) (c_from : Int32) (c_to : Int32) (c_token : Int32) (c_value : Int32) (c_imaged : Int32) (c_holding : (Nat → Int32)) : va_W := [(a_this, .inr (5, [.int c_n, .ref a_gravel, .int c_rain, .int c_ear, .int c_many, .ref a_kind, .ref a_own, .ref a_likely, .int c_seed, .int c_taped, .ref a_tape, .int c_from, .int c_to, .int c_token, .int c_value, .ref a_holding, .ref a_rowLength, .ref a_rowOf, .ref a_refusals, .int c_imaged, .ref a_old, .ref a_ahead, .ref a_cost, .ref a_may, .ref a_rest, .ref a_way])), (a_holding, .inl (cI, 8, .inl c_holding))]
abbrev rm_R_holds : Room := { frames := 2, cells := 0, slots := 0, locals := 42 }
set_option maxRecDepth 100000 in
set_option maxHeartbeats 4000000 in
theorem s_R_holds (C : kC p l e rm_R_holds s m args below meth c D (tyG cI cL cZ) A 2 cX5_holds yX5_holds.cls (Cond.code yX5_holds cX5_holds 2 (some .int) :: WS) (some .int)) {a_this : Nat} {a_gravel : Nat} {a_kind : Nat} {a_own : Nat} {a_likely : Nat} {a_tape : Nat} {a_holding : Nat} {a_rowLength : Nat} {a_rowOf : Nat} {a_refusals : Nat} {a_old : Nat} {a_ahead : Nat} {a_cost : Nat} {a_may : Nat} {a_rest : Nat} {a_way : Nat} {v1 : Int32} {c_n : Int32} {c_rain : Int32} {c_ear : Int32} {c_many : Int32} {c_seed : Int32} {c_taped : Int32} {c_from : Int32} {c_to : Int32} {c_token : Int32} {c_value : Int32} {c_imaged : Int32} {c_holding : (Nat → Int32)} {x : Int32} (h : f_R_holds v1 c_holding = some x) :
    kW p l e rm_R_holds s m args below meth c D A 2 (cells_R_holds cI cL cZ a_this a_gravel a_kind a_own a_likely a_tape a_holding a_rowLength a_rowOf a_refusals a_old a_ahead a_cost a_may a_rest a_way c_n c_rain c_ear c_many c_seed c_taped c_from c_to c_token c_value c_imaged c_holding) [(0, .ref a_this), (1, .int v1)] (MQ below (kQi D A (cells_R_holds cI cL cZ a_this a_gravel a_kind a_own a_likely a_tape a_holding a_rowLength a_rowOf a_refusals a_old a_ahead a_cost a_may a_rest a_way c_n c_rain c_ear c_many c_seed c_taped c_from c_to c_token c_value c_imaged c_holding) x) args s 0 0 A) 0 [] := by
  unfold f_R_holds at h
  refine k_iload_n C dX5_holds_0 1 rfl rfl ?_
  obtain ⟨x1, hx1, h⟩ := bindE h
  refine kcallE_i C (r := x1) (fun H locs ls hP hD hS hF hz => krunS C (c_R_isShelf l D cI cL cZ H.size v1 x1 hx1) (va_cwS 1 C.2.2.2.2.1 (gS wq_555 wq_556 wq_551 wq_554) rfl rfl rfl (by decide +kernel) ⟨(Nat.le_of_ble_eq_true rfl), (Nat.le_of_ble_eq_true rfl)⟩) kEnv_T rfl rfl (Nat.le_of_ble_eq_true rfl) dX5_holds_1 hP hD hz) ?_
  refine k_if_eq C (tgt := 16) dX5_holds_4 (by decide) (fun c_4 => ?_) (fun c_4 => ?_)
  · have h := ifT c_4 h
    refine k_iconst C (v := (-1 : Int32)) dX5_holds_16 (by decide) ?_
    obtain rfl := Option.some.inj h
    exact kret_i C rfl dX5_holds_17
  · have h := ifF c_4 h
    refine k_aload_n C dX5_holds_7 0 rfl rfl ?_
    refine k_get C (C0 := RX5) (T := TX5) (N := 26) (fun w h => List.mem_cons_of_mem _ (us_R w h)) 0 rfl rfl 15 (by decide) (List.mem_cons_of_mem _ wq_553) rfl rfl dX5_holds_8 ?_
    refine k_iload_n C dX5_holds_11 1 rfl rfl ?_
    obtain ⟨x2, hx2, h⟩ := bindE h
    refine k_iald C 1 0 rfl rfl hx2 dX5_holds_12 ?_
    refine k_goto C (tgt := 17) dX5_holds_13 (by decide) ?_
    obtain rfl := Option.some.inj h
    exact kret_i C rfl dX5_holds_17
theorem c_R_holds (l : Launch) (D : va_G) (cI : ClassId) (cL : ClassId) (cZ : ClassId) (sz : Nat) (a_this : Nat) (a_gravel : Nat) (a_kind : Nat) (a_own : Nat) (a_likely : Nat) (a_tape : Nat) (a_holding : Nat) (a_rowLength : Nat) (a_rowOf : Nat) (a_refusals : Nat) (a_old : Nat) (a_ahead : Nat) (a_cost : Nat) (a_may : Nat) (a_rest : Nat) (a_way : Nat) (v1 : Int32) (c_n : Int32) (c_rain : Int32) (c_ear : Int32) (c_many : Int32) (c_seed : Int32) (c_taped : Int32) (c_from : Int32) (c_to : Int32) (c_token : Int32) (c_value : Int32) (c_imaged : Int32) (c_holding : (Nat → Int32)) (x : Int32) (h : f_R_holds v1 c_holding = some x) :
    Met l yX5_holds (Cond.code yX5_holds cX5_holds 2 (some .int) :: WS) rm_R_holds (kP D (tyG cI cL cZ) kTrue [.ref a_this, .int v1] sz (cells_R_holds cI cL cZ a_this a_gravel a_kind a_own a_likely a_tape a_holding a_rowLength a_rowOf a_refusals a_old a_ahead a_cost a_may a_rest a_way c_n c_rain c_ear c_many c_seed c_taped c_from c_to c_token c_value c_imaged c_holding)) (kQi D (va_A (cells_R_holds cI cL cZ a_this a_gravel a_kind a_own a_likely a_tape a_holding a_rowLength a_rowOf a_refusals a_old a_ahead a_cost a_may a_rest a_way c_n c_rain c_ear c_many c_seed c_taped c_from c_to c_token c_value c_imaged c_holding) sz) (cells_R_holds cI cL cZ a_this a_gravel a_kind a_own a_likely a_tape a_holding a_rowLength a_rowOf a_refusals a_old a_ahead a_cost a_may a_rest a_way c_n c_rain c_ear c_many c_seed c_taped c_from c_to c_token c_value c_imaged c_holding) x) 0 0 (va_A (cells_R_holds cI cL cZ a_this a_gravel a_kind a_own a_likely a_tape a_holding a_rowLength a_rowOf a_refusals a_old a_ahead a_cost a_may a_rest a_way c_n c_rain c_ear c_many c_seed c_taped c_from c_to c_token c_value c_imaged c_holding) sz) :=
  kmet (by decide) (Nat.le_of_ble_eq_true rfl) rfl (fun p e s m below meth c C hE => s_R_holds C h)
abbrev cells_R_show (cI : ClassId) (cL : ClassId) (cZ : ClassId) (a_this : Nat) (a_gravel : Nat) (a_kind : Nat) (a_own : Nat) (a_likely : Nat) (a_tape : Nat) (a_holding : Nat) (a_rowLength : Nat) (a_rowOf : Nat) (a_refusals : Nat) (a_old : Nat) (a_ahead : Nat) (a_cost : Nat) (a_may : Nat) (a_rest : Nat) (a_way : Nat) (c_n : Int32) (c_rain : Int32) (c_ear : Int32) (c_many : Int32) (c_seed : Int32) (c_taped : Int32) (c_from : Int32) (c_to : Int32) (c_token : Int32) (c_value : Int32) (c_imaged : Int32) (c_holding : (Nat → Int32)) (c_refusals : (Nat → Int32)) : va_W := [(a_this, .inr (5, [.int c_n, .ref a_gravel, .int c_rain, .int c_ear, .int c_many, .ref a_kind, .ref a_own, .ref a_likely, .int c_seed, .int c_taped, .ref a_tape, .int c_from, .int c_to, .int c_token, .int c_value, .ref a_holding, .ref a_rowLength, .ref a_rowOf, .ref a_refusals, .int c_imaged, .ref a_old, .ref a_ahead, .ref a_cost, .ref a_may, .ref a_rest, .ref a_way])), (a_holding, .inl (cI, 8, .inl c_holding)), (a_refusals, .inl (cI, 7, .inl c_refusals))]
abbrev rm_R_show : Room := { frames := 2, cells := 0, slots := 0, locals := 43 }
set_option maxRecDepth 100000 in
set_option maxHeartbeats 4000000 in
theorem s_R_show_j20 (C : kC p l e rm_R_show s m args below meth c D (tyG cI cL cZ) A 3 cX5_show yX5_show.cls (Cond.code yX5_show cX5_show 3 (some .int) :: WS) (some .int)) {a_this : Nat} {a_gravel : Nat} {a_kind : Nat} {a_own : Nat} {a_likely : Nat} {a_tape : Nat} {a_holding : Nat} {a_rowLength : Nat} {a_rowOf : Nat} {a_refusals : Nat} {a_old : Nat} {a_ahead : Nat} {a_cost : Nat} {a_may : Nat} {a_rest : Nat} {a_way : Nat} {c_n : Int32} {c_rain : Int32} {c_ear : Int32} {c_many : Int32} {c_seed : Int32} {c_taped : Int32} {c_from : Int32} {c_to : Int32} {c_token : Int32} {c_value : Int32} {c_imaged : Int32} {c_holding : (Nat → Int32)} {c_refusals : (Nat → Int32)} {x : (Int32 × (Nat → Int32) × (Nat → Int32))} (h : f_R_show_j20 c_holding c_refusals = some x) :
    kW p l e rm_R_show s m args below meth c D A 3 (cells_R_show cI cL cZ a_this a_gravel a_kind a_own a_likely a_tape a_holding a_rowLength a_rowOf a_refusals a_old a_ahead a_cost a_may a_rest a_way c_n c_rain c_ear c_many c_seed c_taped c_from c_to c_token c_value c_imaged c_holding c_refusals) [(0, .ref a_this)] (MQ below (kQi D A (cells_R_show cI cL cZ a_this a_gravel a_kind a_own a_likely a_tape a_holding a_rowLength a_rowOf a_refusals a_old a_ahead a_cost a_may a_rest a_way c_n c_rain c_ear c_many c_seed c_taped c_from c_to c_token c_value c_imaged x.2.1 x.2.2) x.1) args s 0 0 A) 20 [] := by
  unfold f_R_show_j20 at h
  refine k_aload_n C dX5_show_20 0 rfl rfl ?_
  refine k_bipush C (v := (-2 : Int32)) dX5_show_21 (by decide) ?_
  obtain ⟨x2, hx2, h⟩ := bindE h
  refine kcallU_i C (wc := (cells_R_no cI cL cZ a_this a_gravel a_kind a_own a_likely a_tape a_holding a_rowLength a_rowOf a_refusals a_old a_ahead a_cost a_may a_rest a_way c_n c_rain c_ear c_many c_seed c_taped c_from c_to c_token c_value c_imaged c_refusals)) (w1 := (cells_R_no cI cL cZ a_this a_gravel a_kind a_own a_likely a_tape a_holding a_rowLength a_rowOf a_refusals a_old a_ahead a_cost a_may a_rest a_way c_n c_rain c_ear c_many c_seed c_taped c_from c_to c_token c_value c_imaged x2.2)) (ws' := (cells_R_show cI cL cZ a_this a_gravel a_kind a_own a_likely a_tape a_holding a_rowLength a_rowOf a_refusals a_old a_ahead a_cost a_may a_rest a_way c_n c_rain c_ear c_many c_seed c_taped c_from c_to c_token c_value c_imaged c_holding x2.2)) (r := x2.1) [0, 2] (fun H locs ls hP hD hS hF hz => krunV C (q0 := 0) (ci := 5) (c_R_no l D cI cL cZ H.size a_this a_gravel a_kind a_own a_likely a_tape a_holding a_rowLength a_rowOf a_refusals a_old a_ahead a_cost a_may a_rest a_way (-2 : Int32) c_n c_rain c_ear c_many c_seed c_taped c_from c_to c_token c_value c_imaged c_refusals x2 hx2) (cwV 1 C.2.2.2.2.1 (gV wq_558 wq_559 wq_560 wq_551 wq_557) rfl rfl rfl (by decide +kernel) ⟨(Nat.le_of_ble_eq_true rfl), (Nat.le_of_ble_eq_true rfl)⟩) rfl rfl kEnv_T rfl rfl (Nat.le_of_ble_eq_true rfl) dX5_show_23 hP hD hz) rfl (by decide) rfl rfl ?_
  obtain rfl := Option.some.inj h
  exact kret_i C rfl dX5_show_26
set_option maxRecDepth 100000 in
set_option maxHeartbeats 4000000 in
theorem s_R_show_j45 (C : kC p l e rm_R_show s m args below meth c D (tyG cI cL cZ) A 3 cX5_show yX5_show.cls (Cond.code yX5_show cX5_show 3 (some .int) :: WS) (some .int)) {a_this : Nat} {a_gravel : Nat} {a_kind : Nat} {a_own : Nat} {a_likely : Nat} {a_tape : Nat} {a_holding : Nat} {a_rowLength : Nat} {a_rowOf : Nat} {a_refusals : Nat} {a_old : Nat} {a_ahead : Nat} {a_cost : Nat} {a_may : Nat} {a_rest : Nat} {a_way : Nat} {t1 : Int32} {t2 : Int32} {c_n : Int32} {c_rain : Int32} {c_ear : Int32} {c_many : Int32} {c_seed : Int32} {c_taped : Int32} {c_from : Int32} {c_to : Int32} {c_token : Int32} {c_value : Int32} {c_imaged : Int32} {c_holding : (Nat → Int32)} {c_refusals : (Nat → Int32)} {x : (Int32 × (Nat → Int32) × (Nat → Int32))} (h : f_R_show_j45 t1 t2 c_holding c_refusals = some x) :
    kW p l e rm_R_show s m args below meth c D A 3 (cells_R_show cI cL cZ a_this a_gravel a_kind a_own a_likely a_tape a_holding a_rowLength a_rowOf a_refusals a_old a_ahead a_cost a_may a_rest a_way c_n c_rain c_ear c_many c_seed c_taped c_from c_to c_token c_value c_imaged c_holding c_refusals) [] (MQ below (kQi D A (cells_R_show cI cL cZ a_this a_gravel a_kind a_own a_likely a_tape a_holding a_rowLength a_rowOf a_refusals a_old a_ahead a_cost a_may a_rest a_way c_n c_rain c_ear c_many c_seed c_taped c_from c_to c_token c_value c_imaged x.2.1 x.2.2) x.1) args s 0 0 A) 45 [.int t2, .int t1, .ref a_holding] := by
  unfold f_R_show_j45 at h
  obtain ⟨x3, hx3, h⟩ := bindE h
  refine k_iast C 1 0 (ws' := (cells_R_show cI cL cZ a_this a_gravel a_kind a_own a_likely a_tape a_holding a_rowLength a_rowOf a_refusals a_old a_ahead a_cost a_may a_rest a_way c_n c_rain c_ear c_many c_seed c_taped c_from c_to c_token c_value c_imaged x3 c_refusals)) rfl rfl hx3 rfl dX5_show_45 ?_
  refine k_iconst C (v := (1 : Int32)) dX5_show_46 (by decide) ?_
  obtain rfl := Option.some.inj h
  exact kret_i C rfl dX5_show_47
set_option maxRecDepth 100000 in
set_option maxHeartbeats 4000000 in
theorem s_R_show_j27 (C : kC p l e rm_R_show s m args below meth c D (tyG cI cL cZ) A 3 cX5_show yX5_show.cls (Cond.code yX5_show cX5_show 3 (some .int) :: WS) (some .int)) {a_this : Nat} {a_gravel : Nat} {a_kind : Nat} {a_own : Nat} {a_likely : Nat} {a_tape : Nat} {a_holding : Nat} {a_rowLength : Nat} {a_rowOf : Nat} {a_refusals : Nat} {a_old : Nat} {a_ahead : Nat} {a_cost : Nat} {a_may : Nat} {a_rest : Nat} {a_way : Nat} {v1 : Int32} {v2 : Int32} {c_n : Int32} {c_rain : Int32} {c_ear : Int32} {c_many : Int32} {c_seed : Int32} {c_taped : Int32} {c_from : Int32} {c_to : Int32} {c_token : Int32} {c_value : Int32} {c_imaged : Int32} {c_holding : (Nat → Int32)} {c_refusals : (Nat → Int32)} {x : (Int32 × (Nat → Int32) × (Nat → Int32))} (h : f_R_show_j27 v1 v2 c_holding c_refusals = some x) :
    kW p l e rm_R_show s m args below meth c D A 3 (cells_R_show cI cL cZ a_this a_gravel a_kind a_own a_likely a_tape a_holding a_rowLength a_rowOf a_refusals a_old a_ahead a_cost a_may a_rest a_way c_n c_rain c_ear c_many c_seed c_taped c_from c_to c_token c_value c_imaged c_holding c_refusals) [(0, .ref a_this), (1, .int v1), (2, .int v2)] (MQ below (kQi D A (cells_R_show cI cL cZ a_this a_gravel a_kind a_own a_likely a_tape a_holding a_rowLength a_rowOf a_refusals a_old a_ahead a_cost a_may a_rest a_way c_n c_rain c_ear c_many c_seed c_taped c_from c_to c_token c_value c_imaged x.2.1 x.2.2) x.1) args s 0 0 A) 27 [] := by
  unfold f_R_show_j27 at h
  refine k_aload_n C dX5_show_27 0 rfl rfl ?_
  refine k_get C (C0 := RX5) (T := TX5) (N := 26) (fun w h => List.mem_cons_of_mem _ (us_R w h)) 0 rfl rfl 15 (by decide) (List.mem_cons_of_mem _ wq_553) rfl rfl dX5_show_28 ?_
  refine k_iload_n C dX5_show_31 1 rfl rfl ?_
  refine k_iload_n C dX5_show_32 2 rfl rfl ?_
  refine k_iconst C (v := (-1 : Int32)) dX5_show_33 (by decide) ?_
  refine k_icmp_ne C (tgt := 41) dX5_show_34 (by decide) (fun c_34 => ?_) (fun c_34 => ?_)
  · have h := ifF c_34 h
    refine k_bipush C (v := (10 : Int32)) dX5_show_41 (by decide) ?_
    refine k_iload_n C dX5_show_43 2 rfl rfl ?_
    refine k_iadd C dX5_show_44 ?_
    refine k_lv (lv' := []) [] rfl ?_
    exact s_R_show_j45 C h
  · have h := ifT c_34 h
    refine k_iconst C (v := (-1 : Int32)) dX5_show_37 (by decide) ?_
    refine k_goto C (tgt := 45) dX5_show_38 (by decide) ?_
    refine k_lv (lv' := []) [] rfl ?_
    exact s_R_show_j45 C h
set_option maxRecDepth 100000 in
set_option maxHeartbeats 4000000 in
theorem s_R_show (C : kC p l e rm_R_show s m args below meth c D (tyG cI cL cZ) A 3 cX5_show yX5_show.cls (Cond.code yX5_show cX5_show 3 (some .int) :: WS) (some .int)) {a_this : Nat} {a_gravel : Nat} {a_kind : Nat} {a_own : Nat} {a_likely : Nat} {a_tape : Nat} {a_holding : Nat} {a_rowLength : Nat} {a_rowOf : Nat} {a_refusals : Nat} {a_old : Nat} {a_ahead : Nat} {a_cost : Nat} {a_may : Nat} {a_rest : Nat} {a_way : Nat} {v1 : Int32} {v2 : Int32} {c_n : Int32} {c_rain : Int32} {c_ear : Int32} {c_many : Int32} {c_seed : Int32} {c_taped : Int32} {c_from : Int32} {c_to : Int32} {c_token : Int32} {c_value : Int32} {c_imaged : Int32} {c_holding : (Nat → Int32)} {c_refusals : (Nat → Int32)} {x : (Int32 × (Nat → Int32) × (Nat → Int32))} (h : f_R_show v1 v2 c_many c_holding c_refusals = some x) :
    kW p l e rm_R_show s m args below meth c D A 3 (cells_R_show cI cL cZ a_this a_gravel a_kind a_own a_likely a_tape a_holding a_rowLength a_rowOf a_refusals a_old a_ahead a_cost a_may a_rest a_way c_n c_rain c_ear c_many c_seed c_taped c_from c_to c_token c_value c_imaged c_holding c_refusals) [(0, .ref a_this), (1, .int v1), (2, .int v2)] (MQ below (kQi D A (cells_R_show cI cL cZ a_this a_gravel a_kind a_own a_likely a_tape a_holding a_rowLength a_rowOf a_refusals a_old a_ahead a_cost a_may a_rest a_way c_n c_rain c_ear c_many c_seed c_taped c_from c_to c_token c_value c_imaged x.2.1 x.2.2) x.1) args s 0 0 A) 0 [] := by
  unfold f_R_show at h
  refine k_iload_n C dX5_show_0 1 rfl rfl ?_
  obtain ⟨x1, hx1, h⟩ := bindE h
  refine kcallE_i C (r := x1) (fun H locs ls hP hD hS hF hz => krunS C (c_R_isShelf l D cI cL cZ H.size v1 x1 hx1) (va_cwS 1 C.2.2.2.2.1 (gS wq_555 wq_556 wq_551 wq_554) rfl rfl rfl (by decide +kernel) ⟨(Nat.le_of_ble_eq_true rfl), (Nat.le_of_ble_eq_true rfl)⟩) kEnv_T rfl rfl (Nat.le_of_ble_eq_true rfl) dX5_show_1 hP hD hz) ?_
  refine k_if_eq C (tgt := 20) dX5_show_4 (by decide) (fun c_4 => ?_) (fun c_4 => ?_)
  · have h := ifT c_4 h
    refine k_lv (lv' := [(0, .ref a_this)]) [0] rfl ?_
    exact s_R_show_j20 C h
  · have h := ifF c_4 h
    refine k_iload_n C dX5_show_7 2 rfl rfl ?_
    refine k_iconst C (v := (-1 : Int32)) dX5_show_8 (by decide) ?_
    refine k_icmp_eq C (tgt := 27) dX5_show_9 (by decide) (fun c_9 => ?_) (fun c_9 => ?_)
    · have h := ifT c_9 h
      exact s_R_show_j27 C h
    · have h := ifF c_9 h
      refine k_aload_n C dX5_show_12 0 rfl rfl ?_
      refine k_iload_n C dX5_show_13 2 rfl rfl ?_
      obtain ⟨x4, hx4, h⟩ := bindE h
      refine kcallR_i C (wc := (cells_R_isFeet cI cL cZ a_this a_gravel a_kind a_own a_likely a_tape a_holding a_rowLength a_rowOf a_refusals a_old a_ahead a_cost a_may a_rest a_way c_n c_rain c_ear c_many c_seed c_taped c_from c_to c_token c_value c_imaged)) (r := x4) [0] (fun H locs ls hP hD hS hF hz => krunV C (q0 := 0) (ci := 5) (c_R_isFeet l D cI cL cZ H.size a_this a_gravel a_kind a_own a_likely a_tape a_holding a_rowLength a_rowOf a_refusals a_old a_ahead a_cost a_may a_rest a_way v2 c_n c_rain c_ear c_many c_seed c_taped c_from c_to c_token c_value c_imaged x4 hx4) (cwV 1 C.2.2.2.2.1 (gV wq_575 wq_576 wq_577 wq_551 wq_574) rfl rfl rfl (by decide +kernel) ⟨(Nat.le_of_ble_eq_true rfl), (Nat.le_of_ble_eq_true rfl)⟩) rfl rfl kEnv_T rfl rfl (Nat.le_of_ble_eq_true rfl) dX5_show_14 hP hD hz) rfl (by decide) ?_
      refine k_if_ne C (tgt := 27) dX5_show_17 (by decide) (fun c_17 => ?_) (fun c_17 => ?_)
      · have h := ifF c_17 h
        exact s_R_show_j27 C h
      · have h := ifT c_17 h
        refine k_lv (lv' := [(0, .ref a_this)]) [0] rfl ?_
        exact s_R_show_j20 C h
theorem c_R_show (l : Launch) (D : va_G) (cI : ClassId) (cL : ClassId) (cZ : ClassId) (sz : Nat) (a_this : Nat) (a_gravel : Nat) (a_kind : Nat) (a_own : Nat) (a_likely : Nat) (a_tape : Nat) (a_holding : Nat) (a_rowLength : Nat) (a_rowOf : Nat) (a_refusals : Nat) (a_old : Nat) (a_ahead : Nat) (a_cost : Nat) (a_may : Nat) (a_rest : Nat) (a_way : Nat) (v1 : Int32) (v2 : Int32) (c_n : Int32) (c_rain : Int32) (c_ear : Int32) (c_many : Int32) (c_seed : Int32) (c_taped : Int32) (c_from : Int32) (c_to : Int32) (c_token : Int32) (c_value : Int32) (c_imaged : Int32) (c_holding : (Nat → Int32)) (c_refusals : (Nat → Int32)) (x : (Int32 × (Nat → Int32) × (Nat → Int32))) (h : f_R_show v1 v2 c_many c_holding c_refusals = some x) :
    Met l yX5_show (Cond.code yX5_show cX5_show 3 (some .int) :: WS) rm_R_show (kP D (tyG cI cL cZ) kTrue [.ref a_this, .int v1, .int v2] sz (cells_R_show cI cL cZ a_this a_gravel a_kind a_own a_likely a_tape a_holding a_rowLength a_rowOf a_refusals a_old a_ahead a_cost a_may a_rest a_way c_n c_rain c_ear c_many c_seed c_taped c_from c_to c_token c_value c_imaged c_holding c_refusals)) (kQi D (va_A (cells_R_show cI cL cZ a_this a_gravel a_kind a_own a_likely a_tape a_holding a_rowLength a_rowOf a_refusals a_old a_ahead a_cost a_may a_rest a_way c_n c_rain c_ear c_many c_seed c_taped c_from c_to c_token c_value c_imaged c_holding c_refusals) sz) (cells_R_show cI cL cZ a_this a_gravel a_kind a_own a_likely a_tape a_holding a_rowLength a_rowOf a_refusals a_old a_ahead a_cost a_may a_rest a_way c_n c_rain c_ear c_many c_seed c_taped c_from c_to c_token c_value c_imaged x.2.1 x.2.2) x.1) 0 0 (va_A (cells_R_show cI cL cZ a_this a_gravel a_kind a_own a_likely a_tape a_holding a_rowLength a_rowOf a_refusals a_old a_ahead a_cost a_may a_rest a_way c_n c_rain c_ear c_many c_seed c_taped c_from c_to c_token c_value c_imaged c_holding c_refusals) sz) :=
  kmet (by decide) (Nat.le_of_ble_eq_true rfl) rfl (fun p e s m below meth c C hE => s_R_show C h)
abbrev cells_R_isUnder (cI : ClassId) (cL : ClassId) (cZ : ClassId) : va_W := []
abbrev rm_R_isUnder : Room := { frames := 0, cells := 0, slots := 0, locals := 0 }
set_option maxRecDepth 100000 in
set_option maxHeartbeats 4000000 in
theorem s_R_isUnder_j19 (C : kC p l e rm_R_isUnder s m args below meth c D (tyG cI cL cZ) A 2 cX5_isUnder yX5_isUnder.cls (Cond.code yX5_isUnder cX5_isUnder 2 (some .boolean) :: WS) (some .boolean)) {v0 : Int32} {v1 : Int32} {x : Int32} (h : f_R_isUnder_j19 v0 v1 = some x) :
    kW p l e rm_R_isUnder s m args below meth c D A 2 (cells_R_isUnder cI cL cZ) [(0, .int v0), (1, .int v1)] (MQ below (kQi D A (cells_R_isUnder cI cL cZ) x) args s 0 0 A) 19 [] := by
  unfold f_R_isUnder_j19 at h
  refine k_iload_n C dX5_isUnder_19 0 rfl rfl ?_
  refine k_iconst C (v := (4 : Int32)) dX5_isUnder_20 (by decide) ?_
  refine k_icmp_ne C (tgt := 33) dX5_isUnder_21 (by decide) (fun c_21 => ?_) (fun c_21 => ?_)
  · have h := ifF c_21 h
    refine k_iconst C (v := (0 : Int32)) dX5_isUnder_33 (by decide) ?_
    obtain rfl := Option.some.inj h
    exact kret_z C rfl nz0 dX5_isUnder_34
  · have h := ifT c_21 h
    refine k_iload_n C dX5_isUnder_24 1 rfl rfl ?_
    refine k_iconst C (v := (2 : Int32)) dX5_isUnder_25 (by decide) ?_
    refine k_icmp_ne C (tgt := 33) dX5_isUnder_26 (by decide) (fun c_26 => ?_) (fun c_26 => ?_)
    · have h := ifF c_26 h
      refine k_iconst C (v := (0 : Int32)) dX5_isUnder_33 (by decide) ?_
      obtain rfl := Option.some.inj h
      exact kret_z C rfl nz0 dX5_isUnder_34
    · have h := ifT c_26 h
      refine k_iconst C (v := (1 : Int32)) dX5_isUnder_29 (by decide) ?_
      refine k_goto C (tgt := 34) dX5_isUnder_30 (by decide) ?_
      obtain rfl := Option.some.inj h
      exact kret_z C rfl nz1 dX5_isUnder_34
set_option maxRecDepth 100000 in
set_option maxHeartbeats 4000000 in
theorem s_R_isUnder (C : kC p l e rm_R_isUnder s m args below meth c D (tyG cI cL cZ) A 2 cX5_isUnder yX5_isUnder.cls (Cond.code yX5_isUnder cX5_isUnder 2 (some .boolean) :: WS) (some .boolean)) {v0 : Int32} {v1 : Int32} {x : Int32} (h : f_R_isUnder v0 v1 = some x) :
    kW p l e rm_R_isUnder s m args below meth c D A 2 (cells_R_isUnder cI cL cZ) [(0, .int v0), (1, .int v1)] (MQ below (kQi D A (cells_R_isUnder cI cL cZ) x) args s 0 0 A) 0 [] := by
  unfold f_R_isUnder at h
  refine k_iload_n C dX5_isUnder_0 1 rfl rfl ?_
  refine k_if_eq C (tgt := 29) dX5_isUnder_1 (by decide) (fun c_1 => ?_) (fun c_1 => ?_)
  · have h := ifT c_1 h
    refine k_iconst C (v := (1 : Int32)) dX5_isUnder_29 (by decide) ?_
    refine k_goto C (tgt := 34) dX5_isUnder_30 (by decide) ?_
    obtain rfl := Option.some.inj h
    exact kret_z C rfl nz1 dX5_isUnder_34
  · have h := ifF c_1 h
    refine k_iload_n C dX5_isUnder_4 0 rfl rfl ?_
    refine k_iload_n C dX5_isUnder_5 1 rfl rfl ?_
    refine k_icmp_eq C (tgt := 29) dX5_isUnder_6 (by decide) (fun c_6 => ?_) (fun c_6 => ?_)
    · have h := ifT c_6 h
      refine k_iconst C (v := (1 : Int32)) dX5_isUnder_29 (by decide) ?_
      refine k_goto C (tgt := 34) dX5_isUnder_30 (by decide) ?_
      obtain rfl := Option.some.inj h
      exact kret_z C rfl nz1 dX5_isUnder_34
    · have h := ifF c_6 h
      refine k_iload_n C dX5_isUnder_9 0 rfl rfl ?_
      refine k_iconst C (v := (3 : Int32)) dX5_isUnder_10 (by decide) ?_
      refine k_icmp_ne C (tgt := 19) dX5_isUnder_11 (by decide) (fun c_11 => ?_) (fun c_11 => ?_)
      · have h := ifF c_11 h
        exact s_R_isUnder_j19 C h
      · have h := ifT c_11 h
        refine k_iload_n C dX5_isUnder_14 1 rfl rfl ?_
        refine k_iconst C (v := (1 : Int32)) dX5_isUnder_15 (by decide) ?_
        refine k_icmp_eq C (tgt := 29) dX5_isUnder_16 (by decide) (fun c_16 => ?_) (fun c_16 => ?_)
        · have h := ifT c_16 h
          refine k_iconst C (v := (1 : Int32)) dX5_isUnder_29 (by decide) ?_
          refine k_goto C (tgt := 34) dX5_isUnder_30 (by decide) ?_
          obtain rfl := Option.some.inj h
          exact kret_z C rfl nz1 dX5_isUnder_34
        · have h := ifF c_16 h
          exact s_R_isUnder_j19 C h
theorem c_R_isUnder (l : Launch) (D : va_G) (cI : ClassId) (cL : ClassId) (cZ : ClassId) (sz : Nat) (v0 : Int32) (v1 : Int32) (x : Int32) (h : f_R_isUnder v0 v1 = some x) :
    Met l yX5_isUnder (Cond.code yX5_isUnder cX5_isUnder 2 (some .boolean) :: WS) rm_R_isUnder (kP D (tyG cI cL cZ) kTrue [.int v0, .int v1] sz (cells_R_isUnder cI cL cZ)) (kQi D (va_A (cells_R_isUnder cI cL cZ) sz) (cells_R_isUnder cI cL cZ) x) 0 0 (va_A (cells_R_isUnder cI cL cZ) sz) :=
  kmet (by decide) (Nat.le_of_ble_eq_true rfl) rfl (fun p e s m below meth c C hE => s_R_isUnder C h)
abbrev cells_R_wet (cI : ClassId) (cL : ClassId) (cZ : ClassId) (a_this : Nat) (a_gravel : Nat) (a_kind : Nat) (a_own : Nat) (a_likely : Nat) (a_tape : Nat) (a_holding : Nat) (a_rowLength : Nat) (a_rowOf : Nat) (a_refusals : Nat) (a_old : Nat) (a_ahead : Nat) (a_cost : Nat) (a_may : Nat) (a_rest : Nat) (a_way : Nat) (c_n : Int32) (c_rain : Int32) (c_ear : Int32) (c_many : Int32) (c_seed : Int32) (c_taped : Int32) (c_from : Int32) (c_to : Int32) (c_token : Int32) (c_value : Int32) (c_imaged : Int32) (c_gravel : (Nat → Int32)) : va_W := [(a_this, .inr (5, [.int c_n, .ref a_gravel, .int c_rain, .int c_ear, .int c_many, .ref a_kind, .ref a_own, .ref a_likely, .int c_seed, .int c_taped, .ref a_tape, .int c_from, .int c_to, .int c_token, .int c_value, .ref a_holding, .ref a_rowLength, .ref a_rowOf, .ref a_refusals, .int c_imaged, .ref a_old, .ref a_ahead, .ref a_cost, .ref a_may, .ref a_rest, .ref a_way])), (a_gravel, .inl (cI, 36, .inl c_gravel))]
abbrev rm_R_wet : Room := { frames := 1, cells := 0, slots := 0, locals := 32 }
set_option maxRecDepth 100000 in
set_option maxHeartbeats 4000000 in
theorem s_R_wet (C : kC p l e rm_R_wet s m args below meth c D (tyG cI cL cZ) A 2 cX5_wet yX5_wet.cls (Cond.code yX5_wet cX5_wet 2 (some .int) :: WS) (some .int)) {a_this : Nat} {a_gravel : Nat} {a_kind : Nat} {a_own : Nat} {a_likely : Nat} {a_tape : Nat} {a_holding : Nat} {a_rowLength : Nat} {a_rowOf : Nat} {a_refusals : Nat} {a_old : Nat} {a_ahead : Nat} {a_cost : Nat} {a_may : Nat} {a_rest : Nat} {a_way : Nat} {v1 : Int32} {c_n : Int32} {c_rain : Int32} {c_ear : Int32} {c_many : Int32} {c_seed : Int32} {c_taped : Int32} {c_from : Int32} {c_to : Int32} {c_token : Int32} {c_value : Int32} {c_imaged : Int32} {c_gravel : (Nat → Int32)} {x : Int32} (h : f_R_wet v1 c_rain c_gravel = some x) :
    kW p l e rm_R_wet s m args below meth c D A 2 (cells_R_wet cI cL cZ a_this a_gravel a_kind a_own a_likely a_tape a_holding a_rowLength a_rowOf a_refusals a_old a_ahead a_cost a_may a_rest a_way c_n c_rain c_ear c_many c_seed c_taped c_from c_to c_token c_value c_imaged c_gravel) [(0, .ref a_this), (1, .int v1)] (MQ below (kQi D A (cells_R_wet cI cL cZ a_this a_gravel a_kind a_own a_likely a_tape a_holding a_rowLength a_rowOf a_refusals a_old a_ahead a_cost a_may a_rest a_way c_n c_rain c_ear c_many c_seed c_taped c_from c_to c_token c_value c_imaged c_gravel) x) args s 0 0 A) 0 [] := by
  unfold f_R_wet at h
  refine k_iconst C (v := (0 : Int32)) dX5_wet_0 (by decide) ?_
  refine k_aload_n C dX5_wet_1 0 rfl rfl ?_
  refine k_get C (C0 := RX5) (T := TX5) (N := 26) (fun w h => List.mem_cons_of_mem _ (us_R w h)) 0 rfl rfl 1 (by decide) (List.mem_cons_of_mem _ wq_578) rfl rfl dX5_wet_2 ?_
  refine k_iload_n C dX5_wet_5 1 rfl rfl ?_
  obtain ⟨x1, hx1, h⟩ := bindE h
  refine k_iald C 1 0 rfl rfl hx1 dX5_wet_6 ?_
  refine k_aload_n C dX5_wet_7 0 rfl rfl ?_
  refine k_get C (C0 := RX5) (T := TX5) (N := 26) (fun w h => List.mem_cons_of_mem _ (us_R w h)) 0 rfl rfl 2 (by decide) (List.mem_cons_of_mem _ wq_579) rfl rfl dX5_wet_8 ?_
  refine k_isub C dX5_wet_11 ?_
  refine k_mmax C (List.mem_cons_of_mem _ wq_580) (List.mem_cons_of_mem _ wq_91) (List.mem_cons_of_mem _ wq_65) (List.mem_cons_of_mem _ wq_92) (Nat.le_of_ble_eq_true rfl) (Nat.le_of_ble_eq_true rfl) dX5_wet_12 ?_
  obtain rfl := Option.some.inj h
  exact kret_i C rfl dX5_wet_15
theorem c_R_wet (l : Launch) (D : va_G) (cI : ClassId) (cL : ClassId) (cZ : ClassId) (sz : Nat) (a_this : Nat) (a_gravel : Nat) (a_kind : Nat) (a_own : Nat) (a_likely : Nat) (a_tape : Nat) (a_holding : Nat) (a_rowLength : Nat) (a_rowOf : Nat) (a_refusals : Nat) (a_old : Nat) (a_ahead : Nat) (a_cost : Nat) (a_may : Nat) (a_rest : Nat) (a_way : Nat) (v1 : Int32) (c_n : Int32) (c_rain : Int32) (c_ear : Int32) (c_many : Int32) (c_seed : Int32) (c_taped : Int32) (c_from : Int32) (c_to : Int32) (c_token : Int32) (c_value : Int32) (c_imaged : Int32) (c_gravel : (Nat → Int32)) (x : Int32) (h : f_R_wet v1 c_rain c_gravel = some x) :
    Met l yX5_wet (Cond.code yX5_wet cX5_wet 2 (some .int) :: WS) rm_R_wet (kP D (tyG cI cL cZ) kTrue [.ref a_this, .int v1] sz (cells_R_wet cI cL cZ a_this a_gravel a_kind a_own a_likely a_tape a_holding a_rowLength a_rowOf a_refusals a_old a_ahead a_cost a_may a_rest a_way c_n c_rain c_ear c_many c_seed c_taped c_from c_to c_token c_value c_imaged c_gravel)) (kQi D (va_A (cells_R_wet cI cL cZ a_this a_gravel a_kind a_own a_likely a_tape a_holding a_rowLength a_rowOf a_refusals a_old a_ahead a_cost a_may a_rest a_way c_n c_rain c_ear c_many c_seed c_taped c_from c_to c_token c_value c_imaged c_gravel) sz) (cells_R_wet cI cL cZ a_this a_gravel a_kind a_own a_likely a_tape a_holding a_rowLength a_rowOf a_refusals a_old a_ahead a_cost a_may a_rest a_way c_n c_rain c_ear c_many c_seed c_taped c_from c_to c_token c_value c_imaged c_gravel) x) 0 0 (va_A (cells_R_wet cI cL cZ a_this a_gravel a_kind a_own a_likely a_tape a_holding a_rowLength a_rowOf a_refusals a_old a_ahead a_cost a_may a_rest a_way c_n c_rain c_ear c_many c_seed c_taped c_from c_to c_token c_value c_imaged c_gravel) sz) :=
  kmet (by decide) (Nat.le_of_ble_eq_true rfl) rfl (fun p e s m below meth c C hE => s_R_wet C h)
abbrev cells_R_crunches (cI : ClassId) (cL : ClassId) (cZ : ClassId) (a_this : Nat) (a_gravel : Nat) (a_kind : Nat) (a_own : Nat) (a_likely : Nat) (a_tape : Nat) (a_holding : Nat) (a_rowLength : Nat) (a_rowOf : Nat) (a_refusals : Nat) (a_old : Nat) (a_ahead : Nat) (a_cost : Nat) (a_may : Nat) (a_rest : Nat) (a_way : Nat) (c_n : Int32) (c_rain : Int32) (c_ear : Int32) (c_many : Int32) (c_seed : Int32) (c_taped : Int32) (c_from : Int32) (c_to : Int32) (c_token : Int32) (c_value : Int32) (c_imaged : Int32) (c_gravel : (Nat → Int32)) (c_kind : (Nat → Int32)) (c_own : (Nat → Int32)) : va_W := [(a_this, .inr (5, [.int c_n, .ref a_gravel, .int c_rain, .int c_ear, .int c_many, .ref a_kind, .ref a_own, .ref a_likely, .int c_seed, .int c_taped, .ref a_tape, .int c_from, .int c_to, .int c_token, .int c_value, .ref a_holding, .ref a_rowLength, .ref a_rowOf, .ref a_refusals, .int c_imaged, .ref a_old, .ref a_ahead, .ref a_cost, .ref a_may, .ref a_rest, .ref a_way])), (a_gravel, .inl (cI, 36, .inl c_gravel)), (a_kind, .inl (cI, 8, .inl c_kind)), (a_own, .inl (cI, 8, .inl c_own))]
abbrev rm_R_crunches : Room := { frames := 2, cells := 0, slots := 0, locals := 53 }
set_option maxRecDepth 100000 in
set_option maxHeartbeats 4000000 in
theorem s_R_crunches (C : kC p l e rm_R_crunches s m args below meth c D (tyG cI cL cZ) A 6 cX5_crunches yX5_crunches.cls (Cond.code yX5_crunches cX5_crunches 6 (some .int) :: WS) (some .int)) {a_this : Nat} {a_gravel : Nat} {a_kind : Nat} {a_own : Nat} {a_likely : Nat} {a_tape : Nat} {a_holding : Nat} {a_rowLength : Nat} {a_rowOf : Nat} {a_refusals : Nat} {a_old : Nat} {a_ahead : Nat} {a_cost : Nat} {a_may : Nat} {a_rest : Nat} {a_way : Nat} {v1 : Int32} {v2 : Int32} {v3 : Int32} {c_n : Int32} {c_rain : Int32} {c_ear : Int32} {c_many : Int32} {c_seed : Int32} {c_taped : Int32} {c_from : Int32} {c_to : Int32} {c_token : Int32} {c_value : Int32} {c_imaged : Int32} {c_gravel : (Nat → Int32)} {c_kind : (Nat → Int32)} {c_own : (Nat → Int32)} {x : Int32} (h : f_R_crunches v1 v2 v3 c_rain c_gravel c_kind c_own = some x) :
    kW p l e rm_R_crunches s m args below meth c D A 6 (cells_R_crunches cI cL cZ a_this a_gravel a_kind a_own a_likely a_tape a_holding a_rowLength a_rowOf a_refusals a_old a_ahead a_cost a_may a_rest a_way c_n c_rain c_ear c_many c_seed c_taped c_from c_to c_token c_value c_imaged c_gravel c_kind c_own) [(0, .ref a_this), (1, .int v1), (2, .int v2), (3, .int v3)] (MQ below (kQi D A (cells_R_crunches cI cL cZ a_this a_gravel a_kind a_own a_likely a_tape a_holding a_rowLength a_rowOf a_refusals a_old a_ahead a_cost a_may a_rest a_way c_n c_rain c_ear c_many c_seed c_taped c_from c_to c_token c_value c_imaged c_gravel c_kind c_own) x) args s 0 0 A) 0 [] := by
  unfold f_R_crunches at h
  refine k_aload_n C dX5_crunches_0 0 rfl rfl ?_
  refine k_iload_n C dX5_crunches_1 2 rfl rfl ?_
  obtain ⟨x1, hx1, h⟩ := bindE h
  refine kcallR_i C (wc := (cells_R_wet cI cL cZ a_this a_gravel a_kind a_own a_likely a_tape a_holding a_rowLength a_rowOf a_refusals a_old a_ahead a_cost a_may a_rest a_way c_n c_rain c_ear c_many c_seed c_taped c_from c_to c_token c_value c_imaged c_gravel)) (r := x1) [0, 1] (fun H locs ls hP hD hS hF hz => krunV C (q0 := 0) (ci := 5) (c_R_wet l D cI cL cZ H.size a_this a_gravel a_kind a_own a_likely a_tape a_holding a_rowLength a_rowOf a_refusals a_old a_ahead a_cost a_may a_rest a_way v2 c_n c_rain c_ear c_many c_seed c_taped c_from c_to c_token c_value c_imaged c_gravel x1 hx1) (cwV 1 C.2.2.2.2.1 (gV wq_582 wq_583 wq_584 wq_551 wq_581) rfl rfl rfl (by decide +kernel) ⟨(Nat.le_of_ble_eq_true rfl), (Nat.le_of_ble_eq_true rfl)⟩) rfl rfl kEnv_T rfl rfl (Nat.le_of_ble_eq_true rfl) dX5_crunches_2 hP hD hz) rfl (by decide) ?_
  refine k_istore C (lv' := [(4, .int x1), (0, .ref a_this), (1, .int v1), (2, .int v2), (3, .int v3)]) dX5_crunches_5 (by decide) rfl ?_
  refine k_iload C dX5_crunches_7 0 rfl ?_
  refine k_if_ne C (tgt := 14) dX5_crunches_9 (by decide) (fun c_9 => ?_) (fun c_9 => ?_)
  · have h := ifF c_9 h
    refine k_iload C dX5_crunches_14 0 rfl ?_
    refine k_aload_n C dX5_crunches_16 1 rfl rfl ?_
    refine k_get C (C0 := RX5) (T := TX5) (N := 26) (fun w h => List.mem_cons_of_mem _ (us_R w h)) 0 rfl rfl 6 (by decide) (List.mem_cons_of_mem _ wq_585) rfl rfl dX5_crunches_17 ?_
    refine k_iload_n C dX5_crunches_20 2 rfl rfl ?_
    obtain ⟨x2, hx2, h⟩ := bindE h
    refine k_iald C 3 0 rfl rfl hx2 dX5_crunches_21 ?_
    refine k_iadd C dX5_crunches_22 ?_
    refine k_istore C (lv' := [(5, .int (x1 + x2)), (4, .int x1), (0, .ref a_this), (1, .int v1), (2, .int v2), (3, .int v3)]) dX5_crunches_23 (by decide) rfl ?_
    refine k_aload_n C dX5_crunches_25 2 rfl rfl ?_
    refine k_get C (C0 := RX5) (T := TX5) (N := 26) (fun w h => List.mem_cons_of_mem _ (us_R w h)) 0 rfl rfl 5 (by decide) (List.mem_cons_of_mem _ wq_586) rfl rfl dX5_crunches_26 ?_
    refine k_iload_n C dX5_crunches_29 3 rfl rfl ?_
    obtain ⟨x3, hx3, h⟩ := bindE h
    refine k_iald C 2 0 rfl rfl hx3 dX5_crunches_30 ?_
    by_cases e_31_1 : x3 = (1 : Int32)
    · have h := ifT e_31_1 h
      have z : Int32.toInt x3 = 1 := by rw [e_31_1]; decide
      refine k_tableIn C (off := 33) (tgt := 64) dX5_crunches_31 (by rw [z]; decide) (by rw [z]; decide) (by rw [z]; rfl) (by decide) ?_
      refine k_iconst C (v := (2 : Int32)) dX5_crunches_64 (by decide) ?_
      refine k_iload C dX5_crunches_65 0 rfl ?_
      refine k_imul C dX5_crunches_67 ?_
      obtain rfl := Option.some.inj h
      exact kret_i C rfl dX5_crunches_68
    have h := ifF e_31_1 h
    by_cases e_31_2 : x3 = (2 : Int32)
    · have h := ifT e_31_2 h
      have z : Int32.toInt x3 = 2 := by rw [e_31_2]; decide
      refine k_tableIn C (off := 38) (tgt := 69) dX5_crunches_31 (by rw [z]; decide) (by rw [z]; decide) (by rw [z]; rfl) (by decide) ?_
      refine k_iconst C (v := (0 : Int32)) dX5_crunches_69 (by decide) ?_
      refine k_iload C dX5_crunches_70 0 rfl ?_
      refine k_iconst C (v := (3 : Int32)) dX5_crunches_72 (by decide) ?_
      refine k_isub C dX5_crunches_73 ?_
      refine k_mmax C (List.mem_cons_of_mem _ wq_580) (List.mem_cons_of_mem _ wq_91) (List.mem_cons_of_mem _ wq_65) (List.mem_cons_of_mem _ wq_92) (Nat.le_of_ble_eq_true rfl) (Nat.le_of_ble_eq_true rfl) dX5_crunches_74 ?_
      obtain rfl := Option.some.inj h
      exact kret_i C rfl dX5_crunches_77
    have h := ifF e_31_2 h
    by_cases e_31_3 : x3 = (3 : Int32)
    · have h := ifT e_31_3 h
      have z : Int32.toInt x3 = 3 := by rw [e_31_3]; decide
      refine k_tableIn C (off := 47) (tgt := 78) dX5_crunches_31 (by rw [z]; decide) (by rw [z]; decide) (by rw [z]; rfl) (by decide) ?_
      refine k_iconst C (v := (2 : Int32)) dX5_crunches_78 (by decide) ?_
      refine k_iload C dX5_crunches_79 0 rfl ?_
      refine k_imul C dX5_crunches_81 ?_
      refine k_iload_n C dX5_crunches_82 5 rfl rfl ?_
      refine k_iconst C (v := (2 : Int32)) dX5_crunches_83 (by decide) ?_
      obtain ⟨x4, hx4, h⟩ := bindE h
      refine k_irem C dX5_crunches_84 hx4 ?_
      refine k_iadd C dX5_crunches_85 ?_
      obtain rfl := Option.some.inj h
      exact kret_i C rfl dX5_crunches_86
    have h := ifF e_31_3 h
    by_cases e_31_4 : x3 = (4 : Int32)
    · have h := ifT e_31_4 h
      have z : Int32.toInt x3 = 4 := by rw [e_31_4]; decide
      refine k_tableIn C (off := 56) (tgt := 87) dX5_crunches_31 (by rw [z]; decide) (by rw [z]; decide) (by rw [z]; rfl) (by decide) ?_
      refine k_iload C dX5_crunches_87 1 rfl ?_
      refine k_iconst C (v := (5 : Int32)) dX5_crunches_89 (by decide) ?_
      refine k_icmp_ge C (tgt := 97) dX5_crunches_90 (by decide) (fun c_90 => ?_) (fun c_90 => ?_)
      · have h := ifT c_90 h
        refine k_iconst C (v := (0 : Int32)) dX5_crunches_97 (by decide) ?_
        refine k_iload C dX5_crunches_98 0 rfl ?_
        refine k_iconst C (v := (3 : Int32)) dX5_crunches_100 (by decide) ?_
        refine k_isub C dX5_crunches_101 ?_
        refine k_mmax C (List.mem_cons_of_mem _ wq_580) (List.mem_cons_of_mem _ wq_91) (List.mem_cons_of_mem _ wq_65) (List.mem_cons_of_mem _ wq_92) (Nat.le_of_ble_eq_true rfl) (Nat.le_of_ble_eq_true rfl) dX5_crunches_102 ?_
        obtain rfl := Option.some.inj h
        exact kret_i C rfl dX5_crunches_105
      · have h := ifF c_90 h
        refine k_iconst C (v := (0 : Int32)) dX5_crunches_93 (by decide) ?_
        refine k_goto C (tgt := 105) dX5_crunches_94 (by decide) ?_
        obtain rfl := Option.some.inj h
        exact kret_i C rfl dX5_crunches_105
    have h := ifF e_31_4 h
    by_cases e_31_5 : x3 = (5 : Int32)
    · have h := ifT e_31_5 h
      have z : Int32.toInt x3 = 5 := by rw [e_31_5]; decide
      refine k_tableIn C (off := 75) (tgt := 106) dX5_crunches_31 (by rw [z]; decide) (by rw [z]; decide) (by rw [z]; rfl) (by decide) ?_
      refine k_iload_n C dX5_crunches_106 5 rfl rfl ?_
      refine k_iconst C (v := (2 : Int32)) dX5_crunches_107 (by decide) ?_
      obtain ⟨x5, hx5, h⟩ := bindE h
      refine k_irem C dX5_crunches_108 hx5 ?_
      refine k_if_ne C (tgt := 117) dX5_crunches_109 (by decide) (fun c_109 => ?_) (fun c_109 => ?_)
      · have h := ifF c_109 h
        refine k_iload C dX5_crunches_117 0 rfl ?_
        refine k_iconst C (v := (2 : Int32)) dX5_crunches_119 (by decide) ?_
        obtain ⟨x6, hx6, h⟩ := bindE h
        refine k_idiv C dX5_crunches_120 hx6 ?_
        obtain rfl := Option.some.inj h
        exact kret_i C rfl dX5_crunches_121
      · have h := ifT c_109 h
        refine k_iload C dX5_crunches_112 0 rfl ?_
        refine k_goto C (tgt := 121) dX5_crunches_114 (by decide) ?_
        obtain rfl := Option.some.inj h
        exact kret_i C rfl dX5_crunches_121
    have h := ifF e_31_5 h
    have ze_31_1 := lv_neT e_31_1 (a := 1) (by decide)
    have ze_31_2 := lv_neT e_31_2 (a := 2) (by decide)
    have ze_31_3 := lv_neT e_31_3 (a := 3) (by decide)
    have ze_31_4 := lv_neT e_31_4 (a := 4) (by decide)
    have ze_31_5 := lv_neT e_31_5 (a := 5) (by decide)
    refine k_tableOut C (tgt := 122) dX5_crunches_31 (by omega) (by decide) ?_
    refine k_iload C dX5_crunches_122 0 rfl ?_
    obtain rfl := Option.some.inj h
    exact kret_i C rfl dX5_crunches_124
  · have h := ifT c_9 h
    refine k_iconst C (v := (0 : Int32)) dX5_crunches_12 (by decide) ?_
    obtain rfl := Option.some.inj h
    exact kret_i C rfl dX5_crunches_13
theorem c_R_crunches (l : Launch) (D : va_G) (cI : ClassId) (cL : ClassId) (cZ : ClassId) (sz : Nat) (a_this : Nat) (a_gravel : Nat) (a_kind : Nat) (a_own : Nat) (a_likely : Nat) (a_tape : Nat) (a_holding : Nat) (a_rowLength : Nat) (a_rowOf : Nat) (a_refusals : Nat) (a_old : Nat) (a_ahead : Nat) (a_cost : Nat) (a_may : Nat) (a_rest : Nat) (a_way : Nat) (v1 : Int32) (v2 : Int32) (v3 : Int32) (c_n : Int32) (c_rain : Int32) (c_ear : Int32) (c_many : Int32) (c_seed : Int32) (c_taped : Int32) (c_from : Int32) (c_to : Int32) (c_token : Int32) (c_value : Int32) (c_imaged : Int32) (c_gravel : (Nat → Int32)) (c_kind : (Nat → Int32)) (c_own : (Nat → Int32)) (x : Int32) (h : f_R_crunches v1 v2 v3 c_rain c_gravel c_kind c_own = some x) :
    Met l yX5_crunches (Cond.code yX5_crunches cX5_crunches 6 (some .int) :: WS) rm_R_crunches (kP D (tyG cI cL cZ) kTrue [.ref a_this, .int v1, .int v2, .int v3] sz (cells_R_crunches cI cL cZ a_this a_gravel a_kind a_own a_likely a_tape a_holding a_rowLength a_rowOf a_refusals a_old a_ahead a_cost a_may a_rest a_way c_n c_rain c_ear c_many c_seed c_taped c_from c_to c_token c_value c_imaged c_gravel c_kind c_own)) (kQi D (va_A (cells_R_crunches cI cL cZ a_this a_gravel a_kind a_own a_likely a_tape a_holding a_rowLength a_rowOf a_refusals a_old a_ahead a_cost a_may a_rest a_way c_n c_rain c_ear c_many c_seed c_taped c_from c_to c_token c_value c_imaged c_gravel c_kind c_own) sz) (cells_R_crunches cI cL cZ a_this a_gravel a_kind a_own a_likely a_tape a_holding a_rowLength a_rowOf a_refusals a_old a_ahead a_cost a_may a_rest a_way c_n c_rain c_ear c_many c_seed c_taped c_from c_to c_token c_value c_imaged c_gravel c_kind c_own) x) 0 0 (va_A (cells_R_crunches cI cL cZ a_this a_gravel a_kind a_own a_likely a_tape a_holding a_rowLength a_rowOf a_refusals a_old a_ahead a_cost a_may a_rest a_way c_n c_rain c_ear c_many c_seed c_taped c_from c_to c_token c_value c_imaged c_gravel c_kind c_own) sz) :=
  kmet (by decide) (Nat.le_of_ble_eq_true rfl) rfl (fun p e s m below meth c C hE => s_R_crunches C h)
abbrev cells_R_says (cI : ClassId) (cL : ClassId) (cZ : ClassId) (a_this : Nat) (a_gravel : Nat) (a_kind : Nat) (a_own : Nat) (a_likely : Nat) (a_tape : Nat) (a_holding : Nat) (a_rowLength : Nat) (a_rowOf : Nat) (a_refusals : Nat) (a_old : Nat) (a_ahead : Nat) (a_cost : Nat) (a_may : Nat) (a_rest : Nat) (a_way : Nat) (c_n : Int32) (c_rain : Int32) (c_ear : Int32) (c_many : Int32) (c_seed : Int32) (c_taped : Int32) (c_from : Int32) (c_to : Int32) (c_token : Int32) (c_value : Int32) (c_imaged : Int32) (c_gravel : (Nat → Int32)) (c_kind : (Nat → Int32)) (c_own : (Nat → Int32)) (c_likely : (Nat → Int32)) (c_holding : (Nat → Int32)) (c_refusals : (Nat → Int32)) : va_W := [(a_this, .inr (5, [.int c_n, .ref a_gravel, .int c_rain, .int c_ear, .int c_many, .ref a_kind, .ref a_own, .ref a_likely, .int c_seed, .int c_taped, .ref a_tape, .int c_from, .int c_to, .int c_token, .int c_value, .ref a_holding, .ref a_rowLength, .ref a_rowOf, .ref a_refusals, .int c_imaged, .ref a_old, .ref a_ahead, .ref a_cost, .ref a_may, .ref a_rest, .ref a_way])), (a_gravel, .inl (cI, 36, .inl c_gravel)), (a_kind, .inl (cI, 8, .inl c_kind)), (a_own, .inl (cI, 8, .inl c_own)), (a_likely, .inl (cI, 8, .inl c_likely)), (a_holding, .inl (cI, 8, .inl c_holding)), (a_refusals, .inl (cI, 7, .inl c_refusals))]
abbrev rm_R_says : Room := { frames := 3, cells := 0, slots := 0, locals := 78 }
set_option maxRecDepth 100000 in
set_option maxHeartbeats 4000000 in
theorem s_R_says_j16 (C : kC p l e rm_R_says s m args below meth c D (tyG cI cL cZ) A 4 cX5_says yX5_says.cls (Cond.code yX5_says cX5_says 4 (some .int) :: WS) (some .int)) {a_this : Nat} {a_gravel : Nat} {a_kind : Nat} {a_own : Nat} {a_likely : Nat} {a_tape : Nat} {a_holding : Nat} {a_rowLength : Nat} {a_rowOf : Nat} {a_refusals : Nat} {a_old : Nat} {a_ahead : Nat} {a_cost : Nat} {a_may : Nat} {a_rest : Nat} {a_way : Nat} {c_n : Int32} {c_rain : Int32} {c_ear : Int32} {c_many : Int32} {c_seed : Int32} {c_taped : Int32} {c_from : Int32} {c_to : Int32} {c_token : Int32} {c_value : Int32} {c_imaged : Int32} {c_gravel : (Nat → Int32)} {c_kind : (Nat → Int32)} {c_own : (Nat → Int32)} {c_likely : (Nat → Int32)} {c_holding : (Nat → Int32)} {c_refusals : (Nat → Int32)} {x : (Int32 × (Nat → Int32))} (h : f_R_says_j16 c_refusals = some x) :
    kW p l e rm_R_says s m args below meth c D A 4 (cells_R_says cI cL cZ a_this a_gravel a_kind a_own a_likely a_tape a_holding a_rowLength a_rowOf a_refusals a_old a_ahead a_cost a_may a_rest a_way c_n c_rain c_ear c_many c_seed c_taped c_from c_to c_token c_value c_imaged c_gravel c_kind c_own c_likely c_holding c_refusals) [(0, .ref a_this)] (MQ below (kQi D A (cells_R_says cI cL cZ a_this a_gravel a_kind a_own a_likely a_tape a_holding a_rowLength a_rowOf a_refusals a_old a_ahead a_cost a_may a_rest a_way c_n c_rain c_ear c_many c_seed c_taped c_from c_to c_token c_value c_imaged c_gravel c_kind c_own c_likely c_holding x.2) x.1) args s 0 0 A) 16 [] := by
  unfold f_R_says_j16 at h
  refine k_aload_n C dX5_says_16 0 rfl rfl ?_
  refine k_bipush C (v := (-2 : Int32)) dX5_says_17 (by decide) ?_
  obtain ⟨x2, hx2, h⟩ := bindE h
  refine kcallU_i C (wc := (cells_R_no cI cL cZ a_this a_gravel a_kind a_own a_likely a_tape a_holding a_rowLength a_rowOf a_refusals a_old a_ahead a_cost a_may a_rest a_way c_n c_rain c_ear c_many c_seed c_taped c_from c_to c_token c_value c_imaged c_refusals)) (w1 := (cells_R_no cI cL cZ a_this a_gravel a_kind a_own a_likely a_tape a_holding a_rowLength a_rowOf a_refusals a_old a_ahead a_cost a_may a_rest a_way c_n c_rain c_ear c_many c_seed c_taped c_from c_to c_token c_value c_imaged x2.2)) (ws' := (cells_R_says cI cL cZ a_this a_gravel a_kind a_own a_likely a_tape a_holding a_rowLength a_rowOf a_refusals a_old a_ahead a_cost a_may a_rest a_way c_n c_rain c_ear c_many c_seed c_taped c_from c_to c_token c_value c_imaged c_gravel c_kind c_own c_likely c_holding x2.2)) (r := x2.1) [0, 6] (fun H locs ls hP hD hS hF hz => krunV C (q0 := 0) (ci := 5) (c_R_no l D cI cL cZ H.size a_this a_gravel a_kind a_own a_likely a_tape a_holding a_rowLength a_rowOf a_refusals a_old a_ahead a_cost a_may a_rest a_way (-2 : Int32) c_n c_rain c_ear c_many c_seed c_taped c_from c_to c_token c_value c_imaged c_refusals x2 hx2) (cwV 1 C.2.2.2.2.1 (gV wq_558 wq_559 wq_560 wq_551 wq_557) rfl rfl rfl (by decide +kernel) ⟨(Nat.le_of_ble_eq_true rfl), (Nat.le_of_ble_eq_true rfl)⟩) rfl rfl kEnv_T rfl rfl (Nat.le_of_ble_eq_true rfl) dX5_says_19 hP hD hz) rfl (by decide) rfl rfl ?_
  obtain rfl := Option.some.inj h
  exact kret_i C rfl dX5_says_22
set_option maxRecDepth 100000 in
set_option maxHeartbeats 4000000 in
theorem s_R_says (C : kC p l e rm_R_says s m args below meth c D (tyG cI cL cZ) A 4 cX5_says yX5_says.cls (Cond.code yX5_says cX5_says 4 (some .int) :: WS) (some .int)) {a_this : Nat} {a_gravel : Nat} {a_kind : Nat} {a_own : Nat} {a_likely : Nat} {a_tape : Nat} {a_holding : Nat} {a_rowLength : Nat} {a_rowOf : Nat} {a_refusals : Nat} {a_old : Nat} {a_ahead : Nat} {a_cost : Nat} {a_may : Nat} {a_rest : Nat} {a_way : Nat} {v1 : Int32} {v2 : Int32} {c_n : Int32} {c_rain : Int32} {c_ear : Int32} {c_many : Int32} {c_seed : Int32} {c_taped : Int32} {c_from : Int32} {c_to : Int32} {c_token : Int32} {c_value : Int32} {c_imaged : Int32} {c_gravel : (Nat → Int32)} {c_kind : (Nat → Int32)} {c_own : (Nat → Int32)} {c_likely : (Nat → Int32)} {c_holding : (Nat → Int32)} {c_refusals : (Nat → Int32)} {x : (Int32 × (Nat → Int32))} (h : f_R_says v1 v2 c_rain c_gravel c_kind c_own c_likely c_holding c_refusals = some x) :
    kW p l e rm_R_says s m args below meth c D A 4 (cells_R_says cI cL cZ a_this a_gravel a_kind a_own a_likely a_tape a_holding a_rowLength a_rowOf a_refusals a_old a_ahead a_cost a_may a_rest a_way c_n c_rain c_ear c_many c_seed c_taped c_from c_to c_token c_value c_imaged c_gravel c_kind c_own c_likely c_holding c_refusals) [(0, .ref a_this), (1, .int v1), (2, .int v2)] (MQ below (kQi D A (cells_R_says cI cL cZ a_this a_gravel a_kind a_own a_likely a_tape a_holding a_rowLength a_rowOf a_refusals a_old a_ahead a_cost a_may a_rest a_way c_n c_rain c_ear c_many c_seed c_taped c_from c_to c_token c_value c_imaged c_gravel c_kind c_own c_likely c_holding x.2) x.1) args s 0 0 A) 0 [] := by
  unfold f_R_says at h
  refine k_iload_n C dX5_says_0 1 rfl rfl ?_
  obtain ⟨x1, hx1, h⟩ := bindE h
  refine kcallE_i C (r := x1) (fun H locs ls hP hD hS hF hz => krunS C (c_R_isShelf l D cI cL cZ H.size v1 x1 hx1) (va_cwS 1 C.2.2.2.2.1 (gS wq_555 wq_556 wq_551 wq_554) rfl rfl rfl (by decide +kernel) ⟨(Nat.le_of_ble_eq_true rfl), (Nat.le_of_ble_eq_true rfl)⟩) kEnv_T rfl rfl (Nat.le_of_ble_eq_true rfl) dX5_says_1 hP hD hz) ?_
  refine k_if_eq C (tgt := 16) dX5_says_4 (by decide) (fun c_4 => ?_) (fun c_4 => ?_)
  · have h := ifT c_4 h
    refine k_lv (lv' := [(0, .ref a_this)]) [0] rfl ?_
    exact s_R_says_j16 C h
  · have h := ifF c_4 h
    refine k_iload_n C dX5_says_7 2 rfl rfl ?_
    refine k_iconst C (v := (0 : Int32)) dX5_says_8 (by decide) ?_
    refine k_iconst C (v := (5 : Int32)) dX5_says_9 (by decide) ?_
    obtain ⟨x3, hx3, h⟩ := bindE h
    refine kcallE_i C (r := x3) (fun H locs ls hP hD hS hF hz => krunS C (c_R_within l D cI cL cZ H.size v2 (0 : Int32) (5 : Int32) x3 hx3) (va_cwS 3 C.2.2.2.2.1 (gS wq_549 wq_550 wq_551 wq_548) rfl rfl rfl (by decide +kernel) ⟨(Nat.le_of_ble_eq_true rfl), (Nat.le_of_ble_eq_true rfl)⟩) kEnv_T rfl rfl (Nat.le_of_ble_eq_true rfl) dX5_says_10 hP hD hz) ?_
    refine k_if_ne C (tgt := 23) dX5_says_13 (by decide) (fun c_13 => ?_) (fun c_13 => ?_)
    · have h := ifF c_13 h
      refine k_aload_n C dX5_says_23 0 rfl rfl ?_
      refine k_iload_n C dX5_says_24 1 rfl rfl ?_
      obtain ⟨x4, hx4, h⟩ := bindE h
      refine kcallR_i C (wc := (cells_R_isRow cI cL cZ a_this a_gravel a_kind a_own a_likely a_tape a_holding a_rowLength a_rowOf a_refusals a_old a_ahead a_cost a_may a_rest a_way c_n c_rain c_ear c_many c_seed c_taped c_from c_to c_token c_value c_imaged c_holding)) (r := x4) [0, 5] (fun H locs ls hP hD hS hF hz => krunV C (q0 := 0) (ci := 5) (c_R_isRow l D cI cL cZ H.size a_this a_gravel a_kind a_own a_likely a_tape a_holding a_rowLength a_rowOf a_refusals a_old a_ahead a_cost a_may a_rest a_way v1 c_n c_rain c_ear c_many c_seed c_taped c_from c_to c_token c_value c_imaged c_holding x4 hx4) (cwV 1 C.2.2.2.2.1 (gV wq_564 wq_565 wq_566 wq_551 wq_563) rfl rfl rfl (by decide +kernel) ⟨(Nat.le_of_ble_eq_true rfl), (Nat.le_of_ble_eq_true rfl)⟩) rfl rfl kEnv_T rfl rfl (Nat.le_of_ble_eq_true rfl) dX5_says_25 hP hD hz) rfl (by decide) ?_
      refine k_if_eq C (tgt := 38) dX5_says_28 (by decide) (fun c_28 => ?_) (fun c_28 => ?_)
      · have h := ifT c_28 h
        refine k_aload_n C dX5_says_38 0 rfl rfl ?_
        refine k_get C (C0 := RX5) (T := TX5) (N := 26) (fun w h => List.mem_cons_of_mem _ (us_R w h)) 0 rfl rfl 15 (by decide) (List.mem_cons_of_mem _ wq_553) rfl rfl dX5_says_39 ?_
        refine k_iload_n C dX5_says_42 1 rfl rfl ?_
        obtain ⟨x5, hx5, h⟩ := bindE h
        refine k_iald C 5 0 rfl rfl hx5 dX5_says_43 ?_
        refine k_if_ge C (tgt := 54) dX5_says_44 (by decide) (fun c_44 => ?_) (fun c_44 => ?_)
        · have h := ifT c_44 h
          refine k_aload_n C dX5_says_54 0 rfl rfl ?_
          refine k_get C (C0 := RX5) (T := TX5) (N := 26) (fun w h => List.mem_cons_of_mem _ (us_R w h)) 0 rfl rfl 15 (by decide) (List.mem_cons_of_mem _ wq_553) rfl rfl dX5_says_55 ?_
          refine k_iload_n C dX5_says_58 1 rfl rfl ?_
          obtain ⟨x6, hx6, h⟩ := bindE h
          refine k_iald C 5 0 rfl rfl hx6 dX5_says_59 ?_
          refine k_bipush C (v := (10 : Int32)) dX5_says_60 (by decide) ?_
          refine k_isub C dX5_says_62 ?_
          refine k_istore_n C (lv' := [(3, .int (x6 - (10 : Int32))), (0, .ref a_this), (1, .int v1), (2, .int v2)]) dX5_says_63 rfl (by decide) rfl ?_
          refine k_aload_n C dX5_says_64 1 rfl rfl ?_
          refine k_get C (C0 := RX5) (T := TX5) (N := 26) (fun w h => List.mem_cons_of_mem _ (us_R w h)) 0 rfl rfl 5 (by decide) (List.mem_cons_of_mem _ wq_586) rfl rfl dX5_says_65 ?_
          refine k_iload_n C dX5_says_68 0 rfl rfl ?_
          obtain ⟨x7, hx7, h⟩ := bindE h
          refine k_iald C 2 0 rfl rfl hx7 dX5_says_69 ?_
          refine k_iload_n C dX5_says_70 3 rfl rfl ?_
          obtain ⟨x8, hx8, h⟩ := bindE h
          refine kcallE_i C (r := x8) (fun H locs ls hP hD hS hF hz => krunS C (c_R_isUnder l D cI cL cZ H.size x7 v2 x8 hx8) (va_cwS 2 C.2.2.2.2.1 (gS wq_588 wq_589 wq_551 wq_587) rfl rfl rfl (by decide +kernel) ⟨(Nat.le_of_ble_eq_true rfl), (Nat.le_of_ble_eq_true rfl)⟩) kEnv_T rfl rfl (Nat.le_of_ble_eq_true rfl) dX5_says_71 hP hD hz) ?_
          refine k_if_ne C (tgt := 84) dX5_says_74 (by decide) (fun c_74 => ?_) (fun c_74 => ?_)
          · have h := ifF c_74 h
            refine k_iload_n C dX5_says_84 3 rfl rfl ?_
            refine k_if_ne C (tgt := 97) dX5_says_85 (by decide) (fun c_85 => ?_) (fun c_85 => ?_)
            · have h := ifF c_85 h
              refine k_aload_n C dX5_says_97 1 rfl rfl ?_
              refine k_iload_n C dX5_says_98 0 rfl rfl ?_
              refine k_iconst C (v := (0 : Int32)) dX5_says_99 (by decide) ?_
              refine k_iconst C (v := (1 : Int32)) dX5_says_100 (by decide) ?_
              obtain ⟨x9, hx9, h⟩ := bindE h
              refine kcallR_i C (wc := (cells_R_crunches cI cL cZ a_this a_gravel a_kind a_own a_likely a_tape a_holding a_rowLength a_rowOf a_refusals a_old a_ahead a_cost a_may a_rest a_way c_n c_rain c_ear c_many c_seed c_taped c_from c_to c_token c_value c_imaged c_gravel c_kind c_own)) (r := x9) [0, 1, 2, 3] (fun H locs ls hP hD hS hF hz => krunV C (q0 := 0) (ci := 5) (c_R_crunches l D cI cL cZ H.size a_this a_gravel a_kind a_own a_likely a_tape a_holding a_rowLength a_rowOf a_refusals a_old a_ahead a_cost a_may a_rest a_way (x6 - (10 : Int32)) (0 : Int32) (1 : Int32) c_n c_rain c_ear c_many c_seed c_taped c_from c_to c_token c_value c_imaged c_gravel c_kind c_own x9 hx9) (cwV 3 C.2.2.2.2.1 (gV wq_591 wq_592 wq_593 wq_551 wq_590) rfl rfl rfl (by decide +kernel) ⟨(Nat.le_of_ble_eq_true rfl), (Nat.le_of_ble_eq_true rfl)⟩) rfl rfl kEnv_T rfl rfl (Nat.le_of_ble_eq_true rfl) dX5_says_101 hP hD hz) rfl (by decide) ?_
              obtain rfl := Option.some.inj h
              exact kret_i C rfl dX5_says_104
            · have h := ifT c_85 h
              refine k_aload_n C dX5_says_88 1 rfl rfl ?_
              refine k_get C (C0 := RX5) (T := TX5) (N := 26) (fun w h => List.mem_cons_of_mem _ (us_R w h)) 0 rfl rfl 7 (by decide) (List.mem_cons_of_mem _ wq_594) rfl rfl dX5_says_89 ?_
              refine k_iload_n C dX5_says_92 0 rfl rfl ?_
              obtain ⟨x10, hx10, h⟩ := bindE h
              refine k_iald C 4 0 rfl rfl hx10 dX5_says_93 ?_
              refine k_goto C (tgt := 104) dX5_says_94 (by decide) ?_
              obtain rfl := Option.some.inj h
              exact kret_i C rfl dX5_says_104
          · have h := ifT c_74 h
            refine k_aload_n C dX5_says_77 1 rfl rfl ?_
            refine k_bipush C (v := (-3 : Int32)) dX5_says_78 (by decide) ?_
            obtain ⟨x11, hx11, h⟩ := bindE h
            refine kcallU_i C (wc := (cells_R_no cI cL cZ a_this a_gravel a_kind a_own a_likely a_tape a_holding a_rowLength a_rowOf a_refusals a_old a_ahead a_cost a_may a_rest a_way c_n c_rain c_ear c_many c_seed c_taped c_from c_to c_token c_value c_imaged c_refusals)) (w1 := (cells_R_no cI cL cZ a_this a_gravel a_kind a_own a_likely a_tape a_holding a_rowLength a_rowOf a_refusals a_old a_ahead a_cost a_may a_rest a_way c_n c_rain c_ear c_many c_seed c_taped c_from c_to c_token c_value c_imaged x11.2)) (ws' := (cells_R_says cI cL cZ a_this a_gravel a_kind a_own a_likely a_tape a_holding a_rowLength a_rowOf a_refusals a_old a_ahead a_cost a_may a_rest a_way c_n c_rain c_ear c_many c_seed c_taped c_from c_to c_token c_value c_imaged c_gravel c_kind c_own c_likely c_holding x11.2)) (r := x11.1) [0, 6] (fun H locs ls hP hD hS hF hz => krunV C (q0 := 0) (ci := 5) (c_R_no l D cI cL cZ H.size a_this a_gravel a_kind a_own a_likely a_tape a_holding a_rowLength a_rowOf a_refusals a_old a_ahead a_cost a_may a_rest a_way (-3 : Int32) c_n c_rain c_ear c_many c_seed c_taped c_from c_to c_token c_value c_imaged c_refusals x11 hx11) (cwV 1 C.2.2.2.2.1 (gV wq_558 wq_559 wq_560 wq_551 wq_557) rfl rfl rfl (by decide +kernel) ⟨(Nat.le_of_ble_eq_true rfl), (Nat.le_of_ble_eq_true rfl)⟩) rfl rfl kEnv_T rfl rfl (Nat.le_of_ble_eq_true rfl) dX5_says_80 hP hD hz) rfl (by decide) rfl rfl ?_
            obtain rfl := Option.some.inj h
            exact kret_i C rfl dX5_says_83
        · have h := ifF c_44 h
          refine k_aload_n C dX5_says_47 0 rfl rfl ?_
          refine k_bipush C (v := (-4 : Int32)) dX5_says_48 (by decide) ?_
          obtain ⟨x12, hx12, h⟩ := bindE h
          refine kcallU_i C (wc := (cells_R_no cI cL cZ a_this a_gravel a_kind a_own a_likely a_tape a_holding a_rowLength a_rowOf a_refusals a_old a_ahead a_cost a_may a_rest a_way c_n c_rain c_ear c_many c_seed c_taped c_from c_to c_token c_value c_imaged c_refusals)) (w1 := (cells_R_no cI cL cZ a_this a_gravel a_kind a_own a_likely a_tape a_holding a_rowLength a_rowOf a_refusals a_old a_ahead a_cost a_may a_rest a_way c_n c_rain c_ear c_many c_seed c_taped c_from c_to c_token c_value c_imaged x12.2)) (ws' := (cells_R_says cI cL cZ a_this a_gravel a_kind a_own a_likely a_tape a_holding a_rowLength a_rowOf a_refusals a_old a_ahead a_cost a_may a_rest a_way c_n c_rain c_ear c_many c_seed c_taped c_from c_to c_token c_value c_imaged c_gravel c_kind c_own c_likely c_holding x12.2)) (r := x12.1) [0, 6] (fun H locs ls hP hD hS hF hz => krunV C (q0 := 0) (ci := 5) (c_R_no l D cI cL cZ H.size a_this a_gravel a_kind a_own a_likely a_tape a_holding a_rowLength a_rowOf a_refusals a_old a_ahead a_cost a_may a_rest a_way (-4 : Int32) c_n c_rain c_ear c_many c_seed c_taped c_from c_to c_token c_value c_imaged c_refusals x12 hx12) (cwV 1 C.2.2.2.2.1 (gV wq_558 wq_559 wq_560 wq_551 wq_557) rfl rfl rfl (by decide +kernel) ⟨(Nat.le_of_ble_eq_true rfl), (Nat.le_of_ble_eq_true rfl)⟩) rfl rfl kEnv_T rfl rfl (Nat.le_of_ble_eq_true rfl) dX5_says_50 hP hD hz) rfl (by decide) rfl rfl ?_
          obtain rfl := Option.some.inj h
          exact kret_i C rfl dX5_says_53
      · have h := ifF c_28 h
        refine k_aload_n C dX5_says_31 0 rfl rfl ?_
        refine k_bipush C (v := (-3 : Int32)) dX5_says_32 (by decide) ?_
        obtain ⟨x13, hx13, h⟩ := bindE h
        refine kcallU_i C (wc := (cells_R_no cI cL cZ a_this a_gravel a_kind a_own a_likely a_tape a_holding a_rowLength a_rowOf a_refusals a_old a_ahead a_cost a_may a_rest a_way c_n c_rain c_ear c_many c_seed c_taped c_from c_to c_token c_value c_imaged c_refusals)) (w1 := (cells_R_no cI cL cZ a_this a_gravel a_kind a_own a_likely a_tape a_holding a_rowLength a_rowOf a_refusals a_old a_ahead a_cost a_may a_rest a_way c_n c_rain c_ear c_many c_seed c_taped c_from c_to c_token c_value c_imaged x13.2)) (ws' := (cells_R_says cI cL cZ a_this a_gravel a_kind a_own a_likely a_tape a_holding a_rowLength a_rowOf a_refusals a_old a_ahead a_cost a_may a_rest a_way c_n c_rain c_ear c_many c_seed c_taped c_from c_to c_token c_value c_imaged c_gravel c_kind c_own c_likely c_holding x13.2)) (r := x13.1) [0, 6] (fun H locs ls hP hD hS hF hz => krunV C (q0 := 0) (ci := 5) (c_R_no l D cI cL cZ H.size a_this a_gravel a_kind a_own a_likely a_tape a_holding a_rowLength a_rowOf a_refusals a_old a_ahead a_cost a_may a_rest a_way (-3 : Int32) c_n c_rain c_ear c_many c_seed c_taped c_from c_to c_token c_value c_imaged c_refusals x13 hx13) (cwV 1 C.2.2.2.2.1 (gV wq_558 wq_559 wq_560 wq_551 wq_557) rfl rfl rfl (by decide +kernel) ⟨(Nat.le_of_ble_eq_true rfl), (Nat.le_of_ble_eq_true rfl)⟩) rfl rfl kEnv_T rfl rfl (Nat.le_of_ble_eq_true rfl) dX5_says_34 hP hD hz) rfl (by decide) rfl rfl ?_
        obtain rfl := Option.some.inj h
        exact kret_i C rfl dX5_says_37
    · have h := ifT c_13 h
      refine k_lv (lv' := [(0, .ref a_this)]) [0] rfl ?_
      exact s_R_says_j16 C h
theorem c_R_says (l : Launch) (D : va_G) (cI : ClassId) (cL : ClassId) (cZ : ClassId) (sz : Nat) (a_this : Nat) (a_gravel : Nat) (a_kind : Nat) (a_own : Nat) (a_likely : Nat) (a_tape : Nat) (a_holding : Nat) (a_rowLength : Nat) (a_rowOf : Nat) (a_refusals : Nat) (a_old : Nat) (a_ahead : Nat) (a_cost : Nat) (a_may : Nat) (a_rest : Nat) (a_way : Nat) (v1 : Int32) (v2 : Int32) (c_n : Int32) (c_rain : Int32) (c_ear : Int32) (c_many : Int32) (c_seed : Int32) (c_taped : Int32) (c_from : Int32) (c_to : Int32) (c_token : Int32) (c_value : Int32) (c_imaged : Int32) (c_gravel : (Nat → Int32)) (c_kind : (Nat → Int32)) (c_own : (Nat → Int32)) (c_likely : (Nat → Int32)) (c_holding : (Nat → Int32)) (c_refusals : (Nat → Int32)) (x : (Int32 × (Nat → Int32))) (h : f_R_says v1 v2 c_rain c_gravel c_kind c_own c_likely c_holding c_refusals = some x) :
    Met l yX5_says (Cond.code yX5_says cX5_says 4 (some .int) :: WS) rm_R_says (kP D (tyG cI cL cZ) kTrue [.ref a_this, .int v1, .int v2] sz (cells_R_says cI cL cZ a_this a_gravel a_kind a_own a_likely a_tape a_holding a_rowLength a_rowOf a_refusals a_old a_ahead a_cost a_may a_rest a_way c_n c_rain c_ear c_many c_seed c_taped c_from c_to c_token c_value c_imaged c_gravel c_kind c_own c_likely c_holding c_refusals)) (kQi D (va_A (cells_R_says cI cL cZ a_this a_gravel a_kind a_own a_likely a_tape a_holding a_rowLength a_rowOf a_refusals a_old a_ahead a_cost a_may a_rest a_way c_n c_rain c_ear c_many c_seed c_taped c_from c_to c_token c_value c_imaged c_gravel c_kind c_own c_likely c_holding c_refusals) sz) (cells_R_says cI cL cZ a_this a_gravel a_kind a_own a_likely a_tape a_holding a_rowLength a_rowOf a_refusals a_old a_ahead a_cost a_may a_rest a_way c_n c_rain c_ear c_many c_seed c_taped c_from c_to c_token c_value c_imaged c_gravel c_kind c_own c_likely c_holding x.2) x.1) 0 0 (va_A (cells_R_says cI cL cZ a_this a_gravel a_kind a_own a_likely a_tape a_holding a_rowLength a_rowOf a_refusals a_old a_ahead a_cost a_may a_rest a_way c_n c_rain c_ear c_many c_seed c_taped c_from c_to c_token c_value c_imaged c_gravel c_kind c_own c_likely c_holding c_refusals) sz) :=
  kmet (by decide) (Nat.le_of_ble_eq_true rfl) rfl (fun p e s m below meth c C hE => s_R_says C h)
abbrev cells_R_stepOn (cI : ClassId) (cL : ClassId) (cZ : ClassId) (a_this : Nat) (a_gravel : Nat) (a_kind : Nat) (a_own : Nat) (a_likely : Nat) (a_tape : Nat) (a_holding : Nat) (a_rowLength : Nat) (a_rowOf : Nat) (a_refusals : Nat) (a_old : Nat) (a_ahead : Nat) (a_cost : Nat) (a_may : Nat) (a_rest : Nat) (a_way : Nat) (c_n : Int32) (c_rain : Int32) (c_ear : Int32) (c_many : Int32) (c_seed : Int32) (c_taped : Int32) (c_from : Int32) (c_to : Int32) (c_token : Int32) (c_value : Int32) (c_imaged : Int32) (c_gravel : (Nat → Int32)) (c_kind : (Nat → Int32)) (c_own : (Nat → Int32)) : va_W := [(a_this, .inr (5, [.int c_n, .ref a_gravel, .int c_rain, .int c_ear, .int c_many, .ref a_kind, .ref a_own, .ref a_likely, .int c_seed, .int c_taped, .ref a_tape, .int c_from, .int c_to, .int c_token, .int c_value, .ref a_holding, .ref a_rowLength, .ref a_rowOf, .ref a_refusals, .int c_imaged, .ref a_old, .ref a_ahead, .ref a_cost, .ref a_may, .ref a_rest, .ref a_way])), (a_gravel, .inl (cI, 36, .inl c_gravel)), (a_kind, .inl (cI, 8, .inl c_kind)), (a_own, .inl (cI, 8, .inl c_own))]
abbrev rm_R_stepOn : Room := { frames := 3, cells := 0, slots := 0, locals := 78 }
set_option maxRecDepth 100000 in
set_option maxHeartbeats 4000000 in
theorem s_R_stepOn (C : kC p l e rm_R_stepOn s m args below meth c D (tyG cI cL cZ) A 3 cX5_stepOn yX5_stepOn.cls (Cond.code yX5_stepOn cX5_stepOn 3 (some .int) :: WS) (some .int)) {a_this : Nat} {a_gravel : Nat} {a_kind : Nat} {a_own : Nat} {a_likely : Nat} {a_tape : Nat} {a_holding : Nat} {a_rowLength : Nat} {a_rowOf : Nat} {a_refusals : Nat} {a_old : Nat} {a_ahead : Nat} {a_cost : Nat} {a_may : Nat} {a_rest : Nat} {a_way : Nat} {v1 : Int32} {v2 : Int32} {c_n : Int32} {c_rain : Int32} {c_ear : Int32} {c_many : Int32} {c_seed : Int32} {c_taped : Int32} {c_from : Int32} {c_to : Int32} {c_token : Int32} {c_value : Int32} {c_imaged : Int32} {c_gravel : (Nat → Int32)} {c_kind : (Nat → Int32)} {c_own : (Nat → Int32)} {x : Int32} (h : f_R_stepOn v1 v2 c_n c_rain c_gravel c_kind c_own = some x) :
    kW p l e rm_R_stepOn s m args below meth c D A 3 (cells_R_stepOn cI cL cZ a_this a_gravel a_kind a_own a_likely a_tape a_holding a_rowLength a_rowOf a_refusals a_old a_ahead a_cost a_may a_rest a_way c_n c_rain c_ear c_many c_seed c_taped c_from c_to c_token c_value c_imaged c_gravel c_kind c_own) [(0, .ref a_this), (1, .int v1), (2, .int v2)] (MQ below (kQi D A (cells_R_stepOn cI cL cZ a_this a_gravel a_kind a_own a_likely a_tape a_holding a_rowLength a_rowOf a_refusals a_old a_ahead a_cost a_may a_rest a_way c_n c_rain c_ear c_many c_seed c_taped c_from c_to c_token c_value c_imaged c_gravel c_kind c_own) x) args s 0 0 A) 0 [] := by
  unfold f_R_stepOn at h
  refine k_aload_n C dX5_stepOn_0 0 rfl rfl ?_
  refine k_iload_n C dX5_stepOn_1 1 rfl rfl ?_
  refine k_iload_n C dX5_stepOn_2 2 rfl rfl ?_
  refine k_iload_n C dX5_stepOn_3 2 rfl rfl ?_
  refine k_aload_n C dX5_stepOn_4 0 rfl rfl ?_
  refine k_get C (C0 := RX5) (T := TX5) (N := 26) (fun w h => List.mem_cons_of_mem _ (us_R w h)) 0 rfl rfl 0 (by decide) (List.mem_cons_of_mem _ wq_552) rfl rfl dX5_stepOn_5 ?_
  obtain ⟨x1, hx1, h⟩ := bindE h
  refine k_idiv C dX5_stepOn_8 hx1 ?_
  obtain ⟨x2, hx2, h⟩ := bindE h
  refine kcallR_i C (wc := (cells_R_crunches cI cL cZ a_this a_gravel a_kind a_own a_likely a_tape a_holding a_rowLength a_rowOf a_refusals a_old a_ahead a_cost a_may a_rest a_way c_n c_rain c_ear c_many c_seed c_taped c_from c_to c_token c_value c_imaged c_gravel c_kind c_own)) (r := x2) [0, 1, 2, 3] (fun H locs ls hP hD hS hF hz => krunV C (q0 := 0) (ci := 5) (c_R_crunches l D cI cL cZ H.size a_this a_gravel a_kind a_own a_likely a_tape a_holding a_rowLength a_rowOf a_refusals a_old a_ahead a_cost a_may a_rest a_way v1 v2 x1 c_n c_rain c_ear c_many c_seed c_taped c_from c_to c_token c_value c_imaged c_gravel c_kind c_own x2 hx2) (cwV 3 C.2.2.2.2.1 (gV wq_591 wq_592 wq_593 wq_551 wq_590) rfl rfl rfl (by decide +kernel) ⟨(Nat.le_of_ble_eq_true rfl), (Nat.le_of_ble_eq_true rfl)⟩) rfl rfl kEnv_T rfl rfl (Nat.le_of_ble_eq_true rfl) dX5_stepOn_9 hP hD hz) rfl (by decide) ?_
  obtain rfl := Option.some.inj h
  exact kret_i C rfl dX5_stepOn_12
theorem c_R_stepOn (l : Launch) (D : va_G) (cI : ClassId) (cL : ClassId) (cZ : ClassId) (sz : Nat) (a_this : Nat) (a_gravel : Nat) (a_kind : Nat) (a_own : Nat) (a_likely : Nat) (a_tape : Nat) (a_holding : Nat) (a_rowLength : Nat) (a_rowOf : Nat) (a_refusals : Nat) (a_old : Nat) (a_ahead : Nat) (a_cost : Nat) (a_may : Nat) (a_rest : Nat) (a_way : Nat) (v1 : Int32) (v2 : Int32) (c_n : Int32) (c_rain : Int32) (c_ear : Int32) (c_many : Int32) (c_seed : Int32) (c_taped : Int32) (c_from : Int32) (c_to : Int32) (c_token : Int32) (c_value : Int32) (c_imaged : Int32) (c_gravel : (Nat → Int32)) (c_kind : (Nat → Int32)) (c_own : (Nat → Int32)) (x : Int32) (h : f_R_stepOn v1 v2 c_n c_rain c_gravel c_kind c_own = some x) :
    Met l yX5_stepOn (Cond.code yX5_stepOn cX5_stepOn 3 (some .int) :: WS) rm_R_stepOn (kP D (tyG cI cL cZ) kTrue [.ref a_this, .int v1, .int v2] sz (cells_R_stepOn cI cL cZ a_this a_gravel a_kind a_own a_likely a_tape a_holding a_rowLength a_rowOf a_refusals a_old a_ahead a_cost a_may a_rest a_way c_n c_rain c_ear c_many c_seed c_taped c_from c_to c_token c_value c_imaged c_gravel c_kind c_own)) (kQi D (va_A (cells_R_stepOn cI cL cZ a_this a_gravel a_kind a_own a_likely a_tape a_holding a_rowLength a_rowOf a_refusals a_old a_ahead a_cost a_may a_rest a_way c_n c_rain c_ear c_many c_seed c_taped c_from c_to c_token c_value c_imaged c_gravel c_kind c_own) sz) (cells_R_stepOn cI cL cZ a_this a_gravel a_kind a_own a_likely a_tape a_holding a_rowLength a_rowOf a_refusals a_old a_ahead a_cost a_may a_rest a_way c_n c_rain c_ear c_many c_seed c_taped c_from c_to c_token c_value c_imaged c_gravel c_kind c_own) x) 0 0 (va_A (cells_R_stepOn cI cL cZ a_this a_gravel a_kind a_own a_likely a_tape a_holding a_rowLength a_rowOf a_refusals a_old a_ahead a_cost a_may a_rest a_way c_n c_rain c_ear c_many c_seed c_taped c_from c_to c_token c_value c_imaged c_gravel c_kind c_own) sz) :=
  kmet (by decide) (Nat.le_of_ble_eq_true rfl) rfl (fun p e s m below meth c C hE => s_R_stepOn C h)
abbrev cells_R_sides (cI : ClassId) (cL : ClassId) (cZ : ClassId) (a_this : Nat) (a_gravel : Nat) (a_kind : Nat) (a_own : Nat) (a_likely : Nat) (a_tape : Nat) (a_holding : Nat) (a_rowLength : Nat) (a_rowOf : Nat) (a_refusals : Nat) (a_old : Nat) (a_ahead : Nat) (a_cost : Nat) (a_may : Nat) (a_rest : Nat) (a_way : Nat) (c_n : Int32) (c_rain : Int32) (c_ear : Int32) (c_many : Int32) (c_seed : Int32) (c_taped : Int32) (c_from : Int32) (c_to : Int32) (c_token : Int32) (c_value : Int32) (c_imaged : Int32) (c_gravel : (Nat → Int32)) : va_W := [(a_this, .inr (5, [.int c_n, .ref a_gravel, .int c_rain, .int c_ear, .int c_many, .ref a_kind, .ref a_own, .ref a_likely, .int c_seed, .int c_taped, .ref a_tape, .int c_from, .int c_to, .int c_token, .int c_value, .ref a_holding, .ref a_rowLength, .ref a_rowOf, .ref a_refusals, .int c_imaged, .ref a_old, .ref a_ahead, .ref a_cost, .ref a_may, .ref a_rest, .ref a_way])), (a_gravel, .inl (cI, 36, .inl c_gravel))]
abbrev rm_R_sides : Room := { frames := 0, cells := 0, slots := 0, locals := 0 }
set_option maxRecDepth 100000 in
set_option maxHeartbeats 4000000 in
theorem s_R_sides_b12 (C : kC p l e rm_R_sides s m args below meth c D (tyG cI cL cZ) A 4 cX5_sides yX5_sides.cls (Cond.code yX5_sides cX5_sides 4 (some .int) :: WS) (some .int)) {a_this : Nat} {a_gravel : Nat} {a_kind : Nat} {a_own : Nat} {a_likely : Nat} {a_tape : Nat} {a_holding : Nat} {a_rowLength : Nat} {a_rowOf : Nat} {a_refusals : Nat} {a_old : Nat} {a_ahead : Nat} {a_cost : Nat} {a_may : Nat} {a_rest : Nat} {a_way : Nat} {v2 : Int32} {v3 : Int32} {c_n : Int32} {c_rain : Int32} {c_ear : Int32} {c_many : Int32} {c_seed : Int32} {c_taped : Int32} {c_from : Int32} {c_to : Int32} {c_token : Int32} {c_value : Int32} {c_imaged : Int32} {c_gravel : (Nat → Int32)} {x : ((Int32 × (Nat → Int32)) ⊕ (Nat → Int32))} (h : f_R_sides_b12 v3 c_gravel = some x)
    (kc : ∀ s', x = .inl s' → kW p l e rm_R_sides s m args below meth c D A 4 (cells_R_sides cI cL cZ a_this a_gravel a_kind a_own a_likely a_tape a_holding a_rowLength a_rowOf a_refusals a_old a_ahead a_cost a_may a_rest a_way c_n c_rain c_ear c_many c_seed c_taped c_from c_to c_token c_value c_imaged s'.2) [(0, .ref a_this), (2, .int v2), (3, .int s'.1)] Q 12 [])
    (k0 : ∀ r, x = .inr r → kW p l e rm_R_sides s m args below meth c D A 4 (cells_R_sides cI cL cZ a_this a_gravel a_kind a_own a_likely a_tape a_holding a_rowLength a_rowOf a_refusals a_old a_ahead a_cost a_may a_rest a_way c_n c_rain c_ear c_many c_seed c_taped c_from c_to c_token c_value c_imaged r) [(2, .int v2)] Q 31 []) :
    kW p l e rm_R_sides s m args below meth c D A 4 (cells_R_sides cI cL cZ a_this a_gravel a_kind a_own a_likely a_tape a_holding a_rowLength a_rowOf a_refusals a_old a_ahead a_cost a_may a_rest a_way c_n c_rain c_ear c_many c_seed c_taped c_from c_to c_token c_value c_imaged c_gravel) [(0, .ref a_this), (2, .int v2), (3, .int v3)] Q 12 [] := by
  unfold f_R_sides_b12 at h
  refine k_iload_n C dX5_sides_12 2 rfl rfl ?_
  refine k_bipush C (v := (36 : Int32)) dX5_sides_13 (by decide) ?_
  refine k_icmp_ge C (tgt := 31) dX5_sides_15 (by decide) (fun c_15 => ?_) (fun c_15 => ?_)
  · have h := ifT c_15 h
    refine k_lv (lv' := [(2, .int v2)]) [1] rfl ?_
    exact k0 _ (Option.some.inj h).symm
  · have h := ifF c_15 h
    refine k_aload_n C dX5_sides_18 0 rfl rfl ?_
    refine k_get C (C0 := RX5) (T := TX5) (N := 26) (fun w h => List.mem_cons_of_mem _ (us_R w h)) 0 rfl rfl 1 (by decide) (List.mem_cons_of_mem _ wq_578) rfl rfl dX5_sides_19 ?_
    refine k_iload_n C dX5_sides_22 2 rfl rfl ?_
    refine k_iconst C (v := (3 : Int32)) dX5_sides_23 (by decide) ?_
    obtain ⟨x1, hx1, h⟩ := bindE h
    refine k_iast C 1 0 (ws' := (cells_R_sides cI cL cZ a_this a_gravel a_kind a_own a_likely a_tape a_holding a_rowLength a_rowOf a_refusals a_old a_ahead a_cost a_may a_rest a_way c_n c_rain c_ear c_many c_seed c_taped c_from c_to c_token c_value c_imaged x1)) rfl rfl hx1 rfl dX5_sides_24 ?_
    refine k_iinc C (v := (v3 + (1 : Int32))) (lv' := [(3, .int (v3 + (1 : Int32))), (0, .ref a_this), (2, .int v2)]) dX5_sides_25 2 rfl rfl (by decide) rfl ?_
    refine k_goto C (tgt := 12) dX5_sides_28 (by decide) ?_
    refine k_lv (lv' := [(0, .ref a_this), (2, .int v2), (3, .int (v3 + (1 : Int32)))]) [1, 2, 0] rfl ?_
    exact kc _ (Option.some.inj h).symm
set_option maxRecDepth 100000 in
set_option maxHeartbeats 4000000 in
theorem s_R_sides_l12 (C : kC p l e rm_R_sides s m args below meth c D (tyG cI cL cZ) A 4 cX5_sides yX5_sides.cls (Cond.code yX5_sides cX5_sides 4 (some .int) :: WS) (some .int)) {a_this : Nat} {a_gravel : Nat} {a_kind : Nat} {a_own : Nat} {a_likely : Nat} {a_tape : Nat} {a_holding : Nat} {a_rowLength : Nat} {a_rowOf : Nat} {a_refusals : Nat} {a_old : Nat} {a_ahead : Nat} {a_cost : Nat} {a_may : Nat} {a_rest : Nat} {a_way : Nat} {v2 : Int32} {v3 : Int32} {c_n : Int32} {c_rain : Int32} {c_ear : Int32} {c_many : Int32} {c_seed : Int32} {c_taped : Int32} {c_from : Int32} {c_to : Int32} {c_token : Int32} {c_value : Int32} {c_imaged : Int32} {c_gravel : (Nat → Int32)} {x : (Nat → Int32)} (h : f_R_sides_l12 v3 c_gravel = some x)
    (k0 : kW p l e rm_R_sides s m args below meth c D A 4 (cells_R_sides cI cL cZ a_this a_gravel a_kind a_own a_likely a_tape a_holding a_rowLength a_rowOf a_refusals a_old a_ahead a_cost a_may a_rest a_way c_n c_rain c_ear c_many c_seed c_taped c_from c_to c_token c_value c_imaged x) [(2, .int v2)] Q 31 []) :
    kW p l e rm_R_sides s m args below meth c D A 4 (cells_R_sides cI cL cZ a_this a_gravel a_kind a_own a_likely a_tape a_holding a_rowLength a_rowOf a_refusals a_old a_ahead a_cost a_may a_rest a_way c_n c_rain c_ear c_many c_seed c_taped c_from c_to c_token c_value c_imaged c_gravel) [(0, .ref a_this), (2, .int v2), (3, .int v3)] Q 12 [] := by
  unfold f_R_sides_l12 at h
  exact iter_W (body := fun s => f_R_sides_b12 s.1 s.2) (r := x) (T := fun sg => kW p l e rm_R_sides s m args below meth c D A 4 (cells_R_sides cI cL cZ a_this a_gravel a_kind a_own a_likely a_tape a_holding a_rowLength a_rowOf a_refusals a_old a_ahead a_cost a_may a_rest a_way c_n c_rain c_ear c_many c_seed c_taped c_from c_to c_token c_value c_imaged sg.2) [(0, .ref a_this), (2, .int v2), (3, .int sg.1)] Q 12 []) (fun sg y hy hc _ hr => s_R_sides_b12 C (v2 := v2) (v3 := sg.1) (c_n := c_n) (c_rain := c_rain) (c_ear := c_ear) (c_many := c_many) (c_seed := c_seed) (c_taped := c_taped) (c_from := c_from) (c_to := c_to) (c_token := c_token) (c_value := c_value) (c_imaged := c_imaged) (c_gravel := sg.2) (x := y) hy hc (fun r e => by rw [hr r e]; exact k0)) FUEL (v3, c_gravel) h
set_option maxRecDepth 100000 in
set_option maxHeartbeats 4000000 in
theorem s_R_sides (C : kC p l e rm_R_sides s m args below meth c D (tyG cI cL cZ) A 4 cX5_sides yX5_sides.cls (Cond.code yX5_sides cX5_sides 4 (some .int) :: WS) (some .int)) {a_this : Nat} {a_gravel : Nat} {a_kind : Nat} {a_own : Nat} {a_likely : Nat} {a_tape : Nat} {a_holding : Nat} {a_rowLength : Nat} {a_rowOf : Nat} {a_refusals : Nat} {a_old : Nat} {a_ahead : Nat} {a_cost : Nat} {a_may : Nat} {a_rest : Nat} {a_way : Nat} {v1 : Int32} {c_n : Int32} {c_rain : Int32} {c_ear : Int32} {c_many : Int32} {c_seed : Int32} {c_taped : Int32} {c_from : Int32} {c_to : Int32} {c_token : Int32} {c_value : Int32} {c_imaged : Int32} {c_gravel : (Nat → Int32)} {x : (Int32 × Int32 × (Nat → Int32))} (h : f_R_sides v1 c_n c_gravel = some x) :
    kW p l e rm_R_sides s m args below meth c D A 4 (cells_R_sides cI cL cZ a_this a_gravel a_kind a_own a_likely a_tape a_holding a_rowLength a_rowOf a_refusals a_old a_ahead a_cost a_may a_rest a_way c_n c_rain c_ear c_many c_seed c_taped c_from c_to c_token c_value c_imaged c_gravel) [(0, .ref a_this), (1, .int v1)] (MQ below (kQi D A (cells_R_sides cI cL cZ a_this a_gravel a_kind a_own a_likely a_tape a_holding a_rowLength a_rowOf a_refusals a_old a_ahead a_cost a_may a_rest a_way x.2.1 c_rain c_ear c_many c_seed c_taped c_from c_to c_token c_value c_imaged x.2.2) x.1) args s 0 0 A) 0 [] := by
  unfold f_R_sides at h
  refine k_aload_n C dX5_sides_0 0 rfl rfl ?_
  refine k_get C (C0 := RX5) (T := TX5) (N := 26) (fun w h => List.mem_cons_of_mem _ (us_R w h)) 0 rfl rfl 0 (by decide) (List.mem_cons_of_mem _ wq_552) rfl rfl dX5_sides_1 ?_
  refine k_istore_n C (lv' := [(2, .int c_n), (0, .ref a_this), (1, .int v1)]) dX5_sides_4 rfl (by decide) rfl ?_
  refine k_aload_n C dX5_sides_5 1 rfl rfl ?_
  refine k_iload_n C dX5_sides_6 2 rfl rfl ?_
  refine k_put C (C0 := RX5) (T := TX5) (N := 26) (ws' := (cells_R_sides cI cL cZ a_this a_gravel a_kind a_own a_likely a_tape a_holding a_rowLength a_rowOf a_refusals a_old a_ahead a_cost a_may a_rest a_way v1 c_rain c_ear c_many c_seed c_taped c_from c_to c_token c_value c_imaged c_gravel)) (fun w h => List.mem_cons_of_mem _ (us_R w h)) tyX5 tyX5_ok nmX5 0 rfl rfl 0 (by decide) (List.mem_cons_of_mem _ wq_552) rfl rfl (tyX5_ok 0 (by decide)) rfl rfl (Nat.le_of_ble_eq_true rfl) rfl dX5_sides_7 ?_
  refine k_iconst C (v := (0 : Int32)) dX5_sides_10 (by decide) ?_
  refine k_istore_n C (lv' := [(3, .int (0 : Int32)), (2, .int c_n), (0, .ref a_this), (1, .int v1)]) dX5_sides_11 rfl (by decide) rfl ?_
  obtain ⟨x2, hx2, h⟩ := bindE h
  refine k_lv (lv' := [(0, .ref a_this), (2, .int c_n), (3, .int (0 : Int32))]) [2, 1, 0] rfl ?_
  refine s_R_sides_l12 C hx2 ?_
  refine k_iload_n C dX5_sides_31 0 rfl rfl ?_
  obtain rfl := Option.some.inj h
  exact kret_i C rfl dX5_sides_32
theorem c_R_sides (l : Launch) (D : va_G) (cI : ClassId) (cL : ClassId) (cZ : ClassId) (sz : Nat) (a_this : Nat) (a_gravel : Nat) (a_kind : Nat) (a_own : Nat) (a_likely : Nat) (a_tape : Nat) (a_holding : Nat) (a_rowLength : Nat) (a_rowOf : Nat) (a_refusals : Nat) (a_old : Nat) (a_ahead : Nat) (a_cost : Nat) (a_may : Nat) (a_rest : Nat) (a_way : Nat) (v1 : Int32) (c_n : Int32) (c_rain : Int32) (c_ear : Int32) (c_many : Int32) (c_seed : Int32) (c_taped : Int32) (c_from : Int32) (c_to : Int32) (c_token : Int32) (c_value : Int32) (c_imaged : Int32) (c_gravel : (Nat → Int32)) (x : (Int32 × Int32 × (Nat → Int32))) (h : f_R_sides v1 c_n c_gravel = some x) :
    Met l yX5_sides (Cond.code yX5_sides cX5_sides 4 (some .int) :: WS) rm_R_sides (kP D (tyG cI cL cZ) kTrue [.ref a_this, .int v1] sz (cells_R_sides cI cL cZ a_this a_gravel a_kind a_own a_likely a_tape a_holding a_rowLength a_rowOf a_refusals a_old a_ahead a_cost a_may a_rest a_way c_n c_rain c_ear c_many c_seed c_taped c_from c_to c_token c_value c_imaged c_gravel)) (kQi D (va_A (cells_R_sides cI cL cZ a_this a_gravel a_kind a_own a_likely a_tape a_holding a_rowLength a_rowOf a_refusals a_old a_ahead a_cost a_may a_rest a_way c_n c_rain c_ear c_many c_seed c_taped c_from c_to c_token c_value c_imaged c_gravel) sz) (cells_R_sides cI cL cZ a_this a_gravel a_kind a_own a_likely a_tape a_holding a_rowLength a_rowOf a_refusals a_old a_ahead a_cost a_may a_rest a_way x.2.1 c_rain c_ear c_many c_seed c_taped c_from c_to c_token c_value c_imaged x.2.2) x.1) 0 0 (va_A (cells_R_sides cI cL cZ a_this a_gravel a_kind a_own a_likely a_tape a_holding a_rowLength a_rowOf a_refusals a_old a_ahead a_cost a_may a_rest a_way c_n c_rain c_ear c_many c_seed c_taped c_from c_to c_token c_value c_imaged c_gravel) sz) :=
  kmet (by decide) (Nat.le_of_ble_eq_true rfl) rfl (fun p e s m below meth c C hE => s_R_sides C h)
abbrev cells_R_side (cI : ClassId) (cL : ClassId) (cZ : ClassId) (a_this : Nat) (a_gravel : Nat) (a_kind : Nat) (a_own : Nat) (a_likely : Nat) (a_tape : Nat) (a_holding : Nat) (a_rowLength : Nat) (a_rowOf : Nat) (a_refusals : Nat) (a_old : Nat) (a_ahead : Nat) (a_cost : Nat) (a_may : Nat) (a_rest : Nat) (a_way : Nat) (c_n : Int32) (c_rain : Int32) (c_ear : Int32) (c_many : Int32) (c_seed : Int32) (c_taped : Int32) (c_from : Int32) (c_to : Int32) (c_token : Int32) (c_value : Int32) (c_imaged : Int32) (c_gravel : (Nat → Int32)) (c_refusals : (Nat → Int32)) : va_W := [(a_this, .inr (5, [.int c_n, .ref a_gravel, .int c_rain, .int c_ear, .int c_many, .ref a_kind, .ref a_own, .ref a_likely, .int c_seed, .int c_taped, .ref a_tape, .int c_from, .int c_to, .int c_token, .int c_value, .ref a_holding, .ref a_rowLength, .ref a_rowOf, .ref a_refusals, .int c_imaged, .ref a_old, .ref a_ahead, .ref a_cost, .ref a_may, .ref a_rest, .ref a_way])), (a_gravel, .inl (cI, 36, .inl c_gravel)), (a_refusals, .inl (cI, 7, .inl c_refusals))]
abbrev rm_R_side : Room := { frames := 1, cells := 0, slots := 0, locals := 23 }
set_option maxRecDepth 100000 in
set_option maxHeartbeats 4000000 in
theorem s_R_side (C : kC p l e rm_R_side s m args below meth c D (tyG cI cL cZ) A 2 cX5_side yX5_side.cls (Cond.code yX5_side cX5_side 2 (some .int) :: WS) (some .int)) {a_this : Nat} {a_gravel : Nat} {a_kind : Nat} {a_own : Nat} {a_likely : Nat} {a_tape : Nat} {a_holding : Nat} {a_rowLength : Nat} {a_rowOf : Nat} {a_refusals : Nat} {a_old : Nat} {a_ahead : Nat} {a_cost : Nat} {a_may : Nat} {a_rest : Nat} {a_way : Nat} {v1 : Int32} {c_n : Int32} {c_rain : Int32} {c_ear : Int32} {c_many : Int32} {c_seed : Int32} {c_taped : Int32} {c_from : Int32} {c_to : Int32} {c_token : Int32} {c_value : Int32} {c_imaged : Int32} {c_gravel : (Nat → Int32)} {c_refusals : (Nat → Int32)} {x : (Int32 × Int32 × (Nat → Int32) × (Nat → Int32))} (h : f_R_side v1 c_n c_gravel c_refusals = some x) :
    kW p l e rm_R_side s m args below meth c D A 2 (cells_R_side cI cL cZ a_this a_gravel a_kind a_own a_likely a_tape a_holding a_rowLength a_rowOf a_refusals a_old a_ahead a_cost a_may a_rest a_way c_n c_rain c_ear c_many c_seed c_taped c_from c_to c_token c_value c_imaged c_gravel c_refusals) [(0, .ref a_this), (1, .int v1)] (MQ below (kQi D A (cells_R_side cI cL cZ a_this a_gravel a_kind a_own a_likely a_tape a_holding a_rowLength a_rowOf a_refusals a_old a_ahead a_cost a_may a_rest a_way x.2.1 c_rain c_ear c_many c_seed c_taped c_from c_to c_token c_value c_imaged x.2.2.1 x.2.2.2) x.1) args s 0 0 A) 0 [] := by
  unfold f_R_side at h
  refine k_iload_n C dX5_side_0 1 rfl rfl ?_
  refine k_iconst C (v := (2 : Int32)) dX5_side_1 (by decide) ?_
  refine k_bipush C (v := (6 : Int32)) dX5_side_2 (by decide) ?_
  obtain ⟨x1, hx1, h⟩ := bindE h
  refine kcallE_i C (r := x1) (fun H locs ls hP hD hS hF hz => krunS C (c_R_within l D cI cL cZ H.size v1 (2 : Int32) (6 : Int32) x1 hx1) (va_cwS 3 C.2.2.2.2.1 (gS wq_549 wq_550 wq_551 wq_548) rfl rfl rfl (by decide +kernel) ⟨(Nat.le_of_ble_eq_true rfl), (Nat.le_of_ble_eq_true rfl)⟩) kEnv_T rfl rfl (Nat.le_of_ble_eq_true rfl) dX5_side_4 hP hD hz) ?_
  refine k_if_eq C (tgt := 18) dX5_side_7 (by decide) (fun c_7 => ?_) (fun c_7 => ?_)
  · have h := ifT c_7 h
    refine k_aload_n C dX5_side_18 0 rfl rfl ?_
    refine k_bipush C (v := (-2 : Int32)) dX5_side_19 (by decide) ?_
    obtain ⟨x2, hx2, h⟩ := bindE h
    refine kcallU_i C (wc := (cells_R_no cI cL cZ a_this a_gravel a_kind a_own a_likely a_tape a_holding a_rowLength a_rowOf a_refusals a_old a_ahead a_cost a_may a_rest a_way c_n c_rain c_ear c_many c_seed c_taped c_from c_to c_token c_value c_imaged c_refusals)) (w1 := (cells_R_no cI cL cZ a_this a_gravel a_kind a_own a_likely a_tape a_holding a_rowLength a_rowOf a_refusals a_old a_ahead a_cost a_may a_rest a_way c_n c_rain c_ear c_many c_seed c_taped c_from c_to c_token c_value c_imaged x2.2)) (ws' := (cells_R_side cI cL cZ a_this a_gravel a_kind a_own a_likely a_tape a_holding a_rowLength a_rowOf a_refusals a_old a_ahead a_cost a_may a_rest a_way c_n c_rain c_ear c_many c_seed c_taped c_from c_to c_token c_value c_imaged c_gravel x2.2)) (r := x2.1) [0, 2] (fun H locs ls hP hD hS hF hz => krunV C (q0 := 0) (ci := 5) (c_R_no l D cI cL cZ H.size a_this a_gravel a_kind a_own a_likely a_tape a_holding a_rowLength a_rowOf a_refusals a_old a_ahead a_cost a_may a_rest a_way (-2 : Int32) c_n c_rain c_ear c_many c_seed c_taped c_from c_to c_token c_value c_imaged c_refusals x2 hx2) (cwV 1 C.2.2.2.2.1 (gV wq_558 wq_559 wq_560 wq_551 wq_557) rfl rfl rfl (by decide +kernel) ⟨(Nat.le_of_ble_eq_true rfl), (Nat.le_of_ble_eq_true rfl)⟩) rfl rfl kEnv_T rfl rfl (Nat.le_of_ble_eq_true rfl) dX5_side_21 hP hD hz) rfl (by decide) rfl rfl ?_
    obtain rfl := Option.some.inj h
    exact kret_i C rfl dX5_side_24
  · have h := ifF c_7 h
    refine k_aload_n C dX5_side_10 0 rfl rfl ?_
    refine k_iload_n C dX5_side_11 1 rfl rfl ?_
    obtain ⟨x3, hx3, h⟩ := bindE h
    refine kcallU_i C (wc := (cells_R_sides cI cL cZ a_this a_gravel a_kind a_own a_likely a_tape a_holding a_rowLength a_rowOf a_refusals a_old a_ahead a_cost a_may a_rest a_way c_n c_rain c_ear c_many c_seed c_taped c_from c_to c_token c_value c_imaged c_gravel)) (w1 := (cells_R_sides cI cL cZ a_this a_gravel a_kind a_own a_likely a_tape a_holding a_rowLength a_rowOf a_refusals a_old a_ahead a_cost a_may a_rest a_way x3.2.1 c_rain c_ear c_many c_seed c_taped c_from c_to c_token c_value c_imaged x3.2.2)) (ws' := (cells_R_side cI cL cZ a_this a_gravel a_kind a_own a_likely a_tape a_holding a_rowLength a_rowOf a_refusals a_old a_ahead a_cost a_may a_rest a_way x3.2.1 c_rain c_ear c_many c_seed c_taped c_from c_to c_token c_value c_imaged x3.2.2 c_refusals)) (r := x3.1) [0, 1] (fun H locs ls hP hD hS hF hz => krunV C (q0 := 0) (ci := 5) (c_R_sides l D cI cL cZ H.size a_this a_gravel a_kind a_own a_likely a_tape a_holding a_rowLength a_rowOf a_refusals a_old a_ahead a_cost a_may a_rest a_way v1 c_n c_rain c_ear c_many c_seed c_taped c_from c_to c_token c_value c_imaged c_gravel x3 hx3) (cwV 1 C.2.2.2.2.1 (gV wq_596 wq_597 wq_598 wq_551 wq_595) rfl rfl rfl (by decide +kernel) ⟨(Nat.le_of_ble_eq_true rfl), (Nat.le_of_ble_eq_true rfl)⟩) rfl rfl kEnv_T rfl rfl (Nat.le_of_ble_eq_true rfl) dX5_side_12 hP hD hz) rfl (by decide) rfl rfl ?_
    refine k_goto C (tgt := 24) dX5_side_15 (by decide) ?_
    obtain rfl := Option.some.inj h
    exact kret_i C rfl dX5_side_24
theorem c_R_side (l : Launch) (D : va_G) (cI : ClassId) (cL : ClassId) (cZ : ClassId) (sz : Nat) (a_this : Nat) (a_gravel : Nat) (a_kind : Nat) (a_own : Nat) (a_likely : Nat) (a_tape : Nat) (a_holding : Nat) (a_rowLength : Nat) (a_rowOf : Nat) (a_refusals : Nat) (a_old : Nat) (a_ahead : Nat) (a_cost : Nat) (a_may : Nat) (a_rest : Nat) (a_way : Nat) (v1 : Int32) (c_n : Int32) (c_rain : Int32) (c_ear : Int32) (c_many : Int32) (c_seed : Int32) (c_taped : Int32) (c_from : Int32) (c_to : Int32) (c_token : Int32) (c_value : Int32) (c_imaged : Int32) (c_gravel : (Nat → Int32)) (c_refusals : (Nat → Int32)) (x : (Int32 × Int32 × (Nat → Int32) × (Nat → Int32))) (h : f_R_side v1 c_n c_gravel c_refusals = some x) :
    Met l yX5_side (Cond.code yX5_side cX5_side 2 (some .int) :: WS) rm_R_side (kP D (tyG cI cL cZ) kTrue [.ref a_this, .int v1] sz (cells_R_side cI cL cZ a_this a_gravel a_kind a_own a_likely a_tape a_holding a_rowLength a_rowOf a_refusals a_old a_ahead a_cost a_may a_rest a_way c_n c_rain c_ear c_many c_seed c_taped c_from c_to c_token c_value c_imaged c_gravel c_refusals)) (kQi D (va_A (cells_R_side cI cL cZ a_this a_gravel a_kind a_own a_likely a_tape a_holding a_rowLength a_rowOf a_refusals a_old a_ahead a_cost a_may a_rest a_way c_n c_rain c_ear c_many c_seed c_taped c_from c_to c_token c_value c_imaged c_gravel c_refusals) sz) (cells_R_side cI cL cZ a_this a_gravel a_kind a_own a_likely a_tape a_holding a_rowLength a_rowOf a_refusals a_old a_ahead a_cost a_may a_rest a_way x.2.1 c_rain c_ear c_many c_seed c_taped c_from c_to c_token c_value c_imaged x.2.2.1 x.2.2.2) x.1) 0 0 (va_A (cells_R_side cI cL cZ a_this a_gravel a_kind a_own a_likely a_tape a_holding a_rowLength a_rowOf a_refusals a_old a_ahead a_cost a_may a_rest a_way c_n c_rain c_ear c_many c_seed c_taped c_from c_to c_token c_value c_imaged c_gravel c_refusals) sz) :=
  kmet (by decide) (Nat.le_of_ble_eq_true rfl) rfl (fun p e s m below meth c C hE => s_R_side C h)
abbrev cells_R_gravel (cI : ClassId) (cL : ClassId) (cZ : ClassId) (a_this : Nat) (a_gravel : Nat) (a_kind : Nat) (a_own : Nat) (a_likely : Nat) (a_tape : Nat) (a_holding : Nat) (a_rowLength : Nat) (a_rowOf : Nat) (a_refusals : Nat) (a_old : Nat) (a_ahead : Nat) (a_cost : Nat) (a_may : Nat) (a_rest : Nat) (a_way : Nat) (c_n : Int32) (c_rain : Int32) (c_ear : Int32) (c_many : Int32) (c_seed : Int32) (c_taped : Int32) (c_from : Int32) (c_to : Int32) (c_token : Int32) (c_value : Int32) (c_imaged : Int32) (c_gravel : (Nat → Int32)) (c_refusals : (Nat → Int32)) : va_W := [(a_this, .inr (5, [.int c_n, .ref a_gravel, .int c_rain, .int c_ear, .int c_many, .ref a_kind, .ref a_own, .ref a_likely, .int c_seed, .int c_taped, .ref a_tape, .int c_from, .int c_to, .int c_token, .int c_value, .ref a_holding, .ref a_rowLength, .ref a_rowOf, .ref a_refusals, .int c_imaged, .ref a_old, .ref a_ahead, .ref a_cost, .ref a_may, .ref a_rest, .ref a_way])), (a_gravel, .inl (cI, 36, .inl c_gravel)), (a_refusals, .inl (cI, 7, .inl c_refusals))]
abbrev rm_R_gravel : Room := { frames := 2, cells := 0, slots := 0, locals := 43 }
set_option maxRecDepth 100000 in
set_option maxHeartbeats 4000000 in
theorem s_R_gravel_j18 (C : kC p l e rm_R_gravel s m args below meth c D (tyG cI cL cZ) A 4 cX5_gravel yX5_gravel.cls (Cond.code yX5_gravel cX5_gravel 4 (some .int) :: WS) (some .int)) {a_this : Nat} {a_gravel : Nat} {a_kind : Nat} {a_own : Nat} {a_likely : Nat} {a_tape : Nat} {a_holding : Nat} {a_rowLength : Nat} {a_rowOf : Nat} {a_refusals : Nat} {a_old : Nat} {a_ahead : Nat} {a_cost : Nat} {a_may : Nat} {a_rest : Nat} {a_way : Nat} {c_n : Int32} {c_rain : Int32} {c_ear : Int32} {c_many : Int32} {c_seed : Int32} {c_taped : Int32} {c_from : Int32} {c_to : Int32} {c_token : Int32} {c_value : Int32} {c_imaged : Int32} {c_gravel : (Nat → Int32)} {c_refusals : (Nat → Int32)} {x : (Int32 × (Nat → Int32) × (Nat → Int32))} (h : f_R_gravel_j18 c_gravel c_refusals = some x) :
    kW p l e rm_R_gravel s m args below meth c D A 4 (cells_R_gravel cI cL cZ a_this a_gravel a_kind a_own a_likely a_tape a_holding a_rowLength a_rowOf a_refusals a_old a_ahead a_cost a_may a_rest a_way c_n c_rain c_ear c_many c_seed c_taped c_from c_to c_token c_value c_imaged c_gravel c_refusals) [(0, .ref a_this)] (MQ below (kQi D A (cells_R_gravel cI cL cZ a_this a_gravel a_kind a_own a_likely a_tape a_holding a_rowLength a_rowOf a_refusals a_old a_ahead a_cost a_may a_rest a_way c_n c_rain c_ear c_many c_seed c_taped c_from c_to c_token c_value c_imaged x.2.1 x.2.2) x.1) args s 0 0 A) 18 [] := by
  unfold f_R_gravel_j18 at h
  refine k_aload_n C dX5_gravel_18 0 rfl rfl ?_
  refine k_bipush C (v := (-2 : Int32)) dX5_gravel_19 (by decide) ?_
  obtain ⟨x2, hx2, h⟩ := bindE h
  refine kcallU_i C (wc := (cells_R_no cI cL cZ a_this a_gravel a_kind a_own a_likely a_tape a_holding a_rowLength a_rowOf a_refusals a_old a_ahead a_cost a_may a_rest a_way c_n c_rain c_ear c_many c_seed c_taped c_from c_to c_token c_value c_imaged c_refusals)) (w1 := (cells_R_no cI cL cZ a_this a_gravel a_kind a_own a_likely a_tape a_holding a_rowLength a_rowOf a_refusals a_old a_ahead a_cost a_may a_rest a_way c_n c_rain c_ear c_many c_seed c_taped c_from c_to c_token c_value c_imaged x2.2)) (ws' := (cells_R_gravel cI cL cZ a_this a_gravel a_kind a_own a_likely a_tape a_holding a_rowLength a_rowOf a_refusals a_old a_ahead a_cost a_may a_rest a_way c_n c_rain c_ear c_many c_seed c_taped c_from c_to c_token c_value c_imaged c_gravel x2.2)) (r := x2.1) [0, 2] (fun H locs ls hP hD hS hF hz => krunV C (q0 := 0) (ci := 5) (c_R_no l D cI cL cZ H.size a_this a_gravel a_kind a_own a_likely a_tape a_holding a_rowLength a_rowOf a_refusals a_old a_ahead a_cost a_may a_rest a_way (-2 : Int32) c_n c_rain c_ear c_many c_seed c_taped c_from c_to c_token c_value c_imaged c_refusals x2 hx2) (cwV 1 C.2.2.2.2.1 (gV wq_558 wq_559 wq_560 wq_551 wq_557) rfl rfl rfl (by decide +kernel) ⟨(Nat.le_of_ble_eq_true rfl), (Nat.le_of_ble_eq_true rfl)⟩) rfl rfl kEnv_T rfl rfl (Nat.le_of_ble_eq_true rfl) dX5_gravel_21 hP hD hz) rfl (by decide) rfl rfl ?_
  obtain rfl := Option.some.inj h
  exact kret_i C rfl dX5_gravel_24
set_option maxRecDepth 100000 in
set_option maxHeartbeats 4000000 in
theorem s_R_gravel (C : kC p l e rm_R_gravel s m args below meth c D (tyG cI cL cZ) A 4 cX5_gravel yX5_gravel.cls (Cond.code yX5_gravel cX5_gravel 4 (some .int) :: WS) (some .int)) {a_this : Nat} {a_gravel : Nat} {a_kind : Nat} {a_own : Nat} {a_likely : Nat} {a_tape : Nat} {a_holding : Nat} {a_rowLength : Nat} {a_rowOf : Nat} {a_refusals : Nat} {a_old : Nat} {a_ahead : Nat} {a_cost : Nat} {a_may : Nat} {a_rest : Nat} {a_way : Nat} {v1 : Int32} {v2 : Int32} {c_n : Int32} {c_rain : Int32} {c_ear : Int32} {c_many : Int32} {c_seed : Int32} {c_taped : Int32} {c_from : Int32} {c_to : Int32} {c_token : Int32} {c_value : Int32} {c_imaged : Int32} {c_gravel : (Nat → Int32)} {c_refusals : (Nat → Int32)} {x : (Int32 × (Nat → Int32) × (Nat → Int32))} (h : f_R_gravel v1 v2 c_n c_gravel c_refusals = some x) :
    kW p l e rm_R_gravel s m args below meth c D A 4 (cells_R_gravel cI cL cZ a_this a_gravel a_kind a_own a_likely a_tape a_holding a_rowLength a_rowOf a_refusals a_old a_ahead a_cost a_may a_rest a_way c_n c_rain c_ear c_many c_seed c_taped c_from c_to c_token c_value c_imaged c_gravel c_refusals) [(0, .ref a_this), (1, .int v1), (2, .int v2)] (MQ below (kQi D A (cells_R_gravel cI cL cZ a_this a_gravel a_kind a_own a_likely a_tape a_holding a_rowLength a_rowOf a_refusals a_old a_ahead a_cost a_may a_rest a_way c_n c_rain c_ear c_many c_seed c_taped c_from c_to c_token c_value c_imaged x.2.1 x.2.2) x.1) args s 0 0 A) 0 [] := by
  unfold f_R_gravel at h
  refine k_aload_n C dX5_gravel_0 0 rfl rfl ?_
  refine k_iload_n C dX5_gravel_1 1 rfl rfl ?_
  obtain ⟨x1, hx1, h⟩ := bindE h
  refine kcallR_i C (wc := (cells_R_isCell cI cL cZ a_this a_gravel a_kind a_own a_likely a_tape a_holding a_rowLength a_rowOf a_refusals a_old a_ahead a_cost a_may a_rest a_way c_n c_rain c_ear c_many c_seed c_taped c_from c_to c_token c_value c_imaged)) (r := x1) [0] (fun H locs ls hP hD hS hF hz => krunV C (q0 := 0) (ci := 5) (c_R_isCell l D cI cL cZ H.size a_this a_gravel a_kind a_own a_likely a_tape a_holding a_rowLength a_rowOf a_refusals a_old a_ahead a_cost a_may a_rest a_way v1 c_n c_rain c_ear c_many c_seed c_taped c_from c_to c_token c_value c_imaged x1 hx1) (cwV 1 C.2.2.2.2.1 (gV wq_600 wq_601 wq_602 wq_551 wq_599) rfl rfl rfl (by decide +kernel) ⟨(Nat.le_of_ble_eq_true rfl), (Nat.le_of_ble_eq_true rfl)⟩) rfl rfl kEnv_T rfl rfl (Nat.le_of_ble_eq_true rfl) dX5_gravel_2 hP hD hz) rfl (by decide) ?_
  refine k_if_eq C (tgt := 18) dX5_gravel_5 (by decide) (fun c_5 => ?_) (fun c_5 => ?_)
  · have h := ifT c_5 h
    refine k_lv (lv' := [(0, .ref a_this)]) [0] rfl ?_
    exact s_R_gravel_j18 C h
  · have h := ifF c_5 h
    refine k_iload_n C dX5_gravel_8 2 rfl rfl ?_
    refine k_iconst C (v := (0 : Int32)) dX5_gravel_9 (by decide) ?_
    refine k_bipush C (v := (9 : Int32)) dX5_gravel_10 (by decide) ?_
    obtain ⟨x3, hx3, h⟩ := bindE h
    refine kcallE_i C (r := x3) (fun H locs ls hP hD hS hF hz => krunS C (c_R_within l D cI cL cZ H.size v2 (0 : Int32) (9 : Int32) x3 hx3) (va_cwS 3 C.2.2.2.2.1 (gS wq_549 wq_550 wq_551 wq_548) rfl rfl rfl (by decide +kernel) ⟨(Nat.le_of_ble_eq_true rfl), (Nat.le_of_ble_eq_true rfl)⟩) kEnv_T rfl rfl (Nat.le_of_ble_eq_true rfl) dX5_gravel_12 hP hD hz) ?_
    refine k_if_ne C (tgt := 25) dX5_gravel_15 (by decide) (fun c_15 => ?_) (fun c_15 => ?_)
    · have h := ifF c_15 h
      refine k_aload_n C dX5_gravel_25 0 rfl rfl ?_
      refine k_get C (C0 := RX5) (T := TX5) (N := 26) (fun w h => List.mem_cons_of_mem _ (us_R w h)) 0 rfl rfl 1 (by decide) (List.mem_cons_of_mem _ wq_578) rfl rfl dX5_gravel_26 ?_
      refine k_iload_n C dX5_gravel_29 1 rfl rfl ?_
      obtain ⟨x4, hx4, h⟩ := bindE h
      refine k_iald C 1 0 rfl rfl hx4 dX5_gravel_30 ?_
      refine k_istore_n C (lv' := [(3, .int x4), (0, .ref a_this), (1, .int v1), (2, .int v2)]) dX5_gravel_31 rfl (by decide) rfl ?_
      refine k_aload_n C dX5_gravel_32 1 rfl rfl ?_
      refine k_get C (C0 := RX5) (T := TX5) (N := 26) (fun w h => List.mem_cons_of_mem _ (us_R w h)) 0 rfl rfl 1 (by decide) (List.mem_cons_of_mem _ wq_578) rfl rfl dX5_gravel_33 ?_
      refine k_iload_n C dX5_gravel_36 2 rfl rfl ?_
      refine k_iload_n C dX5_gravel_37 3 rfl rfl ?_
      obtain ⟨x5, hx5, h⟩ := bindE h
      refine k_iast C 1 0 (ws' := (cells_R_gravel cI cL cZ a_this a_gravel a_kind a_own a_likely a_tape a_holding a_rowLength a_rowOf a_refusals a_old a_ahead a_cost a_may a_rest a_way c_n c_rain c_ear c_many c_seed c_taped c_from c_to c_token c_value c_imaged x5 c_refusals)) rfl rfl hx5 rfl dX5_gravel_38 ?_
      refine k_iload_n C dX5_gravel_39 0 rfl rfl ?_
      obtain rfl := Option.some.inj h
      exact kret_i C rfl dX5_gravel_40
    · have h := ifT c_15 h
      refine k_lv (lv' := [(0, .ref a_this)]) [0] rfl ?_
      exact s_R_gravel_j18 C h
theorem c_R_gravel (l : Launch) (D : va_G) (cI : ClassId) (cL : ClassId) (cZ : ClassId) (sz : Nat) (a_this : Nat) (a_gravel : Nat) (a_kind : Nat) (a_own : Nat) (a_likely : Nat) (a_tape : Nat) (a_holding : Nat) (a_rowLength : Nat) (a_rowOf : Nat) (a_refusals : Nat) (a_old : Nat) (a_ahead : Nat) (a_cost : Nat) (a_may : Nat) (a_rest : Nat) (a_way : Nat) (v1 : Int32) (v2 : Int32) (c_n : Int32) (c_rain : Int32) (c_ear : Int32) (c_many : Int32) (c_seed : Int32) (c_taped : Int32) (c_from : Int32) (c_to : Int32) (c_token : Int32) (c_value : Int32) (c_imaged : Int32) (c_gravel : (Nat → Int32)) (c_refusals : (Nat → Int32)) (x : (Int32 × (Nat → Int32) × (Nat → Int32))) (h : f_R_gravel v1 v2 c_n c_gravel c_refusals = some x) :
    Met l yX5_gravel (Cond.code yX5_gravel cX5_gravel 4 (some .int) :: WS) rm_R_gravel (kP D (tyG cI cL cZ) kTrue [.ref a_this, .int v1, .int v2] sz (cells_R_gravel cI cL cZ a_this a_gravel a_kind a_own a_likely a_tape a_holding a_rowLength a_rowOf a_refusals a_old a_ahead a_cost a_may a_rest a_way c_n c_rain c_ear c_many c_seed c_taped c_from c_to c_token c_value c_imaged c_gravel c_refusals)) (kQi D (va_A (cells_R_gravel cI cL cZ a_this a_gravel a_kind a_own a_likely a_tape a_holding a_rowLength a_rowOf a_refusals a_old a_ahead a_cost a_may a_rest a_way c_n c_rain c_ear c_many c_seed c_taped c_from c_to c_token c_value c_imaged c_gravel c_refusals) sz) (cells_R_gravel cI cL cZ a_this a_gravel a_kind a_own a_likely a_tape a_holding a_rowLength a_rowOf a_refusals a_old a_ahead a_cost a_may a_rest a_way c_n c_rain c_ear c_many c_seed c_taped c_from c_to c_token c_value c_imaged x.2.1 x.2.2) x.1) 0 0 (va_A (cells_R_gravel cI cL cZ a_this a_gravel a_kind a_own a_likely a_tape a_holding a_rowLength a_rowOf a_refusals a_old a_ahead a_cost a_may a_rest a_way c_n c_rain c_ear c_many c_seed c_taped c_from c_to c_token c_value c_imaged c_gravel c_refusals) sz) :=
  kmet (by decide) (Nat.le_of_ble_eq_true rfl) rfl (fun p e s m below meth c C hE => s_R_gravel C h)
abbrev cells_R_ask (cI : ClassId) (cL : ClassId) (cZ : ClassId) (a_this : Nat) (a_gravel : Nat) (a_kind : Nat) (a_own : Nat) (a_likely : Nat) (a_tape : Nat) (a_holding : Nat) (a_rowLength : Nat) (a_rowOf : Nat) (a_refusals : Nat) (a_old : Nat) (a_ahead : Nat) (a_cost : Nat) (a_may : Nat) (a_rest : Nat) (a_way : Nat) (c_n : Int32) (c_rain : Int32) (c_ear : Int32) (c_many : Int32) (c_seed : Int32) (c_taped : Int32) (c_from : Int32) (c_to : Int32) (c_token : Int32) (c_value : Int32) (c_imaged : Int32) (c_refusals : (Nat → Int32)) : va_W := [(a_this, .inr (5, [.int c_n, .ref a_gravel, .int c_rain, .int c_ear, .int c_many, .ref a_kind, .ref a_own, .ref a_likely, .int c_seed, .int c_taped, .ref a_tape, .int c_from, .int c_to, .int c_token, .int c_value, .ref a_holding, .ref a_rowLength, .ref a_rowOf, .ref a_refusals, .int c_imaged, .ref a_old, .ref a_ahead, .ref a_cost, .ref a_may, .ref a_rest, .ref a_way])), (a_refusals, .inl (cI, 7, .inl c_refusals))]
abbrev rm_R_ask : Room := { frames := 1, cells := 0, slots := 0, locals := 22 }

variable {p : Program} {l : Launch} {e : Env} {s : State} {m : MethodId} {args : Array Value} {below : List Frame} {meth : Method} {c : Code} {D : va_G} {A : Nat → Prop} {cI cL cZ : ClassId} {Q : State → Prop}
set_option maxRecDepth 100000 in
set_option maxHeartbeats 4000000 in
theorem s_R_meant (C : kC p l e rm_R_meant s m args below meth c D (tyG cI cL cZ) A 11 cX5_meant yX5_meant.cls (Cond.code yX5_meant cX5_meant 11 (some .int) :: WS) (some .int)) {a_this : Nat} {a_gravel : Nat} {a_kind : Nat} {a_own : Nat} {a_likely : Nat} {a_tape : Nat} {a_holding : Nat} {a_rowLength : Nat} {a_rowOf : Nat} {a_refusals : Nat} {a_old : Nat} {a_ahead : Nat} {a_cost : Nat} {a_may : Nat} {a_rest : Nat} {a_way : Nat} {v1 : Int32} {v2 : Int32} {v3 : Int32} {v4 : Int32} {c_n : Int32} {c_rain : Int32} {c_ear : Int32} {c_many : Int32} {c_seed : Int32} {c_taped : Int32} {c_from : Int32} {c_to : Int32} {c_token : Int32} {c_value : Int32} {c_imaged : Int32} {c_gravel : (Nat → Int32)} {c_kind : (Nat → Int32)} {c_own : (Nat → Int32)} {c_holding : (Nat → Int32)} {c_rowLength : (Nat → Int32)} {c_rowOf : (Nat → Int64)} {c_refusals : (Nat → Int32)} {x : (Int32 × (Nat → Int32) × (Nat → Int32) × (Nat → Int32))} (h : f_R_meant v1 v2 v3 v4 c_n c_rain c_many c_gravel c_kind c_own c_holding c_rowLength c_rowOf c_refusals = some x) :
    kW p l e rm_R_meant s m args below meth c D A 11 (cells_R_meant cI cL cZ a_this a_gravel a_kind a_own a_likely a_tape a_holding a_rowLength a_rowOf a_refusals a_old a_ahead a_cost a_may a_rest a_way c_n c_rain c_ear c_many c_seed c_taped c_from c_to c_token c_value c_imaged c_gravel c_kind c_own c_holding c_rowLength c_rowOf c_refusals) [(0, .ref a_this), (1, .int v1), (2, .int v2), (3, .int v3), (4, .int v4)] (MQ below (kQi D A (cells_R_meant cI cL cZ a_this a_gravel a_kind a_own a_likely a_tape a_holding a_rowLength a_rowOf a_refusals a_old a_ahead a_cost a_may a_rest a_way c_n c_rain c_ear c_many c_seed c_taped c_from c_to c_token c_value c_imaged c_gravel x.2.1 x.2.2.1 c_holding c_rowLength c_rowOf x.2.2.2) x.1) args s 0 0 A) 0 [] := by
  unfold f_R_meant at h
  refine k_iload_n C dX5_meant_0 1 rfl rfl ?_
  obtain ⟨x1, hx1, h⟩ := bindE h
  refine kcallE_i C (r := x1) (fun H locs ls hP hD hS hF hz => krunS C (c_R_isShelf l D cI cL cZ H.size v1 x1 hx1) (va_cwS 1 C.2.2.2.2.1 (gS wq_555 wq_556 wq_551 wq_554) rfl rfl rfl (by decide +kernel) ⟨(Nat.le_of_ble_eq_true rfl), (Nat.le_of_ble_eq_true rfl)⟩) kEnv_T rfl rfl (Nat.le_of_ble_eq_true rfl) dX5_meant_1 hP hD hz) ?_
  refine k_if_eq C (tgt := 33) dX5_meant_4 (by decide) (fun c_4 => ?_) (fun c_4 => ?_)
  · have h := ifT c_4 h
    refine k_lv (lv' := [(0, .ref a_this)]) [0] rfl ?_
    exact s_R_meant_j33 C h
  · have h := ifF c_4 h
    refine k_aload_n C dX5_meant_7 0 rfl rfl ?_
    refine k_iload_n C dX5_meant_8 2 rfl rfl ?_
    obtain ⟨x3, hx3, h⟩ := bindE h
    refine kcallR_i C (wc := (cells_R_isFeet cI cL cZ a_this a_gravel a_kind a_own a_likely a_tape a_holding a_rowLength a_rowOf a_refusals a_old a_ahead a_cost a_may a_rest a_way c_n c_rain c_ear c_many c_seed c_taped c_from c_to c_token c_value c_imaged)) (r := x3) [0] (fun H locs ls hP hD hS hF hz => krunV C (q0 := 0) (ci := 5) (c_R_isFeet l D cI cL cZ H.size a_this a_gravel a_kind a_own a_likely a_tape a_holding a_rowLength a_rowOf a_refusals a_old a_ahead a_cost a_may a_rest a_way v2 c_n c_rain c_ear c_many c_seed c_taped c_from c_to c_token c_value c_imaged x3 hx3) (cwV 1 C.2.2.2.2.1 (gV wq_575 wq_576 wq_577 wq_551 wq_574) rfl rfl rfl (by decide +kernel) ⟨(Nat.le_of_ble_eq_true rfl), (Nat.le_of_ble_eq_true rfl)⟩) rfl rfl kEnv_T rfl rfl (Nat.le_of_ble_eq_true rfl) dX5_meant_9 hP hD hz) rfl (by decide) ?_
    refine k_if_eq C (tgt := 33) dX5_meant_12 (by decide) (fun c_12 => ?_) (fun c_12 => ?_)
    · have h := ifT c_12 h
      refine k_lv (lv' := [(0, .ref a_this)]) [0] rfl ?_
      exact s_R_meant_j33 C h
    · have h := ifF c_12 h
      refine k_aload_n C dX5_meant_15 0 rfl rfl ?_
      refine k_iload_n C dX5_meant_16 3 rfl rfl ?_
      obtain ⟨x4, hx4, h⟩ := bindE h
      refine kcallR_i C (wc := (cells_R_isColumn cI cL cZ a_this a_gravel a_kind a_own a_likely a_tape a_holding a_rowLength a_rowOf a_refusals a_old a_ahead a_cost a_may a_rest a_way c_n c_rain c_ear c_many c_seed c_taped c_from c_to c_token c_value c_imaged)) (r := x4) [0] (fun H locs ls hP hD hS hF hz => krunV C (q0 := 0) (ci := 5) (c_R_isColumn l D cI cL cZ H.size a_this a_gravel a_kind a_own a_likely a_tape a_holding a_rowLength a_rowOf a_refusals a_old a_ahead a_cost a_may a_rest a_way v3 c_n c_rain c_ear c_many c_seed c_taped c_from c_to c_token c_value c_imaged x4 hx4) (cwV 1 C.2.2.2.2.1 (gV wq_728 wq_729 wq_730 wq_551 wq_727) rfl rfl rfl (by decide +kernel) ⟨(Nat.le_of_ble_eq_true rfl), (Nat.le_of_ble_eq_true rfl)⟩) rfl rfl kEnv_T rfl rfl (Nat.le_of_ble_eq_true rfl) dX5_meant_17 hP hD hz) rfl (by decide) ?_
      refine k_if_eq C (tgt := 33) dX5_meant_20 (by decide) (fun c_20 => ?_) (fun c_20 => ?_)
      · have h := ifT c_20 h
        refine k_lv (lv' := [(0, .ref a_this)]) [0] rfl ?_
        exact s_R_meant_j33 C h
      · have h := ifF c_20 h
        refine k_iload C dX5_meant_23 4 rfl ?_
        refine k_iconst C (v := (0 : Int32)) dX5_meant_25 (by decide) ?_
        refine k_iconst C (v := (1 : Int32)) dX5_meant_26 (by decide) ?_
        obtain ⟨x5, hx5, h⟩ := bindE h
        refine kcallE_i C (r := x5) (fun H locs ls hP hD hS hF hz => krunS C (c_R_within l D cI cL cZ H.size v4 (0 : Int32) (1 : Int32) x5 hx5) (va_cwS 3 C.2.2.2.2.1 (gS wq_549 wq_550 wq_551 wq_548) rfl rfl rfl (by decide +kernel) ⟨(Nat.le_of_ble_eq_true rfl), (Nat.le_of_ble_eq_true rfl)⟩) kEnv_T rfl rfl (Nat.le_of_ble_eq_true rfl) dX5_meant_27 hP hD hz) ?_
        refine k_if_ne C (tgt := 40) dX5_meant_30 (by decide) (fun c_30 => ?_) (fun c_30 => ?_)
        · have h := ifF c_30 h
          refine k_aload_n C dX5_meant_40 0 rfl rfl ?_
          refine k_iload_n C dX5_meant_41 1 rfl rfl ?_
          obtain ⟨x6, hx6, h⟩ := bindE h
          refine kcallR_i C (wc := (cells_R_noHeard cI cL cZ a_this a_gravel a_kind a_own a_likely a_tape a_holding a_rowLength a_rowOf a_refusals a_old a_ahead a_cost a_may a_rest a_way c_n c_rain c_ear c_many c_seed c_taped c_from c_to c_token c_value c_imaged c_holding c_rowLength)) (r := x6) [0, 4, 5] (fun H locs ls hP hD hS hF hz => krunV C (q0 := 0) (ci := 5) (c_R_noHeard l D cI cL cZ H.size a_this a_gravel a_kind a_own a_likely a_tape a_holding a_rowLength a_rowOf a_refusals a_old a_ahead a_cost a_may a_rest a_way v1 c_n c_rain c_ear c_many c_seed c_taped c_from c_to c_token c_value c_imaged c_holding c_rowLength x6 hx6) (cwV 1 C.2.2.2.2.1 (gV wq_752 wq_753 wq_754 wq_551 wq_751) rfl rfl rfl (by decide +kernel) ⟨(Nat.le_of_ble_eq_true rfl), (Nat.le_of_ble_eq_true rfl)⟩) rfl rfl kEnv_T rfl rfl (Nat.le_of_ble_eq_true rfl) dX5_meant_42 hP hD hz) rfl (by decide) ?_
          refine k_istore C (lv' := [(5, .int x6), (0, .ref a_this), (1, .int v1), (2, .int v2), (3, .int v3), (4, .int v4)]) dX5_meant_45 (by decide) rfl ?_
          refine k_iload C dX5_meant_47 0 rfl ?_
          refine k_if_ge C (tgt := 59) dX5_meant_49 (by decide) (fun c_49 => ?_) (fun c_49 => ?_)
          · have h := ifT c_49 h
            refine k_aload_n C dX5_meant_59 1 rfl rfl ?_
            refine k_get C (C0 := RX5) (T := TX5) (N := 26) (fun w h => List.mem_cons_of_mem _ (us_R w h)) 0 rfl rfl 5 (by decide) (List.mem_cons_of_mem _ wq_586) rfl rfl dX5_meant_60 ?_
            refine k_iload_n C dX5_meant_63 3 rfl rfl ?_
            obtain ⟨x7, hx7, h⟩ := bindE h
            refine k_iald C 2 0 rfl rfl hx7 dX5_meant_64 ?_
            refine k_istore C (lv' := [(6, .int x7), (5, .int x6), (0, .ref a_this), (1, .int v1), (2, .int v2), (3, .int v3), (4, .int v4)]) dX5_meant_65 (by decide) rfl ?_
            refine k_aload_n C dX5_meant_67 2 rfl rfl ?_
            refine k_get C (C0 := RX5) (T := TX5) (N := 26) (fun w h => List.mem_cons_of_mem _ (us_R w h)) 0 rfl rfl 6 (by decide) (List.mem_cons_of_mem _ wq_585) rfl rfl dX5_meant_68 ?_
            refine k_iload_n C dX5_meant_71 4 rfl rfl ?_
            obtain ⟨x8, hx8, h⟩ := bindE h
            refine k_iald C 3 0 rfl rfl hx8 dX5_meant_72 ?_
            refine k_istore C (lv' := [(7, .int x8), (6, .int x7), (5, .int x6), (0, .ref a_this), (1, .int v1), (2, .int v2), (3, .int v3), (4, .int v4)]) dX5_meant_73 (by decide) rfl ?_
            refine k_iconst C (v := (0 : Int32)) dX5_meant_75 (by decide) ?_
            refine k_istore C (lv' := [(8, .int (0 : Int32)), (7, .int x8), (6, .int x7), (5, .int x6), (0, .ref a_this), (1, .int v1), (2, .int v2), (3, .int v3), (4, .int v4)]) dX5_meant_76 (by decide) rfl ?_
            refine k_iconst C (v := (-1 : Int32)) dX5_meant_78 (by decide) ?_
            refine k_istore C (lv' := [(9, .int (-1 : Int32)), (8, .int (0 : Int32)), (7, .int x8), (6, .int x7), (5, .int x6), (0, .ref a_this), (1, .int v1), (2, .int v2), (3, .int v3), (4, .int v4)]) dX5_meant_79 (by decide) rfl ?_
            refine k_iconst C (v := (0 : Int32)) dX5_meant_81 (by decide) ?_
            refine k_istore C (lv' := [(10, .int (0 : Int32)), (9, .int (-1 : Int32)), (8, .int (0 : Int32)), (7, .int x8), (6, .int x7), (5, .int x6), (0, .ref a_this), (1, .int v1), (2, .int v2), (3, .int v3), (4, .int v4)]) dX5_meant_82 (by decide) rfl ?_
            obtain ⟨x11, hx11, h⟩ := bindE h
            refine k_lv (lv' := [(0, .ref a_this), (1, .int v1), (2, .int v2), (3, .int v3), (4, .int v4), (6, .int x7), (7, .int x8), (8, .int (0 : Int32)), (9, .int (-1 : Int32)), (10, .int (0 : Int32))]) [6, 7, 8, 9, 10, 4, 3, 2, 1, 0] rfl ?_
            refine s_R_meant_l84 C hx11 ?_
            refine k_aload_n C dX5_meant_128 0 rfl rfl ?_
            refine k_get C (C0 := RX5) (T := TX5) (N := 26) (fun w h => List.mem_cons_of_mem _ (us_R w h)) 0 rfl rfl 5 (by decide) (List.mem_cons_of_mem _ wq_586) rfl rfl dX5_meant_129 ?_
            refine k_iload_n C dX5_meant_132 2 rfl rfl ?_
            refine k_iload C dX5_meant_133 5 rfl ?_
            obtain ⟨x12, hx12, h⟩ := bindE h
            refine k_iast C 2 0 (ws' := (cells_R_meant cI cL cZ a_this a_gravel a_kind a_own a_likely a_tape a_holding a_rowLength a_rowOf a_refusals a_old a_ahead a_cost a_may a_rest a_way c_n c_rain c_ear c_many c_seed c_taped c_from c_to c_token c_value c_imaged c_gravel x12 c_own c_holding c_rowLength c_rowOf c_refusals)) rfl rfl hx12 rfl dX5_meant_135 ?_
            refine k_bipush C (v := (9 : Int32)) dX5_meant_136 (by decide) ?_
            refine k_istore C (lv' := [(10, .int (9 : Int32)), (0, .ref a_this), (1, .int v1), (2, .int v2), (3, .int v3), (4, .int v4), (6, .int x7), (7, .int x8), (8, .int x11.1), (9, .int (-1 : Int32))]) dX5_meant_138 (by decide) rfl ?_
            obtain ⟨x15, hx15, h⟩ := bindE h
            refine k_lv (lv' := [(0, .ref a_this), (1, .int v1), (2, .int v2), (3, .int v3), (4, .int v4), (7, .int x8), (8, .int x11.1), (9, .int (-1 : Int32)), (10, .int (9 : Int32))]) [1, 2, 3, 4, 5, 7, 8, 9, 0] rfl ?_
            refine s_R_meant_l140 C hx15 ?_
            refine k_aload_n C dX5_meant_177 0 rfl rfl ?_
            refine k_get C (C0 := RX5) (T := TX5) (N := 26) (fun w h => List.mem_cons_of_mem _ (us_R w h)) 0 rfl rfl 6 (by decide) (List.mem_cons_of_mem _ wq_585) rfl rfl dX5_meant_178 ?_
            refine k_iload_n C dX5_meant_181 1 rfl rfl ?_
            refine k_iload C dX5_meant_182 3 rfl ?_
            obtain ⟨x16, hx16, h⟩ := bindE h
            refine k_iast C 3 0 (ws' := (cells_R_meant cI cL cZ a_this a_gravel a_kind a_own a_likely a_tape a_holding a_rowLength a_rowOf a_refusals a_old a_ahead a_cost a_may a_rest a_way c_n c_rain c_ear c_many c_seed c_taped c_from c_to c_token c_value c_imaged c_gravel x12 x16 c_holding c_rowLength c_rowOf c_refusals)) rfl rfl hx16 rfl dX5_meant_184 ?_
            refine k_iload C dX5_meant_185 2 rfl ?_
            refine k_if_ne C (tgt := 195) dX5_meant_187 (by decide) (fun c_187 => ?_) (fun c_187 => ?_)
            · have h := ifF c_187 h
              refine k_iload C dX5_meant_195 5 rfl ?_
              obtain rfl := Option.some.inj h
              exact kret_i C rfl dX5_meant_197
            · have h := ifT c_187 h
              refine k_iload C dX5_meant_190 4 rfl ?_
              refine k_goto C (tgt := 197) dX5_meant_192 (by decide) ?_
              obtain rfl := Option.some.inj h
              exact kret_i C rfl dX5_meant_197
          · have h := ifF c_49 h
            refine k_aload_n C dX5_meant_52 1 rfl rfl ?_
            refine k_iload C dX5_meant_53 0 rfl ?_
            obtain ⟨x17, hx17, h⟩ := bindE h
            refine kcallU_i C (wc := (cells_R_no cI cL cZ a_this a_gravel a_kind a_own a_likely a_tape a_holding a_rowLength a_rowOf a_refusals a_old a_ahead a_cost a_may a_rest a_way c_n c_rain c_ear c_many c_seed c_taped c_from c_to c_token c_value c_imaged c_refusals)) (w1 := (cells_R_no cI cL cZ a_this a_gravel a_kind a_own a_likely a_tape a_holding a_rowLength a_rowOf a_refusals a_old a_ahead a_cost a_may a_rest a_way c_n c_rain c_ear c_many c_seed c_taped c_from c_to c_token c_value c_imaged x17.2)) (ws' := (cells_R_meant cI cL cZ a_this a_gravel a_kind a_own a_likely a_tape a_holding a_rowLength a_rowOf a_refusals a_old a_ahead a_cost a_may a_rest a_way c_n c_rain c_ear c_many c_seed c_taped c_from c_to c_token c_value c_imaged c_gravel c_kind c_own c_holding c_rowLength c_rowOf x17.2)) (r := x17.1) [0, 7] (fun H locs ls hP hD hS hF hz => krunV C (q0 := 0) (ci := 5) (c_R_no l D cI cL cZ H.size a_this a_gravel a_kind a_own a_likely a_tape a_holding a_rowLength a_rowOf a_refusals a_old a_ahead a_cost a_may a_rest a_way x6 c_n c_rain c_ear c_many c_seed c_taped c_from c_to c_token c_value c_imaged c_refusals x17 hx17) (cwV 1 C.2.2.2.2.1 (gV wq_558 wq_559 wq_560 wq_551 wq_557) rfl rfl rfl (by decide +kernel) ⟨(Nat.le_of_ble_eq_true rfl), (Nat.le_of_ble_eq_true rfl)⟩) rfl rfl kEnv_T rfl rfl (Nat.le_of_ble_eq_true rfl) dX5_meant_55 hP hD hz) rfl (by decide) rfl rfl ?_
            obtain rfl := Option.some.inj h
            exact kret_i C rfl dX5_meant_58
        · have h := ifT c_30 h
          refine k_lv (lv' := [(0, .ref a_this)]) [0] rfl ?_
          exact s_R_meant_j33 C h
theorem c_R_meant (l : Launch) (D : va_G) (cI : ClassId) (cL : ClassId) (cZ : ClassId) (sz : Nat) (a_this : Nat) (a_gravel : Nat) (a_kind : Nat) (a_own : Nat) (a_likely : Nat) (a_tape : Nat) (a_holding : Nat) (a_rowLength : Nat) (a_rowOf : Nat) (a_refusals : Nat) (a_old : Nat) (a_ahead : Nat) (a_cost : Nat) (a_may : Nat) (a_rest : Nat) (a_way : Nat) (v1 : Int32) (v2 : Int32) (v3 : Int32) (v4 : Int32) (c_n : Int32) (c_rain : Int32) (c_ear : Int32) (c_many : Int32) (c_seed : Int32) (c_taped : Int32) (c_from : Int32) (c_to : Int32) (c_token : Int32) (c_value : Int32) (c_imaged : Int32) (c_gravel : (Nat → Int32)) (c_kind : (Nat → Int32)) (c_own : (Nat → Int32)) (c_holding : (Nat → Int32)) (c_rowLength : (Nat → Int32)) (c_rowOf : (Nat → Int64)) (c_refusals : (Nat → Int32)) (x : (Int32 × (Nat → Int32) × (Nat → Int32) × (Nat → Int32))) (h : f_R_meant v1 v2 v3 v4 c_n c_rain c_many c_gravel c_kind c_own c_holding c_rowLength c_rowOf c_refusals = some x) :
    Met l yX5_meant (Cond.code yX5_meant cX5_meant 11 (some .int) :: WS) rm_R_meant (kP D (tyG cI cL cZ) kTrue [.ref a_this, .int v1, .int v2, .int v3, .int v4] sz (cells_R_meant cI cL cZ a_this a_gravel a_kind a_own a_likely a_tape a_holding a_rowLength a_rowOf a_refusals a_old a_ahead a_cost a_may a_rest a_way c_n c_rain c_ear c_many c_seed c_taped c_from c_to c_token c_value c_imaged c_gravel c_kind c_own c_holding c_rowLength c_rowOf c_refusals)) (kQi D (va_A (cells_R_meant cI cL cZ a_this a_gravel a_kind a_own a_likely a_tape a_holding a_rowLength a_rowOf a_refusals a_old a_ahead a_cost a_may a_rest a_way c_n c_rain c_ear c_many c_seed c_taped c_from c_to c_token c_value c_imaged c_gravel c_kind c_own c_holding c_rowLength c_rowOf c_refusals) sz) (cells_R_meant cI cL cZ a_this a_gravel a_kind a_own a_likely a_tape a_holding a_rowLength a_rowOf a_refusals a_old a_ahead a_cost a_may a_rest a_way c_n c_rain c_ear c_many c_seed c_taped c_from c_to c_token c_value c_imaged c_gravel x.2.1 x.2.2.1 c_holding c_rowLength c_rowOf x.2.2.2) x.1) 0 0 (va_A (cells_R_meant cI cL cZ a_this a_gravel a_kind a_own a_likely a_tape a_holding a_rowLength a_rowOf a_refusals a_old a_ahead a_cost a_may a_rest a_way c_n c_rain c_ear c_many c_seed c_taped c_from c_to c_token c_value c_imaged c_gravel c_kind c_own c_holding c_rowLength c_rowOf c_refusals) sz) :=
  kmet (by decide) (Nat.le_of_ble_eq_true rfl) rfl (fun p e s m below meth c C hE => s_R_meant C h)
abbrev cells_R_duel (cI : ClassId) (cL : ClassId) (cZ : ClassId) (a_this : Nat) (a_gravel : Nat) (a_kind : Nat) (a_own : Nat) (a_likely : Nat) (a_tape : Nat) (a_holding : Nat) (a_rowLength : Nat) (a_rowOf : Nat) (a_refusals : Nat) (a_old : Nat) (a_ahead : Nat) (a_cost : Nat) (a_may : Nat) (a_rest : Nat) (a_way : Nat) (c_n : Int32) (c_rain : Int32) (c_ear : Int32) (c_many : Int32) (c_seed : Int32) (c_taped : Int32) (c_from : Int32) (c_to : Int32) (c_token : Int32) (c_value : Int32) (c_imaged : Int32) (c_gravel : (Nat → Int32)) (c_kind : (Nat → Int32)) (c_own : (Nat → Int32)) (c_refusals : (Nat → Int32)) (c_cost : (Nat → Int32)) (c_may : (Nat → Int32)) (c_rest : (Nat → Int32)) (c_way : (Nat → Int32)) : va_W := [(a_this, .inr (5, [.int c_n, .ref a_gravel, .int c_rain, .int c_ear, .int c_many, .ref a_kind, .ref a_own, .ref a_likely, .int c_seed, .int c_taped, .ref a_tape, .int c_from, .int c_to, .int c_token, .int c_value, .ref a_holding, .ref a_rowLength, .ref a_rowOf, .ref a_refusals, .int c_imaged, .ref a_old, .ref a_ahead, .ref a_cost, .ref a_may, .ref a_rest, .ref a_way])), (a_gravel, .inl (cI, 36, .inl c_gravel)), (a_kind, .inl (cI, 8, .inl c_kind)), (a_own, .inl (cI, 8, .inl c_own)), (a_refusals, .inl (cI, 7, .inl c_refusals)), (a_cost, .inl (cI, 36, .inl c_cost)), (a_may, .inl (cZ, 36, .inl c_may)), (a_rest, .inl (cI, 36, .inl c_rest)), (a_way, .inl (cI, 6, .inl c_way))]
abbrev rm_R_duel : Room := { frames := 6, cells := 0, slots := 0, locals := 143 }
set_option maxRecDepth 100000 in
set_option maxHeartbeats 4000000 in
theorem s_R_duel_j17 (C : kC p l e rm_R_duel s m args below meth c D (tyG cI cL cZ) A 8 cX5_duel yX5_duel.cls (Cond.code yX5_duel cX5_duel 8 (some .int) :: WS) (some .int)) {a_this : Nat} {a_gravel : Nat} {a_kind : Nat} {a_own : Nat} {a_likely : Nat} {a_tape : Nat} {a_holding : Nat} {a_rowLength : Nat} {a_rowOf : Nat} {a_refusals : Nat} {a_old : Nat} {a_ahead : Nat} {a_cost : Nat} {a_may : Nat} {a_rest : Nat} {a_way : Nat} {c_n : Int32} {c_rain : Int32} {c_ear : Int32} {c_many : Int32} {c_seed : Int32} {c_taped : Int32} {c_from : Int32} {c_to : Int32} {c_token : Int32} {c_value : Int32} {c_imaged : Int32} {c_gravel : (Nat → Int32)} {c_kind : (Nat → Int32)} {c_own : (Nat → Int32)} {c_refusals : (Nat → Int32)} {c_cost : (Nat → Int32)} {c_may : (Nat → Int32)} {c_rest : (Nat → Int32)} {c_way : (Nat → Int32)} {x : (Int32 × (Nat → Int32) × (Nat → Int32) × (Nat → Int32) × (Nat → Int32) × (Nat → Int32) × (Nat → Int32))} (h : f_R_duel_j17 c_gravel c_refusals c_cost c_may c_rest c_way = some x) :
    kW p l e rm_R_duel s m args below meth c D A 8 (cells_R_duel cI cL cZ a_this a_gravel a_kind a_own a_likely a_tape a_holding a_rowLength a_rowOf a_refusals a_old a_ahead a_cost a_may a_rest a_way c_n c_rain c_ear c_many c_seed c_taped c_from c_to c_token c_value c_imaged c_gravel c_kind c_own c_refusals c_cost c_may c_rest c_way) [(0, .ref a_this)] (MQ below (kQi D A (cells_R_duel cI cL cZ a_this a_gravel a_kind a_own a_likely a_tape a_holding a_rowLength a_rowOf a_refusals a_old a_ahead a_cost a_may a_rest a_way c_n c_rain c_ear c_many c_seed c_taped c_from c_to c_token c_value c_imaged x.2.1 c_kind c_own x.2.2.1 x.2.2.2.1 x.2.2.2.2.1 x.2.2.2.2.2.1 x.2.2.2.2.2.2) x.1) args s 0 0 A) 17 [] := by
  unfold f_R_duel_j17 at h
  refine k_aload_n C dX5_duel_17 0 rfl rfl ?_
  refine k_bipush C (v := (-2 : Int32)) dX5_duel_18 (by decide) ?_
  obtain ⟨x2, hx2, h⟩ := bindE h
  refine kcallU_i C (wc := (cells_R_no cI cL cZ a_this a_gravel a_kind a_own a_likely a_tape a_holding a_rowLength a_rowOf a_refusals a_old a_ahead a_cost a_may a_rest a_way c_n c_rain c_ear c_many c_seed c_taped c_from c_to c_token c_value c_imaged c_refusals)) (w1 := (cells_R_no cI cL cZ a_this a_gravel a_kind a_own a_likely a_tape a_holding a_rowLength a_rowOf a_refusals a_old a_ahead a_cost a_may a_rest a_way c_n c_rain c_ear c_many c_seed c_taped c_from c_to c_token c_value c_imaged x2.2)) (ws' := (cells_R_duel cI cL cZ a_this a_gravel a_kind a_own a_likely a_tape a_holding a_rowLength a_rowOf a_refusals a_old a_ahead a_cost a_may a_rest a_way c_n c_rain c_ear c_many c_seed c_taped c_from c_to c_token c_value c_imaged c_gravel c_kind c_own x2.2 c_cost c_may c_rest c_way)) (r := x2.1) [0, 4] (fun H locs ls hP hD hS hF hz => krunV C (q0 := 0) (ci := 5) (c_R_no l D cI cL cZ H.size a_this a_gravel a_kind a_own a_likely a_tape a_holding a_rowLength a_rowOf a_refusals a_old a_ahead a_cost a_may a_rest a_way (-2 : Int32) c_n c_rain c_ear c_many c_seed c_taped c_from c_to c_token c_value c_imaged c_refusals x2 hx2) (cwV 1 C.2.2.2.2.1 (gV wq_558 wq_559 wq_560 wq_551 wq_557) rfl rfl rfl (by decide +kernel) ⟨(Nat.le_of_ble_eq_true rfl), (Nat.le_of_ble_eq_true rfl)⟩) rfl rfl kEnv_T rfl rfl (Nat.le_of_ble_eq_true rfl) dX5_duel_20 hP hD hz) rfl (by decide) rfl rfl ?_
  obtain rfl := Option.some.inj h
  exact kret_i C rfl dX5_duel_23
set_option maxRecDepth 100000 in
set_option maxHeartbeats 4000000 in
theorem s_R_duel_b32 (C : kC p l e rm_R_duel s m args below meth c D (tyG cI cL cZ) A 8 cX5_duel yX5_duel.cls (Cond.code yX5_duel cX5_duel 8 (some .int) :: WS) (some .int)) {a_this : Nat} {a_gravel : Nat} {a_kind : Nat} {a_own : Nat} {a_likely : Nat} {a_tape : Nat} {a_holding : Nat} {a_rowLength : Nat} {a_rowOf : Nat} {a_refusals : Nat} {a_old : Nat} {a_ahead : Nat} {a_cost : Nat} {a_may : Nat} {a_rest : Nat} {a_way : Nat} {v1 : Int32} {v2 : Int32} {v3 : Int32} {v4 : Int32} {v5 : Int32} {c_n : Int32} {c_rain : Int32} {c_ear : Int32} {c_many : Int32} {c_seed : Int32} {c_taped : Int32} {c_from : Int32} {c_to : Int32} {c_token : Int32} {c_value : Int32} {c_imaged : Int32} {c_gravel : (Nat → Int32)} {c_kind : (Nat → Int32)} {c_own : (Nat → Int32)} {c_refusals : (Nat → Int32)} {c_cost : (Nat → Int32)} {c_may : (Nat → Int32)} {c_rest : (Nat → Int32)} {c_way : (Nat → Int32)} {x : ((Int32 × Int32 × Int32 × (Nat → Int32) × (Nat → Int32) × (Nat → Int32) × (Nat → Int32) × (Nat → Int32)) ⊕ (Int32 × Int32 × (Nat → Int32) × (Nat → Int32) × (Nat → Int32) × (Nat → Int32) × (Nat → Int32)))} (h : f_R_duel_b32 v1 c_n c_rain c_kind c_own v3 v4 v5 c_gravel c_cost c_may c_rest c_way = some x)
    (kc : ∀ s', x = .inl s' → kW p l e rm_R_duel s m args below meth c D A 8 (cells_R_duel cI cL cZ a_this a_gravel a_kind a_own a_likely a_tape a_holding a_rowLength a_rowOf a_refusals a_old a_ahead a_cost a_may a_rest a_way c_n c_rain c_ear c_many c_seed c_taped c_from c_to c_token c_value c_imaged s'.2.2.2.1 c_kind c_own c_refusals s'.2.2.2.2.1 s'.2.2.2.2.2.1 s'.2.2.2.2.2.2.1 s'.2.2.2.2.2.2.2) [(0, .ref a_this), (1, .int v1), (2, .int v2), (3, .int s'.1), (4, .int s'.2.1), (5, .int s'.2.2.1)] Q 32 [])
    (k0 : ∀ r, x = .inr r → kW p l e rm_R_duel s m args below meth c D A 8 (cells_R_duel cI cL cZ a_this a_gravel a_kind a_own a_likely a_tape a_holding a_rowLength a_rowOf a_refusals a_old a_ahead a_cost a_may a_rest a_way c_n c_rain c_ear c_many c_seed c_taped c_from c_to c_token c_value c_imaged r.2.2.1 c_kind c_own c_refusals r.2.2.2.1 r.2.2.2.2.1 r.2.2.2.2.2.1 r.2.2.2.2.2.2) [(2, .int v2), (3, .int r.1), (4, .int r.2.1)] Q 103 []) :
    kW p l e rm_R_duel s m args below meth c D A 8 (cells_R_duel cI cL cZ a_this a_gravel a_kind a_own a_likely a_tape a_holding a_rowLength a_rowOf a_refusals a_old a_ahead a_cost a_may a_rest a_way c_n c_rain c_ear c_many c_seed c_taped c_from c_to c_token c_value c_imaged c_gravel c_kind c_own c_refusals c_cost c_may c_rest c_way) [(0, .ref a_this), (1, .int v1), (2, .int v2), (3, .int v3), (4, .int v4), (5, .int v5)] Q 32 [] := by
  unfold f_R_duel_b32 at h
  refine k_iload C dX5_duel_32 5 rfl ?_
  refine k_aload_n C dX5_duel_34 0 rfl rfl ?_
  refine k_get C (C0 := RX5) (T := TX5) (N := 26) (fun w h => List.mem_cons_of_mem _ (us_R w h)) 0 rfl rfl 0 (by decide) (List.mem_cons_of_mem _ wq_552) rfl rfl dX5_duel_35 ?_
  refine k_aload_n C dX5_duel_38 0 rfl rfl ?_
  refine k_get C (C0 := RX5) (T := TX5) (N := 26) (fun w h => List.mem_cons_of_mem _ (us_R w h)) 0 rfl rfl 0 (by decide) (List.mem_cons_of_mem _ wq_552) rfl rfl dX5_duel_39 ?_
  refine k_imul C dX5_duel_42 ?_
  refine k_icmp_ge C (tgt := 103) dX5_duel_43 (by decide) (fun c_43 => ?_) (fun c_43 => ?_)
  · have h := ifT c_43 h
    refine k_lv (lv' := [(2, .int v2), (3, .int v3), (4, .int v4)]) [2, 3, 4] rfl ?_
    exact k0 _ (Option.some.inj h).symm
  · have h := ifF c_43 h
    refine k_aload_n C dX5_duel_46 0 rfl rfl ?_
    refine k_get C (C0 := RX5) (T := TX5) (N := 26) (fun w h => List.mem_cons_of_mem _ (us_R w h)) 0 rfl rfl 1 (by decide) (List.mem_cons_of_mem _ wq_578) rfl rfl dX5_duel_47 ?_
    refine k_iload C dX5_duel_50 5 rfl ?_
    obtain ⟨x4, hx4, h⟩ := bindE h
    refine k_iald C 1 0 rfl rfl hx4 dX5_duel_52 ?_
    refine k_istore C (lv' := [(6, .int x4), (0, .ref a_this), (1, .int v1), (2, .int v2), (3, .int v3), (4, .int v4), (5, .int v5)]) dX5_duel_53 (by decide) rfl ?_
    refine k_aload_n C dX5_duel_55 1 rfl rfl ?_
    refine k_get C (C0 := RX5) (T := TX5) (N := 26) (fun w h => List.mem_cons_of_mem _ (us_R w h)) 0 rfl rfl 1 (by decide) (List.mem_cons_of_mem _ wq_578) rfl rfl dX5_duel_56 ?_
    refine k_iload C dX5_duel_59 6 rfl ?_
    refine k_bipush C (v := (9 : Int32)) dX5_duel_61 (by decide) ?_
    obtain ⟨x5, hx5, h⟩ := bindE h
    refine k_iast C 1 0 (ws' := (cells_R_duel cI cL cZ a_this a_gravel a_kind a_own a_likely a_tape a_holding a_rowLength a_rowOf a_refusals a_old a_ahead a_cost a_may a_rest a_way c_n c_rain c_ear c_many c_seed c_taped c_from c_to c_token c_value c_imaged x5 c_kind c_own c_refusals c_cost c_may c_rest c_way)) rfl rfl hx5 rfl dX5_duel_63 ?_
    refine k_aload_n C dX5_duel_64 1 rfl rfl ?_
    refine k_iload_n C dX5_duel_65 2 rfl rfl ?_
    obtain ⟨x6, hx6, h⟩ := bindE h
    refine kcallU_i C (wc := (cells_R_quiet cI cL cZ a_this a_gravel a_kind a_own a_likely a_tape a_holding a_rowLength a_rowOf a_refusals a_old a_ahead a_cost a_may a_rest a_way c_n c_rain c_ear c_many c_seed c_taped c_from c_to c_token c_value c_imaged x5 c_kind c_own c_cost c_may c_rest c_way)) (w1 := (cells_R_quiet cI cL cZ a_this a_gravel a_kind a_own a_likely a_tape a_holding a_rowLength a_rowOf a_refusals a_old a_ahead a_cost a_may a_rest a_way c_n c_rain c_ear c_many c_seed c_taped c_from c_to c_token c_value c_imaged x5 c_kind c_own x6.2.1 x6.2.2.1 x6.2.2.2.1 x6.2.2.2.2)) (ws' := (cells_R_duel cI cL cZ a_this a_gravel a_kind a_own a_likely a_tape a_holding a_rowLength a_rowOf a_refusals a_old a_ahead a_cost a_may a_rest a_way c_n c_rain c_ear c_many c_seed c_taped c_from c_to c_token c_value c_imaged x5 c_kind c_own c_refusals x6.2.1 x6.2.2.1 x6.2.2.2.1 x6.2.2.2.2)) (r := x6.1) [0, 1, 2, 3, 5, 6, 7, 8] (fun H locs ls hP hD hS hF hz => krunV C (q0 := 0) (ci := 5) (c_R_quiet l D cI cL cZ H.size a_this a_gravel a_kind a_own a_likely a_tape a_holding a_rowLength a_rowOf a_refusals a_old a_ahead a_cost a_may a_rest a_way v1 c_n c_rain c_ear c_many c_seed c_taped c_from c_to c_token c_value c_imaged x5 c_kind c_own c_cost c_may c_rest c_way x6 hx6) (cwV 1 C.2.2.2.2.1 (gV wq_687 wq_688 wq_689 wq_551 wq_686) rfl rfl rfl (by decide +kernel) ⟨(Nat.le_of_ble_eq_true rfl), (Nat.le_of_ble_eq_true rfl)⟩) rfl rfl kEnv_T rfl rfl (Nat.le_of_ble_eq_true rfl) dX5_duel_66 hP hD hz) rfl (by decide) rfl rfl ?_
    refine k_istore C (lv' := [(7, .int x6.1), (6, .int x4), (0, .ref a_this), (1, .int v1), (2, .int v2), (3, .int v3), (4, .int v4), (5, .int v5)]) dX5_duel_69 (by decide) rfl ?_
    refine k_aload_n C dX5_duel_71 2 rfl rfl ?_
    refine k_get C (C0 := RX5) (T := TX5) (N := 26) (fun w h => List.mem_cons_of_mem _ (us_R w h)) 0 rfl rfl 1 (by decide) (List.mem_cons_of_mem _ wq_578) rfl rfl dX5_duel_72 ?_
    refine k_iload C dX5_duel_75 7 rfl ?_
    refine k_iload C dX5_duel_77 1 rfl ?_
    obtain ⟨x7, hx7, h⟩ := bindE h
    refine k_iast C 1 0 (ws' := (cells_R_duel cI cL cZ a_this a_gravel a_kind a_own a_likely a_tape a_holding a_rowLength a_rowOf a_refusals a_old a_ahead a_cost a_may a_rest a_way c_n c_rain c_ear c_many c_seed c_taped c_from c_to c_token c_value c_imaged x7 c_kind c_own c_refusals x6.2.1 x6.2.2.1 x6.2.2.2.1 x6.2.2.2.2)) rfl rfl hx7 rfl dX5_duel_79 ?_
    refine k_iload C dX5_duel_80 0 rfl ?_
    refine k_iload C dX5_duel_82 6 rfl ?_
    refine k_icmp_gt C (tgt := 90) dX5_duel_84 (by decide) (fun c_84 => ?_) (fun c_84 => ?_)
    · have h := ifT c_84 h
      refine k_iload C dX5_duel_90 0 rfl ?_
      refine k_istore C (lv' := [(4, .int x6.1), (7, .int x6.1), (6, .int x4), (0, .ref a_this), (1, .int v1), (2, .int v2), (3, .int v3), (5, .int v5)]) dX5_duel_92 (by decide) rfl ?_
      refine k_iload C dX5_duel_94 7 rfl ?_
      refine k_istore_n C (lv' := [(3, .int v5), (4, .int x6.1), (7, .int x6.1), (6, .int x4), (0, .ref a_this), (1, .int v1), (2, .int v2), (5, .int v5)]) dX5_duel_96 rfl (by decide) rfl ?_
      refine k_iinc C (v := (v5 + (1 : Int32))) (lv' := [(5, .int (v5 + (1 : Int32))), (3, .int v5), (4, .int x6.1), (7, .int x6.1), (6, .int x4), (0, .ref a_this), (1, .int v1), (2, .int v2)]) dX5_duel_97 7 rfl rfl (by decide) rfl ?_
      refine k_goto C (tgt := 32) dX5_duel_100 (by decide) ?_
      refine k_lv (lv' := [(0, .ref a_this), (1, .int v1), (2, .int v2), (3, .int v5), (4, .int x6.1), (5, .int (v5 + (1 : Int32)))]) [5, 6, 7, 1, 2, 0] rfl ?_
      exact kc _ (Option.some.inj h).symm
    · have h := ifF c_84 h
      refine k_goto C (tgt := 97) dX5_duel_87 (by decide) ?_
      refine k_iinc C (v := (v5 + (1 : Int32))) (lv' := [(5, .int (v5 + (1 : Int32))), (7, .int x6.1), (6, .int x4), (0, .ref a_this), (1, .int v1), (2, .int v2), (3, .int v3), (4, .int v4)]) dX5_duel_97 7 rfl rfl (by decide) rfl ?_
      refine k_goto C (tgt := 32) dX5_duel_100 (by decide) ?_
      refine k_lv (lv' := [(0, .ref a_this), (1, .int v1), (2, .int v2), (3, .int v3), (4, .int v4), (5, .int (v5 + (1 : Int32)))]) [3, 4, 5, 6, 7, 0] rfl ?_
      exact kc _ (Option.some.inj h).symm
set_option maxRecDepth 100000 in
set_option maxHeartbeats 4000000 in
theorem s_R_duel_l32 (C : kC p l e rm_R_duel s m args below meth c D (tyG cI cL cZ) A 8 cX5_duel yX5_duel.cls (Cond.code yX5_duel cX5_duel 8 (some .int) :: WS) (some .int)) {a_this : Nat} {a_gravel : Nat} {a_kind : Nat} {a_own : Nat} {a_likely : Nat} {a_tape : Nat} {a_holding : Nat} {a_rowLength : Nat} {a_rowOf : Nat} {a_refusals : Nat} {a_old : Nat} {a_ahead : Nat} {a_cost : Nat} {a_may : Nat} {a_rest : Nat} {a_way : Nat} {v1 : Int32} {v2 : Int32} {v3 : Int32} {v4 : Int32} {v5 : Int32} {c_n : Int32} {c_rain : Int32} {c_ear : Int32} {c_many : Int32} {c_seed : Int32} {c_taped : Int32} {c_from : Int32} {c_to : Int32} {c_token : Int32} {c_value : Int32} {c_imaged : Int32} {c_gravel : (Nat → Int32)} {c_kind : (Nat → Int32)} {c_own : (Nat → Int32)} {c_refusals : (Nat → Int32)} {c_cost : (Nat → Int32)} {c_may : (Nat → Int32)} {c_rest : (Nat → Int32)} {c_way : (Nat → Int32)} {x : (Int32 × Int32 × (Nat → Int32) × (Nat → Int32) × (Nat → Int32) × (Nat → Int32) × (Nat → Int32))} (h : f_R_duel_l32 v1 c_n c_rain c_kind c_own v3 v4 v5 c_gravel c_cost c_may c_rest c_way = some x)
    (k0 : kW p l e rm_R_duel s m args below meth c D A 8 (cells_R_duel cI cL cZ a_this a_gravel a_kind a_own a_likely a_tape a_holding a_rowLength a_rowOf a_refusals a_old a_ahead a_cost a_may a_rest a_way c_n c_rain c_ear c_many c_seed c_taped c_from c_to c_token c_value c_imaged x.2.2.1 c_kind c_own c_refusals x.2.2.2.1 x.2.2.2.2.1 x.2.2.2.2.2.1 x.2.2.2.2.2.2) [(2, .int v2), (3, .int x.1), (4, .int x.2.1)] Q 103 []) :
    kW p l e rm_R_duel s m args below meth c D A 8 (cells_R_duel cI cL cZ a_this a_gravel a_kind a_own a_likely a_tape a_holding a_rowLength a_rowOf a_refusals a_old a_ahead a_cost a_may a_rest a_way c_n c_rain c_ear c_many c_seed c_taped c_from c_to c_token c_value c_imaged c_gravel c_kind c_own c_refusals c_cost c_may c_rest c_way) [(0, .ref a_this), (1, .int v1), (2, .int v2), (3, .int v3), (4, .int v4), (5, .int v5)] Q 32 [] := by
  unfold f_R_duel_l32 at h
  exact iter_W (body := fun s => f_R_duel_b32 v1 c_n c_rain c_kind c_own s.1 s.2.1 s.2.2.1 s.2.2.2.1 s.2.2.2.2.1 s.2.2.2.2.2.1 s.2.2.2.2.2.2.1 s.2.2.2.2.2.2.2) (r := x) (T := fun sg => kW p l e rm_R_duel s m args below meth c D A 8 (cells_R_duel cI cL cZ a_this a_gravel a_kind a_own a_likely a_tape a_holding a_rowLength a_rowOf a_refusals a_old a_ahead a_cost a_may a_rest a_way c_n c_rain c_ear c_many c_seed c_taped c_from c_to c_token c_value c_imaged sg.2.2.2.1 c_kind c_own c_refusals sg.2.2.2.2.1 sg.2.2.2.2.2.1 sg.2.2.2.2.2.2.1 sg.2.2.2.2.2.2.2) [(0, .ref a_this), (1, .int v1), (2, .int v2), (3, .int sg.1), (4, .int sg.2.1), (5, .int sg.2.2.1)] Q 32 []) (fun sg y hy hc _ hr => s_R_duel_b32 C (v1 := v1) (v2 := v2) (v3 := sg.1) (v4 := sg.2.1) (v5 := sg.2.2.1) (c_n := c_n) (c_rain := c_rain) (c_ear := c_ear) (c_many := c_many) (c_seed := c_seed) (c_taped := c_taped) (c_from := c_from) (c_to := c_to) (c_token := c_token) (c_value := c_value) (c_imaged := c_imaged) (c_gravel := sg.2.2.2.1) (c_kind := c_kind) (c_own := c_own) (c_refusals := c_refusals) (c_cost := sg.2.2.2.2.1) (c_may := sg.2.2.2.2.2.1) (c_rest := sg.2.2.2.2.2.2.1) (c_way := sg.2.2.2.2.2.2.2) (x := y) hy hc (fun r e => by rw [hr r e]; exact k0)) FUEL (v3, v4, v5, c_gravel, c_cost, c_may, c_rest, c_way) h
set_option maxRecDepth 100000 in
set_option maxHeartbeats 4000000 in
theorem s_R_duel (C : kC p l e rm_R_duel s m args below meth c D (tyG cI cL cZ) A 8 cX5_duel yX5_duel.cls (Cond.code yX5_duel cX5_duel 8 (some .int) :: WS) (some .int)) {a_this : Nat} {a_gravel : Nat} {a_kind : Nat} {a_own : Nat} {a_likely : Nat} {a_tape : Nat} {a_holding : Nat} {a_rowLength : Nat} {a_rowOf : Nat} {a_refusals : Nat} {a_old : Nat} {a_ahead : Nat} {a_cost : Nat} {a_may : Nat} {a_rest : Nat} {a_way : Nat} {v1 : Int32} {v2 : Int32} {c_n : Int32} {c_rain : Int32} {c_ear : Int32} {c_many : Int32} {c_seed : Int32} {c_taped : Int32} {c_from : Int32} {c_to : Int32} {c_token : Int32} {c_value : Int32} {c_imaged : Int32} {c_gravel : (Nat → Int32)} {c_kind : (Nat → Int32)} {c_own : (Nat → Int32)} {c_refusals : (Nat → Int32)} {c_cost : (Nat → Int32)} {c_may : (Nat → Int32)} {c_rest : (Nat → Int32)} {c_way : (Nat → Int32)} {x : (Int32 × (Nat → Int32) × (Nat → Int32) × (Nat → Int32) × (Nat → Int32) × (Nat → Int32) × (Nat → Int32))} (h : f_R_duel v1 v2 c_n c_rain c_many c_gravel c_kind c_own c_refusals c_cost c_may c_rest c_way = some x) :
    kW p l e rm_R_duel s m args below meth c D A 8 (cells_R_duel cI cL cZ a_this a_gravel a_kind a_own a_likely a_tape a_holding a_rowLength a_rowOf a_refusals a_old a_ahead a_cost a_may a_rest a_way c_n c_rain c_ear c_many c_seed c_taped c_from c_to c_token c_value c_imaged c_gravel c_kind c_own c_refusals c_cost c_may c_rest c_way) [(0, .ref a_this), (1, .int v1), (2, .int v2)] (MQ below (kQi D A (cells_R_duel cI cL cZ a_this a_gravel a_kind a_own a_likely a_tape a_holding a_rowLength a_rowOf a_refusals a_old a_ahead a_cost a_may a_rest a_way c_n c_rain c_ear c_many c_seed c_taped c_from c_to c_token c_value c_imaged x.2.1 c_kind c_own x.2.2.1 x.2.2.2.1 x.2.2.2.2.1 x.2.2.2.2.2.1 x.2.2.2.2.2.2) x.1) args s 0 0 A) 0 [] := by
  unfold f_R_duel at h
  refine k_aload_n C dX5_duel_0 0 rfl rfl ?_
  refine k_iload_n C dX5_duel_1 1 rfl rfl ?_
  obtain ⟨x1, hx1, h⟩ := bindE h
  refine kcallR_i C (wc := (cells_R_isFeet cI cL cZ a_this a_gravel a_kind a_own a_likely a_tape a_holding a_rowLength a_rowOf a_refusals a_old a_ahead a_cost a_may a_rest a_way c_n c_rain c_ear c_many c_seed c_taped c_from c_to c_token c_value c_imaged)) (r := x1) [0] (fun H locs ls hP hD hS hF hz => krunV C (q0 := 0) (ci := 5) (c_R_isFeet l D cI cL cZ H.size a_this a_gravel a_kind a_own a_likely a_tape a_holding a_rowLength a_rowOf a_refusals a_old a_ahead a_cost a_may a_rest a_way v1 c_n c_rain c_ear c_many c_seed c_taped c_from c_to c_token c_value c_imaged x1 hx1) (cwV 1 C.2.2.2.2.1 (gV wq_575 wq_576 wq_577 wq_551 wq_574) rfl rfl rfl (by decide +kernel) ⟨(Nat.le_of_ble_eq_true rfl), (Nat.le_of_ble_eq_true rfl)⟩) rfl rfl kEnv_T rfl rfl (Nat.le_of_ble_eq_true rfl) dX5_duel_2 hP hD hz) rfl (by decide) ?_
  refine k_if_eq C (tgt := 17) dX5_duel_5 (by decide) (fun c_5 => ?_) (fun c_5 => ?_)
  · have h := ifT c_5 h
    refine k_lv (lv' := [(0, .ref a_this)]) [0] rfl ?_
    exact s_R_duel_j17 C h
  · have h := ifF c_5 h
    refine k_iload_n C dX5_duel_8 2 rfl rfl ?_
    refine k_iconst C (v := (0 : Int32)) dX5_duel_9 (by decide) ?_
    refine k_iconst C (v := (1 : Int32)) dX5_duel_10 (by decide) ?_
    obtain ⟨x3, hx3, h⟩ := bindE h
    refine kcallE_i C (r := x3) (fun H locs ls hP hD hS hF hz => krunS C (c_R_within l D cI cL cZ H.size v2 (0 : Int32) (1 : Int32) x3 hx3) (va_cwS 3 C.2.2.2.2.1 (gS wq_549 wq_550 wq_551 wq_548) rfl rfl rfl (by decide +kernel) ⟨(Nat.le_of_ble_eq_true rfl), (Nat.le_of_ble_eq_true rfl)⟩) kEnv_T rfl rfl (Nat.le_of_ble_eq_true rfl) dX5_duel_11 hP hD hz) ?_
    refine k_if_ne C (tgt := 24) dX5_duel_14 (by decide) (fun c_14 => ?_) (fun c_14 => ?_)
    · have h := ifF c_14 h
      refine k_iconst C (v := (0 : Int32)) dX5_duel_24 (by decide) ?_
      refine k_istore_n C (lv' := [(3, .int (0 : Int32)), (0, .ref a_this), (1, .int v1), (2, .int v2)]) dX5_duel_25 rfl (by decide) rfl ?_
      refine k_iconst C (v := (-1 : Int32)) dX5_duel_26 (by decide) ?_
      refine k_istore C (lv' := [(4, .int (-1 : Int32)), (3, .int (0 : Int32)), (0, .ref a_this), (1, .int v1), (2, .int v2)]) dX5_duel_27 (by decide) rfl ?_
      refine k_iconst C (v := (0 : Int32)) dX5_duel_29 (by decide) ?_
      refine k_istore C (lv' := [(5, .int (0 : Int32)), (4, .int (-1 : Int32)), (3, .int (0 : Int32)), (0, .ref a_this), (1, .int v1), (2, .int v2)]) dX5_duel_30 (by decide) rfl ?_
      obtain ⟨x8, hx8, h⟩ := bindE h
      refine k_lv (lv' := [(0, .ref a_this), (1, .int v1), (2, .int v2), (3, .int (0 : Int32)), (4, .int (-1 : Int32)), (5, .int (0 : Int32))]) [3, 4, 5, 2, 1, 0] rfl ?_
      refine s_R_duel_l32 C hx8 ?_
      refine k_iload_n C dX5_duel_103 0 rfl rfl ?_
      refine k_if_ne C (tgt := 111) dX5_duel_104 (by decide) (fun c_104 => ?_) (fun c_104 => ?_)
      · have h := ifF c_104 h
        refine k_iload C dX5_duel_111 2 rfl ?_
        obtain rfl := Option.some.inj h
        exact kret_i C rfl dX5_duel_113
      · have h := ifT c_104 h
        refine k_iload_n C dX5_duel_107 1 rfl rfl ?_
        refine k_goto C (tgt := 113) dX5_duel_108 (by decide) ?_
        obtain rfl := Option.some.inj h
        exact kret_i C rfl dX5_duel_113
    · have h := ifT c_14 h
      refine k_lv (lv' := [(0, .ref a_this)]) [0] rfl ?_
      exact s_R_duel_j17 C h
theorem c_R_duel (l : Launch) (D : va_G) (cI : ClassId) (cL : ClassId) (cZ : ClassId) (sz : Nat) (a_this : Nat) (a_gravel : Nat) (a_kind : Nat) (a_own : Nat) (a_likely : Nat) (a_tape : Nat) (a_holding : Nat) (a_rowLength : Nat) (a_rowOf : Nat) (a_refusals : Nat) (a_old : Nat) (a_ahead : Nat) (a_cost : Nat) (a_may : Nat) (a_rest : Nat) (a_way : Nat) (v1 : Int32) (v2 : Int32) (c_n : Int32) (c_rain : Int32) (c_ear : Int32) (c_many : Int32) (c_seed : Int32) (c_taped : Int32) (c_from : Int32) (c_to : Int32) (c_token : Int32) (c_value : Int32) (c_imaged : Int32) (c_gravel : (Nat → Int32)) (c_kind : (Nat → Int32)) (c_own : (Nat → Int32)) (c_refusals : (Nat → Int32)) (c_cost : (Nat → Int32)) (c_may : (Nat → Int32)) (c_rest : (Nat → Int32)) (c_way : (Nat → Int32)) (x : (Int32 × (Nat → Int32) × (Nat → Int32) × (Nat → Int32) × (Nat → Int32) × (Nat → Int32) × (Nat → Int32))) (h : f_R_duel v1 v2 c_n c_rain c_many c_gravel c_kind c_own c_refusals c_cost c_may c_rest c_way = some x) :
    Met l yX5_duel (Cond.code yX5_duel cX5_duel 8 (some .int) :: WS) rm_R_duel (kP D (tyG cI cL cZ) kTrue [.ref a_this, .int v1, .int v2] sz (cells_R_duel cI cL cZ a_this a_gravel a_kind a_own a_likely a_tape a_holding a_rowLength a_rowOf a_refusals a_old a_ahead a_cost a_may a_rest a_way c_n c_rain c_ear c_many c_seed c_taped c_from c_to c_token c_value c_imaged c_gravel c_kind c_own c_refusals c_cost c_may c_rest c_way)) (kQi D (va_A (cells_R_duel cI cL cZ a_this a_gravel a_kind a_own a_likely a_tape a_holding a_rowLength a_rowOf a_refusals a_old a_ahead a_cost a_may a_rest a_way c_n c_rain c_ear c_many c_seed c_taped c_from c_to c_token c_value c_imaged c_gravel c_kind c_own c_refusals c_cost c_may c_rest c_way) sz) (cells_R_duel cI cL cZ a_this a_gravel a_kind a_own a_likely a_tape a_holding a_rowLength a_rowOf a_refusals a_old a_ahead a_cost a_may a_rest a_way c_n c_rain c_ear c_many c_seed c_taped c_from c_to c_token c_value c_imaged x.2.1 c_kind c_own x.2.2.1 x.2.2.2.1 x.2.2.2.2.1 x.2.2.2.2.2.1 x.2.2.2.2.2.2) x.1) 0 0 (va_A (cells_R_duel cI cL cZ a_this a_gravel a_kind a_own a_likely a_tape a_holding a_rowLength a_rowOf a_refusals a_old a_ahead a_cost a_may a_rest a_way c_n c_rain c_ear c_many c_seed c_taped c_from c_to c_token c_value c_imaged c_gravel c_kind c_own c_refusals c_cost c_may c_rest c_way) sz) :=
  kmet (by decide) (Nat.le_of_ble_eq_true rfl) rfl (fun p e s m below meth c C hE => s_R_duel C h)
abbrev cells_R_noWay (cI : ClassId) (cL : ClassId) (cZ : ClassId) (a_this : Nat) (a_gravel : Nat) (a_kind : Nat) (a_own : Nat) (a_likely : Nat) (a_tape : Nat) (a_holding : Nat) (a_rowLength : Nat) (a_rowOf : Nat) (a_refusals : Nat) (a_old : Nat) (a_ahead : Nat) (a_cost : Nat) (a_may : Nat) (a_rest : Nat) (a_way : Nat) (c_n : Int32) (c_rain : Int32) (c_ear : Int32) (c_many : Int32) (c_seed : Int32) (c_taped : Int32) (c_from : Int32) (c_to : Int32) (c_token : Int32) (c_value : Int32) (c_imaged : Int32) (c_holding : (Nat → Int32)) (c_rowLength : (Nat → Int32)) : va_W := [(a_this, .inr (5, [.int c_n, .ref a_gravel, .int c_rain, .int c_ear, .int c_many, .ref a_kind, .ref a_own, .ref a_likely, .int c_seed, .int c_taped, .ref a_tape, .int c_from, .int c_to, .int c_token, .int c_value, .ref a_holding, .ref a_rowLength, .ref a_rowOf, .ref a_refusals, .int c_imaged, .ref a_old, .ref a_ahead, .ref a_cost, .ref a_may, .ref a_rest, .ref a_way])), (a_holding, .inl (cI, 8, .inl c_holding)), (a_rowLength, .inl (cI, 8, .inl c_rowLength))]
abbrev rm_R_noWay : Room := { frames := 2, cells := 0, slots := 0, locals := 43 }
set_option maxRecDepth 100000 in
set_option maxHeartbeats 4000000 in
theorem s_R_noWay (C : kC p l e rm_R_noWay s m args below meth c D (tyG cI cL cZ) A 3 cX5_noWay yX5_noWay.cls (Cond.code yX5_noWay cX5_noWay 3 (some .int) :: WS) (some .int)) {a_this : Nat} {a_gravel : Nat} {a_kind : Nat} {a_own : Nat} {a_likely : Nat} {a_tape : Nat} {a_holding : Nat} {a_rowLength : Nat} {a_rowOf : Nat} {a_refusals : Nat} {a_old : Nat} {a_ahead : Nat} {a_cost : Nat} {a_may : Nat} {a_rest : Nat} {a_way : Nat} {v1 : Int32} {v2 : Int32} {c_n : Int32} {c_rain : Int32} {c_ear : Int32} {c_many : Int32} {c_seed : Int32} {c_taped : Int32} {c_from : Int32} {c_to : Int32} {c_token : Int32} {c_value : Int32} {c_imaged : Int32} {c_holding : (Nat → Int32)} {c_rowLength : (Nat → Int32)} {x : Int32} (h : f_R_noWay v1 v2 c_holding c_rowLength = some x) :
    kW p l e rm_R_noWay s m args below meth c D A 3 (cells_R_noWay cI cL cZ a_this a_gravel a_kind a_own a_likely a_tape a_holding a_rowLength a_rowOf a_refusals a_old a_ahead a_cost a_may a_rest a_way c_n c_rain c_ear c_many c_seed c_taped c_from c_to c_token c_value c_imaged c_holding c_rowLength) [(0, .ref a_this), (1, .int v1), (2, .int v2)] (MQ below (kQi D A (cells_R_noWay cI cL cZ a_this a_gravel a_kind a_own a_likely a_tape a_holding a_rowLength a_rowOf a_refusals a_old a_ahead a_cost a_may a_rest a_way c_n c_rain c_ear c_many c_seed c_taped c_from c_to c_token c_value c_imaged c_holding c_rowLength) x) args s 0 0 A) 0 [] := by
  unfold f_R_noWay at h
  refine k_aload_n C dX5_noWay_0 0 rfl rfl ?_
  refine k_iload_n C dX5_noWay_1 1 rfl rfl ?_
  obtain ⟨x1, hx1, h⟩ := bindE h
  refine kcallR_i C (wc := (cells_R_isRow cI cL cZ a_this a_gravel a_kind a_own a_likely a_tape a_holding a_rowLength a_rowOf a_refusals a_old a_ahead a_cost a_may a_rest a_way c_n c_rain c_ear c_many c_seed c_taped c_from c_to c_token c_value c_imaged c_holding)) (r := x1) [0, 1] (fun H locs ls hP hD hS hF hz => krunV C (q0 := 0) (ci := 5) (c_R_isRow l D cI cL cZ H.size a_this a_gravel a_kind a_own a_likely a_tape a_holding a_rowLength a_rowOf a_refusals a_old a_ahead a_cost a_may a_rest a_way v1 c_n c_rain c_ear c_many c_seed c_taped c_from c_to c_token c_value c_imaged c_holding x1 hx1) (cwV 1 C.2.2.2.2.1 (gV wq_564 wq_565 wq_566 wq_551 wq_563) rfl rfl rfl (by decide +kernel) ⟨(Nat.le_of_ble_eq_true rfl), (Nat.le_of_ble_eq_true rfl)⟩) rfl rfl kEnv_T rfl rfl (Nat.le_of_ble_eq_true rfl) dX5_noWay_2 hP hD hz) rfl (by decide) ?_
  refine k_if_ne C (tgt := 16) dX5_noWay_5 (by decide) (fun c_5 => ?_) (fun c_5 => ?_)
  · have h := ifF c_5 h
    refine k_iload_n C dX5_noWay_16 2 rfl rfl ?_
    refine k_aload_n C dX5_noWay_17 0 rfl rfl ?_
    refine k_get C (C0 := RX5) (T := TX5) (N := 26) (fun w h => List.mem_cons_of_mem _ (us_R w h)) 0 rfl rfl 16 (by decide) (List.mem_cons_of_mem _ wq_561) rfl rfl dX5_noWay_18 ?_
    refine k_iload_n C dX5_noWay_21 1 rfl rfl ?_
    obtain ⟨x2, hx2, h⟩ := bindE h
    refine k_iald C 2 0 rfl rfl hx2 dX5_noWay_22 ?_
    refine k_icmp_le C (tgt := 31) dX5_noWay_23 (by decide) (fun c_23 => ?_) (fun c_23 => ?_)
    · have h := ifT c_23 h
      refine k_iconst C (v := (0 : Int32)) dX5_noWay_31 (by decide) ?_
      obtain rfl := Option.some.inj h
      exact kret_i C rfl dX5_noWay_32
    · have h := ifF c_23 h
      refine k_bipush C (v := (-2 : Int32)) dX5_noWay_26 (by decide) ?_
      refine k_goto C (tgt := 32) dX5_noWay_28 (by decide) ?_
      obtain rfl := Option.some.inj h
      exact kret_i C rfl dX5_noWay_32
  · have h := ifT c_5 h
    refine k_aload_n C dX5_noWay_8 0 rfl rfl ?_
    refine k_iload_n C dX5_noWay_9 1 rfl rfl ?_
    obtain ⟨x3, hx3, h⟩ := bindE h
    refine kcallR_i C (wc := (cells_R_noRow cI cL cZ a_this a_gravel a_kind a_own a_likely a_tape a_holding a_rowLength a_rowOf a_refusals a_old a_ahead a_cost a_may a_rest a_way c_n c_rain c_ear c_many c_seed c_taped c_from c_to c_token c_value c_imaged c_holding)) (r := x3) [0, 1] (fun H locs ls hP hD hS hF hz => krunV C (q0 := 0) (ci := 5) (c_R_noRow l D cI cL cZ H.size a_this a_gravel a_kind a_own a_likely a_tape a_holding a_rowLength a_rowOf a_refusals a_old a_ahead a_cost a_may a_rest a_way v1 c_n c_rain c_ear c_many c_seed c_taped c_from c_to c_token c_value c_imaged c_holding x3 hx3) (cwV 1 C.2.2.2.2.1 (gV wq_571 wq_572 wq_573 wq_551 wq_570) rfl rfl rfl (by decide +kernel) ⟨(Nat.le_of_ble_eq_true rfl), (Nat.le_of_ble_eq_true rfl)⟩) rfl rfl kEnv_T rfl rfl (Nat.le_of_ble_eq_true rfl) dX5_noWay_10 hP hD hz) rfl (by decide) ?_
    refine k_goto C (tgt := 32) dX5_noWay_13 (by decide) ?_
    obtain rfl := Option.some.inj h
    exact kret_i C rfl dX5_noWay_32
theorem c_R_noWay (l : Launch) (D : va_G) (cI : ClassId) (cL : ClassId) (cZ : ClassId) (sz : Nat) (a_this : Nat) (a_gravel : Nat) (a_kind : Nat) (a_own : Nat) (a_likely : Nat) (a_tape : Nat) (a_holding : Nat) (a_rowLength : Nat) (a_rowOf : Nat) (a_refusals : Nat) (a_old : Nat) (a_ahead : Nat) (a_cost : Nat) (a_may : Nat) (a_rest : Nat) (a_way : Nat) (v1 : Int32) (v2 : Int32) (c_n : Int32) (c_rain : Int32) (c_ear : Int32) (c_many : Int32) (c_seed : Int32) (c_taped : Int32) (c_from : Int32) (c_to : Int32) (c_token : Int32) (c_value : Int32) (c_imaged : Int32) (c_holding : (Nat → Int32)) (c_rowLength : (Nat → Int32)) (x : Int32) (h : f_R_noWay v1 v2 c_holding c_rowLength = some x) :
    Met l yX5_noWay (Cond.code yX5_noWay cX5_noWay 3 (some .int) :: WS) rm_R_noWay (kP D (tyG cI cL cZ) kTrue [.ref a_this, .int v1, .int v2] sz (cells_R_noWay cI cL cZ a_this a_gravel a_kind a_own a_likely a_tape a_holding a_rowLength a_rowOf a_refusals a_old a_ahead a_cost a_may a_rest a_way c_n c_rain c_ear c_many c_seed c_taped c_from c_to c_token c_value c_imaged c_holding c_rowLength)) (kQi D (va_A (cells_R_noWay cI cL cZ a_this a_gravel a_kind a_own a_likely a_tape a_holding a_rowLength a_rowOf a_refusals a_old a_ahead a_cost a_may a_rest a_way c_n c_rain c_ear c_many c_seed c_taped c_from c_to c_token c_value c_imaged c_holding c_rowLength) sz) (cells_R_noWay cI cL cZ a_this a_gravel a_kind a_own a_likely a_tape a_holding a_rowLength a_rowOf a_refusals a_old a_ahead a_cost a_may a_rest a_way c_n c_rain c_ear c_many c_seed c_taped c_from c_to c_token c_value c_imaged c_holding c_rowLength) x) 0 0 (va_A (cells_R_noWay cI cL cZ a_this a_gravel a_kind a_own a_likely a_tape a_holding a_rowLength a_rowOf a_refusals a_old a_ahead a_cost a_may a_rest a_way c_n c_rain c_ear c_many c_seed c_taped c_from c_to c_token c_value c_imaged c_holding c_rowLength) sz) :=
  kmet (by decide) (Nat.le_of_ble_eq_true rfl) rfl (fun p e s m below meth c C hE => s_R_noWay C h)
abbrev cells_R_wrong (cI : ClassId) (cL : ClassId) (cZ : ClassId) (a_this : Nat) (a_gravel : Nat) (a_kind : Nat) (a_own : Nat) (a_likely : Nat) (a_tape : Nat) (a_holding : Nat) (a_rowLength : Nat) (a_rowOf : Nat) (a_refusals : Nat) (a_old : Nat) (a_ahead : Nat) (a_cost : Nat) (a_may : Nat) (a_rest : Nat) (a_way : Nat) (c_n : Int32) (c_rain : Int32) (c_ear : Int32) (c_many : Int32) (c_seed : Int32) (c_taped : Int32) (c_from : Int32) (c_to : Int32) (c_token : Int32) (c_value : Int32) (c_imaged : Int32) (c_rowOf : (Nat → Int64)) : va_W := [(a_this, .inr (5, [.int c_n, .ref a_gravel, .int c_rain, .int c_ear, .int c_many, .ref a_kind, .ref a_own, .ref a_likely, .int c_seed, .int c_taped, .ref a_tape, .int c_from, .int c_to, .int c_token, .int c_value, .ref a_holding, .ref a_rowLength, .ref a_rowOf, .ref a_refusals, .int c_imaged, .ref a_old, .ref a_ahead, .ref a_cost, .ref a_may, .ref a_rest, .ref a_way])), (a_rowOf, .inl (cL, 320, .inr (.inl c_rowOf)))]
abbrev rm_R_wrong : Room := { frames := 2, cells := 0, slots := 0, locals := 54 }
set_option maxRecDepth 100000 in
set_option maxHeartbeats 4000000 in
theorem s_R_wrong_b2 (C : kC p l e rm_R_wrong s m args below meth c D (tyG cI cL cZ) A 6 cX5_wrong yX5_wrong.cls (Cond.code yX5_wrong cX5_wrong 6 (some .int) :: WS) (some .int)) {a_this : Nat} {a_gravel : Nat} {a_kind : Nat} {a_own : Nat} {a_likely : Nat} {a_tape : Nat} {a_holding : Nat} {a_rowLength : Nat} {a_rowOf : Nat} {a_refusals : Nat} {a_old : Nat} {a_ahead : Nat} {a_cost : Nat} {a_may : Nat} {a_rest : Nat} {a_way : Nat} {v1 : Int32} {v2 : Int32} {v3 : Int32} {c_n : Int32} {c_rain : Int32} {c_ear : Int32} {c_many : Int32} {c_seed : Int32} {c_taped : Int32} {c_from : Int32} {c_to : Int32} {c_token : Int32} {c_value : Int32} {c_imaged : Int32} {c_rowOf : (Nat → Int64)} {x : (Int32 ⊕ (Int32 ⊕ (Int32 ⊕ Unit)))} (h : f_R_wrong_b2 v1 v2 c_n c_rowOf v3 = some x)
    (kc : ∀ s', x = .inl s' → kW p l e rm_R_wrong s m args below meth c D A 6 (cells_R_wrong cI cL cZ a_this a_gravel a_kind a_own a_likely a_tape a_holding a_rowLength a_rowOf a_refusals a_old a_ahead a_cost a_may a_rest a_way c_n c_rain c_ear c_many c_seed c_taped c_from c_to c_token c_value c_imaged c_rowOf) [(0, .ref a_this), (1, .int v1), (2, .int v2), (3, .int s')] Q 2 [])
    (k0 : ∀ r, x = .inr (.inl r) → kW p l e rm_R_wrong s m args below meth c D A 6 (cells_R_wrong cI cL cZ a_this a_gravel a_kind a_own a_likely a_tape a_holding a_rowLength a_rowOf a_refusals a_old a_ahead a_cost a_may a_rest a_way c_n c_rain c_ear c_many c_seed c_taped c_from c_to c_token c_value c_imaged c_rowOf) [(3, .int r)] Q 60 [])
    (k1 : ∀ r, x = .inr (.inr (.inl r)) → kW p l e rm_R_wrong s m args below meth c D A 6 (cells_R_wrong cI cL cZ a_this a_gravel a_kind a_own a_likely a_tape a_holding a_rowLength a_rowOf a_refusals a_old a_ahead a_cost a_may a_rest a_way c_n c_rain c_ear c_many c_seed c_taped c_from c_to c_token c_value c_imaged c_rowOf) [(3, .int r)] Q 85 [])
    (k2 : ∀ r, x = .inr (.inr (.inr r)) → kW p l e rm_R_wrong s m args below meth c D A 6 (cells_R_wrong cI cL cZ a_this a_gravel a_kind a_own a_likely a_tape a_holding a_rowLength a_rowOf a_refusals a_old a_ahead a_cost a_may a_rest a_way c_n c_rain c_ear c_many c_seed c_taped c_from c_to c_token c_value c_imaged c_rowOf) [(0, .ref a_this), (2, .int v2)] Q 93 []) :
    kW p l e rm_R_wrong s m args below meth c D A 6 (cells_R_wrong cI cL cZ a_this a_gravel a_kind a_own a_likely a_tape a_holding a_rowLength a_rowOf a_refusals a_old a_ahead a_cost a_may a_rest a_way c_n c_rain c_ear c_many c_seed c_taped c_from c_to c_token c_value c_imaged c_rowOf) [(0, .ref a_this), (1, .int v1), (2, .int v2), (3, .int v3)] Q 2 [] := by
  unfold f_R_wrong_b2 at h
  refine k_iload_n C dX5_wrong_2 3 rfl rfl ?_
  refine k_iload_n C dX5_wrong_3 2 rfl rfl ?_
  refine k_icmp_ge C (tgt := 93) dX5_wrong_4 (by decide) (fun c_4 => ?_) (fun c_4 => ?_)
  · have h := ifT c_4 h
    refine k_lv (lv' := [(0, .ref a_this), (2, .int v2)]) [0, 2] rfl ?_
    exact k2 _ (Option.some.inj h).symm
  · have h := ifF c_4 h
    refine k_aload_n C dX5_wrong_7 0 rfl rfl ?_
    refine k_iload_n C dX5_wrong_8 1 rfl rfl ?_
    refine k_iload_n C dX5_wrong_9 3 rfl rfl ?_
    obtain ⟨x1, hx1, h⟩ := bindE h
    refine kcallR_l C (wc := (cells_R_toldAt cI cL cZ a_this a_gravel a_kind a_own a_likely a_tape a_holding a_rowLength a_rowOf a_refusals a_old a_ahead a_cost a_may a_rest a_way c_n c_rain c_ear c_many c_seed c_taped c_from c_to c_token c_value c_imaged c_rowOf)) (r := x1) [0, 1] (fun H locs ls hP hD hS hF hz => krunV C (q0 := 0) (ci := 5) (c_R_toldAt l D cI cL cZ H.size a_this a_gravel a_kind a_own a_likely a_tape a_holding a_rowLength a_rowOf a_refusals a_old a_ahead a_cost a_may a_rest a_way v1 v3 c_n c_rain c_ear c_many c_seed c_taped c_from c_to c_token c_value c_imaged c_rowOf x1 hx1) (cwV 2 C.2.2.2.2.1 (gV wq_744 wq_745 wq_746 wq_551 wq_743) rfl rfl rfl (by decide +kernel) ⟨(Nat.le_of_ble_eq_true rfl), (Nat.le_of_ble_eq_true rfl)⟩) rfl rfl kEnv_T rfl rfl (Nat.le_of_ble_eq_true rfl) dX5_wrong_10 hP hD hz) rfl (by decide) ?_
    refine k_lstore C (lv' := [(4, .long x1), (0, .ref a_this), (1, .int v1), (2, .int v2), (3, .int v3)]) dX5_wrong_13 (by decide) rfl ?_
    refine k_iload_n C dX5_wrong_15 4 rfl rfl ?_
    refine k_aload_n C dX5_wrong_16 1 rfl rfl ?_
    refine k_get C (C0 := RX5) (T := TX5) (N := 26) (fun w h => List.mem_cons_of_mem _ (us_R w h)) 0 rfl rfl 0 (by decide) (List.mem_cons_of_mem _ wq_552) rfl rfl dX5_wrong_17 ?_
    refine k_icmp_eq C (tgt := 60) dX5_wrong_20 (by decide) (fun c_20 => ?_) (fun c_20 => ?_)
    · have h := ifT c_20 h
      refine k_lv (lv' := [(3, .int v3)]) [4] rfl ?_
      exact k0 _ (Option.some.inj h).symm
    · have h := ifF c_20 h
      refine k_lload C dX5_wrong_23 0 rfl ?_
      refine k_lconst C (v := (0 : Int64)) dX5_wrong_25 (by decide) ?_
      refine k_lcmp C dX5_wrong_26 ?_
      refine k_if_lt C (tgt := 60) dX5_wrong_27 (by decide) (fun c_27 => ?_) (fun c_27 => ?_)
      · have h := ifT c_27 h
        refine k_lv (lv' := [(3, .int v3)]) [4] rfl ?_
        exact k0 _ (Option.some.inj h).symm
      · have h := ifF c_27 h
        refine k_lload C dX5_wrong_30 0 rfl ?_
        refine k_aload_n C dX5_wrong_32 1 rfl rfl ?_
        refine k_get C (C0 := RX5) (T := TX5) (N := 26) (fun w h => List.mem_cons_of_mem _ (us_R w h)) 0 rfl rfl 0 (by decide) (List.mem_cons_of_mem _ wq_552) rfl rfl dX5_wrong_33 ?_
        refine k_aload_n C dX5_wrong_36 1 rfl rfl ?_
        refine k_get C (C0 := RX5) (T := TX5) (N := 26) (fun w h => List.mem_cons_of_mem _ (us_R w h)) 0 rfl rfl 0 (by decide) (List.mem_cons_of_mem _ wq_552) rfl rfl dX5_wrong_37 ?_
        refine k_imul C dX5_wrong_40 ?_
        refine k_i2l C dX5_wrong_41 ?_
        refine k_lcmp C dX5_wrong_42 ?_
        refine k_if_ge C (tgt := 60) dX5_wrong_43 (by decide) (fun c_43 => ?_) (fun c_43 => ?_)
        · have h := ifT c_43 h
          refine k_lv (lv' := [(3, .int v3)]) [4] rfl ?_
          exact k0 _ (Option.some.inj h).symm
        · have h := ifF c_43 h
          refine k_lload C dX5_wrong_46 0 rfl ?_
          refine k_aload_n C dX5_wrong_48 1 rfl rfl ?_
          refine k_get C (C0 := RX5) (T := TX5) (N := 26) (fun w h => List.mem_cons_of_mem _ (us_R w h)) 0 rfl rfl 0 (by decide) (List.mem_cons_of_mem _ wq_552) rfl rfl dX5_wrong_49 ?_
          refine k_i2l C dX5_wrong_52 ?_
          obtain ⟨x2, hx2, h⟩ := bindE h
          refine k_ldiv C dX5_wrong_53 hx2 ?_
          refine k_iload_n C dX5_wrong_54 4 rfl rfl ?_
          refine k_i2l C dX5_wrong_55 ?_
          refine k_lcmp C dX5_wrong_56 ?_
          refine k_if_eq C (tgt := 62) dX5_wrong_57 (by decide) (fun c_57 => ?_) (fun c_57 => ?_)
          · have h := ifT c_57 h
            refine k_iload_n C dX5_wrong_62 4 rfl rfl ?_
            refine k_if_le C (tgt := 87) dX5_wrong_63 (by decide) (fun c_63 => ?_) (fun c_63 => ?_)
            · have h := ifT c_63 h
              refine k_iinc C (v := (v3 + (1 : Int32))) (lv' := [(3, .int (v3 + (1 : Int32))), (4, .long x1), (0, .ref a_this), (1, .int v1), (2, .int v2)]) dX5_wrong_87 4 rfl rfl (by decide) rfl ?_
              refine k_goto C (tgt := 2) dX5_wrong_90 (by decide) ?_
              refine k_lv (lv' := [(0, .ref a_this), (1, .int v1), (2, .int v2), (3, .int (v3 + (1 : Int32)))]) [2, 3, 4, 0] rfl ?_
              exact kc _ (Option.some.inj h).symm
            · have h := ifF c_63 h
              refine k_aload_n C dX5_wrong_66 1 rfl rfl ?_
              refine k_aload_n C dX5_wrong_67 1 rfl rfl ?_
              refine k_iload_n C dX5_wrong_68 2 rfl rfl ?_
              refine k_iload_n C dX5_wrong_69 4 rfl rfl ?_
              refine k_iconst C (v := (1 : Int32)) dX5_wrong_70 (by decide) ?_
              refine k_isub C dX5_wrong_71 ?_
              obtain ⟨x3, hx3, h⟩ := bindE h
              refine kcallR_l C (wc := (cells_R_toldAt cI cL cZ a_this a_gravel a_kind a_own a_likely a_tape a_holding a_rowLength a_rowOf a_refusals a_old a_ahead a_cost a_may a_rest a_way c_n c_rain c_ear c_many c_seed c_taped c_from c_to c_token c_value c_imaged c_rowOf)) (r := x3) [0, 1] (fun H locs ls hP hD hS hF hz => krunV C (q0 := 0) (ci := 5) (c_R_toldAt l D cI cL cZ H.size a_this a_gravel a_kind a_own a_likely a_tape a_holding a_rowLength a_rowOf a_refusals a_old a_ahead a_cost a_may a_rest a_way v1 (v3 - (1 : Int32)) c_n c_rain c_ear c_many c_seed c_taped c_from c_to c_token c_value c_imaged c_rowOf x3 hx3) (cwV 2 C.2.2.2.2.1 (gV wq_744 wq_745 wq_746 wq_551 wq_743) rfl rfl rfl (by decide +kernel) ⟨(Nat.le_of_ble_eq_true rfl), (Nat.le_of_ble_eq_true rfl)⟩) rfl rfl kEnv_T rfl rfl (Nat.le_of_ble_eq_true rfl) dX5_wrong_72 hP hD hz) rfl (by decide) ?_
              refine k_l2i C dX5_wrong_75 ?_
              refine k_lload C dX5_wrong_76 0 rfl ?_
              refine k_l2i C dX5_wrong_78 ?_
              obtain ⟨x4, hx4, h⟩ := bindE h
              refine kcallR_i C (wc := (cells_R_isNext cI cL cZ a_this a_gravel a_kind a_own a_likely a_tape a_holding a_rowLength a_rowOf a_refusals a_old a_ahead a_cost a_may a_rest a_way c_n c_rain c_ear c_many c_seed c_taped c_from c_to c_token c_value c_imaged)) (r := x4) [0] (fun H locs ls hP hD hS hF hz => krunV C (q0 := 0) (ci := 5) (c_R_isNext l D cI cL cZ H.size a_this a_gravel a_kind a_own a_likely a_tape a_holding a_rowLength a_rowOf a_refusals a_old a_ahead a_cost a_may a_rest a_way (Int64.toInt32 x3) (Int64.toInt32 x1) c_n c_rain c_ear c_many c_seed c_taped c_from c_to c_token c_value c_imaged x4 hx4) (cwV 2 C.2.2.2.2.1 (gV wq_666 wq_667 wq_668 wq_551 wq_665) rfl rfl rfl (by decide +kernel) ⟨(Nat.le_of_ble_eq_true rfl), (Nat.le_of_ble_eq_true rfl)⟩) rfl rfl kEnv_T rfl rfl (Nat.le_of_ble_eq_true rfl) dX5_wrong_79 hP hD hz) rfl (by decide) ?_
              refine k_if_ne C (tgt := 87) dX5_wrong_82 (by decide) (fun c_82 => ?_) (fun c_82 => ?_)
              · have h := ifF c_82 h
                refine k_iinc C (v := (v3 + (1 : Int32))) (lv' := [(3, .int (v3 + (1 : Int32))), (4, .long x1), (0, .ref a_this), (1, .int v1), (2, .int v2)]) dX5_wrong_87 4 rfl rfl (by decide) rfl ?_
                refine k_goto C (tgt := 2) dX5_wrong_90 (by decide) ?_
                refine k_lv (lv' := [(0, .ref a_this), (1, .int v1), (2, .int v2), (3, .int (v3 + (1 : Int32)))]) [2, 3, 4, 0] rfl ?_
                exact kc _ (Option.some.inj h).symm
              · have h := ifT c_82 h
                refine k_lv (lv' := [(3, .int v3)]) [4] rfl ?_
                exact k1 _ (Option.some.inj h).symm
          · have h := ifF c_57 h
            refine k_lv (lv' := [(3, .int v3)]) [4] rfl ?_
            exact k0 _ (Option.some.inj h).symm
set_option maxRecDepth 100000 in
set_option maxHeartbeats 4000000 in
theorem s_R_wrong_l2 (C : kC p l e rm_R_wrong s m args below meth c D (tyG cI cL cZ) A 6 cX5_wrong yX5_wrong.cls (Cond.code yX5_wrong cX5_wrong 6 (some .int) :: WS) (some .int)) {a_this : Nat} {a_gravel : Nat} {a_kind : Nat} {a_own : Nat} {a_likely : Nat} {a_tape : Nat} {a_holding : Nat} {a_rowLength : Nat} {a_rowOf : Nat} {a_refusals : Nat} {a_old : Nat} {a_ahead : Nat} {a_cost : Nat} {a_may : Nat} {a_rest : Nat} {a_way : Nat} {v1 : Int32} {v2 : Int32} {v3 : Int32} {c_n : Int32} {c_rain : Int32} {c_ear : Int32} {c_many : Int32} {c_seed : Int32} {c_taped : Int32} {c_from : Int32} {c_to : Int32} {c_token : Int32} {c_value : Int32} {c_imaged : Int32} {c_rowOf : (Nat → Int64)} {x : (Int32 ⊕ (Int32 ⊕ Unit))} (h : f_R_wrong_l2 v1 v2 c_n c_rowOf v3 = some x)
    (k0 : ∀ r, x = (.inl r) → kW p l e rm_R_wrong s m args below meth c D A 6 (cells_R_wrong cI cL cZ a_this a_gravel a_kind a_own a_likely a_tape a_holding a_rowLength a_rowOf a_refusals a_old a_ahead a_cost a_may a_rest a_way c_n c_rain c_ear c_many c_seed c_taped c_from c_to c_token c_value c_imaged c_rowOf) [(3, .int r)] Q 60 [])
    (k1 : ∀ r, x = (.inr (.inl r)) → kW p l e rm_R_wrong s m args below meth c D A 6 (cells_R_wrong cI cL cZ a_this a_gravel a_kind a_own a_likely a_tape a_holding a_rowLength a_rowOf a_refusals a_old a_ahead a_cost a_may a_rest a_way c_n c_rain c_ear c_many c_seed c_taped c_from c_to c_token c_value c_imaged c_rowOf) [(3, .int r)] Q 85 [])
    (k2 : ∀ r, x = (.inr (.inr r)) → kW p l e rm_R_wrong s m args below meth c D A 6 (cells_R_wrong cI cL cZ a_this a_gravel a_kind a_own a_likely a_tape a_holding a_rowLength a_rowOf a_refusals a_old a_ahead a_cost a_may a_rest a_way c_n c_rain c_ear c_many c_seed c_taped c_from c_to c_token c_value c_imaged c_rowOf) [(0, .ref a_this), (2, .int v2)] Q 93 []) :
    kW p l e rm_R_wrong s m args below meth c D A 6 (cells_R_wrong cI cL cZ a_this a_gravel a_kind a_own a_likely a_tape a_holding a_rowLength a_rowOf a_refusals a_old a_ahead a_cost a_may a_rest a_way c_n c_rain c_ear c_many c_seed c_taped c_from c_to c_token c_value c_imaged c_rowOf) [(0, .ref a_this), (1, .int v1), (2, .int v2), (3, .int v3)] Q 2 [] := by
  unfold f_R_wrong_l2 at h
  exact iter_W (body := fun s => f_R_wrong_b2 v1 v2 c_n c_rowOf s) (r := x) (T := fun sg => kW p l e rm_R_wrong s m args below meth c D A 6 (cells_R_wrong cI cL cZ a_this a_gravel a_kind a_own a_likely a_tape a_holding a_rowLength a_rowOf a_refusals a_old a_ahead a_cost a_may a_rest a_way c_n c_rain c_ear c_many c_seed c_taped c_from c_to c_token c_value c_imaged c_rowOf) [(0, .ref a_this), (1, .int v1), (2, .int v2), (3, .int sg)] Q 2 []) (fun sg y hy hc _ hr => s_R_wrong_b2 C (v1 := v1) (v2 := v2) (v3 := sg) (c_n := c_n) (c_rain := c_rain) (c_ear := c_ear) (c_many := c_many) (c_seed := c_seed) (c_taped := c_taped) (c_from := c_from) (c_to := c_to) (c_token := c_token) (c_value := c_value) (c_imaged := c_imaged) (c_rowOf := c_rowOf) (x := y) hy hc (fun r e => k0 r (hr _ e).symm) (fun r e => k1 r (hr _ e).symm) (fun r e => k2 r (hr _ e).symm)) FUEL v3 h
set_option maxRecDepth 100000 in
set_option maxHeartbeats 4000000 in
theorem s_R_wrong (C : kC p l e rm_R_wrong s m args below meth c D (tyG cI cL cZ) A 6 cX5_wrong yX5_wrong.cls (Cond.code yX5_wrong cX5_wrong 6 (some .int) :: WS) (some .int)) {a_this : Nat} {a_gravel : Nat} {a_kind : Nat} {a_own : Nat} {a_likely : Nat} {a_tape : Nat} {a_holding : Nat} {a_rowLength : Nat} {a_rowOf : Nat} {a_refusals : Nat} {a_old : Nat} {a_ahead : Nat} {a_cost : Nat} {a_may : Nat} {a_rest : Nat} {a_way : Nat} {v1 : Int32} {v2 : Int32} {c_n : Int32} {c_rain : Int32} {c_ear : Int32} {c_many : Int32} {c_seed : Int32} {c_taped : Int32} {c_from : Int32} {c_to : Int32} {c_token : Int32} {c_value : Int32} {c_imaged : Int32} {c_rowOf : (Nat → Int64)} {x : Int32} (h : f_R_wrong v1 v2 c_n c_rowOf = some x) :
    kW p l e rm_R_wrong s m args below meth c D A 6 (cells_R_wrong cI cL cZ a_this a_gravel a_kind a_own a_likely a_tape a_holding a_rowLength a_rowOf a_refusals a_old a_ahead a_cost a_may a_rest a_way c_n c_rain c_ear c_many c_seed c_taped c_from c_to c_token c_value c_imaged c_rowOf) [(0, .ref a_this), (1, .int v1), (2, .int v2)] (MQ below (kQi D A (cells_R_wrong cI cL cZ a_this a_gravel a_kind a_own a_likely a_tape a_holding a_rowLength a_rowOf a_refusals a_old a_ahead a_cost a_may a_rest a_way c_n c_rain c_ear c_many c_seed c_taped c_from c_to c_token c_value c_imaged c_rowOf) x) args s 0 0 A) 0 [] := by
  unfold f_R_wrong at h
  refine k_iconst C (v := (0 : Int32)) dX5_wrong_0 (by decide) ?_
  refine k_istore_n C (lv' := [(3, .int (0 : Int32)), (0, .ref a_this), (1, .int v1), (2, .int v2)]) dX5_wrong_1 rfl (by decide) rfl ?_
  obtain ⟨x5, hx5, h⟩ := bindE h
  refine k_lv (lv' := [(0, .ref a_this), (1, .int v1), (2, .int v2), (3, .int (0 : Int32))]) [1, 2, 3, 0] rfl ?_
  refine s_R_wrong_l2 C hx5 ?_ ?_ ?_
  · intro x6 ex6
    subst ex6
    have h := sumL h
    refine k_iload_n C dX5_wrong_60 0 rfl rfl ?_
    obtain rfl := Option.some.inj h
    exact kret_i C rfl dX5_wrong_61
  · intro x8 ex8
    subst ex8
    have h := sumR h
    have h := sumL h
    refine k_iload_n C dX5_wrong_85 0 rfl rfl ?_
    obtain rfl := Option.some.inj h
    exact kret_i C rfl dX5_wrong_86
  · intro x9 ex9
    subst ex9
    have h := sumR h
    have h := sumR h
    refine k_iload_n C dX5_wrong_93 1 rfl rfl ?_
    refine k_aload_n C dX5_wrong_94 0 rfl rfl ?_
    refine k_get C (C0 := RX5) (T := TX5) (N := 26) (fun w h => List.mem_cons_of_mem _ (us_R w h)) 0 rfl rfl 0 (by decide) (List.mem_cons_of_mem _ wq_552) rfl rfl dX5_wrong_95 ?_
    refine k_icmp_ge C (tgt := 105) dX5_wrong_98 (by decide) (fun c_98 => ?_) (fun c_98 => ?_)
    · have h := ifT c_98 h
      refine k_iconst C (v := (-1 : Int32)) dX5_wrong_105 (by decide) ?_
      obtain rfl := Option.some.inj h
      exact kret_i C rfl dX5_wrong_106
    · have h := ifF c_98 h
      refine k_iload_n C dX5_wrong_101 1 rfl rfl ?_
      refine k_goto C (tgt := 106) dX5_wrong_102 (by decide) ?_
      obtain rfl := Option.some.inj h
      exact kret_i C rfl dX5_wrong_106
theorem c_R_wrong (l : Launch) (D : va_G) (cI : ClassId) (cL : ClassId) (cZ : ClassId) (sz : Nat) (a_this : Nat) (a_gravel : Nat) (a_kind : Nat) (a_own : Nat) (a_likely : Nat) (a_tape : Nat) (a_holding : Nat) (a_rowLength : Nat) (a_rowOf : Nat) (a_refusals : Nat) (a_old : Nat) (a_ahead : Nat) (a_cost : Nat) (a_may : Nat) (a_rest : Nat) (a_way : Nat) (v1 : Int32) (v2 : Int32) (c_n : Int32) (c_rain : Int32) (c_ear : Int32) (c_many : Int32) (c_seed : Int32) (c_taped : Int32) (c_from : Int32) (c_to : Int32) (c_token : Int32) (c_value : Int32) (c_imaged : Int32) (c_rowOf : (Nat → Int64)) (x : Int32) (h : f_R_wrong v1 v2 c_n c_rowOf = some x) :
    Met l yX5_wrong (Cond.code yX5_wrong cX5_wrong 6 (some .int) :: WS) rm_R_wrong (kP D (tyG cI cL cZ) kTrue [.ref a_this, .int v1, .int v2] sz (cells_R_wrong cI cL cZ a_this a_gravel a_kind a_own a_likely a_tape a_holding a_rowLength a_rowOf a_refusals a_old a_ahead a_cost a_may a_rest a_way c_n c_rain c_ear c_many c_seed c_taped c_from c_to c_token c_value c_imaged c_rowOf)) (kQi D (va_A (cells_R_wrong cI cL cZ a_this a_gravel a_kind a_own a_likely a_tape a_holding a_rowLength a_rowOf a_refusals a_old a_ahead a_cost a_may a_rest a_way c_n c_rain c_ear c_many c_seed c_taped c_from c_to c_token c_value c_imaged c_rowOf) sz) (cells_R_wrong cI cL cZ a_this a_gravel a_kind a_own a_likely a_tape a_holding a_rowLength a_rowOf a_refusals a_old a_ahead a_cost a_may a_rest a_way c_n c_rain c_ear c_many c_seed c_taped c_from c_to c_token c_value c_imaged c_rowOf) x) 0 0 (va_A (cells_R_wrong cI cL cZ a_this a_gravel a_kind a_own a_likely a_tape a_holding a_rowLength a_rowOf a_refusals a_old a_ahead a_cost a_may a_rest a_way c_n c_rain c_ear c_many c_seed c_taped c_from c_to c_token c_value c_imaged c_rowOf) sz) :=
  kmet (by decide) (Nat.le_of_ble_eq_true rfl) rfl (fun p e s m below meth c C hE => s_R_wrong C h)
abbrev cells_R_judge (cI : ClassId) (cL : ClassId) (cZ : ClassId) (a_this : Nat) (a_gravel : Nat) (a_kind : Nat) (a_own : Nat) (a_likely : Nat) (a_tape : Nat) (a_holding : Nat) (a_rowLength : Nat) (a_rowOf : Nat) (a_refusals : Nat) (a_old : Nat) (a_ahead : Nat) (a_cost : Nat) (a_may : Nat) (a_rest : Nat) (a_way : Nat) (c_n : Int32) (c_rain : Int32) (c_ear : Int32) (c_many : Int32) (c_seed : Int32) (c_taped : Int32) (c_from : Int32) (c_to : Int32) (c_token : Int32) (c_value : Int32) (c_imaged : Int32) (c_holding : (Nat → Int32)) (c_rowLength : (Nat → Int32)) (c_rowOf : (Nat → Int64)) (c_refusals : (Nat → Int32)) : va_W := [(a_this, .inr (5, [.int c_n, .ref a_gravel, .int c_rain, .int c_ear, .int c_many, .ref a_kind, .ref a_own, .ref a_likely, .int c_seed, .int c_taped, .ref a_tape, .int c_from, .int c_to, .int c_token, .int c_value, .ref a_holding, .ref a_rowLength, .ref a_rowOf, .ref a_refusals, .int c_imaged, .ref a_old, .ref a_ahead, .ref a_cost, .ref a_may, .ref a_rest, .ref a_way])), (a_holding, .inl (cI, 8, .inl c_holding)), (a_rowLength, .inl (cI, 8, .inl c_rowLength)), (a_rowOf, .inl (cL, 320, .inr (.inl c_rowOf))), (a_refusals, .inl (cI, 7, .inl c_refusals))]
abbrev rm_R_judge : Room := { frames := 3, cells := 0, slots := 0, locals := 79 }
set_option maxRecDepth 100000 in
set_option maxHeartbeats 4000000 in
theorem s_R_judge_j17 (C : kC p l e rm_R_judge s m args below meth c D (tyG cI cL cZ) A 4 cX5_judge yX5_judge.cls (Cond.code yX5_judge cX5_judge 4 (some .int) :: WS) (some .int)) {a_this : Nat} {a_gravel : Nat} {a_kind : Nat} {a_own : Nat} {a_likely : Nat} {a_tape : Nat} {a_holding : Nat} {a_rowLength : Nat} {a_rowOf : Nat} {a_refusals : Nat} {a_old : Nat} {a_ahead : Nat} {a_cost : Nat} {a_may : Nat} {a_rest : Nat} {a_way : Nat} {c_n : Int32} {c_rain : Int32} {c_ear : Int32} {c_many : Int32} {c_seed : Int32} {c_taped : Int32} {c_from : Int32} {c_to : Int32} {c_token : Int32} {c_value : Int32} {c_imaged : Int32} {c_holding : (Nat → Int32)} {c_rowLength : (Nat → Int32)} {c_rowOf : (Nat → Int64)} {c_refusals : (Nat → Int32)} {x : (Int32 × (Nat → Int32))} (h : f_R_judge_j17 c_refusals = some x) :
    kW p l e rm_R_judge s m args below meth c D A 4 (cells_R_judge cI cL cZ a_this a_gravel a_kind a_own a_likely a_tape a_holding a_rowLength a_rowOf a_refusals a_old a_ahead a_cost a_may a_rest a_way c_n c_rain c_ear c_many c_seed c_taped c_from c_to c_token c_value c_imaged c_holding c_rowLength c_rowOf c_refusals) [(0, .ref a_this)] (MQ below (kQi D A (cells_R_judge cI cL cZ a_this a_gravel a_kind a_own a_likely a_tape a_holding a_rowLength a_rowOf a_refusals a_old a_ahead a_cost a_may a_rest a_way c_n c_rain c_ear c_many c_seed c_taped c_from c_to c_token c_value c_imaged c_holding c_rowLength c_rowOf x.2) x.1) args s 0 0 A) 17 [] := by
  unfold f_R_judge_j17 at h
  refine k_aload_n C dX5_judge_17 0 rfl rfl ?_
  refine k_bipush C (v := (-2 : Int32)) dX5_judge_18 (by decide) ?_
  obtain ⟨x2, hx2, h⟩ := bindE h
  refine kcallU_i C (wc := (cells_R_no cI cL cZ a_this a_gravel a_kind a_own a_likely a_tape a_holding a_rowLength a_rowOf a_refusals a_old a_ahead a_cost a_may a_rest a_way c_n c_rain c_ear c_many c_seed c_taped c_from c_to c_token c_value c_imaged c_refusals)) (w1 := (cells_R_no cI cL cZ a_this a_gravel a_kind a_own a_likely a_tape a_holding a_rowLength a_rowOf a_refusals a_old a_ahead a_cost a_may a_rest a_way c_n c_rain c_ear c_many c_seed c_taped c_from c_to c_token c_value c_imaged x2.2)) (ws' := (cells_R_judge cI cL cZ a_this a_gravel a_kind a_own a_likely a_tape a_holding a_rowLength a_rowOf a_refusals a_old a_ahead a_cost a_may a_rest a_way c_n c_rain c_ear c_many c_seed c_taped c_from c_to c_token c_value c_imaged c_holding c_rowLength c_rowOf x2.2)) (r := x2.1) [0, 4] (fun H locs ls hP hD hS hF hz => krunV C (q0 := 0) (ci := 5) (c_R_no l D cI cL cZ H.size a_this a_gravel a_kind a_own a_likely a_tape a_holding a_rowLength a_rowOf a_refusals a_old a_ahead a_cost a_may a_rest a_way (-2 : Int32) c_n c_rain c_ear c_many c_seed c_taped c_from c_to c_token c_value c_imaged c_refusals x2 hx2) (cwV 1 C.2.2.2.2.1 (gV wq_558 wq_559 wq_560 wq_551 wq_557) rfl rfl rfl (by decide +kernel) ⟨(Nat.le_of_ble_eq_true rfl), (Nat.le_of_ble_eq_true rfl)⟩) rfl rfl kEnv_T rfl rfl (Nat.le_of_ble_eq_true rfl) dX5_judge_20 hP hD hz) rfl (by decide) rfl rfl ?_
  obtain rfl := Option.some.inj h
  exact kret_i C rfl dX5_judge_23
set_option maxRecDepth 100000 in
set_option maxHeartbeats 4000000 in
theorem s_R_judge (C : kC p l e rm_R_judge s m args below meth c D (tyG cI cL cZ) A 4 cX5_judge yX5_judge.cls (Cond.code yX5_judge cX5_judge 4 (some .int) :: WS) (some .int)) {a_this : Nat} {a_gravel : Nat} {a_kind : Nat} {a_own : Nat} {a_likely : Nat} {a_tape : Nat} {a_holding : Nat} {a_rowLength : Nat} {a_rowOf : Nat} {a_refusals : Nat} {a_old : Nat} {a_ahead : Nat} {a_cost : Nat} {a_may : Nat} {a_rest : Nat} {a_way : Nat} {v1 : Int32} {v2 : Int32} {c_n : Int32} {c_rain : Int32} {c_ear : Int32} {c_many : Int32} {c_seed : Int32} {c_taped : Int32} {c_from : Int32} {c_to : Int32} {c_token : Int32} {c_value : Int32} {c_imaged : Int32} {c_holding : (Nat → Int32)} {c_rowLength : (Nat → Int32)} {c_rowOf : (Nat → Int64)} {c_refusals : (Nat → Int32)} {x : (Int32 × (Nat → Int32))} (h : f_R_judge v1 v2 c_n c_holding c_rowLength c_rowOf c_refusals = some x) :
    kW p l e rm_R_judge s m args below meth c D A 4 (cells_R_judge cI cL cZ a_this a_gravel a_kind a_own a_likely a_tape a_holding a_rowLength a_rowOf a_refusals a_old a_ahead a_cost a_may a_rest a_way c_n c_rain c_ear c_many c_seed c_taped c_from c_to c_token c_value c_imaged c_holding c_rowLength c_rowOf c_refusals) [(0, .ref a_this), (1, .int v1), (2, .int v2)] (MQ below (kQi D A (cells_R_judge cI cL cZ a_this a_gravel a_kind a_own a_likely a_tape a_holding a_rowLength a_rowOf a_refusals a_old a_ahead a_cost a_may a_rest a_way c_n c_rain c_ear c_many c_seed c_taped c_from c_to c_token c_value c_imaged c_holding c_rowLength c_rowOf x.2) x.1) args s 0 0 A) 0 [] := by
  unfold f_R_judge at h
  refine k_iload_n C dX5_judge_0 1 rfl rfl ?_
  obtain ⟨x1, hx1, h⟩ := bindE h
  refine kcallE_i C (r := x1) (fun H locs ls hP hD hS hF hz => krunS C (c_R_isShelf l D cI cL cZ H.size v1 x1 hx1) (va_cwS 1 C.2.2.2.2.1 (gS wq_555 wq_556 wq_551 wq_554) rfl rfl rfl (by decide +kernel) ⟨(Nat.le_of_ble_eq_true rfl), (Nat.le_of_ble_eq_true rfl)⟩) kEnv_T rfl rfl (Nat.le_of_ble_eq_true rfl) dX5_judge_1 hP hD hz) ?_
  refine k_if_eq C (tgt := 17) dX5_judge_4 (by decide) (fun c_4 => ?_) (fun c_4 => ?_)
  · have h := ifT c_4 h
    refine k_lv (lv' := [(0, .ref a_this)]) [0] rfl ?_
    exact s_R_judge_j17 C h
  · have h := ifF c_4 h
    refine k_iload_n C dX5_judge_7 2 rfl rfl ?_
    refine k_iconst C (v := (0 : Int32)) dX5_judge_8 (by decide) ?_
    refine k_bipush C (v := (40 : Int32)) dX5_judge_9 (by decide) ?_
    obtain ⟨x3, hx3, h⟩ := bindE h
    refine kcallE_i C (r := x3) (fun H locs ls hP hD hS hF hz => krunS C (c_R_within l D cI cL cZ H.size v2 (0 : Int32) (40 : Int32) x3 hx3) (va_cwS 3 C.2.2.2.2.1 (gS wq_549 wq_550 wq_551 wq_548) rfl rfl rfl (by decide +kernel) ⟨(Nat.le_of_ble_eq_true rfl), (Nat.le_of_ble_eq_true rfl)⟩) kEnv_T rfl rfl (Nat.le_of_ble_eq_true rfl) dX5_judge_11 hP hD hz) ?_
    refine k_if_ne C (tgt := 24) dX5_judge_14 (by decide) (fun c_14 => ?_) (fun c_14 => ?_)
    · have h := ifF c_14 h
      refine k_aload_n C dX5_judge_24 0 rfl rfl ?_
      refine k_iload_n C dX5_judge_25 1 rfl rfl ?_
      refine k_iload_n C dX5_judge_26 2 rfl rfl ?_
      obtain ⟨x4, hx4, h⟩ := bindE h
      refine kcallR_i C (wc := (cells_R_noWay cI cL cZ a_this a_gravel a_kind a_own a_likely a_tape a_holding a_rowLength a_rowOf a_refusals a_old a_ahead a_cost a_may a_rest a_way c_n c_rain c_ear c_many c_seed c_taped c_from c_to c_token c_value c_imaged c_holding c_rowLength)) (r := x4) [0, 1, 2] (fun H locs ls hP hD hS hF hz => krunV C (q0 := 0) (ci := 5) (c_R_noWay l D cI cL cZ H.size a_this a_gravel a_kind a_own a_likely a_tape a_holding a_rowLength a_rowOf a_refusals a_old a_ahead a_cost a_may a_rest a_way v1 v2 c_n c_rain c_ear c_many c_seed c_taped c_from c_to c_token c_value c_imaged c_holding c_rowLength x4 hx4) (cwV 2 C.2.2.2.2.1 (gV wq_776 wq_777 wq_778 wq_551 wq_775) rfl rfl rfl (by decide +kernel) ⟨(Nat.le_of_ble_eq_true rfl), (Nat.le_of_ble_eq_true rfl)⟩) rfl rfl kEnv_T rfl rfl (Nat.le_of_ble_eq_true rfl) dX5_judge_27 hP hD hz) rfl (by decide) ?_
      refine k_istore_n C (lv' := [(3, .int x4), (0, .ref a_this), (1, .int v1), (2, .int v2)]) dX5_judge_30 rfl (by decide) rfl ?_
      refine k_iload_n C dX5_judge_31 0 rfl rfl ?_
      refine k_if_ge C (tgt := 43) dX5_judge_32 (by decide) (fun c_32 => ?_) (fun c_32 => ?_)
      · have h := ifT c_32 h
        refine k_aload_n C dX5_judge_43 1 rfl rfl ?_
        refine k_iload_n C dX5_judge_44 2 rfl rfl ?_
        refine k_iload_n C dX5_judge_45 3 rfl rfl ?_
        obtain ⟨x5, hx5, h⟩ := bindE h
        refine kcallR_i C (wc := (cells_R_wrong cI cL cZ a_this a_gravel a_kind a_own a_likely a_tape a_holding a_rowLength a_rowOf a_refusals a_old a_ahead a_cost a_may a_rest a_way c_n c_rain c_ear c_many c_seed c_taped c_from c_to c_token c_value c_imaged c_rowOf)) (r := x5) [0, 3] (fun H locs ls hP hD hS hF hz => krunV C (q0 := 0) (ci := 5) (c_R_wrong l D cI cL cZ H.size a_this a_gravel a_kind a_own a_likely a_tape a_holding a_rowLength a_rowOf a_refusals a_old a_ahead a_cost a_may a_rest a_way v1 v2 c_n c_rain c_ear c_many c_seed c_taped c_from c_to c_token c_value c_imaged c_rowOf x5 hx5) (cwV 2 C.2.2.2.2.1 (gV wq_780 wq_781 wq_782 wq_551 wq_779) rfl rfl rfl (by decide +kernel) ⟨(Nat.le_of_ble_eq_true rfl), (Nat.le_of_ble_eq_true rfl)⟩) rfl rfl kEnv_T rfl rfl (Nat.le_of_ble_eq_true rfl) dX5_judge_46 hP hD hz) rfl (by decide) ?_
        obtain rfl := Option.some.inj h
        exact kret_i C rfl dX5_judge_49
      · have h := ifF c_32 h
        refine k_aload_n C dX5_judge_35 1 rfl rfl ?_
        refine k_iload_n C dX5_judge_36 0 rfl rfl ?_
        obtain ⟨x6, hx6, h⟩ := bindE h
        refine kcallU_i C (wc := (cells_R_no cI cL cZ a_this a_gravel a_kind a_own a_likely a_tape a_holding a_rowLength a_rowOf a_refusals a_old a_ahead a_cost a_may a_rest a_way c_n c_rain c_ear c_many c_seed c_taped c_from c_to c_token c_value c_imaged c_refusals)) (w1 := (cells_R_no cI cL cZ a_this a_gravel a_kind a_own a_likely a_tape a_holding a_rowLength a_rowOf a_refusals a_old a_ahead a_cost a_may a_rest a_way c_n c_rain c_ear c_many c_seed c_taped c_from c_to c_token c_value c_imaged x6.2)) (ws' := (cells_R_judge cI cL cZ a_this a_gravel a_kind a_own a_likely a_tape a_holding a_rowLength a_rowOf a_refusals a_old a_ahead a_cost a_may a_rest a_way c_n c_rain c_ear c_many c_seed c_taped c_from c_to c_token c_value c_imaged c_holding c_rowLength c_rowOf x6.2)) (r := x6.1) [0, 4] (fun H locs ls hP hD hS hF hz => krunV C (q0 := 0) (ci := 5) (c_R_no l D cI cL cZ H.size a_this a_gravel a_kind a_own a_likely a_tape a_holding a_rowLength a_rowOf a_refusals a_old a_ahead a_cost a_may a_rest a_way x4 c_n c_rain c_ear c_many c_seed c_taped c_from c_to c_token c_value c_imaged c_refusals x6 hx6) (cwV 1 C.2.2.2.2.1 (gV wq_558 wq_559 wq_560 wq_551 wq_557) rfl rfl rfl (by decide +kernel) ⟨(Nat.le_of_ble_eq_true rfl), (Nat.le_of_ble_eq_true rfl)⟩) rfl rfl kEnv_T rfl rfl (Nat.le_of_ble_eq_true rfl) dX5_judge_37 hP hD hz) rfl (by decide) rfl rfl ?_
        refine k_goto C (tgt := 49) dX5_judge_40 (by decide) ?_
        obtain rfl := Option.some.inj h
        exact kret_i C rfl dX5_judge_49
    · have h := ifT c_14 h
      refine k_lv (lv' := [(0, .ref a_this)]) [0] rfl ?_
      exact s_R_judge_j17 C h
theorem c_R_judge (l : Launch) (D : va_G) (cI : ClassId) (cL : ClassId) (cZ : ClassId) (sz : Nat) (a_this : Nat) (a_gravel : Nat) (a_kind : Nat) (a_own : Nat) (a_likely : Nat) (a_tape : Nat) (a_holding : Nat) (a_rowLength : Nat) (a_rowOf : Nat) (a_refusals : Nat) (a_old : Nat) (a_ahead : Nat) (a_cost : Nat) (a_may : Nat) (a_rest : Nat) (a_way : Nat) (v1 : Int32) (v2 : Int32) (c_n : Int32) (c_rain : Int32) (c_ear : Int32) (c_many : Int32) (c_seed : Int32) (c_taped : Int32) (c_from : Int32) (c_to : Int32) (c_token : Int32) (c_value : Int32) (c_imaged : Int32) (c_holding : (Nat → Int32)) (c_rowLength : (Nat → Int32)) (c_rowOf : (Nat → Int64)) (c_refusals : (Nat → Int32)) (x : (Int32 × (Nat → Int32))) (h : f_R_judge v1 v2 c_n c_holding c_rowLength c_rowOf c_refusals = some x) :
    Met l yX5_judge (Cond.code yX5_judge cX5_judge 4 (some .int) :: WS) rm_R_judge (kP D (tyG cI cL cZ) kTrue [.ref a_this, .int v1, .int v2] sz (cells_R_judge cI cL cZ a_this a_gravel a_kind a_own a_likely a_tape a_holding a_rowLength a_rowOf a_refusals a_old a_ahead a_cost a_may a_rest a_way c_n c_rain c_ear c_many c_seed c_taped c_from c_to c_token c_value c_imaged c_holding c_rowLength c_rowOf c_refusals)) (kQi D (va_A (cells_R_judge cI cL cZ a_this a_gravel a_kind a_own a_likely a_tape a_holding a_rowLength a_rowOf a_refusals a_old a_ahead a_cost a_may a_rest a_way c_n c_rain c_ear c_many c_seed c_taped c_from c_to c_token c_value c_imaged c_holding c_rowLength c_rowOf c_refusals) sz) (cells_R_judge cI cL cZ a_this a_gravel a_kind a_own a_likely a_tape a_holding a_rowLength a_rowOf a_refusals a_old a_ahead a_cost a_may a_rest a_way c_n c_rain c_ear c_many c_seed c_taped c_from c_to c_token c_value c_imaged c_holding c_rowLength c_rowOf x.2) x.1) 0 0 (va_A (cells_R_judge cI cL cZ a_this a_gravel a_kind a_own a_likely a_tape a_holding a_rowLength a_rowOf a_refusals a_old a_ahead a_cost a_may a_rest a_way c_n c_rain c_ear c_many c_seed c_taped c_from c_to c_token c_value c_imaged c_holding c_rowLength c_rowOf c_refusals) sz) :=
  kmet (by decide) (Nat.le_of_ble_eq_true rfl) rfl (fun p e s m below meth c C hE => s_R_judge C h)
abbrev cells_R_loudOf (cI : ClassId) (cL : ClassId) (cZ : ClassId) (a_this : Nat) (a_gravel : Nat) (a_kind : Nat) (a_own : Nat) (a_likely : Nat) (a_tape : Nat) (a_holding : Nat) (a_rowLength : Nat) (a_rowOf : Nat) (a_refusals : Nat) (a_old : Nat) (a_ahead : Nat) (a_cost : Nat) (a_may : Nat) (a_rest : Nat) (a_way : Nat) (c_n : Int32) (c_rain : Int32) (c_ear : Int32) (c_many : Int32) (c_seed : Int32) (c_taped : Int32) (c_from : Int32) (c_to : Int32) (c_token : Int32) (c_value : Int32) (c_imaged : Int32) (c_gravel : (Nat → Int32)) (c_kind : (Nat → Int32)) (c_own : (Nat → Int32)) (c_rowOf : (Nat → Int64)) : va_W := [(a_this, .inr (5, [.int c_n, .ref a_gravel, .int c_rain, .int c_ear, .int c_many, .ref a_kind, .ref a_own, .ref a_likely, .int c_seed, .int c_taped, .ref a_tape, .int c_from, .int c_to, .int c_token, .int c_value, .ref a_holding, .ref a_rowLength, .ref a_rowOf, .ref a_refusals, .int c_imaged, .ref a_old, .ref a_ahead, .ref a_cost, .ref a_may, .ref a_rest, .ref a_way])), (a_gravel, .inl (cI, 36, .inl c_gravel)), (a_kind, .inl (cI, 8, .inl c_kind)), (a_own, .inl (cI, 8, .inl c_own)), (a_rowOf, .inl (cL, 320, .inr (.inl c_rowOf)))]
abbrev rm_R_loudOf : Room := { frames := 4, cells := 0, slots := 0, locals := 100 }
set_option maxRecDepth 100000 in
set_option maxHeartbeats 4000000 in
theorem s_R_loudOf_b14 (C : kC p l e rm_R_loudOf s m args below meth c D (tyG cI cL cZ) A 8 cX5_loudOf yX5_loudOf.cls (Cond.code yX5_loudOf cX5_loudOf 8 (some .int) :: WS) (some .int)) {a_this : Nat} {a_gravel : Nat} {a_kind : Nat} {a_own : Nat} {a_likely : Nat} {a_tape : Nat} {a_holding : Nat} {a_rowLength : Nat} {a_rowOf : Nat} {a_refusals : Nat} {a_old : Nat} {a_ahead : Nat} {a_cost : Nat} {a_may : Nat} {a_rest : Nat} {a_way : Nat} {v1 : Int32} {v2 : Int32} {v3 : Int32} {v4 : Int32} {v5 : Int32} {v6 : Int32} {c_n : Int32} {c_rain : Int32} {c_ear : Int32} {c_many : Int32} {c_seed : Int32} {c_taped : Int32} {c_from : Int32} {c_to : Int32} {c_token : Int32} {c_value : Int32} {c_imaged : Int32} {c_gravel : (Nat → Int32)} {c_kind : (Nat → Int32)} {c_own : (Nat → Int32)} {c_rowOf : (Nat → Int64)} {x : ((Int32 × Int32 × Int32) ⊕ (Int32 × Int32))} (h : f_R_loudOf_b14 v1 v2 c_n c_rain c_ear c_gravel c_kind c_own c_rowOf v4 v5 v6 = some x)
    (kc : ∀ s', x = .inl s' → kW p l e rm_R_loudOf s m args below meth c D A 8 (cells_R_loudOf cI cL cZ a_this a_gravel a_kind a_own a_likely a_tape a_holding a_rowLength a_rowOf a_refusals a_old a_ahead a_cost a_may a_rest a_way c_n c_rain c_ear c_many c_seed c_taped c_from c_to c_token c_value c_imaged c_gravel c_kind c_own c_rowOf) [(0, .ref a_this), (1, .int v1), (2, .int v2), (3, .int v3), (4, .int s'.1), (5, .int s'.2.1), (6, .int s'.2.2)] Q 14 [])
    (k0 : ∀ r, x = .inr r → kW p l e rm_R_loudOf s m args below meth c D A 8 (cells_R_loudOf cI cL cZ a_this a_gravel a_kind a_own a_likely a_tape a_holding a_rowLength a_rowOf a_refusals a_old a_ahead a_cost a_may a_rest a_way c_n c_rain c_ear c_many c_seed c_taped c_from c_to c_token c_value c_imaged c_gravel c_kind c_own c_rowOf) [(3, .int v3), (4, .int r.1), (5, .int r.2)] Q 60 []) :
    kW p l e rm_R_loudOf s m args below meth c D A 8 (cells_R_loudOf cI cL cZ a_this a_gravel a_kind a_own a_likely a_tape a_holding a_rowLength a_rowOf a_refusals a_old a_ahead a_cost a_may a_rest a_way c_n c_rain c_ear c_many c_seed c_taped c_from c_to c_token c_value c_imaged c_gravel c_kind c_own c_rowOf) [(0, .ref a_this), (1, .int v1), (2, .int v2), (3, .int v3), (4, .int v4), (5, .int v5), (6, .int v6)] Q 14 [] := by
  unfold f_R_loudOf_b14 at h
  refine k_iload C dX5_loudOf_14 6 rfl ?_
  refine k_if_lt C (tgt := 60) dX5_loudOf_16 (by decide) (fun c_16 => ?_) (fun c_16 => ?_)
  · have h := ifT c_16 h
    refine k_lv (lv' := [(3, .int v3), (4, .int v4), (5, .int v5)]) [3, 4, 5] rfl ?_
    exact k0 _ (Option.some.inj h).symm
  · have h := ifF c_16 h
    refine k_aload_n C dX5_loudOf_19 0 rfl rfl ?_
    refine k_iload_n C dX5_loudOf_20 2 rfl rfl ?_
    refine k_aload_n C dX5_loudOf_21 0 rfl rfl ?_
    refine k_iload_n C dX5_loudOf_22 1 rfl rfl ?_
    refine k_iload C dX5_loudOf_23 6 rfl ?_
    obtain ⟨x1, hx1, h⟩ := bindE h
    refine kcallR_l C (wc := (cells_R_toldAt cI cL cZ a_this a_gravel a_kind a_own a_likely a_tape a_holding a_rowLength a_rowOf a_refusals a_old a_ahead a_cost a_may a_rest a_way c_n c_rain c_ear c_many c_seed c_taped c_from c_to c_token c_value c_imaged c_rowOf)) (r := x1) [0, 4] (fun H locs ls hP hD hS hF hz => krunV C (q0 := 0) (ci := 5) (c_R_toldAt l D cI cL cZ H.size a_this a_gravel a_kind a_own a_likely a_tape a_holding a_rowLength a_rowOf a_refusals a_old a_ahead a_cost a_may a_rest a_way v1 v6 c_n c_rain c_ear c_many c_seed c_taped c_from c_to c_token c_value c_imaged c_rowOf x1 hx1) (cwV 2 C.2.2.2.2.1 (gV wq_744 wq_745 wq_746 wq_551 wq_743) rfl rfl rfl (by decide +kernel) ⟨(Nat.le_of_ble_eq_true rfl), (Nat.le_of_ble_eq_true rfl)⟩) rfl rfl kEnv_T rfl rfl (Nat.le_of_ble_eq_true rfl) dX5_loudOf_25 hP hD hz) rfl (by decide) ?_
    refine k_l2i C dX5_loudOf_28 ?_
    obtain ⟨x2, hx2, h⟩ := bindE h
    refine kcallR_i C (wc := (cells_R_stepOn cI cL cZ a_this a_gravel a_kind a_own a_likely a_tape a_holding a_rowLength a_rowOf a_refusals a_old a_ahead a_cost a_may a_rest a_way c_n c_rain c_ear c_many c_seed c_taped c_from c_to c_token c_value c_imaged c_gravel c_kind c_own)) (r := x2) [0, 1, 2, 3] (fun H locs ls hP hD hS hF hz => krunV C (q0 := 0) (ci := 5) (c_R_stepOn l D cI cL cZ H.size a_this a_gravel a_kind a_own a_likely a_tape a_holding a_rowLength a_rowOf a_refusals a_old a_ahead a_cost a_may a_rest a_way v2 (Int64.toInt32 x1) c_n c_rain c_ear c_many c_seed c_taped c_from c_to c_token c_value c_imaged c_gravel c_kind c_own x2 hx2) (cwV 2 C.2.2.2.2.1 (gV wq_654 wq_655 wq_656 wq_551 wq_653) rfl rfl rfl (by decide +kernel) ⟨(Nat.le_of_ble_eq_true rfl), (Nat.le_of_ble_eq_true rfl)⟩) rfl rfl kEnv_T rfl rfl (Nat.le_of_ble_eq_true rfl) dX5_loudOf_29 hP hD hz) rfl (by decide) ?_
    refine k_istore C (lv' := [(7, .int x2), (0, .ref a_this), (1, .int v1), (2, .int v2), (3, .int v3), (4, .int v4), (5, .int v5), (6, .int v6)]) dX5_loudOf_32 (by decide) rfl ?_
    refine k_iload C dX5_loudOf_34 5 rfl ?_
    refine k_iload C dX5_loudOf_36 0 rfl ?_
    refine k_iadd C dX5_loudOf_38 ?_
    refine k_istore C (lv' := [(4, .int (v4 + x2)), (7, .int x2), (0, .ref a_this), (1, .int v1), (2, .int v2), (3, .int v3), (5, .int v5), (6, .int v6)]) dX5_loudOf_39 (by decide) rfl ?_
    refine k_iload C dX5_loudOf_41 1 rfl ?_
    refine k_aload_n C dX5_loudOf_43 2 rfl rfl ?_
    refine k_get C (C0 := RX5) (T := TX5) (N := 26) (fun w h => List.mem_cons_of_mem _ (us_R w h)) 0 rfl rfl 3 (by decide) (List.mem_cons_of_mem _ wq_603) rfl rfl dX5_loudOf_44 ?_
    refine k_icmp_lt C (tgt := 54) dX5_loudOf_47 (by decide) (fun c_47 => ?_) (fun c_47 => ?_)
    · have h := ifT c_47 h
      refine k_iinc C (v := (v6 + (-1 : Int32))) (lv' := [(6, .int (v6 + (-1 : Int32))), (4, .int (v4 + x2)), (7, .int x2), (0, .ref a_this), (1, .int v1), (2, .int v2), (3, .int v3), (5, .int v5)]) dX5_loudOf_54 7 rfl rfl (by decide) rfl ?_
      refine k_goto C (tgt := 14) dX5_loudOf_57 (by decide) ?_
      refine k_lv (lv' := [(0, .ref a_this), (1, .int v1), (2, .int v2), (3, .int v3), (4, .int (v4 + x2)), (5, .int v5), (6, .int (v6 + (-1 : Int32)))]) [3, 4, 5, 6, 1, 7, 0] rfl ?_
      exact kc _ (Option.some.inj h).symm
    · have h := ifF c_47 h
      refine k_iload C dX5_loudOf_50 7 rfl ?_
      refine k_istore C (lv' := [(5, .int v6), (4, .int (v4 + x2)), (7, .int x2), (0, .ref a_this), (1, .int v1), (2, .int v2), (3, .int v3), (6, .int v6)]) dX5_loudOf_52 (by decide) rfl ?_
      refine k_iinc C (v := (v6 + (-1 : Int32))) (lv' := [(6, .int (v6 + (-1 : Int32))), (5, .int v6), (4, .int (v4 + x2)), (7, .int x2), (0, .ref a_this), (1, .int v1), (2, .int v2), (3, .int v3)]) dX5_loudOf_54 7 rfl rfl (by decide) rfl ?_
      refine k_goto C (tgt := 14) dX5_loudOf_57 (by decide) ?_
      refine k_lv (lv' := [(0, .ref a_this), (1, .int v1), (2, .int v2), (3, .int v3), (4, .int (v4 + x2)), (5, .int v6), (6, .int (v6 + (-1 : Int32)))]) [4, 5, 6, 7, 2, 1, 0] rfl ?_
      exact kc _ (Option.some.inj h).symm
set_option maxRecDepth 100000 in
set_option maxHeartbeats 4000000 in
theorem s_R_loudOf_l14 (C : kC p l e rm_R_loudOf s m args below meth c D (tyG cI cL cZ) A 8 cX5_loudOf yX5_loudOf.cls (Cond.code yX5_loudOf cX5_loudOf 8 (some .int) :: WS) (some .int)) {a_this : Nat} {a_gravel : Nat} {a_kind : Nat} {a_own : Nat} {a_likely : Nat} {a_tape : Nat} {a_holding : Nat} {a_rowLength : Nat} {a_rowOf : Nat} {a_refusals : Nat} {a_old : Nat} {a_ahead : Nat} {a_cost : Nat} {a_may : Nat} {a_rest : Nat} {a_way : Nat} {v1 : Int32} {v2 : Int32} {v3 : Int32} {v4 : Int32} {v5 : Int32} {v6 : Int32} {c_n : Int32} {c_rain : Int32} {c_ear : Int32} {c_many : Int32} {c_seed : Int32} {c_taped : Int32} {c_from : Int32} {c_to : Int32} {c_token : Int32} {c_value : Int32} {c_imaged : Int32} {c_gravel : (Nat → Int32)} {c_kind : (Nat → Int32)} {c_own : (Nat → Int32)} {c_rowOf : (Nat → Int64)} {x : (Int32 × Int32)} (h : f_R_loudOf_l14 v1 v2 c_n c_rain c_ear c_gravel c_kind c_own c_rowOf v4 v5 v6 = some x)
    (k0 : kW p l e rm_R_loudOf s m args below meth c D A 8 (cells_R_loudOf cI cL cZ a_this a_gravel a_kind a_own a_likely a_tape a_holding a_rowLength a_rowOf a_refusals a_old a_ahead a_cost a_may a_rest a_way c_n c_rain c_ear c_many c_seed c_taped c_from c_to c_token c_value c_imaged c_gravel c_kind c_own c_rowOf) [(3, .int v3), (4, .int x.1), (5, .int x.2)] Q 60 []) :
    kW p l e rm_R_loudOf s m args below meth c D A 8 (cells_R_loudOf cI cL cZ a_this a_gravel a_kind a_own a_likely a_tape a_holding a_rowLength a_rowOf a_refusals a_old a_ahead a_cost a_may a_rest a_way c_n c_rain c_ear c_many c_seed c_taped c_from c_to c_token c_value c_imaged c_gravel c_kind c_own c_rowOf) [(0, .ref a_this), (1, .int v1), (2, .int v2), (3, .int v3), (4, .int v4), (5, .int v5), (6, .int v6)] Q 14 [] := by
  unfold f_R_loudOf_l14 at h
  exact iter_W (body := fun s => f_R_loudOf_b14 v1 v2 c_n c_rain c_ear c_gravel c_kind c_own c_rowOf s.1 s.2.1 s.2.2) (r := x) (T := fun sg => kW p l e rm_R_loudOf s m args below meth c D A 8 (cells_R_loudOf cI cL cZ a_this a_gravel a_kind a_own a_likely a_tape a_holding a_rowLength a_rowOf a_refusals a_old a_ahead a_cost a_may a_rest a_way c_n c_rain c_ear c_many c_seed c_taped c_from c_to c_token c_value c_imaged c_gravel c_kind c_own c_rowOf) [(0, .ref a_this), (1, .int v1), (2, .int v2), (3, .int v3), (4, .int sg.1), (5, .int sg.2.1), (6, .int sg.2.2)] Q 14 []) (fun sg y hy hc _ hr => s_R_loudOf_b14 C (v1 := v1) (v2 := v2) (v3 := v3) (v4 := sg.1) (v5 := sg.2.1) (v6 := sg.2.2) (c_n := c_n) (c_rain := c_rain) (c_ear := c_ear) (c_many := c_many) (c_seed := c_seed) (c_taped := c_taped) (c_from := c_from) (c_to := c_to) (c_token := c_token) (c_value := c_value) (c_imaged := c_imaged) (c_gravel := c_gravel) (c_kind := c_kind) (c_own := c_own) (c_rowOf := c_rowOf) (x := y) hy hc (fun r e => by rw [hr r e]; exact k0)) FUEL (v4, v5, v6) h
set_option maxRecDepth 100000 in
set_option maxHeartbeats 4000000 in
theorem s_R_loudOf (C : kC p l e rm_R_loudOf s m args below meth c D (tyG cI cL cZ) A 8 cX5_loudOf yX5_loudOf.cls (Cond.code yX5_loudOf cX5_loudOf 8 (some .int) :: WS) (some .int)) {a_this : Nat} {a_gravel : Nat} {a_kind : Nat} {a_own : Nat} {a_likely : Nat} {a_tape : Nat} {a_holding : Nat} {a_rowLength : Nat} {a_rowOf : Nat} {a_refusals : Nat} {a_old : Nat} {a_ahead : Nat} {a_cost : Nat} {a_may : Nat} {a_rest : Nat} {a_way : Nat} {v1 : Int32} {v2 : Int32} {v3 : Int32} {c_n : Int32} {c_rain : Int32} {c_ear : Int32} {c_many : Int32} {c_seed : Int32} {c_taped : Int32} {c_from : Int32} {c_to : Int32} {c_token : Int32} {c_value : Int32} {c_imaged : Int32} {c_gravel : (Nat → Int32)} {c_kind : (Nat → Int32)} {c_own : (Nat → Int32)} {c_rowOf : (Nat → Int64)} {x : Int32} (h : f_R_loudOf v1 v2 v3 c_n c_rain c_ear c_gravel c_kind c_own c_rowOf = some x) :
    kW p l e rm_R_loudOf s m args below meth c D A 8 (cells_R_loudOf cI cL cZ a_this a_gravel a_kind a_own a_likely a_tape a_holding a_rowLength a_rowOf a_refusals a_old a_ahead a_cost a_may a_rest a_way c_n c_rain c_ear c_many c_seed c_taped c_from c_to c_token c_value c_imaged c_gravel c_kind c_own c_rowOf) [(0, .ref a_this), (1, .int v1), (2, .int v2), (3, .int v3)] (MQ below (kQi D A (cells_R_loudOf cI cL cZ a_this a_gravel a_kind a_own a_likely a_tape a_holding a_rowLength a_rowOf a_refusals a_old a_ahead a_cost a_may a_rest a_way c_n c_rain c_ear c_many c_seed c_taped c_from c_to c_token c_value c_imaged c_gravel c_kind c_own c_rowOf) x) args s 0 0 A) 0 [] := by
  unfold f_R_loudOf at h
  refine k_iconst C (v := (0 : Int32)) dX5_loudOf_0 (by decide) ?_
  refine k_istore C (lv' := [(4, .int (0 : Int32)), (0, .ref a_this), (1, .int v1), (2, .int v2), (3, .int v3)]) dX5_loudOf_1 (by decide) rfl ?_
  refine k_iconst C (v := (-1 : Int32)) dX5_loudOf_3 (by decide) ?_
  refine k_istore C (lv' := [(5, .int (-1 : Int32)), (4, .int (0 : Int32)), (0, .ref a_this), (1, .int v1), (2, .int v2), (3, .int v3)]) dX5_loudOf_4 (by decide) rfl ?_
  refine k_aload_n C dX5_loudOf_6 2 rfl rfl ?_
  refine k_get C (C0 := RX5) (T := TX5) (N := 26) (fun w h => List.mem_cons_of_mem _ (us_R w h)) 0 rfl rfl 0 (by decide) (List.mem_cons_of_mem _ wq_552) rfl rfl dX5_loudOf_7 ?_
  refine k_iconst C (v := (1 : Int32)) dX5_loudOf_10 (by decide) ?_
  refine k_isub C dX5_loudOf_11 ?_
  refine k_istore C (lv' := [(6, .int (c_n - (1 : Int32))), (5, .int (-1 : Int32)), (4, .int (0 : Int32)), (0, .ref a_this), (1, .int v1), (2, .int v2), (3, .int v3)]) dX5_loudOf_12 (by decide) rfl ?_
  obtain ⟨x3, hx3, h⟩ := bindE h
  refine k_lv (lv' := [(0, .ref a_this), (1, .int v1), (2, .int v2), (3, .int v3), (4, .int (0 : Int32)), (5, .int (-1 : Int32)), (6, .int (c_n - (1 : Int32)))]) [3, 4, 5, 6, 2, 1, 0] rfl ?_
  refine s_R_loudOf_l14 C hx3 ?_
  refine k_iload_n C dX5_loudOf_60 0 rfl rfl ?_
  refine k_if_ne C (tgt := 69) dX5_loudOf_61 (by decide) (fun c_61 => ?_) (fun c_61 => ?_)
  · have h := ifF c_61 h
    refine k_iload C dX5_loudOf_69 2 rfl ?_
    obtain rfl := Option.some.inj h
    exact kret_i C rfl dX5_loudOf_71
  · have h := ifT c_61 h
    refine k_iload C dX5_loudOf_64 1 rfl ?_
    refine k_goto C (tgt := 71) dX5_loudOf_66 (by decide) ?_
    obtain rfl := Option.some.inj h
    exact kret_i C rfl dX5_loudOf_71
theorem c_R_loudOf (l : Launch) (D : va_G) (cI : ClassId) (cL : ClassId) (cZ : ClassId) (sz : Nat) (a_this : Nat) (a_gravel : Nat) (a_kind : Nat) (a_own : Nat) (a_likely : Nat) (a_tape : Nat) (a_holding : Nat) (a_rowLength : Nat) (a_rowOf : Nat) (a_refusals : Nat) (a_old : Nat) (a_ahead : Nat) (a_cost : Nat) (a_may : Nat) (a_rest : Nat) (a_way : Nat) (v1 : Int32) (v2 : Int32) (v3 : Int32) (c_n : Int32) (c_rain : Int32) (c_ear : Int32) (c_many : Int32) (c_seed : Int32) (c_taped : Int32) (c_from : Int32) (c_to : Int32) (c_token : Int32) (c_value : Int32) (c_imaged : Int32) (c_gravel : (Nat → Int32)) (c_kind : (Nat → Int32)) (c_own : (Nat → Int32)) (c_rowOf : (Nat → Int64)) (x : Int32) (h : f_R_loudOf v1 v2 v3 c_n c_rain c_ear c_gravel c_kind c_own c_rowOf = some x) :
    Met l yX5_loudOf (Cond.code yX5_loudOf cX5_loudOf 8 (some .int) :: WS) rm_R_loudOf (kP D (tyG cI cL cZ) kTrue [.ref a_this, .int v1, .int v2, .int v3] sz (cells_R_loudOf cI cL cZ a_this a_gravel a_kind a_own a_likely a_tape a_holding a_rowLength a_rowOf a_refusals a_old a_ahead a_cost a_may a_rest a_way c_n c_rain c_ear c_many c_seed c_taped c_from c_to c_token c_value c_imaged c_gravel c_kind c_own c_rowOf)) (kQi D (va_A (cells_R_loudOf cI cL cZ a_this a_gravel a_kind a_own a_likely a_tape a_holding a_rowLength a_rowOf a_refusals a_old a_ahead a_cost a_may a_rest a_way c_n c_rain c_ear c_many c_seed c_taped c_from c_to c_token c_value c_imaged c_gravel c_kind c_own c_rowOf) sz) (cells_R_loudOf cI cL cZ a_this a_gravel a_kind a_own a_likely a_tape a_holding a_rowLength a_rowOf a_refusals a_old a_ahead a_cost a_may a_rest a_way c_n c_rain c_ear c_many c_seed c_taped c_from c_to c_token c_value c_imaged c_gravel c_kind c_own c_rowOf) x) 0 0 (va_A (cells_R_loudOf cI cL cZ a_this a_gravel a_kind a_own a_likely a_tape a_holding a_rowLength a_rowOf a_refusals a_old a_ahead a_cost a_may a_rest a_way c_n c_rain c_ear c_many c_seed c_taped c_from c_to c_token c_value c_imaged c_gravel c_kind c_own c_rowOf) sz) :=
  kmet (by decide) (Nat.le_of_ble_eq_true rfl) rfl (fun p e s m below meth c C hE => s_R_loudOf C h)
abbrev cells_R_loud (cI : ClassId) (cL : ClassId) (cZ : ClassId) (a_this : Nat) (a_gravel : Nat) (a_kind : Nat) (a_own : Nat) (a_likely : Nat) (a_tape : Nat) (a_holding : Nat) (a_rowLength : Nat) (a_rowOf : Nat) (a_refusals : Nat) (a_old : Nat) (a_ahead : Nat) (a_cost : Nat) (a_may : Nat) (a_rest : Nat) (a_way : Nat) (c_n : Int32) (c_rain : Int32) (c_ear : Int32) (c_many : Int32) (c_seed : Int32) (c_taped : Int32) (c_from : Int32) (c_to : Int32) (c_token : Int32) (c_value : Int32) (c_imaged : Int32) (c_gravel : (Nat → Int32)) (c_kind : (Nat → Int32)) (c_own : (Nat → Int32)) (c_holding : (Nat → Int32)) (c_rowLength : (Nat → Int32)) (c_rowOf : (Nat → Int64)) (c_refusals : (Nat → Int32)) : va_W := [(a_this, .inr (5, [.int c_n, .ref a_gravel, .int c_rain, .int c_ear, .int c_many, .ref a_kind, .ref a_own, .ref a_likely, .int c_seed, .int c_taped, .ref a_tape, .int c_from, .int c_to, .int c_token, .int c_value, .ref a_holding, .ref a_rowLength, .ref a_rowOf, .ref a_refusals, .int c_imaged, .ref a_old, .ref a_ahead, .ref a_cost, .ref a_may, .ref a_rest, .ref a_way])), (a_gravel, .inl (cI, 36, .inl c_gravel)), (a_kind, .inl (cI, 8, .inl c_kind)), (a_own, .inl (cI, 8, .inl c_own)), (a_holding, .inl (cI, 8, .inl c_holding)), (a_rowLength, .inl (cI, 8, .inl c_rowLength)), (a_rowOf, .inl (cL, 320, .inr (.inl c_rowOf))), (a_refusals, .inl (cI, 7, .inl c_refusals))]
abbrev rm_R_loud : Room := { frames := 5, cells := 0, slots := 0, locals := 127 }
set_option maxRecDepth 100000 in
set_option maxHeartbeats 4000000 in
theorem s_R_loud_j35 (C : kC p l e rm_R_loud s m args below meth c D (tyG cI cL cZ) A 6 cX5_loud yX5_loud.cls (Cond.code yX5_loud cX5_loud 6 (some .int) :: WS) (some .int)) {a_this : Nat} {a_gravel : Nat} {a_kind : Nat} {a_own : Nat} {a_likely : Nat} {a_tape : Nat} {a_holding : Nat} {a_rowLength : Nat} {a_rowOf : Nat} {a_refusals : Nat} {a_old : Nat} {a_ahead : Nat} {a_cost : Nat} {a_may : Nat} {a_rest : Nat} {a_way : Nat} {c_n : Int32} {c_rain : Int32} {c_ear : Int32} {c_many : Int32} {c_seed : Int32} {c_taped : Int32} {c_from : Int32} {c_to : Int32} {c_token : Int32} {c_value : Int32} {c_imaged : Int32} {c_gravel : (Nat → Int32)} {c_kind : (Nat → Int32)} {c_own : (Nat → Int32)} {c_holding : (Nat → Int32)} {c_rowLength : (Nat → Int32)} {c_rowOf : (Nat → Int64)} {c_refusals : (Nat → Int32)} {x : (Int32 × (Nat → Int32))} (h : f_R_loud_j35 c_refusals = some x) :
    kW p l e rm_R_loud s m args below meth c D A 6 (cells_R_loud cI cL cZ a_this a_gravel a_kind a_own a_likely a_tape a_holding a_rowLength a_rowOf a_refusals a_old a_ahead a_cost a_may a_rest a_way c_n c_rain c_ear c_many c_seed c_taped c_from c_to c_token c_value c_imaged c_gravel c_kind c_own c_holding c_rowLength c_rowOf c_refusals) [(0, .ref a_this)] (MQ below (kQi D A (cells_R_loud cI cL cZ a_this a_gravel a_kind a_own a_likely a_tape a_holding a_rowLength a_rowOf a_refusals a_old a_ahead a_cost a_may a_rest a_way c_n c_rain c_ear c_many c_seed c_taped c_from c_to c_token c_value c_imaged c_gravel c_kind c_own c_holding c_rowLength c_rowOf x.2) x.1) args s 0 0 A) 35 [] := by
  unfold f_R_loud_j35 at h
  refine k_aload_n C dX5_loud_35 0 rfl rfl ?_
  refine k_bipush C (v := (-2 : Int32)) dX5_loud_36 (by decide) ?_
  obtain ⟨x2, hx2, h⟩ := bindE h
  refine kcallU_i C (wc := (cells_R_no cI cL cZ a_this a_gravel a_kind a_own a_likely a_tape a_holding a_rowLength a_rowOf a_refusals a_old a_ahead a_cost a_may a_rest a_way c_n c_rain c_ear c_many c_seed c_taped c_from c_to c_token c_value c_imaged c_refusals)) (w1 := (cells_R_no cI cL cZ a_this a_gravel a_kind a_own a_likely a_tape a_holding a_rowLength a_rowOf a_refusals a_old a_ahead a_cost a_may a_rest a_way c_n c_rain c_ear c_many c_seed c_taped c_from c_to c_token c_value c_imaged x2.2)) (ws' := (cells_R_loud cI cL cZ a_this a_gravel a_kind a_own a_likely a_tape a_holding a_rowLength a_rowOf a_refusals a_old a_ahead a_cost a_may a_rest a_way c_n c_rain c_ear c_many c_seed c_taped c_from c_to c_token c_value c_imaged c_gravel c_kind c_own c_holding c_rowLength c_rowOf x2.2)) (r := x2.1) [0, 7] (fun H locs ls hP hD hS hF hz => krunV C (q0 := 0) (ci := 5) (c_R_no l D cI cL cZ H.size a_this a_gravel a_kind a_own a_likely a_tape a_holding a_rowLength a_rowOf a_refusals a_old a_ahead a_cost a_may a_rest a_way (-2 : Int32) c_n c_rain c_ear c_many c_seed c_taped c_from c_to c_token c_value c_imaged c_refusals x2 hx2) (cwV 1 C.2.2.2.2.1 (gV wq_558 wq_559 wq_560 wq_551 wq_557) rfl rfl rfl (by decide +kernel) ⟨(Nat.le_of_ble_eq_true rfl), (Nat.le_of_ble_eq_true rfl)⟩) rfl rfl kEnv_T rfl rfl (Nat.le_of_ble_eq_true rfl) dX5_loud_38 hP hD hz) rfl (by decide) rfl rfl ?_
  obtain rfl := Option.some.inj h
  exact kret_i C rfl dX5_loud_41
set_option maxRecDepth 100000 in
set_option maxHeartbeats 4000000 in
theorem s_R_loud (C : kC p l e rm_R_loud s m args below meth c D (tyG cI cL cZ) A 6 cX5_loud yX5_loud.cls (Cond.code yX5_loud cX5_loud 6 (some .int) :: WS) (some .int)) {a_this : Nat} {a_gravel : Nat} {a_kind : Nat} {a_own : Nat} {a_likely : Nat} {a_tape : Nat} {a_holding : Nat} {a_rowLength : Nat} {a_rowOf : Nat} {a_refusals : Nat} {a_old : Nat} {a_ahead : Nat} {a_cost : Nat} {a_may : Nat} {a_rest : Nat} {a_way : Nat} {v1 : Int32} {v2 : Int32} {v3 : Int32} {v4 : Int32} {c_n : Int32} {c_rain : Int32} {c_ear : Int32} {c_many : Int32} {c_seed : Int32} {c_taped : Int32} {c_from : Int32} {c_to : Int32} {c_token : Int32} {c_value : Int32} {c_imaged : Int32} {c_gravel : (Nat → Int32)} {c_kind : (Nat → Int32)} {c_own : (Nat → Int32)} {c_holding : (Nat → Int32)} {c_rowLength : (Nat → Int32)} {c_rowOf : (Nat → Int64)} {c_refusals : (Nat → Int32)} {x : (Int32 × (Nat → Int32))} (h : f_R_loud v1 v2 v3 v4 c_n c_rain c_ear c_many c_gravel c_kind c_own c_holding c_rowLength c_rowOf c_refusals = some x) :
    kW p l e rm_R_loud s m args below meth c D A 6 (cells_R_loud cI cL cZ a_this a_gravel a_kind a_own a_likely a_tape a_holding a_rowLength a_rowOf a_refusals a_old a_ahead a_cost a_may a_rest a_way c_n c_rain c_ear c_many c_seed c_taped c_from c_to c_token c_value c_imaged c_gravel c_kind c_own c_holding c_rowLength c_rowOf c_refusals) [(0, .ref a_this), (1, .int v1), (2, .int v2), (3, .int v3), (4, .int v4)] (MQ below (kQi D A (cells_R_loud cI cL cZ a_this a_gravel a_kind a_own a_likely a_tape a_holding a_rowLength a_rowOf a_refusals a_old a_ahead a_cost a_may a_rest a_way c_n c_rain c_ear c_many c_seed c_taped c_from c_to c_token c_value c_imaged c_gravel c_kind c_own c_holding c_rowLength c_rowOf x.2) x.1) args s 0 0 A) 0 [] := by
  unfold f_R_loud at h
  refine k_iload_n C dX5_loud_0 1 rfl rfl ?_
  obtain ⟨x1, hx1, h⟩ := bindE h
  refine kcallE_i C (r := x1) (fun H locs ls hP hD hS hF hz => krunS C (c_R_isShelf l D cI cL cZ H.size v1 x1 hx1) (va_cwS 1 C.2.2.2.2.1 (gS wq_555 wq_556 wq_551 wq_554) rfl rfl rfl (by decide +kernel) ⟨(Nat.le_of_ble_eq_true rfl), (Nat.le_of_ble_eq_true rfl)⟩) kEnv_T rfl rfl (Nat.le_of_ble_eq_true rfl) dX5_loud_1 hP hD hz) ?_
  refine k_if_eq C (tgt := 35) dX5_loud_4 (by decide) (fun c_4 => ?_) (fun c_4 => ?_)
  · have h := ifT c_4 h
    refine k_lv (lv' := [(0, .ref a_this)]) [0] rfl ?_
    exact s_R_loud_j35 C h
  · have h := ifF c_4 h
    refine k_iload_n C dX5_loud_7 2 rfl rfl ?_
    refine k_iconst C (v := (0 : Int32)) dX5_loud_8 (by decide) ?_
    refine k_bipush C (v := (40 : Int32)) dX5_loud_9 (by decide) ?_
    obtain ⟨x3, hx3, h⟩ := bindE h
    refine kcallE_i C (r := x3) (fun H locs ls hP hD hS hF hz => krunS C (c_R_within l D cI cL cZ H.size v2 (0 : Int32) (40 : Int32) x3 hx3) (va_cwS 3 C.2.2.2.2.1 (gS wq_549 wq_550 wq_551 wq_548) rfl rfl rfl (by decide +kernel) ⟨(Nat.le_of_ble_eq_true rfl), (Nat.le_of_ble_eq_true rfl)⟩) kEnv_T rfl rfl (Nat.le_of_ble_eq_true rfl) dX5_loud_11 hP hD hz) ?_
    refine k_if_eq C (tgt := 35) dX5_loud_14 (by decide) (fun c_14 => ?_) (fun c_14 => ?_)
    · have h := ifT c_14 h
      refine k_lv (lv' := [(0, .ref a_this)]) [0] rfl ?_
      exact s_R_loud_j35 C h
    · have h := ifF c_14 h
      refine k_aload_n C dX5_loud_17 0 rfl rfl ?_
      refine k_iload_n C dX5_loud_18 3 rfl rfl ?_
      obtain ⟨x4, hx4, h⟩ := bindE h
      refine kcallR_i C (wc := (cells_R_isFeet cI cL cZ a_this a_gravel a_kind a_own a_likely a_tape a_holding a_rowLength a_rowOf a_refusals a_old a_ahead a_cost a_may a_rest a_way c_n c_rain c_ear c_many c_seed c_taped c_from c_to c_token c_value c_imaged)) (r := x4) [0] (fun H locs ls hP hD hS hF hz => krunV C (q0 := 0) (ci := 5) (c_R_isFeet l D cI cL cZ H.size a_this a_gravel a_kind a_own a_likely a_tape a_holding a_rowLength a_rowOf a_refusals a_old a_ahead a_cost a_may a_rest a_way v3 c_n c_rain c_ear c_many c_seed c_taped c_from c_to c_token c_value c_imaged x4 hx4) (cwV 1 C.2.2.2.2.1 (gV wq_575 wq_576 wq_577 wq_551 wq_574) rfl rfl rfl (by decide +kernel) ⟨(Nat.le_of_ble_eq_true rfl), (Nat.le_of_ble_eq_true rfl)⟩) rfl rfl kEnv_T rfl rfl (Nat.le_of_ble_eq_true rfl) dX5_loud_19 hP hD hz) rfl (by decide) ?_
      refine k_if_eq C (tgt := 35) dX5_loud_22 (by decide) (fun c_22 => ?_) (fun c_22 => ?_)
      · have h := ifT c_22 h
        refine k_lv (lv' := [(0, .ref a_this)]) [0] rfl ?_
        exact s_R_loud_j35 C h
      · have h := ifF c_22 h
        refine k_iload C dX5_loud_25 4 rfl ?_
        refine k_iconst C (v := (0 : Int32)) dX5_loud_27 (by decide) ?_
        refine k_iconst C (v := (1 : Int32)) dX5_loud_28 (by decide) ?_
        obtain ⟨x5, hx5, h⟩ := bindE h
        refine kcallE_i C (r := x5) (fun H locs ls hP hD hS hF hz => krunS C (c_R_within l D cI cL cZ H.size v4 (0 : Int32) (1 : Int32) x5 hx5) (va_cwS 3 C.2.2.2.2.1 (gS wq_549 wq_550 wq_551 wq_548) rfl rfl rfl (by decide +kernel) ⟨(Nat.le_of_ble_eq_true rfl), (Nat.le_of_ble_eq_true rfl)⟩) kEnv_T rfl rfl (Nat.le_of_ble_eq_true rfl) dX5_loud_29 hP hD hz) ?_
        refine k_if_ne C (tgt := 42) dX5_loud_32 (by decide) (fun c_32 => ?_) (fun c_32 => ?_)
        · have h := ifF c_32 h
          refine k_aload_n C dX5_loud_42 0 rfl rfl ?_
          refine k_iload_n C dX5_loud_43 1 rfl rfl ?_
          refine k_iload_n C dX5_loud_44 2 rfl rfl ?_
          obtain ⟨x6, hx6, h⟩ := bindE h
          refine kcallR_i C (wc := (cells_R_noWay cI cL cZ a_this a_gravel a_kind a_own a_likely a_tape a_holding a_rowLength a_rowOf a_refusals a_old a_ahead a_cost a_may a_rest a_way c_n c_rain c_ear c_many c_seed c_taped c_from c_to c_token c_value c_imaged c_holding c_rowLength)) (r := x6) [0, 4, 5] (fun H locs ls hP hD hS hF hz => krunV C (q0 := 0) (ci := 5) (c_R_noWay l D cI cL cZ H.size a_this a_gravel a_kind a_own a_likely a_tape a_holding a_rowLength a_rowOf a_refusals a_old a_ahead a_cost a_may a_rest a_way v1 v2 c_n c_rain c_ear c_many c_seed c_taped c_from c_to c_token c_value c_imaged c_holding c_rowLength x6 hx6) (cwV 2 C.2.2.2.2.1 (gV wq_776 wq_777 wq_778 wq_551 wq_775) rfl rfl rfl (by decide +kernel) ⟨(Nat.le_of_ble_eq_true rfl), (Nat.le_of_ble_eq_true rfl)⟩) rfl rfl kEnv_T rfl rfl (Nat.le_of_ble_eq_true rfl) dX5_loud_45 hP hD hz) rfl (by decide) ?_
          refine k_istore C (lv' := [(5, .int x6), (0, .ref a_this), (1, .int v1), (2, .int v2), (3, .int v3), (4, .int v4)]) dX5_loud_48 (by decide) rfl ?_
          refine k_iload C dX5_loud_50 0 rfl ?_
          refine k_if_ge C (tgt := 62) dX5_loud_52 (by decide) (fun c_52 => ?_) (fun c_52 => ?_)
          · have h := ifT c_52 h
            refine k_aload_n C dX5_loud_62 1 rfl rfl ?_
            refine k_iload_n C dX5_loud_63 2 rfl rfl ?_
            refine k_iload_n C dX5_loud_64 3 rfl rfl ?_
            obtain ⟨x7, hx7, h⟩ := bindE h
            refine kcallR_i C (wc := (cells_R_wrong cI cL cZ a_this a_gravel a_kind a_own a_likely a_tape a_holding a_rowLength a_rowOf a_refusals a_old a_ahead a_cost a_may a_rest a_way c_n c_rain c_ear c_many c_seed c_taped c_from c_to c_token c_value c_imaged c_rowOf)) (r := x7) [0, 6] (fun H locs ls hP hD hS hF hz => krunV C (q0 := 0) (ci := 5) (c_R_wrong l D cI cL cZ H.size a_this a_gravel a_kind a_own a_likely a_tape a_holding a_rowLength a_rowOf a_refusals a_old a_ahead a_cost a_may a_rest a_way v1 v2 c_n c_rain c_ear c_many c_seed c_taped c_from c_to c_token c_value c_imaged c_rowOf x7 hx7) (cwV 2 C.2.2.2.2.1 (gV wq_780 wq_781 wq_782 wq_551 wq_779) rfl rfl rfl (by decide +kernel) ⟨(Nat.le_of_ble_eq_true rfl), (Nat.le_of_ble_eq_true rfl)⟩) rfl rfl kEnv_T rfl rfl (Nat.le_of_ble_eq_true rfl) dX5_loud_65 hP hD hz) rfl (by decide) ?_
            refine k_iconst C (v := (-1 : Int32)) dX5_loud_68 (by decide) ?_
            refine k_icmp_ne C (tgt := 83) dX5_loud_69 (by decide) (fun c_69 => ?_) (fun c_69 => ?_)
            · have h := ifF c_69 h
              refine k_aload_n C dX5_loud_83 1 rfl rfl ?_
              refine k_bipush C (v := (-5 : Int32)) dX5_loud_84 (by decide) ?_
              obtain ⟨x8, hx8, h⟩ := bindE h
              refine kcallU_i C (wc := (cells_R_no cI cL cZ a_this a_gravel a_kind a_own a_likely a_tape a_holding a_rowLength a_rowOf a_refusals a_old a_ahead a_cost a_may a_rest a_way c_n c_rain c_ear c_many c_seed c_taped c_from c_to c_token c_value c_imaged c_refusals)) (w1 := (cells_R_no cI cL cZ a_this a_gravel a_kind a_own a_likely a_tape a_holding a_rowLength a_rowOf a_refusals a_old a_ahead a_cost a_may a_rest a_way c_n c_rain c_ear c_many c_seed c_taped c_from c_to c_token c_value c_imaged x8.2)) (ws' := (cells_R_loud cI cL cZ a_this a_gravel a_kind a_own a_likely a_tape a_holding a_rowLength a_rowOf a_refusals a_old a_ahead a_cost a_may a_rest a_way c_n c_rain c_ear c_many c_seed c_taped c_from c_to c_token c_value c_imaged c_gravel c_kind c_own c_holding c_rowLength c_rowOf x8.2)) (r := x8.1) [0, 7] (fun H locs ls hP hD hS hF hz => krunV C (q0 := 0) (ci := 5) (c_R_no l D cI cL cZ H.size a_this a_gravel a_kind a_own a_likely a_tape a_holding a_rowLength a_rowOf a_refusals a_old a_ahead a_cost a_may a_rest a_way (-5 : Int32) c_n c_rain c_ear c_many c_seed c_taped c_from c_to c_token c_value c_imaged c_refusals x8 hx8) (cwV 1 C.2.2.2.2.1 (gV wq_558 wq_559 wq_560 wq_551 wq_557) rfl rfl rfl (by decide +kernel) ⟨(Nat.le_of_ble_eq_true rfl), (Nat.le_of_ble_eq_true rfl)⟩) rfl rfl kEnv_T rfl rfl (Nat.le_of_ble_eq_true rfl) dX5_loud_86 hP hD hz) rfl (by decide) rfl rfl ?_
              obtain rfl := Option.some.inj h
              exact kret_i C rfl dX5_loud_89
            · have h := ifT c_69 h
              refine k_aload_n C dX5_loud_72 1 rfl rfl ?_
              refine k_iload_n C dX5_loud_73 2 rfl rfl ?_
              refine k_iload_n C dX5_loud_74 4 rfl rfl ?_
              refine k_iload C dX5_loud_75 5 rfl ?_
              obtain ⟨x9, hx9, h⟩ := bindE h
              refine kcallR_i C (wc := (cells_R_loudOf cI cL cZ a_this a_gravel a_kind a_own a_likely a_tape a_holding a_rowLength a_rowOf a_refusals a_old a_ahead a_cost a_may a_rest a_way c_n c_rain c_ear c_many c_seed c_taped c_from c_to c_token c_value c_imaged c_gravel c_kind c_own c_rowOf)) (r := x9) [0, 1, 2, 3, 6] (fun H locs ls hP hD hS hF hz => krunV C (q0 := 0) (ci := 5) (c_R_loudOf l D cI cL cZ H.size a_this a_gravel a_kind a_own a_likely a_tape a_holding a_rowLength a_rowOf a_refusals a_old a_ahead a_cost a_may a_rest a_way v1 v3 v4 c_n c_rain c_ear c_many c_seed c_taped c_from c_to c_token c_value c_imaged c_gravel c_kind c_own c_rowOf x9 hx9) (cwV 3 C.2.2.2.2.1 (gV wq_784 wq_785 wq_786 wq_551 wq_783) rfl rfl rfl (by decide +kernel) ⟨(Nat.le_of_ble_eq_true rfl), (Nat.le_of_ble_eq_true rfl)⟩) rfl rfl kEnv_T rfl rfl (Nat.le_of_ble_eq_true rfl) dX5_loud_77 hP hD hz) rfl (by decide) ?_
              refine k_goto C (tgt := 89) dX5_loud_80 (by decide) ?_
              obtain rfl := Option.some.inj h
              exact kret_i C rfl dX5_loud_89
          · have h := ifF c_52 h
            refine k_aload_n C dX5_loud_55 1 rfl rfl ?_
            refine k_iload C dX5_loud_56 0 rfl ?_
            obtain ⟨x10, hx10, h⟩ := bindE h
            refine kcallU_i C (wc := (cells_R_no cI cL cZ a_this a_gravel a_kind a_own a_likely a_tape a_holding a_rowLength a_rowOf a_refusals a_old a_ahead a_cost a_may a_rest a_way c_n c_rain c_ear c_many c_seed c_taped c_from c_to c_token c_value c_imaged c_refusals)) (w1 := (cells_R_no cI cL cZ a_this a_gravel a_kind a_own a_likely a_tape a_holding a_rowLength a_rowOf a_refusals a_old a_ahead a_cost a_may a_rest a_way c_n c_rain c_ear c_many c_seed c_taped c_from c_to c_token c_value c_imaged x10.2)) (ws' := (cells_R_loud cI cL cZ a_this a_gravel a_kind a_own a_likely a_tape a_holding a_rowLength a_rowOf a_refusals a_old a_ahead a_cost a_may a_rest a_way c_n c_rain c_ear c_many c_seed c_taped c_from c_to c_token c_value c_imaged c_gravel c_kind c_own c_holding c_rowLength c_rowOf x10.2)) (r := x10.1) [0, 7] (fun H locs ls hP hD hS hF hz => krunV C (q0 := 0) (ci := 5) (c_R_no l D cI cL cZ H.size a_this a_gravel a_kind a_own a_likely a_tape a_holding a_rowLength a_rowOf a_refusals a_old a_ahead a_cost a_may a_rest a_way x6 c_n c_rain c_ear c_many c_seed c_taped c_from c_to c_token c_value c_imaged c_refusals x10 hx10) (cwV 1 C.2.2.2.2.1 (gV wq_558 wq_559 wq_560 wq_551 wq_557) rfl rfl rfl (by decide +kernel) ⟨(Nat.le_of_ble_eq_true rfl), (Nat.le_of_ble_eq_true rfl)⟩) rfl rfl kEnv_T rfl rfl (Nat.le_of_ble_eq_true rfl) dX5_loud_58 hP hD hz) rfl (by decide) rfl rfl ?_
            obtain rfl := Option.some.inj h
            exact kret_i C rfl dX5_loud_61
        · have h := ifT c_32 h
          refine k_lv (lv' := [(0, .ref a_this)]) [0] rfl ?_
          exact s_R_loud_j35 C h
theorem c_R_loud (l : Launch) (D : va_G) (cI : ClassId) (cL : ClassId) (cZ : ClassId) (sz : Nat) (a_this : Nat) (a_gravel : Nat) (a_kind : Nat) (a_own : Nat) (a_likely : Nat) (a_tape : Nat) (a_holding : Nat) (a_rowLength : Nat) (a_rowOf : Nat) (a_refusals : Nat) (a_old : Nat) (a_ahead : Nat) (a_cost : Nat) (a_may : Nat) (a_rest : Nat) (a_way : Nat) (v1 : Int32) (v2 : Int32) (v3 : Int32) (v4 : Int32) (c_n : Int32) (c_rain : Int32) (c_ear : Int32) (c_many : Int32) (c_seed : Int32) (c_taped : Int32) (c_from : Int32) (c_to : Int32) (c_token : Int32) (c_value : Int32) (c_imaged : Int32) (c_gravel : (Nat → Int32)) (c_kind : (Nat → Int32)) (c_own : (Nat → Int32)) (c_holding : (Nat → Int32)) (c_rowLength : (Nat → Int32)) (c_rowOf : (Nat → Int64)) (c_refusals : (Nat → Int32)) (x : (Int32 × (Nat → Int32))) (h : f_R_loud v1 v2 v3 v4 c_n c_rain c_ear c_many c_gravel c_kind c_own c_holding c_rowLength c_rowOf c_refusals = some x) :
    Met l yX5_loud (Cond.code yX5_loud cX5_loud 6 (some .int) :: WS) rm_R_loud (kP D (tyG cI cL cZ) kTrue [.ref a_this, .int v1, .int v2, .int v3, .int v4] sz (cells_R_loud cI cL cZ a_this a_gravel a_kind a_own a_likely a_tape a_holding a_rowLength a_rowOf a_refusals a_old a_ahead a_cost a_may a_rest a_way c_n c_rain c_ear c_many c_seed c_taped c_from c_to c_token c_value c_imaged c_gravel c_kind c_own c_holding c_rowLength c_rowOf c_refusals)) (kQi D (va_A (cells_R_loud cI cL cZ a_this a_gravel a_kind a_own a_likely a_tape a_holding a_rowLength a_rowOf a_refusals a_old a_ahead a_cost a_may a_rest a_way c_n c_rain c_ear c_many c_seed c_taped c_from c_to c_token c_value c_imaged c_gravel c_kind c_own c_holding c_rowLength c_rowOf c_refusals) sz) (cells_R_loud cI cL cZ a_this a_gravel a_kind a_own a_likely a_tape a_holding a_rowLength a_rowOf a_refusals a_old a_ahead a_cost a_may a_rest a_way c_n c_rain c_ear c_many c_seed c_taped c_from c_to c_token c_value c_imaged c_gravel c_kind c_own c_holding c_rowLength c_rowOf x.2) x.1) 0 0 (va_A (cells_R_loud cI cL cZ a_this a_gravel a_kind a_own a_likely a_tape a_holding a_rowLength a_rowOf a_refusals a_old a_ahead a_cost a_may a_rest a_way c_n c_rain c_ear c_many c_seed c_taped c_from c_to c_token c_value c_imaged c_gravel c_kind c_own c_holding c_rowLength c_rowOf c_refusals) sz) :=
  kmet (by decide) (Nat.le_of_ble_eq_true rfl) rfl (fun p e s m below meth c C hE => s_R_loud C h)
